section
-- ===== PART A: goes FIRST, ahead of the names: the tables' words, and 'selects' of the private methods out of them =====
/-- a private method of a class that the tables say can be made, by its rows of tables_1 -/
def lw_okq (q : MethodName × Nat) : Prop := (q.1.cls ≠ "java/lang/invoke/MethodHandle" ∧ q.1.cls ≠ "java/lang/invoke/VarHandle") ∧ Cond.instantiable q.1.cls q.2 ∈ tables_1 ∧ Cond.privateMethod q.1 ∈ tables_1 ∧ Cond.instanceMethod q.1 ∈ tables_1
theorem lw_p0 : lw_okq (⟨"BarcodeWand$SavedStates", "stateAt", "(I)LBarcodeWand$State;"⟩, 3) := ⟨⟨by decide +kernel, by decide +kernel⟩, List.mem_of_getElem? (i := 112) (by decide +kernel), List.mem_of_getElem? (i := 236) (by decide +kernel), List.mem_of_getElem? (i := 237) (by decide +kernel)⟩
theorem lw_p1 : lw_okq (⟨"BarcodeWand", "readAndCount", "()I"⟩, 6) := ⟨⟨by decide +kernel, by decide +kernel⟩, List.mem_of_getElem? (i := 18) (by decide +kernel), List.mem_of_getElem? (i := 282) (by decide +kernel), List.mem_of_getElem? (i := 283) (by decide +kernel)⟩
theorem lw_p2 : lw_okq (⟨"BarcodeWand$Reader", "layOut", "(LBarcodeWand$Row;Z)V"⟩, 8) := ⟨⟨by decide +kernel, by decide +kernel⟩, List.mem_of_getElem? (i := 131) (by decide +kernel), List.mem_of_getElem? (i := 294) (by decide +kernel), List.mem_of_getElem? (i := 295) (by decide +kernel)⟩
theorem lw_p3 : lw_okq (⟨"BarcodeWand$Reader", "failAt", "(III)I"⟩, 8) := ⟨⟨by decide +kernel, by decide +kernel⟩, List.mem_of_getElem? (i := 131) (by decide +kernel), List.mem_of_getElem? (i := 305) (by decide +kernel), List.mem_of_getElem? (i := 306) (by decide +kernel)⟩
theorem lw_p4 : lw_okq (⟨"BarcodeWand$Reader", "isLeftGuardRight", "()Z"⟩, 8) := ⟨⟨by decide +kernel, by decide +kernel⟩, List.mem_of_getElem? (i := 131) (by decide +kernel), List.mem_of_getElem? (i := 309) (by decide +kernel), List.mem_of_getElem? (i := 310) (by decide +kernel)⟩
theorem lw_p5 : lw_okq (⟨"BarcodeWand$Reader", "amountOff", "(II)I"⟩, 8) := ⟨⟨by decide +kernel, by decide +kernel⟩, List.mem_of_getElem? (i := 131) (by decide +kernel), List.mem_of_getElem? (i := 321) (by decide +kernel), List.mem_of_getElem? (i := 322) (by decide +kernel)⟩
theorem lw_p6 : lw_okq (⟨"BarcodeWand$Reader", "isRightGuardRight", "()Z"⟩, 8) := ⟨⟨by decide +kernel, by decide +kernel⟩, List.mem_of_getElem? (i := 131) (by decide +kernel), List.mem_of_getElem? (i := 325) (by decide +kernel), List.mem_of_getElem? (i := 326) (by decide +kernel)⟩
theorem lw_p7 : lw_okq (⟨"BarcodeWand", "parseBuffer", "()I"⟩, 6) := ⟨⟨by decide +kernel, by decide +kernel⟩, List.mem_of_getElem? (i := 18) (by decide +kernel), List.mem_of_getElem? (i := 396) (by decide +kernel), List.mem_of_getElem? (i := 397) (by decide +kernel)⟩
theorem lw_p8 : lw_okq (⟨"BarcodeWand$CommandParser", "acceptKind", "(I)Z"⟩, 6) := ⟨⟨by decide +kernel, by decide +kernel⟩, List.mem_of_getElem? (i := 168) (by decide +kernel), List.mem_of_getElem? (i := 408) (by decide +kernel), List.mem_of_getElem? (i := 409) (by decide +kernel)⟩
theorem lw_p9 : lw_okq (⟨"BarcodeWand$CommandParser", "startNumber", "(I)V"⟩, 6) := ⟨⟨by decide +kernel, by decide +kernel⟩, List.mem_of_getElem? (i := 168) (by decide +kernel), List.mem_of_getElem? (i := 412) (by decide +kernel), List.mem_of_getElem? (i := 413) (by decide +kernel)⟩
theorem lw_p10 : lw_okq (⟨"BarcodeWand$CommandParser", "acceptDigit", "(I)Z"⟩, 6) := ⟨⟨by decide +kernel, by decide +kernel⟩, List.mem_of_getElem? (i := 168) (by decide +kernel), List.mem_of_getElem? (i := 416) (by decide +kernel), List.mem_of_getElem? (i := 417) (by decide +kernel)⟩
theorem lw_p11 : lw_okq (⟨"BarcodeWand$CommandParser", "isAllowed", "(II)Z"⟩, 6) := ⟨⟨by decide +kernel, by decide +kernel⟩, List.mem_of_getElem? (i := 168) (by decide +kernel), List.mem_of_getElem? (i := 420) (by decide +kernel), List.mem_of_getElem? (i := 421) (by decide +kernel)⟩
theorem lw_p12 : lw_okq (⟨"BarcodeWand$CommandParser", "leastNumber", "()I"⟩, 6) := ⟨⟨by decide +kernel, by decide +kernel⟩, List.mem_of_getElem? (i := 168) (by decide +kernel), List.mem_of_getElem? (i := 424) (by decide +kernel), List.mem_of_getElem? (i := 425) (by decide +kernel)⟩
theorem lw_p13 : lw_okq (⟨"BarcodeWand$CommandParser", "greatestNumber", "()I"⟩, 6) := ⟨⟨by decide +kernel, by decide +kernel⟩, List.mem_of_getElem? (i := 168) (by decide +kernel), List.mem_of_getElem? (i := 428) (by decide +kernel), List.mem_of_getElem? (i := 429) (by decide +kernel)⟩
theorem lw_p14 : lw_okq (⟨"BarcodeWand$CommandParser", "acceptMinus", "()Z"⟩, 6) := ⟨⟨by decide +kernel, by decide +kernel⟩, List.mem_of_getElem? (i := 168) (by decide +kernel), List.mem_of_getElem? (i := 432) (by decide +kernel), List.mem_of_getElem? (i := 433) (by decide +kernel)⟩
theorem lw_p15 : lw_okq (⟨"BarcodeWand$CommandParser", "acceptSeparator", "(I)Z"⟩, 6) := ⟨⟨by decide +kernel, by decide +kernel⟩, List.mem_of_getElem? (i := 168) (by decide +kernel), List.mem_of_getElem? (i := 436) (by decide +kernel), List.mem_of_getElem? (i := 437) (by decide +kernel)⟩
def lw_privs_1 : List (MethodName × Nat) := [(⟨"BarcodeWand$SavedStates", "stateAt", "(I)LBarcodeWand$State;"⟩, 3), (⟨"BarcodeWand", "readAndCount", "()I"⟩, 6), (⟨"BarcodeWand$Reader", "layOut", "(LBarcodeWand$Row;Z)V"⟩, 8), (⟨"BarcodeWand$Reader", "failAt", "(III)I"⟩, 8), (⟨"BarcodeWand$Reader", "isLeftGuardRight", "()Z"⟩, 8), (⟨"BarcodeWand$Reader", "amountOff", "(II)I"⟩, 8), (⟨"BarcodeWand$Reader", "isRightGuardRight", "()Z"⟩, 8), (⟨"BarcodeWand", "parseBuffer", "()I"⟩, 6), (⟨"BarcodeWand$CommandParser", "acceptKind", "(I)Z"⟩, 6), (⟨"BarcodeWand$CommandParser", "startNumber", "(I)V"⟩, 6), (⟨"BarcodeWand$CommandParser", "acceptDigit", "(I)Z"⟩, 6), (⟨"BarcodeWand$CommandParser", "isAllowed", "(II)Z"⟩, 6), (⟨"BarcodeWand$CommandParser", "leastNumber", "()I"⟩, 6), (⟨"BarcodeWand$CommandParser", "greatestNumber", "()I"⟩, 6), (⟨"BarcodeWand$CommandParser", "acceptMinus", "()Z"⟩, 6), (⟨"BarcodeWand$CommandParser", "acceptSeparator", "(I)Z"⟩, 6)]
theorem lw_r1 : ∀ q ∈ lw_privs_1, lw_okq q := List.forall_mem_cons.mpr ⟨lw_p0, List.forall_mem_cons.mpr ⟨lw_p1, List.forall_mem_cons.mpr ⟨lw_p2, List.forall_mem_cons.mpr ⟨lw_p3, List.forall_mem_cons.mpr ⟨lw_p4, List.forall_mem_cons.mpr ⟨lw_p5, List.forall_mem_cons.mpr ⟨lw_p6, List.forall_mem_cons.mpr ⟨lw_p7, List.forall_mem_cons.mpr ⟨lw_p8, List.forall_mem_cons.mpr ⟨lw_p9, List.forall_mem_cons.mpr ⟨lw_p10, List.forall_mem_cons.mpr ⟨lw_p11, List.forall_mem_cons.mpr ⟨lw_p12, List.forall_mem_cons.mpr ⟨lw_p13, List.forall_mem_cons.mpr ⟨lw_p14, List.forall_mem_cons.mpr ⟨lw_p15, fun _ h => absurd h List.not_mem_nil⟩⟩⟩⟩⟩⟩⟩⟩⟩⟩⟩⟩⟩⟩⟩⟩
theorem lw_p16 : lw_okq (⟨"BarcodeWand", "requireElement", "(I)V"⟩, 6) := ⟨⟨by decide +kernel, by decide +kernel⟩, List.mem_of_getElem? (i := 18) (by decide +kernel), List.mem_of_getElem? (i := 477) (by decide +kernel), List.mem_of_getElem? (i := 478) (by decide +kernel)⟩
theorem lw_p17 : lw_okq (⟨"java/lang/Throwable", "fillInStackTrace", "(I)Ljava/lang/Throwable;"⟩, 6) := ⟨⟨by decide +kernel, by decide +kernel⟩, List.mem_of_getElem? (i := 523) (by decide +kernel), List.mem_of_getElem? (i := 521) (by decide +kernel), List.mem_of_getElem? (i := 522) (by decide +kernel)⟩
theorem lw_p18 : lw_okq (⟨"BarcodeWand", "requireDrawing", "(II)V"⟩, 6) := ⟨⟨by decide +kernel, by decide +kernel⟩, List.mem_of_getElem? (i := 18) (by decide +kernel), List.mem_of_getElem? (i := 641) (by decide +kernel), List.mem_of_getElem? (i := 642) (by decide +kernel)⟩
theorem lw_p19 : lw_okq (⟨"BarcodeWand", "requireCode", "(I)V"⟩, 6) := ⟨⟨by decide +kernel, by decide +kernel⟩, List.mem_of_getElem? (i := 18) (by decide +kernel), List.mem_of_getElem? (i := 713) (by decide +kernel), List.mem_of_getElem? (i := 714) (by decide +kernel)⟩
theorem lw_p20 : lw_okq (⟨"BarcodeWand", "executeCommand", "()Z"⟩, 6) := ⟨⟨by decide +kernel, by decide +kernel⟩, List.mem_of_getElem? (i := 18) (by decide +kernel), List.mem_of_getElem? (i := 761) (by decide +kernel), List.mem_of_getElem? (i := 762) (by decide +kernel)⟩
theorem lw_p21 : lw_okq (⟨"BarcodeWandModel", "goes", "(ZZ)Z"⟩, 12) := ⟨⟨by decide +kernel, by decide +kernel⟩, List.mem_of_getElem? (i := 782) (by decide +kernel), List.mem_of_getElem? (i := 840) (by decide +kernel), List.mem_of_getElem? (i := 841) (by decide +kernel)⟩
theorem lw_p22 : lw_okq (⟨"BarcodeWandModel", "saves", "()V"⟩, 12) := ⟨⟨by decide +kernel, by decide +kernel⟩, List.mem_of_getElem? (i := 782) (by decide +kernel), List.mem_of_getElem? (i := 844) (by decide +kernel), List.mem_of_getElem? (i := 845) (by decide +kernel)⟩
theorem lw_p23 : lw_okq (⟨"BarcodeWandModel", "copies", "(II)V"⟩, 12) := ⟨⟨by decide +kernel, by decide +kernel⟩, List.mem_of_getElem? (i := 782) (by decide +kernel), List.mem_of_getElem? (i := 848) (by decide +kernel), List.mem_of_getElem? (i := 849) (by decide +kernel)⟩
theorem lw_p24 : lw_okq (⟨"BarcodeWandModel", "prints", "(II)I"⟩, 12) := ⟨⟨by decide +kernel, by decide +kernel⟩, List.mem_of_getElem? (i := 782) (by decide +kernel), List.mem_of_getElem? (i := 852) (by decide +kernel), List.mem_of_getElem? (i := 853) (by decide +kernel)⟩
theorem lw_p25 : lw_okq (⟨"BarcodeWandModel", "isElement", "(I)Z"⟩, 12) := ⟨⟨by decide +kernel, by decide +kernel⟩, List.mem_of_getElem? (i := 782) (by decide +kernel), List.mem_of_getElem? (i := 863) (by decide +kernel), List.mem_of_getElem? (i := 864) (by decide +kernel)⟩
theorem lw_p26 : lw_okq (⟨"BarcodeWandModel", "manyElements", "()I"⟩, 12) := ⟨⟨by decide +kernel, by decide +kernel⟩, List.mem_of_getElem? (i := 782) (by decide +kernel), List.mem_of_getElem? (i := 867) (by decide +kernel), List.mem_of_getElem? (i := 868) (by decide +kernel)⟩
theorem lw_p27 : lw_okq (⟨"BarcodeWandModel", "smudges", "(II)I"⟩, 12) := ⟨⟨by decide +kernel, by decide +kernel⟩, List.mem_of_getElem? (i := 782) (by decide +kernel), List.mem_of_getElem? (i := 871) (by decide +kernel), List.mem_of_getElem? (i := 872) (by decide +kernel)⟩
theorem lw_p28 : lw_okq (⟨"BarcodeWandModel", "elementWidth", "(I)I"⟩, 12) := ⟨⟨by decide +kernel, by decide +kernel⟩, List.mem_of_getElem? (i := 782) (by decide +kernel), List.mem_of_getElem? (i := 883) (by decide +kernel), List.mem_of_getElem? (i := 884) (by decide +kernel)⟩
theorem lw_p29 : lw_okq (⟨"BarcodeWandModel", "draws", "(IIZ)I"⟩, 12) := ⟨⟨by decide +kernel, by decide +kernel⟩, List.mem_of_getElem? (i := 782) (by decide +kernel), List.mem_of_getElem? (i := 904) (by decide +kernel), List.mem_of_getElem? (i := 905) (by decide +kernel)⟩
theorem lw_p30 : lw_okq (⟨"BarcodeWandModel", "looksAtLabel", "(IIZ)V"⟩, 12) := ⟨⟨by decide +kernel, by decide +kernel⟩, List.mem_of_getElem? (i := 782) (by decide +kernel), List.mem_of_getElem? (i := 908) (by decide +kernel), List.mem_of_getElem? (i := 909) (by decide +kernel)⟩
theorem lw_p31 : lw_okq (⟨"BarcodeWandModel", "readsAndCounts", "()I"⟩, 12) := ⟨⟨by decide +kernel, by decide +kernel⟩, List.mem_of_getElem? (i := 782) (by decide +kernel), List.mem_of_getElem? (i := 912) (by decide +kernel), List.mem_of_getElem? (i := 913) (by decide +kernel)⟩
def lw_privs_2 : List (MethodName × Nat) := [(⟨"BarcodeWand", "requireElement", "(I)V"⟩, 6), (⟨"java/lang/Throwable", "fillInStackTrace", "(I)Ljava/lang/Throwable;"⟩, 6), (⟨"BarcodeWand", "requireDrawing", "(II)V"⟩, 6), (⟨"BarcodeWand", "requireCode", "(I)V"⟩, 6), (⟨"BarcodeWand", "executeCommand", "()Z"⟩, 6), (⟨"BarcodeWandModel", "goes", "(ZZ)Z"⟩, 12), (⟨"BarcodeWandModel", "saves", "()V"⟩, 12), (⟨"BarcodeWandModel", "copies", "(II)V"⟩, 12), (⟨"BarcodeWandModel", "prints", "(II)I"⟩, 12), (⟨"BarcodeWandModel", "isElement", "(I)Z"⟩, 12), (⟨"BarcodeWandModel", "manyElements", "()I"⟩, 12), (⟨"BarcodeWandModel", "smudges", "(II)I"⟩, 12), (⟨"BarcodeWandModel", "elementWidth", "(I)I"⟩, 12), (⟨"BarcodeWandModel", "draws", "(IIZ)I"⟩, 12), (⟨"BarcodeWandModel", "looksAtLabel", "(IIZ)V"⟩, 12), (⟨"BarcodeWandModel", "readsAndCounts", "()I"⟩, 12)]
theorem lw_r2 : ∀ q ∈ lw_privs_2, lw_okq q := List.forall_mem_cons.mpr ⟨lw_p16, List.forall_mem_cons.mpr ⟨lw_p17, List.forall_mem_cons.mpr ⟨lw_p18, List.forall_mem_cons.mpr ⟨lw_p19, List.forall_mem_cons.mpr ⟨lw_p20, List.forall_mem_cons.mpr ⟨lw_p21, List.forall_mem_cons.mpr ⟨lw_p22, List.forall_mem_cons.mpr ⟨lw_p23, List.forall_mem_cons.mpr ⟨lw_p24, List.forall_mem_cons.mpr ⟨lw_p25, List.forall_mem_cons.mpr ⟨lw_p26, List.forall_mem_cons.mpr ⟨lw_p27, List.forall_mem_cons.mpr ⟨lw_p28, List.forall_mem_cons.mpr ⟨lw_p29, List.forall_mem_cons.mpr ⟨lw_p30, List.forall_mem_cons.mpr ⟨lw_p31, fun _ h => absurd h List.not_mem_nil⟩⟩⟩⟩⟩⟩⟩⟩⟩⟩⟩⟩⟩⟩⟩⟩
theorem lw_p32 : lw_okq (⟨"BarcodeWandModel", "looksAtMeasurement", "()V"⟩, 12) := ⟨⟨by decide +kernel, by decide +kernel⟩, List.mem_of_getElem? (i := 782) (by decide +kernel), List.mem_of_getElem? (i := 916) (by decide +kernel), List.mem_of_getElem? (i := 917) (by decide +kernel)⟩
theorem lw_p33 : lw_okq (⟨"BarcodeWandModel", "reads", "(I)I"⟩, 12) := ⟨⟨by decide +kernel, by decide +kernel⟩, List.mem_of_getElem? (i := 782) (by decide +kernel), List.mem_of_getElem? (i := 920) (by decide +kernel), List.mem_of_getElem? (i := 921) (by decide +kernel)⟩
theorem lw_p34 : lw_okq (⟨"BarcodeWandModel", "fails", "(ZI)I"⟩, 12) := ⟨⟨by decide +kernel, by decide +kernel⟩, List.mem_of_getElem? (i := 782) (by decide +kernel), List.mem_of_getElem? (i := 924) (by decide +kernel), List.mem_of_getElem? (i := 925) (by decide +kernel)⟩
theorem lw_p35 : lw_okq (⟨"BarcodeWandModel", "isLeftGuard", "(Z)Z"⟩, 12) := ⟨⟨by decide +kernel, by decide +kernel⟩, List.mem_of_getElem? (i := 782) (by decide +kernel), List.mem_of_getElem? (i := 928) (by decide +kernel), List.mem_of_getElem? (i := 929) (by decide +kernel)⟩
theorem lw_p36 : lw_okq (⟨"BarcodeWandModel", "time", "(IZ)I"⟩, 12) := ⟨⟨by decide +kernel, by decide +kernel⟩, List.mem_of_getElem? (i := 782) (by decide +kernel), List.mem_of_getElem? (i := 932) (by decide +kernel), List.mem_of_getElem? (i := 933) (by decide +kernel)⟩
theorem lw_p37 : lw_okq (⟨"BarcodeWandModel", "digitAt", "(IZI)I"⟩, 12) := ⟨⟨by decide +kernel, by decide +kernel⟩, List.mem_of_getElem? (i := 782) (by decide +kernel), List.mem_of_getElem? (i := 936) (by decide +kernel), List.mem_of_getElem? (i := 937) (by decide +kernel)⟩
theorem lw_p38 : lw_okq (⟨"BarcodeWandModel", "nearestDigit", "(IZ)I"⟩, 12) := ⟨⟨by decide +kernel, by decide +kernel⟩, List.mem_of_getElem? (i := 782) (by decide +kernel), List.mem_of_getElem? (i := 940) (by decide +kernel), List.mem_of_getElem? (i := 941) (by decide +kernel)⟩
theorem lw_p39 : lw_okq (⟨"BarcodeWandModel", "distance", "(IIZ)I"⟩, 12) := ⟨⟨by decide +kernel, by decide +kernel⟩, List.mem_of_getElem? (i := 782) (by decide +kernel), List.mem_of_getElem? (i := 944) (by decide +kernel), List.mem_of_getElem? (i := 945) (by decide +kernel)⟩
theorem lw_p40 : lw_okq (⟨"BarcodeWandModel", "sumOfFour", "(IZ)I"⟩, 12) := ⟨⟨by decide +kernel, by decide +kernel⟩, List.mem_of_getElem? (i := 782) (by decide +kernel), List.mem_of_getElem? (i := 948) (by decide +kernel), List.mem_of_getElem? (i := 949) (by decide +kernel)⟩
theorem lw_p41 : lw_okq (⟨"BarcodeWandModel", "isRightGuard", "(Z)Z"⟩, 12) := ⟨⟨by decide +kernel, by decide +kernel⟩, List.mem_of_getElem? (i := 782) (by decide +kernel), List.mem_of_getElem? (i := 955) (by decide +kernel), List.mem_of_getElem? (i := 956) (by decide +kernel)⟩
theorem lw_p42 : lw_okq (⟨"BarcodeWandModel", "notes", "()V"⟩, 12) := ⟨⟨by decide +kernel, by decide +kernel⟩, List.mem_of_getElem? (i := 782) (by decide +kernel), List.mem_of_getElem? (i := 959) (by decide +kernel), List.mem_of_getElem? (i := 960) (by decide +kernel)⟩
theorem lw_p43 : lw_okq (⟨"BarcodeWandModel", "number", "()I"⟩, 12) := ⟨⟨by decide +kernel, by decide +kernel⟩, List.mem_of_getElem? (i := 782) (by decide +kernel), List.mem_of_getElem? (i := 963) (by decide +kernel), List.mem_of_getElem? (i := 964) (by decide +kernel)⟩
theorem lw_p44 : lw_okq (⟨"BarcodeWandModel", "isCode", "(I)Z"⟩, 12) := ⟨⟨by decide +kernel, by decide +kernel⟩, List.mem_of_getElem? (i := 782) (by decide +kernel), List.mem_of_getElem? (i := 1015) (by decide +kernel), List.mem_of_getElem? (i := 1016) (by decide +kernel)⟩
theorem lw_p45 : lw_okq (⟨"BarcodeWandModel", "greatest", "(I)I"⟩, 12) := ⟨⟨by decide +kernel, by decide +kernel⟩, List.mem_of_getElem? (i := 782) (by decide +kernel), List.mem_of_getElem? (i := 1043) (by decide +kernel), List.mem_of_getElem? (i := 1044) (by decide +kernel)⟩
theorem lw_p46 : lw_okq (⟨"BarcodeWandModel", "error", "()I"⟩, 12) := ⟨⟨by decide +kernel, by decide +kernel⟩, List.mem_of_getElem? (i := 782) (by decide +kernel), List.mem_of_getElem? (i := 1063) (by decide +kernel), List.mem_of_getElem? (i := 1064) (by decide +kernel)⟩
theorem lw_p47 : lw_okq (⟨"BarcodeWandModel", "command", "()C"⟩, 12) := ⟨⟨by decide +kernel, by decide +kernel⟩, List.mem_of_getElem? (i := 782) (by decide +kernel), List.mem_of_getElem? (i := 1067) (by decide +kernel), List.mem_of_getElem? (i := 1068) (by decide +kernel)⟩
def lw_privs_3 : List (MethodName × Nat) := [(⟨"BarcodeWandModel", "looksAtMeasurement", "()V"⟩, 12), (⟨"BarcodeWandModel", "reads", "(I)I"⟩, 12), (⟨"BarcodeWandModel", "fails", "(ZI)I"⟩, 12), (⟨"BarcodeWandModel", "isLeftGuard", "(Z)Z"⟩, 12), (⟨"BarcodeWandModel", "time", "(IZ)I"⟩, 12), (⟨"BarcodeWandModel", "digitAt", "(IZI)I"⟩, 12), (⟨"BarcodeWandModel", "nearestDigit", "(IZ)I"⟩, 12), (⟨"BarcodeWandModel", "distance", "(IIZ)I"⟩, 12), (⟨"BarcodeWandModel", "sumOfFour", "(IZ)I"⟩, 12), (⟨"BarcodeWandModel", "isRightGuard", "(Z)Z"⟩, 12), (⟨"BarcodeWandModel", "notes", "()V"⟩, 12), (⟨"BarcodeWandModel", "number", "()I"⟩, 12), (⟨"BarcodeWandModel", "isCode", "(I)Z"⟩, 12), (⟨"BarcodeWandModel", "greatest", "(I)I"⟩, 12), (⟨"BarcodeWandModel", "error", "()I"⟩, 12), (⟨"BarcodeWandModel", "command", "()C"⟩, 12)]
theorem lw_r3 : ∀ q ∈ lw_privs_3, lw_okq q := List.forall_mem_cons.mpr ⟨lw_p32, List.forall_mem_cons.mpr ⟨lw_p33, List.forall_mem_cons.mpr ⟨lw_p34, List.forall_mem_cons.mpr ⟨lw_p35, List.forall_mem_cons.mpr ⟨lw_p36, List.forall_mem_cons.mpr ⟨lw_p37, List.forall_mem_cons.mpr ⟨lw_p38, List.forall_mem_cons.mpr ⟨lw_p39, List.forall_mem_cons.mpr ⟨lw_p40, List.forall_mem_cons.mpr ⟨lw_p41, List.forall_mem_cons.mpr ⟨lw_p42, List.forall_mem_cons.mpr ⟨lw_p43, List.forall_mem_cons.mpr ⟨lw_p44, List.forall_mem_cons.mpr ⟨lw_p45, List.forall_mem_cons.mpr ⟨lw_p46, List.forall_mem_cons.mpr ⟨lw_p47, fun _ h => absurd h List.not_mem_nil⟩⟩⟩⟩⟩⟩⟩⟩⟩⟩⟩⟩⟩⟩⟩⟩
theorem lw_p48 : lw_okq (⟨"BarcodeWandModel", "readsLabel", "()Z"⟩, 12) := ⟨⟨by decide +kernel, by decide +kernel⟩, List.mem_of_getElem? (i := 782) (by decide +kernel), List.mem_of_getElem? (i := 1071) (by decide +kernel), List.mem_of_getElem? (i := 1072) (by decide +kernel)⟩
theorem lw_p49 : lw_okq (⟨"BarcodeWandModel", "isHere", "(CC)Z"⟩, 12) := ⟨⟨by decide +kernel, by decide +kernel⟩, List.mem_of_getElem? (i := 782) (by decide +kernel), List.mem_of_getElem? (i := 1075) (by decide +kernel), List.mem_of_getElem? (i := 1076) (by decide +kernel)⟩
theorem lw_p50 : lw_okq (⟨"BarcodeWandModel", "readsSmudge", "()Z"⟩, 12) := ⟨⟨by decide +kernel, by decide +kernel⟩, List.mem_of_getElem? (i := 782) (by decide +kernel), List.mem_of_getElem? (i := 1079) (by decide +kernel), List.mem_of_getElem? (i := 1080) (by decide +kernel)⟩
theorem lw_p51 : lw_okq (⟨"BarcodeWandModel", "reads", "(II)I"⟩, 12) := ⟨⟨by decide +kernel, by decide +kernel⟩, List.mem_of_getElem? (i := 782) (by decide +kernel), List.mem_of_getElem? (i := 1083) (by decide +kernel), List.mem_of_getElem? (i := 1084) (by decide +kernel)⟩
theorem lw_p52 : lw_okq (⟨"BarcodeWandModel", "takes", "(C)Z"⟩, 12) := ⟨⟨by decide +kernel, by decide +kernel⟩, List.mem_of_getElem? (i := 782) (by decide +kernel), List.mem_of_getElem? (i := 1087) (by decide +kernel), List.mem_of_getElem? (i := 1088) (by decide +kernel)⟩
theorem lw_p53 : lw_okq (⟨"BarcodeWandModel", "readsPeriods", "()Z"⟩, 12) := ⟨⟨by decide +kernel, by decide +kernel⟩, List.mem_of_getElem? (i := 782) (by decide +kernel), List.mem_of_getElem? (i := 1091) (by decide +kernel), List.mem_of_getElem? (i := 1092) (by decide +kernel)⟩
theorem lw_p54 : lw_okq (⟨"BarcodeWandModel", "can", "(C)Z"⟩, 12) := ⟨⟨by decide +kernel, by decide +kernel⟩, List.mem_of_getElem? (i := 782) (by decide +kernel), List.mem_of_getElem? (i := 1099) (by decide +kernel), List.mem_of_getElem? (i := 1100) (by decide +kernel)⟩
theorem lw_p55 : lw_okq (⟨"BarcodeWandModel", "does", "(C)V"⟩, 12) := ⟨⟨by decide +kernel, by decide +kernel⟩, List.mem_of_getElem? (i := 782) (by decide +kernel), List.mem_of_getElem? (i := 1103) (by decide +kernel), List.mem_of_getElem? (i := 1104) (by decide +kernel)⟩
def lw_privs_4 : List (MethodName × Nat) := [(⟨"BarcodeWandModel", "readsLabel", "()Z"⟩, 12), (⟨"BarcodeWandModel", "isHere", "(CC)Z"⟩, 12), (⟨"BarcodeWandModel", "readsSmudge", "()Z"⟩, 12), (⟨"BarcodeWandModel", "reads", "(II)I"⟩, 12), (⟨"BarcodeWandModel", "takes", "(C)Z"⟩, 12), (⟨"BarcodeWandModel", "readsPeriods", "()Z"⟩, 12), (⟨"BarcodeWandModel", "can", "(C)Z"⟩, 12), (⟨"BarcodeWandModel", "does", "(C)V"⟩, 12)]
theorem lw_r4 : ∀ q ∈ lw_privs_4, lw_okq q := List.forall_mem_cons.mpr ⟨lw_p48, List.forall_mem_cons.mpr ⟨lw_p49, List.forall_mem_cons.mpr ⟨lw_p50, List.forall_mem_cons.mpr ⟨lw_p51, List.forall_mem_cons.mpr ⟨lw_p52, List.forall_mem_cons.mpr ⟨lw_p53, List.forall_mem_cons.mpr ⟨lw_p54, List.forall_mem_cons.mpr ⟨lw_p55, fun _ h => absurd h List.not_mem_nil⟩⟩⟩⟩⟩⟩⟩⟩
def lw_privs : List (MethodName × Nat) := lw_privs_1 ++ (lw_privs_2 ++ (lw_privs_3 ++ (lw_privs_4)))
def lw_tbl : List Cond := k2_sels lw_privs ++ tables_1
theorem lw_privs_ok : ∀ q ∈ lw_privs, lw_okq q := by
  show ∀ q ∈ lw_privs_1 ++ (lw_privs_2 ++ (lw_privs_3 ++ (lw_privs_4))), lw_okq q
  exact List.forall_mem_append.mpr ⟨lw_r1, List.forall_mem_append.mpr ⟨lw_r2, List.forall_mem_append.mpr ⟨lw_r3, lw_r4⟩⟩⟩
end
section
/-! ===== BEGIN words of one list among another's, by their places ===== -/
theorem goodIn_r {big : List Cond} (ws : List Cond) (ps : List Nat) (hp : ws = ps.filterMap (fun i => big[i]?)) (h : ws.all goodWord = true) : GoodIn big ws := by
  intro w hw
  have h1 := List.all_eq_true.mp h w hw
  rw [hp] at hw
  obtain ⟨i, -, hi⟩ := List.mem_filterMap.mp hw
  have hm : w ∈ big := by first | exact List.mem_of_getElem? hi | exact List.getElem?_mem hi
  exact ⟨hm, good_of_word h1⟩
theorem goodIn_app {big a b : List Cond} (ha : GoodIn big a) (hb : GoodIn big b) : GoodIn big (a ++ b) := fun w h => (List.mem_append.mp h).elim (ha w) (hb w)
theorem goodIn_ca {big a b : List Cond} {c : Cond} (ha : GoodIn big (c :: a)) (hb : GoodIn big b) : GoodIn big (c :: (a ++ b)) := fun w h => (List.mem_cons.mp h).elim (fun e => ha w (List.mem_cons.mpr (Or.inl e))) (fun h => (List.mem_append.mp h).elim (fun h => ha w (List.mem_cons.mpr (Or.inr h))) (hb w))
theorem goodIn_sub {big ws : List Cond} (hm : ∀ w ∈ ws, w ∈ big) (h : ws.all goodWord = true) : GoodIn big ws := fun w hw => ⟨hm w hw, good_of_word (List.all_eq_true.mp h w hw)⟩
/-! ===== END ===== -/

/-! ===== BEGIN exceptions that leave a method, and their catching by the caller (launches without stack traces) ===== -/
section VXA
/-! The laws vx_back, vx_callV, vx_callS, vx_callSW, vx_throw0, vx_throwS follow proofs of the library, with one case more: JvmDerived/Free/Laws.lean (Back.of_free), Shelf42/LK1.lean (callV, callS), Shelf/KitTraced.lean (throwNew0V, throwNewS). -/
/-- where a method has thrown q: the class by its name, the cell, what was written, the world -/
def vx_T (XC : String → State → State → Prop) (st : State) (q : Addr) (t : State) (mc ms : Nat) (free : Addr → Prop) : Prop :=
  ∃ (E : String) (ce : Cell) (L : List Loc), XC E st t ∧ t.heap[q]? = some ce ∧ ce.vm = .none ∧ st.vm.findClass E = some ce.cls ∧ st.WarmedH t.vm ∧ st.sameButNew ({ t with vm := st.vm } : State) L mc ms ∧ ∀ z ∈ L, free z.base
def vx_Q (Qc : Array Value → State → Outcome → State → Prop) (XC : String → State → State → Prop) (mc ms : Nat) (free : Addr → Prop) : Array Value → State → Outcome → State → Prop := fun a st o t =>
  (Qc a st o t ∧ ∃ L, FrameEnd st o t L mc ms ∧ ∀ q ∈ L, free q.base) ∨ ∃ q, o = .threw q ∧ vx_T XC st q t mc ms free
/-- a callee that returns or throws -/
def vx_Met (l : Launch) (y : MethodName) (ws : List Cond) (rm : Room) (Pc : Array Value → State → Prop) (Qc : Array Value → State → Outcome → State → Prop) (XC : String → State → State → Prop) (mc ms : Nat) (free : Addr → Prop) : Prop :=
  MetFree l y (headSpec ws rm) Pc (fun _ _ _ _ _ => True) (vx_Q Qc XC mc ms free)
def vx_Post (XC : String → State → State → Prop) (mc ms : Nat) (free : Addr → Prop) : Pt → Array Value → Addr → Pt → Prop := fun A a q B =>
  ∃ (g : JFrame) (mk : MethodId) (t : State) (L : List Loc) (E : String) (ce : Cell), B.U.heap = t.heap ∧ B.U.vm = t.vm ∧ XC E (A.U.calling g mk a) t ∧ t.heap[q]? = some ce ∧ ce.vm = .none ∧ A.U.vm.findClass E = some ce.cls ∧ B.locs = A.locs ++ L ∧ (∀ z ∈ L, free z.base) ∧ B.cells = A.cells + mc ∧ B.slots = A.slots + ms
def vx_Back (l : Launch) (R : Room) (p : Program) (e : Env) (below : List Frame) (s : State) (sargs : Array Value) (y : MethodName) (len W9 : Nat)
    (Pre : Pt → Array Value → Prop) (Post : Pt → Array Value → Option Value → Pt → Prop) (PostX : Pt → Array Value → Addr → Pt → Prop) : Prop :=
  ∀ (m : MethodId) (meth : Method) (c : Code) (A : Pt) (g : JFrame) (ig : Instr) (mk : MethodId) (a : Array Value),
    Stand p l e R s m sargs below meth c A.U A.locs A.cells A.slots → g.method = m → g.locals.size = c.maxLocals → decode c.code g.pc = .ok (ig, len) →
    2 * g.monitorRoom + (g.stack.map fun v => v.category).sum ≤ W9 → A.U.methodNamed? y = some mk → Pre A a →
    (∃ (v : Option Value) (B : Pt), Stand p l e R s m sargs below meth c B.U B.locs B.cells B.slots ∧ Post A a v B ∧
      Steps p.tables e below (doInvoke e (A.U.setTop g) [] mk a).1 (B.U.setTop { g with pc := g.pc + len, stack := v.toList ++ g.stack })) ∨
    (∃ (q : Addr) (B : Pt), Stand p l e R s m sargs below meth c B.U B.locs B.cells B.slots ∧ PostX A a q B ∧
      Steps p.tables e below (doInvoke e (A.U.setTop g) [] mk a).1 ((B.U.setTop g).pushFrame (.throwing q)))
section Payer
variable {l : Launch} {R : Room} {p : Program} {e : Env} {below : List Frame} {s : State} {sargs : Array Value} {y : MethodName} {len W9 : Nat}
theorem vx_back {ws : List Cond} {rm : Room} {Pc : Array Value → State → Prop} {Qc : Array Value → State → Outcome → State → Prop} {XC : String → State → State → Prop} {mc ms : Nat} {free : Addr → Prop} {bytes : ByteArray} {maxL : Nat} {ret : Option FieldType}
    (hM : vx_Met l y ws rm Pc Qc XC mc ms free) (hblind : FrameBlind Pc) (hrc : rm.cells = mc) (hrs : rm.slots = ms)
    (hframes : rm.frames + 1 ≤ R.frames) (hlocals : W9 + (maxL + 11) + rm.locals ≤ R.locals)
    (hws : ∀ w ∈ ws, ∀ a' U, s.WarmedH U.vm → w.before a' U = true) (hcode : Cond.code y bytes maxL ret ∈ ws) (hinit : ∀ a' U, s.WarmedH U.vm → (Cond.initialized y.cls).before a' U = true) :
    vx_Back l R p e below s sargs y len W9 (PreOf R mc ms Pc) (PostOf Qc mc ms free) (vx_Post XC mc ms free) := by
  intro m meth c A g ig mk a X hg hsize hdg hW hn hp
  have h1 : (headSpec ws rm).pre.before a A.U = true := atoms_intro fun w hw => hws w hw _ _ X.warmed
  have h2 : (Cond.code y bytes maxL ret).before a A.U = true := hws _ hcode _ _ X.warmed
  have h3 : (Cond.initialized y.cls).before a A.U = true := hinit _ _ X.warmed
  have h4 : A.cells + (headSpec ws rm).room.cells ≤ R.cells := by rw [show (headSpec ws rm).room.cells = mc from hrc]; exact hp.1
  have h5 : A.slots + (headSpec ws rm).room.slots ≤ R.slots := by rw [show (headSpec ws rm).room.slots = ms from hrs]; exact hp.2.1
  have hPc : Pc a (A.U.calling g mk a) := hblind _ _ _ _ hp.2.2
  obtain ⟨U, Ls, c0, s0⟩ := A
  dsimp only [Pt.U, Pt.locs, Pt.cells, Pt.slots] at h1 h2 h3 h4 h5 X hn hPc ⊢
  obtain ⟨methY, cY, hmY, hcY, -, hlY, -, -, -, -⟩ := Cond.code_spec hn h2
  obtain ⟨kY, hkY, -⟩ := className_of_methodNamed hn
  have hinitY : kY.init = .initialized := Cond.initialized_spec (findClass_of_methodNamed hn) hkY h3
  have h : At U g.method c below := by rw [hg]; exact X.here
  have hlocals9 : W9 + (maxL + 11) + (headSpec ws rm).room.locals ≤ R.locals := hlocals
  have happ : (headSpec ws rm).appliesLoose y e.platform (U.calling g mk a) = true :=
    Spec.appliesLoose_calling (g := g) h hdg hn hkY hinitY
      (X.room_calling (g := g) (R' := (headSpec ws rm).room) hsize hmY hcY hframes (by rw [hlY]; omega) h4 h5) h1
  obtain ⟨mid, hmid⟩ := h.above
  have hfr : (U.setTop g).frames = (.java g :: mid) ++ below := by rw [State.frames_setTop' g h.top, hmid]; rfl
  obtain ⟨o, s₂, hsteps, -, hend, hq⟩ := Steps.callFree hM p X.admits X.cas X.clock (acts := []) hfr happ hPc trivial
  have hq' : vx_Q Qc XC mc ms free a (U.calling g mk a) o s₂ := hq
  rw [State.frames_setTop' g h.top] at hend
  obtain ⟨g₀, hg0⟩ := Option.isSome_iff_exists.mp h.top
  obtain ⟨r, hr⟩ := State.topJava?_eq_some.mp hg0
  have hr' : (({ U with heap := s₂.heap, slotsUsed := s₂.slotsUsed } : State).setVm s₂.vm).frames = .java g₀ :: r := hr
  rcases hq' with ⟨hqc, L, hfe, hL⟩ | ⟨q, rfl, E, ce, L, hx, hce, hcv, hcl, hW₂, hsm, hL⟩
  · obtain ⟨⟨v, rfl⟩, hW₂, e2, q2, q3, q4, q5, q6⟩ := id hfe
    have e3 : s₂ = ({ (U.calling g mk a).setFrames s₂.frames with heap := s₂.heap, slotsUsed := s₂.slotsUsed } : State).setVm s₂.vm := by
      have : s₂ = ({ s₂ with vm := (U.calling g mk a).vm } : State).setVm s₂.vm := rfl
      rw [e2] at this
      exact this
    obtain ⟨c₂, i₂, len₂, hc₂, hd₂, hf₂⟩ := hend
    have hW' : U.WarmedH s₂.vm := hW₂
    have hcc : c₂ = c := by
      have h1 : s₂.code? g.method = U.code? g.method := by
        rw [State.code?_eq, State.code?_eq, hW'.alike.method?]
      exact Option.some.inj (hc₂.symm.trans (h1.trans h.code))
    subst hcc
    have hlen : len₂ = len := by rw [hdg] at hd₂; cases hd₂; rfl
    subst hlen
    have hs₂ : s₂ = (({ U with heap := s₂.heap, slotsUsed := s₂.slotsUsed } : State).setVm s₂.vm).setTop { g with pc := g.pc + len₂, stack := v.toList ++ g.stack } := by
      refine e3.trans ?_
      rw [hf₂, State.calling_eq h.top, State.setFrames_setFrames, State.setTop_of_frames _ hr', hr]
      rfl
    have hsame : U.sameButNew ({ U with heap := s₂.heap, slotsUsed := s₂.slotsUsed } : State) L mc ms := by
      refine ⟨?_, q2, q3, q4, q5, q6⟩
      obtain ⟨t, ht, -⟩ := State.frames_cons hr
      show ({ U with heap := s₂.heap, slotsUsed := s₂.slotsUsed } : State) = { U.setFrames U.frames with heap := s₂.heap, slotsUsed := s₂.slotsUsed }
      rw [State.setFrames_self ht]
    subst hg
    refine Or.inl ⟨v, ⟨(({ U with heap := s₂.heap, slotsUsed := s₂.slotsUsed } : State).setVm s₂.vm), Ls ++ L, c0 + mc, s0 + ms⟩,
      ⟨X.admits, X.cas, X.clock, X.frames, X.room, X.hears, X.method, X.code, (X.here.setHeapUsed s₂.heap s₂.slotsUsed).setVm hW'.alike, X.tail, State.WarmedH.trans X.warmed hW', X.limits, X.bytes, X.same.trans (hsame.setVm s.vm)⟩,
      ⟨g, mk, s₂, L, rfl, rfl, hqc, rfl, hL, rfl, rfl⟩, ?_⟩
    show Steps p.tables e below _ ((({ U with heap := s₂.heap, slotsUsed := s₂.slotsUsed } : State).setVm s₂.vm).setTop { g with pc := g.pc + len₂, stack := v.toList ++ g.stack })
    rw [← hs₂]
    exact hsteps
  · obtain ⟨e2, q2, q3, q4, q5, q6⟩ := id hsm
    have e3 : s₂ = ({ (U.calling g mk a).setFrames s₂.frames with heap := s₂.heap, slotsUsed := s₂.slotsUsed } : State).setVm s₂.vm := by
      have : s₂ = ({ s₂ with vm := (U.calling g mk a).vm } : State).setVm s₂.vm := rfl
      rw [e2] at this
      exact this
    have hf₂ : s₂.frames = .throwing q :: .java g :: U.frames.tail := hend
    have hW' : U.WarmedH s₂.vm := hW₂
    have hs₂ : s₂ = ((({ U with heap := s₂.heap, slotsUsed := s₂.slotsUsed } : State).setVm s₂.vm).setTop g).pushFrame (.throwing q) := by
      refine e3.trans ?_
      rw [hf₂, State.calling_eq h.top, State.setFrames_setFrames, State.pushFrame, State.frames_setTop _ hr', State.setTop_of_frames _ hr', State.setFrames_setFrames, hr]
      rfl
    have hsame : U.sameButNew ({ U with heap := s₂.heap, slotsUsed := s₂.slotsUsed } : State) L mc ms := by
      refine ⟨?_, q2, q3, q4, q5, q6⟩
      obtain ⟨t, ht, -⟩ := State.frames_cons hr
      show ({ U with heap := s₂.heap, slotsUsed := s₂.slotsUsed } : State) = { U.setFrames U.frames with heap := s₂.heap, slotsUsed := s₂.slotsUsed }
      rw [State.setFrames_self ht]
    subst hg
    refine Or.inr ⟨q, ⟨(({ U with heap := s₂.heap, slotsUsed := s₂.slotsUsed } : State).setVm s₂.vm), Ls ++ L, c0 + mc, s0 + ms⟩,
      ⟨X.admits, X.cas, X.clock, X.frames, X.room, X.hears, X.method, X.code, (X.here.setHeapUsed s₂.heap s₂.slotsUsed).setVm hW'.alike, X.tail, State.WarmedH.trans X.warmed hW', X.limits, X.bytes, X.same.trans (hsame.setVm s.vm)⟩,
      ⟨g, mk, s₂, L, E, ce, rfl, rfl, hx, hce, hcv, hcl, rfl, hL, rfl, rfl⟩, ?_⟩
    show Steps p.tables e below _ (((({ U with heap := s₂.heap, slotsUsed := s₂.slotsUsed } : State).setVm s₂.vm).setTop g).pushFrame (.throwing q))
    rw [← hs₂]
    exact hsteps
end Payer
section Calls
variable {p : Program} {l : Launch} {e : Env} {R : Room} {s : State} {m : MethodId} {args : Array Value} {below : List Frame} {meth : Method} {c : Code} {T : State} {locs : List Loc} {cells slots : Nat}
theorem vx_callV (X : Stand p l e R s m args below meth c T locs cells slots) (hexec : p.tables.exec = Jvm.exec) {own C : String} {index : Nat} {y : MethodName} {bytes : ByteArray} {maxL : Nat} {ret : Option FieldType}
    (hown : s.vm.findClass own = some m.cls) (hlink : (Cond.methodLink own index y).before args s = true) (hinst : (Cond.instanceMethod y).before args s = true) (hsel : (Cond.selects C y y).before args s = true)
    (hcode : (Cond.code y bytes maxL ret).before args s = true) (hy : y.cls ≠ "java/lang/invoke/MethodHandle" ∧ y.cls ≠ "java/lang/invoke/VarHandle")
    {W9 : Nat} {Pre : Pt → Array Value → Prop} {Post : Pt → Array Value → Option Value → Pt → Prop} {PostX : Pt → Array Value → Addr → Pt → Prop} (hK : vx_Back l R p e below s args y 3 W9 Pre Post PostX)
    {b : Addr} {cellB : Cell} (hcell : T.heap[b]? = some cellB) (hobj : cellB.vm.isStatics = false) (hcls : s.vm.findClass C = some cellB.cls)
    {g : JFrame} (hg : g.method = m) (hsize : g.locals.size = c.maxLocals) {argsL rest : List Value} (hlen : ∀ sig, parseMethodDescriptor y.desc = some sig → argsL.length = sig.parameters.length)
    (hstack : g.stack = argsL.reverse ++ .ref b :: rest) (hW : 2 * g.monitorRoom + (rest.map fun v => v.category).sum ≤ W9) (hdg : decode c.code g.pc = .ok (.invokevirtual index, 3))
    (hpre : ∀ vm₁, s.WarmedH vm₁ → Pre ⟨T.setVm vm₁, locs, cells, slots⟩ (Value.ref b :: argsL).toArray) :
    (∃ (v : Option Value) (vm₁ : Vm) (B : Pt), s.WarmedH vm₁ ∧ Stand p l e R s m args below meth c B.U B.locs B.cells B.slots ∧ Post ⟨T.setVm vm₁, locs, cells, slots⟩ (Value.ref b :: argsL).toArray v B ∧
      ∀ target, Steps p.tables e below (B.U.setTop { g with pc := g.pc + 3, stack := v.toList ++ rest }) target → Steps p.tables e below (T.setTop g) target) ∨
    (∃ (q : Addr) (vm₁ : Vm) (B : Pt), s.WarmedH vm₁ ∧ Stand p l e R s m args below meth c B.U B.locs B.cells B.slots ∧ PostX ⟨T.setVm vm₁, locs, cells, slots⟩ (Value.ref b :: argsL).toArray q B ∧
      Steps p.tables e below (T.setTop g) ((B.U.setTop { g with stack := rest }).pushFrame (.throwing q))) := by
  obtain ⟨mk, methM, hnamed, hmethM, hstM, habM⟩ := Cond.instanceMethod_spec hinst
  obtain ⟨methM', cM, hmethM', -, -, -, -, -, -, hsigM⟩ := Cond.code_spec hnamed hcode
  cases hmethM.symm.trans hmethM'
  obtain ⟨c2, r2, m2, q1, q2, q3, q4, kP, hkP, hkPi⟩ := Cond.selects_spec hsel
  cases hcls.symm.trans q1
  cases (State.methodFound?_of_named hnamed hy).symm.trans q2
  cases hnamed.symm.trans q3
  have hselP : selectMethod e.platform s.vm cellB.cls mk = .method mk := by rw [Launch.admits_selectMethod X.admits]; exact q4
  obtain ⟨vm₁, X₁, hstep₁⟩ := X.invokevirtual hexec hown hlink hnamed hmethM hstM hkP hkPi hy (a := b) (cell := cellB) hcell
    (fun z h => by rw [h] at hobj; cases hobj) hselP hmethM habM hkP hkPi (g := g) hg (argsL := argsL) (rest := rest) (hlen _ hsigM) hstack hdg
  rcases hK m meth c ⟨T.setVm vm₁, locs, cells, slots⟩ { g with stack := rest } (.invokevirtual index) mk (Value.ref b :: argsL).toArray X₁ hg hsize hdg hW (X₁.named hnamed) (hpre vm₁ X₁.warmed) with ⟨v, B, X', hpost, hsteps⟩ | ⟨q, B, X', hpost, hsteps⟩
  · exact Or.inl ⟨v, vm₁, B, X₁.warmed, X', hpost, fun target h => hstep₁ _ fun acts => by rw [doInvoke_state]; exact hsteps.trans h⟩
  · exact Or.inr ⟨q, vm₁, B, X₁.warmed, X', hpost, hstep₁ _ fun acts => by rw [doInvoke_state]; exact hsteps⟩
theorem vx_callS (X : Stand p l e R s m args below meth c T locs cells slots) (hexec : p.tables.exec = Jvm.exec) {own : String} {index : Nat} {y : MethodName} {bytes : ByteArray} {maxL : Nat} {ret : Option FieldType}
    (hown : s.vm.findClass own = some m.cls) (hlink : (Cond.methodLink own index y).before args s = true) (hstat : (Cond.static y).before args s = true) (hinit : (Cond.initialized y.cls).before args s = true)
    (hcode : (Cond.code y bytes maxL ret).before args s = true) (hy : y.cls ≠ "java/lang/invoke/MethodHandle" ∧ y.cls ≠ "java/lang/invoke/VarHandle")
    {W9 : Nat} {Pre : Pt → Array Value → Prop} {Post : Pt → Array Value → Option Value → Pt → Prop} {PostX : Pt → Array Value → Addr → Pt → Prop} (hK : vx_Back l R p e below s args y 3 W9 Pre Post PostX)
    {g : JFrame} (hg : g.method = m) (hsize : g.locals.size = c.maxLocals) {argsL rest : List Value} (hlen : ∀ sig, parseMethodDescriptor y.desc = some sig → argsL.length = sig.parameters.length)
    (hstack : g.stack = argsL.reverse ++ rest) (hW : 2 * g.monitorRoom + (rest.map fun v => v.category).sum ≤ W9) (hdg : decode c.code g.pc = .ok (.invokestatic index, 3))
    (hpre : ∀ vm₁, s.WarmedH vm₁ → Pre ⟨T.setVm vm₁, locs, cells, slots⟩ argsL.toArray) :
    (∃ (v : Option Value) (vm₁ : Vm) (B : Pt), s.WarmedH vm₁ ∧ Stand p l e R s m args below meth c B.U B.locs B.cells B.slots ∧ Post ⟨T.setVm vm₁, locs, cells, slots⟩ argsL.toArray v B ∧
      ∀ target, Steps p.tables e below (B.U.setTop { g with pc := g.pc + 3, stack := v.toList ++ rest }) target → Steps p.tables e below (T.setTop g) target) ∨
    (∃ (q : Addr) (vm₁ : Vm) (B : Pt), s.WarmedH vm₁ ∧ Stand p l e R s m args below meth c B.U B.locs B.cells B.slots ∧ PostX ⟨T.setVm vm₁, locs, cells, slots⟩ argsL.toArray q B ∧
      Steps p.tables e below (T.setTop g) ((B.U.setTop { g with stack := rest }).pushFrame (.throwing q))) := by
  obtain ⟨mk, hnamed⟩ := Cond.code_named hcode
  obtain ⟨methM, cM, hmethM, -, -, -, -, -, -, hsigM⟩ := Cond.code_spec hnamed hcode
  have hstatic : methM.isStatic = true := Cond.static_spec hnamed hmethM hstat
  obtain ⟨kP, hkP, -⟩ := className_of_methodNamed hnamed
  have hinitP : kP.init = .initialized := Cond.initialized_spec (findClass_of_methodNamed hnamed) hkP hinit
  obtain ⟨vm₁, X₁, hstep₁⟩ := X.invokestatic hexec hown hlink hnamed hmethM hstatic hkP hinitP hy (g := g) hg (argsL := argsL) (rest := rest) (hlen _ hsigM) hstack hdg
  rcases hK m meth c ⟨T.setVm vm₁, locs, cells, slots⟩ { g with stack := rest } (.invokestatic index) mk argsL.toArray X₁ hg hsize hdg hW (X₁.named hnamed) (hpre vm₁ X₁.warmed) with ⟨v, B, X', hpost, hsteps⟩ | ⟨q, B, X', hpost, hsteps⟩
  · exact Or.inl ⟨v, vm₁, B, X₁.warmed, X', hpost, fun target h => hstep₁ _ fun acts => by rw [doInvoke_state]; exact hsteps.trans h⟩
  · exact Or.inr ⟨q, vm₁, B, X₁.warmed, X', hpost, hstep₁ _ fun acts => by rw [doInvoke_state]; exact hsteps⟩
end Calls
theorem vx_cls {s : State} {T : State} {vm₁ : Vm} {E : String} {k : ClassId} (hW : s.WarmedH vm₁) (h : (T.setVm vm₁).vm.findClass E = some k) : s.vm.findClass E = some k := by
  have h1 : vm₁.findClass E = some k := h
  rw [hW.alike.findClass] at h1
  exact h1
/-- the method's frame g, with q thrown over it -/
def vx_W (p : Program) (l : Launch) (e : Env) (R : Room) (s : State) (m : MethodId) (args : Array Value) (below : List Frame) (meth : Method) (c : Code) (H : Heap) (locs : List Loc) (cells slots : Nat) (Q : State → Prop) (g : JFrame) (q : Addr) : Prop :=
  ∀ T : State, T.heap = H → Stand p l e R s m args below meth c T locs cells slots → ∃ t, Steps p.tables e below ((T.setTop g).pushFrame (.throwing q)) t ∧ Q t
def vx_Run (p : Program) (l : Launch) (e : Env) (R : Room) (s : State) (m : MethodId) (args : Array Value) (below : List Frame) (meth : Method) (c : Code) (H : Heap) (locs : List Loc) (cells slots mc ms : Nat) (g : JFrame) (rest : List Value) (Qa : State → Outcome → State → Prop) (XC : String → State → State → Prop) (free : Addr → Prop) : Prop :=
  ∀ T : State, T.heap = H → Stand p l e R s m args below meth c T locs cells slots →
    (∃ (v : Option Value) (st₀ t T' : State) (L : List Loc), st₀.heap = H ∧ Stand p l e R s m args below meth c T' (locs ++ L) (cells + mc) (slots + ms) ∧ (∀ q ∈ L, free q.base) ∧ T'.heap = t.heap ∧ T'.vm = t.vm ∧ Qa st₀ (.returned v) t ∧
      Goes p e below T g T' { g with pc := g.pc + 3, stack := v.toList ++ rest }) ∨
    (∃ (q : Addr) (st₀ t T' : State) (L : List Loc) (E : String) (ce : Cell), st₀.heap = H ∧ Stand p l e R s m args below meth c T' (locs ++ L) (cells + mc) (slots + ms) ∧ (∀ z ∈ L, free z.base) ∧ T'.heap = t.heap ∧ T'.vm = t.vm ∧ XC E st₀ t ∧ t.heap[q]? = some ce ∧ ce.vm = .none ∧ s.vm.findClass E = some ce.cls ∧
      Steps p.tables e below (T.setTop g) ((T'.setTop { g with stack := rest }).pushFrame (.throwing q)))
def vx_X {S : Type} (px : S → Prop) (B : String → S → State → Prop) (A : Nat → Prop) : String → State → State → Prop := fun E st t => ∃ u : S, px u ∧ B E u t ∧ va_F A st t
section Runs
variable {p : Program} {l : Launch} {e : Env} {R : Room} {s : State} {m : MethodId} {args : Array Value} {below : List Frame} {meth : Method} {c : Code} {H : Heap} {locs : List Loc} {cells slots : Nat}
variable {y : MethodName} {bytes cc : ByteArray} {maxL nL mc ms n index : Nat} {ret : Option FieldType} {ws : List Cond} {rm : Room} {Pc : Array Value → State → Prop} {Qc : Array Value → State → Outcome → State → Prop} {XC : String → State → State → Prop} {free : Addr → Prop} {Ts : List Cond} {own C : String} {b : Addr} {As rest : List Value} {g : JFrame}
theorem vx_callBack (cb : CallB R s args own index y bytes maxL ret ws rm mc ms n) (hM : vx_Met l y ws rm Pc Qc XC mc ms free) (hbl : FrameBlind Pc) : vx_Back l R p e below s args y 3 8 (PreOf R mc ms Pc) (PostOf Qc mc ms free) (vx_Post XC mc ms free) := by
  obtain ⟨hrc, hrs, hfr, hlo, hws, hcw, -, hini, -⟩ := cb
  exact vx_back (bytes := bytes) (maxL := maxL) (ret := ret) hM hbl hrc hrs hfr hlo hws hcw (fun a' U hW => word_at hW (Or.inl (by first | rfl | simp [Cond.onTables, Cond.keeps, Cond.steady])) hini)
theorem vx_runV (S : CallFix p m c cc nL s args Ts own) (hM : vx_Met l y ws rm Pc Qc XC mc ms free) (cw : CallW R s args own C index y bytes maxL ret ws rm mc ms n) (hp : PreV s H C b Pc As)
    (hg : g.method = m) (hn : As.length = n) (hsize : g.locals.size = nL) (hstack : g.stack = As.reverse ++ .ref b :: rest) (hW : 2 * g.monitorRoom + (rest.map fun v => v.category).sum ≤ 8) (hdg : decode cc g.pc = .ok (.invokevirtual index, 3)) (hf : cells + mc ≤ R.cells ∧ slots + ms ≤ R.slots) :
    vx_Run p l e R s m args below meth c H locs cells slots mc ms g rest (Qc (Value.ref b :: As).toArray) XC free := by
  have hK : vx_Back l R p e below s args y 3 8 (PreOf R mc ms Pc) (PostOf Qc mc ms free) (vx_Post XC mc ms free) := vx_callBack cw.1 hM hp.1
  obtain ⟨⟨-, -, -, -, -, -, hcode, -, hy, hlen, hl⟩, hin, hse⟩ := cw
  obtain ⟨hx, hb, hml, ho, -⟩ := S
  obtain ⟨-, ⟨cellB, hcB, hoB, hclB⟩, hPc⟩ := hp
  intro T hT X
  rcases vx_callV X hx (C := C) (bytes := bytes) (maxL := maxL) (ret := ret) ho hl hin hse hcode hy hK (by rw [hT]; exact hcB) hoB hclB hg (hsize.trans hml.symm) (argsL := As) (rest := rest) (fun sig h => hn.trans (hlen sig h)) hstack hW (by rw [hb]; exact hdg)
    (fun vm₁ hW₁ => ⟨hf.1, hf.2, hPc (T.setVm vm₁) hT hW₁⟩) with ⟨v, vm₁, ⟨U', l2, c2, s2⟩, hW₁, X', ⟨g', mk, t, L, e1, e2, hq, h1, hL, h2, h3⟩, st⟩ | ⟨q, vm₁, ⟨U', l2, c2, s2⟩, hW₁, X', ⟨g', mk, t, L, E, ce, e1, e2, hq, hce, hcv, hcl, h1, hL, h2, h3⟩, st⟩
  · dsimp only [Pt.U, Pt.locs, Pt.cells, Pt.slots] at X' e1 e2 h1 h2 h3 st
    subst h1; subst h2; subst h3
    exact Or.inl ⟨v, (T.setVm vm₁).calling g' mk (Value.ref b :: As).toArray, t, U', L, hT, X', hL, e1, e2, hq, st⟩
  · dsimp only [Pt.U, Pt.locs, Pt.cells, Pt.slots] at X' e1 e2 h1 h2 h3 st hcl
    subst h1; subst h2; subst h3
    exact Or.inr ⟨q, (T.setVm vm₁).calling g' mk (Value.ref b :: As).toArray, t, U', L, E, ce, hT, X', hL, e1, e2, hq, hce, hcv, vx_cls hW₁ hcl, st⟩
theorem vx_runS (S : CallFix p m c cc nL s args Ts own) (hM : vx_Met l y ws rm Pc Qc XC mc ms free) (cw : CallB R s args own index y bytes maxL ret ws rm mc ms n ∧ (Cond.static y).before args s = true) (hp : PreS s H Pc As)
    (hg : g.method = m) (hn : As.length = n) (hsize : g.locals.size = nL) (hstack : g.stack = As.reverse ++ rest) (hW : 2 * g.monitorRoom + (rest.map fun v => v.category).sum ≤ 8) (hdg : decode cc g.pc = .ok (.invokestatic index, 3)) (hf : cells + mc ≤ R.cells ∧ slots + ms ≤ R.slots) :
    vx_Run p l e R s m args below meth c H locs cells slots mc ms g rest (Qc As.toArray) XC free := by
  have hK : vx_Back l R p e below s args y 3 8 (PreOf R mc ms Pc) (PostOf Qc mc ms free) (vx_Post XC mc ms free) := vx_callBack cw.1 hM hp.1
  obtain ⟨⟨-, -, -, -, -, -, hcode, hini, hy, hlen, hl⟩, hstt⟩ := cw
  obtain ⟨hx, hb, hml, ho, -⟩ := S
  intro T hT X
  rcases vx_callS X hx (bytes := bytes) (maxL := maxL) (ret := ret) ho hl hstt hini hcode hy hK hg (hsize.trans hml.symm) (argsL := As) (rest := rest) (fun sig h => hn.trans (hlen sig h)) hstack hW (by rw [hb]; exact hdg)
    (fun vm₁ hW₁ => ⟨hf.1, hf.2, hp.2 (T.setVm vm₁) hT hW₁⟩) with ⟨v, vm₁, ⟨U', l2, c2, s2⟩, hW₁, X', ⟨g', mk, t, L, e1, e2, hq, h1, hL, h2, h3⟩, st⟩ | ⟨q, vm₁, ⟨U', l2, c2, s2⟩, hW₁, X', ⟨g', mk, t, L, E, ce, e1, e2, hq, hce, hcv, hcl, h1, hL, h2, h3⟩, st⟩
  · dsimp only [Pt.U, Pt.locs, Pt.cells, Pt.slots] at X' e1 e2 h1 h2 h3 st
    subst h1; subst h2; subst h3
    exact Or.inl ⟨v, (T.setVm vm₁).calling g' mk As.toArray, t, U', L, hT, X', hL, e1, e2, hq, st⟩
  · dsimp only [Pt.U, Pt.locs, Pt.cells, Pt.slots] at X' e1 e2 h1 h2 h3 st hcl
    subst h1; subst h2; subst h3
    exact Or.inr ⟨q, (T.setVm vm₁).calling g' mk As.toArray, t, U', L, E, ce, hT, X', hL, e1, e2, hq, hce, hcv, vx_cls hW₁ hcl, st⟩
end Runs
section Rows
variable {p : Program} {l : Launch} {e : Env} {R : Room} {s : State} {m : MethodId} {args : Array Value} {below : List Frame} {meth : Method} {c : Code} {H : Heap} {locs : List Loc} {cells slots : Nat} {Q : State → Prop}
variable {mc ms : Nat} {free : Addr → Prop} {A0 A1 : Nat → Prop} {H0 : Heap} {a : Array Value} {pc : Nat} {ls : Array Slot} {st0 rest : List Value}
theorem vx_keep {st₀ t T' : State} {L : List Loc} (h0 : st₀.heap = H) (e1 : T'.heap = t.heap) (hS : va_S A0 H0 H locs) (hA : ∀ q, q < H.size → A1 q → A0 q) (hf : ∀ q, free q → A0 q) (hL : ∀ q ∈ L, free q.base) (hF : va_F A1 st₀ t) :
    H.size ≤ T'.heap.size ∧ (∀ q : Nat, q < H.size → ¬ A1 q → T'.heap[q]? = H[q]?) ∧ va_S A0 H0 T'.heap (locs ++ L) := by
  obtain ⟨hz, hk⟩ := hF
  rw [h0] at hz hk
  exact ⟨by rw [e1]; exact hz, fun q h1 h2 => by rw [e1]; exact hk q h1 h2,
    ⟨Nat.le_trans hS.1 (by rw [e1]; exact hz), fun q h1 h2 => by rw [e1, hk q (Nat.lt_of_lt_of_le h1 hS.1) (fun z => h2 (hA q (Nat.lt_of_lt_of_le h1 hS.1) z))]; exact hS.2.1 q h1 h2, fun q hq => by
      rcases List.mem_append.mp hq with h | h
      · exact hS.2.2 q h
      · exact hf _ (hL q h)⟩⟩
theorem vx_calli {S SX : Type} {post : Int32 → S → Prop} {px : SX → Prop} {B : S → State → Prop} {BX : String → SX → State → Prop} {AX : Nat → Prop} (hr : vx_Run p l e R s m args below meth c H locs cells slots mc ms (F0 m pc ls st0) rest (va_Qi post B A1 a) (vx_X px BX AX) free) (hS : va_S A0 H0 H locs) (hA : ∀ q, q < H.size → A1 q → A0 q) (hf : ∀ q, free q → A0 q) (hAX : ∀ q, q < H.size → AX q → A0 q)
    (kx : ∀ (E : String) (ce : Cell) (q9 : Addr) (u : SX) (t : State) (H1 : Heap) (locs1 : List Loc), t.heap = H1 → s.vm.Alike t.vm → px u → BX E u t → H.size ≤ H1.size → (∀ q : Nat, q < H.size → ¬ AX q → H1[q]? = H[q]?) → va_S A0 H0 H1 locs1 → H1[q9]? = some ce → ce.vm = .none → s.vm.findClass E = some ce.cls → vx_W p l e R s m args below meth c H1 locs1 (cells + mc) (slots + ms) Q (F0 m pc ls rest) q9)
    (kk : ∀ (r : Int32) (u : S) (t : State) (H1 : Heap) (locs1 : List Loc), t.heap = H1 → s.vm.Alike t.vm → post r u → B u t → H.size ≤ H1.size → (∀ q : Nat, q < H.size → ¬ A1 q → H1[q]? = H[q]?) → va_S A0 H0 H1 locs1 → W p l e R s m args below meth c H1 locs1 (cells + mc) (slots + ms) Q (F0 m (pc + 3) ls (.int r :: rest))) : W p l e R s m args below meth c H locs cells slots Q (F0 m pc ls st0) := by
  intro T hT X
  rcases hr T hT X with ⟨v, st₀, t, T', L, h0, X', hL, e1, e2, ⟨⟨r, u, hv, hp, hb⟩, hF⟩, st⟩ | ⟨q, st₀, t, T', L, E, ce, h0, X', hL, e1, e2, ⟨u, hp, hb, hF⟩, hce, hcv, hcl, st⟩
  · cases hv
    obtain ⟨k1, k2, k3⟩ := vx_keep h0 e1 hS hA hf hL hF
    obtain ⟨t2, a1, b1⟩ := kk r u t T'.heap (locs ++ L) e1.symm (by rw [← e2]; exact X'.warmed.alike) hp hb k1 k2 k3 T' rfl X'
    exact ⟨t2, st t2 a1, b1⟩
  · obtain ⟨k1, k2, k3⟩ := vx_keep h0 e1 hS hAX hf hL hF
    obtain ⟨t2, a1, b1⟩ := kx E ce q u t T'.heap (locs ++ L) e1.symm (by rw [← e2]; exact X'.warmed.alike) hp hb k1 k2 k3 (by rw [e1]; exact hce) hcv hcl T' rfl X'
    exact ⟨t2, st.trans a1, b1⟩
theorem vx_calll {S SX : Type} {post : Int64 → S → Prop} {px : SX → Prop} {B : S → State → Prop} {BX : String → SX → State → Prop} {AX : Nat → Prop} (hr : vx_Run p l e R s m args below meth c H locs cells slots mc ms (F0 m pc ls st0) rest (va_Ql post B A1 a) (vx_X px BX AX) free) (hS : va_S A0 H0 H locs) (hA : ∀ q, q < H.size → A1 q → A0 q) (hf : ∀ q, free q → A0 q) (hAX : ∀ q, q < H.size → AX q → A0 q)
    (kx : ∀ (E : String) (ce : Cell) (q9 : Addr) (u : SX) (t : State) (H1 : Heap) (locs1 : List Loc), t.heap = H1 → s.vm.Alike t.vm → px u → BX E u t → H.size ≤ H1.size → (∀ q : Nat, q < H.size → ¬ AX q → H1[q]? = H[q]?) → va_S A0 H0 H1 locs1 → H1[q9]? = some ce → ce.vm = .none → s.vm.findClass E = some ce.cls → vx_W p l e R s m args below meth c H1 locs1 (cells + mc) (slots + ms) Q (F0 m pc ls rest) q9)
    (kk : ∀ (r : Int64) (u : S) (t : State) (H1 : Heap) (locs1 : List Loc), t.heap = H1 → s.vm.Alike t.vm → post r u → B u t → H.size ≤ H1.size → (∀ q : Nat, q < H.size → ¬ A1 q → H1[q]? = H[q]?) → va_S A0 H0 H1 locs1 → W p l e R s m args below meth c H1 locs1 (cells + mc) (slots + ms) Q (F0 m (pc + 3) ls (.long r :: rest))) : W p l e R s m args below meth c H locs cells slots Q (F0 m pc ls st0) := by
  intro T hT X
  rcases hr T hT X with ⟨v, st₀, t, T', L, h0, X', hL, e1, e2, ⟨⟨r, u, hv, hp, hb⟩, hF⟩, st⟩ | ⟨q, st₀, t, T', L, E, ce, h0, X', hL, e1, e2, ⟨u, hp, hb, hF⟩, hce, hcv, hcl, st⟩
  · cases hv
    obtain ⟨k1, k2, k3⟩ := vx_keep h0 e1 hS hA hf hL hF
    obtain ⟨t2, a1, b1⟩ := kk r u t T'.heap (locs ++ L) e1.symm (by rw [← e2]; exact X'.warmed.alike) hp hb k1 k2 k3 T' rfl X'
    exact ⟨t2, st t2 a1, b1⟩
  · obtain ⟨k1, k2, k3⟩ := vx_keep h0 e1 hS hAX hf hL hF
    obtain ⟨t2, a1, b1⟩ := kx E ce q u t T'.heap (locs ++ L) e1.symm (by rw [← e2]; exact X'.warmed.alike) hp hb k1 k2 k3 (by rw [e1]; exact hce) hcv hcl T' rfl X'
    exact ⟨t2, st.trans a1, b1⟩
theorem vx_callf {S SX : Type} {post : UInt32 → S → Prop} {px : SX → Prop} {B : S → State → Prop} {BX : String → SX → State → Prop} {AX : Nat → Prop} (hr : vx_Run p l e R s m args below meth c H locs cells slots mc ms (F0 m pc ls st0) rest (va_Qf post B A1 a) (vx_X px BX AX) free) (hS : va_S A0 H0 H locs) (hA : ∀ q, q < H.size → A1 q → A0 q) (hf : ∀ q, free q → A0 q) (hAX : ∀ q, q < H.size → AX q → A0 q)
    (kx : ∀ (E : String) (ce : Cell) (q9 : Addr) (u : SX) (t : State) (H1 : Heap) (locs1 : List Loc), t.heap = H1 → s.vm.Alike t.vm → px u → BX E u t → H.size ≤ H1.size → (∀ q : Nat, q < H.size → ¬ AX q → H1[q]? = H[q]?) → va_S A0 H0 H1 locs1 → H1[q9]? = some ce → ce.vm = .none → s.vm.findClass E = some ce.cls → vx_W p l e R s m args below meth c H1 locs1 (cells + mc) (slots + ms) Q (F0 m pc ls rest) q9)
    (kk : ∀ (r : UInt32) (u : S) (t : State) (H1 : Heap) (locs1 : List Loc), t.heap = H1 → s.vm.Alike t.vm → post r u → B u t → H.size ≤ H1.size → (∀ q : Nat, q < H.size → ¬ A1 q → H1[q]? = H[q]?) → va_S A0 H0 H1 locs1 → W p l e R s m args below meth c H1 locs1 (cells + mc) (slots + ms) Q (F0 m (pc + 3) ls (.float r :: rest))) : W p l e R s m args below meth c H locs cells slots Q (F0 m pc ls st0) := by
  intro T hT X
  rcases hr T hT X with ⟨v, st₀, t, T', L, h0, X', hL, e1, e2, ⟨⟨r, u, hv, hp, hb⟩, hF⟩, st⟩ | ⟨q, st₀, t, T', L, E, ce, h0, X', hL, e1, e2, ⟨u, hp, hb, hF⟩, hce, hcv, hcl, st⟩
  · cases hv
    obtain ⟨k1, k2, k3⟩ := vx_keep h0 e1 hS hA hf hL hF
    obtain ⟨t2, a1, b1⟩ := kk r u t T'.heap (locs ++ L) e1.symm (by rw [← e2]; exact X'.warmed.alike) hp hb k1 k2 k3 T' rfl X'
    exact ⟨t2, st t2 a1, b1⟩
  · obtain ⟨k1, k2, k3⟩ := vx_keep h0 e1 hS hAX hf hL hF
    obtain ⟨t2, a1, b1⟩ := kx E ce q u t T'.heap (locs ++ L) e1.symm (by rw [← e2]; exact X'.warmed.alike) hp hb k1 k2 k3 (by rw [e1]; exact hce) hcv hcl T' rfl X'
    exact ⟨t2, st.trans a1, b1⟩
theorem vx_calld {S SX : Type} {post : UInt64 → S → Prop} {px : SX → Prop} {B : S → State → Prop} {BX : String → SX → State → Prop} {AX : Nat → Prop} (hr : vx_Run p l e R s m args below meth c H locs cells slots mc ms (F0 m pc ls st0) rest (va_Qd post B A1 a) (vx_X px BX AX) free) (hS : va_S A0 H0 H locs) (hA : ∀ q, q < H.size → A1 q → A0 q) (hf : ∀ q, free q → A0 q) (hAX : ∀ q, q < H.size → AX q → A0 q)
    (kx : ∀ (E : String) (ce : Cell) (q9 : Addr) (u : SX) (t : State) (H1 : Heap) (locs1 : List Loc), t.heap = H1 → s.vm.Alike t.vm → px u → BX E u t → H.size ≤ H1.size → (∀ q : Nat, q < H.size → ¬ AX q → H1[q]? = H[q]?) → va_S A0 H0 H1 locs1 → H1[q9]? = some ce → ce.vm = .none → s.vm.findClass E = some ce.cls → vx_W p l e R s m args below meth c H1 locs1 (cells + mc) (slots + ms) Q (F0 m pc ls rest) q9)
    (kk : ∀ (r : UInt64) (u : S) (t : State) (H1 : Heap) (locs1 : List Loc), t.heap = H1 → s.vm.Alike t.vm → post r u → B u t → H.size ≤ H1.size → (∀ q : Nat, q < H.size → ¬ A1 q → H1[q]? = H[q]?) → va_S A0 H0 H1 locs1 → W p l e R s m args below meth c H1 locs1 (cells + mc) (slots + ms) Q (F0 m (pc + 3) ls (.double r :: rest))) : W p l e R s m args below meth c H locs cells slots Q (F0 m pc ls st0) := by
  intro T hT X
  rcases hr T hT X with ⟨v, st₀, t, T', L, h0, X', hL, e1, e2, ⟨⟨r, u, hv, hp, hb⟩, hF⟩, st⟩ | ⟨q, st₀, t, T', L, E, ce, h0, X', hL, e1, e2, ⟨u, hp, hb, hF⟩, hce, hcv, hcl, st⟩
  · cases hv
    obtain ⟨k1, k2, k3⟩ := vx_keep h0 e1 hS hA hf hL hF
    obtain ⟨t2, a1, b1⟩ := kk r u t T'.heap (locs ++ L) e1.symm (by rw [← e2]; exact X'.warmed.alike) hp hb k1 k2 k3 T' rfl X'
    exact ⟨t2, st t2 a1, b1⟩
  · obtain ⟨k1, k2, k3⟩ := vx_keep h0 e1 hS hAX hf hL hF
    obtain ⟨t2, a1, b1⟩ := kx E ce q u t T'.heap (locs ++ L) e1.symm (by rw [← e2]; exact X'.warmed.alike) hp hb k1 k2 k3 (by rw [e1]; exact hce) hcv hcl T' rfl X'
    exact ⟨t2, st.trans a1, b1⟩
theorem vx_callv {S SX : Type} {post : S → Prop} {px : SX → Prop} {B : S → State → Prop} {BX : String → SX → State → Prop} {AX : Nat → Prop} (hr : vx_Run p l e R s m args below meth c H locs cells slots mc ms (F0 m pc ls st0) rest (va_Qv post B A1 a) (vx_X px BX AX) free) (hS : va_S A0 H0 H locs) (hA : ∀ q, q < H.size → A1 q → A0 q) (hf : ∀ q, free q → A0 q) (hAX : ∀ q, q < H.size → AX q → A0 q)
    (kx : ∀ (E : String) (ce : Cell) (q9 : Addr) (u : SX) (t : State) (H1 : Heap) (locs1 : List Loc), t.heap = H1 → s.vm.Alike t.vm → px u → BX E u t → H.size ≤ H1.size → (∀ q : Nat, q < H.size → ¬ AX q → H1[q]? = H[q]?) → va_S A0 H0 H1 locs1 → H1[q9]? = some ce → ce.vm = .none → s.vm.findClass E = some ce.cls → vx_W p l e R s m args below meth c H1 locs1 (cells + mc) (slots + ms) Q (F0 m pc ls rest) q9)
    (kk : ∀ (u : S) (t : State) (H1 : Heap) (locs1 : List Loc), t.heap = H1 → s.vm.Alike t.vm → post u → B u t → H.size ≤ H1.size → (∀ q : Nat, q < H.size → ¬ A1 q → H1[q]? = H[q]?) → va_S A0 H0 H1 locs1 → W p l e R s m args below meth c H1 locs1 (cells + mc) (slots + ms) Q (F0 m (pc + 3) ls (rest))) : W p l e R s m args below meth c H locs cells slots Q (F0 m pc ls st0) := by
  intro T hT X
  rcases hr T hT X with ⟨v, st₀, t, T', L, h0, X', hL, e1, e2, ⟨⟨u, hv, hp, hb⟩, hF⟩, st⟩ | ⟨q, st₀, t, T', L, E, ce, h0, X', hL, e1, e2, ⟨u, hp, hb, hF⟩, hce, hcv, hcl, st⟩
  · cases hv
    obtain ⟨k1, k2, k3⟩ := vx_keep h0 e1 hS hA hf hL hF
    obtain ⟨t2, a1, b1⟩ := kk u t T'.heap (locs ++ L) e1.symm (by rw [← e2]; exact X'.warmed.alike) hp hb k1 k2 k3 T' rfl X'
    exact ⟨t2, st t2 a1, b1⟩
  · obtain ⟨k1, k2, k3⟩ := vx_keep h0 e1 hS hAX hf hL hF
    obtain ⟨t2, a1, b1⟩ := kx E ce q u t T'.heap (locs ++ L) e1.symm (by rw [← e2]; exact X'.warmed.alike) hp hb k1 k2 k3 (by rw [e1]; exact hce) hcv hcl T' rfl X'
    exact ⟨t2, st.trans a1, b1⟩
/-- caught by the row x of this method's table; the rows ahead don't take it -/
theorem vx_catch {own name : String} {E : String} {ce : Cell} {q : Addr} (hown : s.vm.findClass own = some m.cls) (pre : List ExceptionTableEntry) (x : ExceptionTableEntry) (suf : List ExceptionTableEntry) (hsplit : c.exceptionTable.toList = pre ++ x :: suf)
    (hpass : ∀ z ∈ pre, covers z pc = false ∨ (z.catchType ≠ 0 ∧ ∃ nm : String, (Cond.classLink own z.catchType nm).before args s = true ∧ va_Nc E nm s)) (hx : covers x pc = true) (h0 : x.catchType ≠ 0)
    (hlink : (Cond.classLink own x.catchType name).before args s = true) (hcast : (Cond.castable E name).before args s = true) (hcell : H[q]? = some ce) (hv : ce.vm = .none) (hcl : s.vm.findClass E = some ce.cls)
    (kk : W p l e R s m args below meth c H locs cells slots Q (F0 m x.handlerPc ls [.ref q])) : vx_W p l e R s m args below meth c H locs cells slots Q (F0 m pc ls rest) q := by
  intro T hT X
  have hpl : e.platform.magicAccessors = ({} : Platform).magicAccessors := by rw [X.admits.platform]
  obtain ⟨c3, c4, hc3, hc4, hasg⟩ := Cond.castable_spec hcast
  cases Option.some.inj (hc3.symm.trans hcl)
  obtain ⟨c5, hc5, hcl5⟩ := Cond.classLink_spec hown hlink e.platform hpl
  cases Option.some.inj (hc4.symm.trans hc5)
  obtain ⟨vm', X', st⟩ := X.thenCaughtThrough q (g := F0 m pc ls rest) rfl (Steps.refl _) (by rw [hT]; exact hcell) (by rw [hv]; rfl) (by obtain ⟨k9, h9, -⟩ := Vm.findClass_spec hcl; exact ⟨k9, h9⟩) pre x suf hsplit
    (fun z hz => by
      rcases hpass z hz with h | ⟨hz0, nm, hl1, hn1⟩
      · exact Or.inl h
      · obtain ⟨c6, hc6, hcl6⟩ := Cond.classLink_spec hown hl1 e.platform hpl
        obtain ⟨a8, b8, h1, h2, h3⟩ := hn1
        cases Option.some.inj (h1.symm.trans hcl)
        cases Option.some.inj (h2.symm.trans hc6)
        exact Or.inr ⟨hz0, _, hcl6, h3⟩) hx (Or.inr ⟨h0, c4, hcl5, hasg⟩)
  obtain ⟨t, a1, b1⟩ := kk (T.setVm vm') hT X'
  exact ⟨t, st.trans a1, b1⟩
end Rows
section Ends
variable {p : Program} {l : Launch} {e : Env} {R : Room} {s : State} {m : MethodId} {args : Array Value} {below : List Frame} {meth : Method} {c : Code} {H : Heap} {locs : List Loc} {cells slots : Nat} {Q : State → Prop}
variable {mc ms : Nat} {free : Addr → Prop} {A0 A1 : Nat → Prop} {H0 : Heap} {a : Array Value} {ls : Array Slot} {st0 rest : List Value}
variable {Qc : Array Value → State → Outcome → State → Prop} {XC : String → State → State → Prop}
/-- what a body that may throw owes at its end -/
def vx_MQ (below : List Frame) (Qc : Array Value → State → Outcome → State → Prop) (XC : String → State → State → Prop) (a : Array Value) (s : State) (mc ms : Nat) (free : Addr → Prop) : State → Prop := fun t =>
  ∃ o, t.status = .running ∧ Ended t below o ∧ vx_Q Qc XC mc ms free a s o t
theorem vx_ret {g : JFrame} {mc ms : Nat} (k : W p l e R s m args below meth c H locs cells slots (MQ below Qc args s mc ms free) g) : W p l e R s m args below meth c H locs cells slots (vx_MQ below Qc XC args s mc ms free) g := by
  intro T hT X
  obtain ⟨t, a1, o, b1, b2, b3, b4⟩ := k T hT X
  exact ⟨t, a1, o, b1, b2, Or.inl ⟨b3, b4⟩⟩
/-- not caught here: it goes on to the caller -/
theorem vx_widen {g : JFrame} {q : Addr} {k n : Nat} (h1 : cells ≤ k) (h2 : slots ≤ n) (kk : vx_W p l e R s m args below meth c H locs k n Q g q) : vx_W p l e R s m args below meth c H locs cells slots Q g q := fun T hT X => kk T hT (stand_widen X h1 h2)
theorem vx_out {pc : Nat} {E : String} {ce : Cell} {q : Addr} {mc ms : Nat} (hout : ∀ x ∈ c.exceptionTable.toList, covers x pc = false) (hlocks : meth.locks = false) (hcell : H[q]? = some ce) (hv : ce.vm = .none) (hcl : s.vm.findClass E = some ce.cls)
    (hx : ∀ t : State, t.heap = H → s.vm.Alike t.vm → XC E s t) (hf : ∀ z ∈ locs, free z.base) (hc : cells ≤ mc) (hs : slots ≤ ms) :
    vx_W p l e R s m args below meth c H locs cells slots (vx_MQ below Qc XC args s mc ms free) (F0 m pc ls rest) q := by
  intro T hT X
  obtain ⟨st1, hrun, hend, hW, hsm⟩ := X.leaveThrown q (g := F0 m pc ls rest) rfl rfl rfl hout hlocks
  have hcell9 : (T.setFrames (.throwing q :: below)).heap[q]? = some ce := by
    show T.heap[q]? = some ce
    rw [hT]; exact hcell
  exact ⟨_, st1, .threw q, hrun, hend, Or.inr ⟨q, rfl, E, ce, locs, hx _ hT hW.alike, hcell9, hv, hcl, hW, hsm.mono hc hs, hf⟩⟩
theorem vx_frame {U : State} {k n : Nat} (h : s.sameButNew ({ U with vm := s.vm } : State) locs k n) : s.heap.size ≤ U.heap.size ∧ ∀ q : Nat, q < s.heap.size → (∀ z ∈ locs, z.base ≠ q) → U.heap[q]? = s.heap[q]? := by
  obtain ⟨-, h2, -, -, -, h6⟩ := h
  refine ⟨h2, fun q hq hz => ?_⟩
  obtain ⟨c9, e1, e2, e3, e4⟩ := h6 q _ (Array.getElem?_eq_getElem hq)
  have hs : c9.slots = (s.heap[q]).slots := Array.ext_getElem? fun i => e4 i fun hm => hz _ hm rfl
  have h9 : c9 = s.heap[q] := by
    rw [hs] at e2
    exact e2
  have e5 : U.heap[q]? = some c9 := e1
  rw [e5, h9, Array.getElem?_eq_getElem hq]
/-- the words of a throw but the four that speak of the heap -/
def vx_no (w : Cond) : Bool := decide (w ≠ .isRef (.static Bundle.tN "UNASSIGNED_STACK" Bundle.steD)) && decide (w ≠ .isRef (.static Bundle.tN "SUPPRESSED_SENTINEL" Bundle.listD)) && decide (w ≠ .laysStatic Bundle.tN "UNASSIGNED_STACK" Bundle.steD) && decide (w ≠ .laysStatic Bundle.tN "SUPPRESSED_SENTINEL" Bundle.listD)
def vx_at0 (own : String) (ic : Nat) (X : String) (names : List String) : List Cond := (Bundle.ownAtoms0 own ic X names).filter vx_no
def vx_atS (own : String) (ic : Nat) (X : String) (names : List String) : List Cond := (Bundle.ownAtoms own ic X names).filter vx_no
/-- a word that the tables alone decide, or a good one -/
def vx_ot (w : Cond) : Bool := w.onTables || goodWord w
theorem vx_ot_at {args a' : Array Value} {s U : State} {w : Cond} (hW : s.WarmedH U.vm) (hvm : s.vm = U.vm) (hg : vx_ot w = true) (h : w.before args s = true) : w.before a' U = true := by
  simp only [vx_ot, Bool.or_eq_true] at hg
  rcases hg with hg | hg
  · exact va_tabs hg hvm h
  · exact word_at hW (good_of_word hg) h
/-- a list's words: the good ones out of the method's own list, the others by premises of their own -/
theorem vx_hat {args : Array Value} {s : State} {L B : List Cond} (h1 : ∀ w ∈ L.filter goodWord, w.before args s = true) (h2 : ∀ w ∈ L.filter (fun w => !goodWord w), w ∈ B) (h3 : ∀ w ∈ B, w.before args s = true) : ∀ w ∈ L, w.before args s = true := by
  intro w hw
  by_cases g : goodWord w = true
  · exact h1 w (List.mem_filter.mpr ⟨hw, g⟩)
  · refine h3 w (h2 w (List.mem_filter.mpr ⟨hw, ?_⟩))
    show (!goodWord w) = true
    cases hgw : goodWord w
    · rfl
    · exact absurd hgw g
theorem vx_c {args : Array Value} {s : State} {w : Cond} {B : List Cond} (h : w.before args s = true) (t : ∀ w ∈ B, w.before args s = true) : ∀ w' ∈ w :: B, w'.before args s = true := fun w' h' => (List.mem_cons.mp h').elim (fun e => by rw [e]; exact h) (t w')
theorem vx_n {args : Array Value} {s : State} : ∀ w ∈ ([] : List Cond), w.before args s = true := fun _ h => nomatch h
theorem vx_own {args : Array Value} {s : State} {L : List Cond} (h1 : ∀ w ∈ L.filter vx_no, w.before args s = true)
    (hU : (Cond.isRef (.static Bundle.tN "UNASSIGNED_STACK" Bundle.steD)).before args s = true) (hN : (Cond.isRef (.static Bundle.tN "SUPPRESSED_SENTINEL" Bundle.listD)).before args s = true)
    (lU : (Cond.laysStatic Bundle.tN "UNASSIGNED_STACK" Bundle.steD).before args s = true) (lN : (Cond.laysStatic Bundle.tN "SUPPRESSED_SENTINEL" Bundle.listD).before args s = true) : ∀ w ∈ L, w.before args s = true := by
  intro w hw
  by_cases e1 : w = .isRef (.static Bundle.tN "UNASSIGNED_STACK" Bundle.steD)
  · rw [e1]; exact hU
  · by_cases e2 : w = .isRef (.static Bundle.tN "SUPPRESSED_SENTINEL" Bundle.listD)
    · rw [e2]; exact hN
    · by_cases e3 : w = .laysStatic Bundle.tN "UNASSIGNED_STACK" Bundle.steD
      · rw [e3]; exact lU
      · by_cases e4 : w = .laysStatic Bundle.tN "SUPPRESSED_SENTINEL" Bundle.listD
        · rw [e4]; exact lN
        · exact h1 w (List.mem_filter.mpr ⟨hw, by unfold vx_no; rw [decide_eq_true e1, decide_eq_true e2, decide_eq_true e3, decide_eq_true e4]; rfl⟩)
/-- where a static field lies, its class's statics cell in H -/
def vx_L (C n d : String) (A : Nat → Prop) (U : State) (H : Heap) : Prop := ∃ (c : ClassId) (k : Class) (i : Nat) (f : Field) (a : Nat) (cell : Cell), U.vm.findClass C = some c ∧ U.fieldFound? C n d = some (c, k, i, f) ∧ f.isStatic = true ∧ k.statics = some a ∧ H[a]? = some cell ∧ cell.vm.isStatics = true ∧ cell.cls = c ∧ f.slot < cell.slots.size ∧ k.staticTypes[f.slot]? = some f.type ∧ ¬ A a
theorem vx_L.moved {C n d : String} {A : Nat → Prop} {u U : State} {H : Heap} (hvm : u.vm.Alike U.vm) (h : vx_L C n d A u H) : vx_L C n d A U H := by
  obtain ⟨c, k, i, f, a, cell, h1, h2, h3, h4, h5, h6, h7, h8, h9, h10⟩ := h
  obtain ⟨k', hi', he⟩ := State.fieldFound?_setVm hvm h2
  exact ⟨c, k', i, f, a, cell, by rw [hvm.findClass]; exact h1, hi', h3, by rw [he]; exact h4, h5, h6, h7, h8, by rw [he]; exact h9, h10⟩
theorem vx_L.kept {C n d : String} {A : Nat → Prop} {U : State} {H H1 : Heap} (h : vx_L C n d A U H) (hq : ∀ a : Nat, a < H.size → ¬ A a → H1[a]? = H[a]?) : vx_L C n d A U H1 := by
  obtain ⟨c, k, i, f, a, cell, h1, h2, h3, h4, h5, h6, h7, h8, h9, h10⟩ := h
  exact ⟨c, k, i, f, a, cell, h1, h2, h3, h4, by rw [hq a (Array.getElem?_eq_some_iff.mp h5).1 h10]; exact h5, h6, h7, h8, h9, h10⟩
theorem vx_L.narrow {C n d : String} {A B : Nat → Prop} {U : State} {H : Heap} (h : vx_L C n d A U H) (hAB : ∀ q, B q → A q) : vx_L C n d B U H := by
  obtain ⟨c, k, i, f, a, cell, h1, h2, h3, h4, h5, h6, h7, h8, h9, h10⟩ := h
  exact ⟨c, k, i, f, a, cell, h1, h2, h3, h4, h5, h6, h7, h8, h9, fun z => h10 (hAB _ z)⟩
theorem vx_L.word {C n d : String} {A : Nat → Prop} {s : State} {args : Array Value} (h : vx_L C n d A s s.heap) : (Cond.laysStatic C n d).before args s = true := by
  obtain ⟨c, k, i, f, a, cell, h1, h2, h3, h4, h5, h6, h7, h8, h9, -⟩ := h
  show (Cond.laysStatic C n d).holds args s none s [] = true
  exact Cond.laysStatic_of h1 h2 h3 h4 h5 h6 h7 h8 h9
/-- .. and what it holds: null or some reference -/
def vx_Zq (C n d : String) (A : Nat → Prop) (U : State) (H : Heap) : Prop := va_Zq C n d A U H ∧ vx_L C n d A U H
theorem vx_Zq.moved {C n d : String} {A : Nat → Prop} {u U : State} {H : Heap} (hvm : u.vm.Alike U.vm) (h : vx_Zq C n d A u H) : vx_Zq C n d A U H := ⟨va_Zq.moved hvm h.1, vx_L.moved hvm h.2⟩
theorem vx_Zq.kept {C n d : String} {A : Nat → Prop} {U : State} {H H1 : Heap} (h : vx_Zq C n d A U H) (hq : ∀ a : Nat, a < H.size → ¬ A a → H1[a]? = H[a]?) : vx_Zq C n d A U H1 := ⟨va_Zq.kept h.1 hq, vx_L.kept h.2 hq⟩
theorem vx_Zq.narrow {C n d : String} {A B : Nat → Prop} {U : State} {H : Heap} (h : vx_Zq C n d A U H) (hAB : ∀ q, B q → A q) : vx_Zq C n d B U H := ⟨va_Zq.narrow h.1 hAB, vx_L.narrow h.2 hAB⟩
theorem vx_Zqof {args : Array Value} {s : State} {C n d : String} {A : Nat → Prop} (hl : (Cond.laysStatic C n d).before args s = true) (hini : (Cond.initialized C).before args s = true) (h : (Cond.isRef (.static C n d)).before args s = true) (hA : ∀ a : Nat, a < s.heap.size → ¬ A a) : vx_Zq C n d A s s.heap := by
  refine ⟨va_Zqof hl hini h hA, ?_⟩
  obtain ⟨c, k, i, f, a, cell, h1, h2, h3, h4, h5, h6, h7, h8, h9⟩ := Cond.laysStatic_spec hl
  exact ⟨c, k, i, f, a, cell, h1, h2, h3, h4, h5, h6, h7, h8, h9, hA a (Array.getElem?_eq_some_iff.mp h5).1⟩
theorem vx_isRef {C n d : String} {v : Value} {A : Nat → Prop} {s : State} {args : Array Value} (h : va_Z C n d v A s s.heap) (hv : v.isRef = true) : (Cond.isRef (.static C n d)).before args s = true := by
  obtain ⟨cf, kf, fi, f, a, cell, h1, h2, h3, h4, h5, h6, h7, -⟩ := h
  have he : (Term.static C n d).eval args s none [] s = some v := by
    simp [Term.eval, State.fieldNamed?, h1, h2, h4, h5, h6, h7]
  simp only [Cond.before, Cond.holds, Cond.value, he]
  cases v <;> simp_all [Value.isRef]
theorem vx_isRefq {C n d : String} {A : Nat → Prop} {s : State} {args : Array Value} (h : va_Zq C n d A s s.heap) : (Cond.isRef (.static C n d)).before args s = true := by
  rcases h with h | ⟨t, h⟩
  · exact vx_isRef h rfl
  · exact vx_isRef h rfl
/-- the same frame, seen from here: as if the method were called anew in this heap -/
theorem vx_rebase {T : State} (X : Stand p l e R s m args below meth c T locs cells slots) {R' : Room} (hf : R'.frames ≤ R.frames) (hl : R'.locals ≤ R.locals) (hc : cells + R'.cells ≤ R.cells) (hs : slots + R'.slots ≤ R.slots) :
    Stand p l e R' ((T.setVm s.vm).setFrames (.invoking m args :: below)) m args below meth c T [] 0 0 := by
  have htop : (T.setVm s.vm).topJava?.isSome := X.here.top
  have hF : ((T.setVm s.vm).setFrames (.invoking m args :: below)).frames = .invoking m args :: below := State.frames_setFrames _ (State.cur_lt_of_top htop)
  obtain ⟨g₀, hg0⟩ := Option.isSome_iff_exists.mp htop
  obtain ⟨r, hr⟩ := State.topJava?_eq_some.mp hg0
  have hl9 : e.platform.stackLimits (T.setVm s.vm).me = e.platform.stackLimits s.me := X.limits
  have hb9 : (T.setVm s.vm).me.stackBytes = s.me.stackBytes := X.bytes
  refine ⟨X.admits, X.cas, X.clock, hF, ?_, X.hears, X.method, X.code, X.here, X.tail, X.warmed, ?_, ?_, ?_⟩
  · have h := X.room
    have hU : ((T.setVm s.vm).setFrames (.invoking m args :: below)).localsInUse = s.localsInUse := by
      rw [State.localsInUse_invoking hF (meth := meth) (c := c) X.method X.code, State.localsInUse_invoking X.frames X.method X.code]
    simp only [State.hasRoom, Bool.and_eq_true, decide_eq_true_eq] at h ⊢
    obtain ⟨⟨⟨⟨h1, h2, h3, h4, h5, h6⟩, h7⟩, h8⟩, h9⟩ := h
    rw [X.frames, List.length_cons] at h2 h3
    have q1 := X.heapSize
    have q2 := X.used
    simp only [hF, hU, List.length_cons, State.stackLimits_setFrames, State.stackBytes_setFrames, hl9, hb9]
    refine ⟨⟨⟨⟨by omega, by omega, by omega, by omega, by omega, h6⟩, ?_⟩, ?_⟩, X.book⟩
    · show T.heap.size + R'.cells ≤ e.platform.maxCells
      omega
    · show T.slotsUsed + R'.slots ≤ e.platform.maxSlots
      omega
  · rw [State.stackLimits_setFrames]; rfl
  · rw [State.stackBytes_setFrames]; rfl
  · refine ⟨?_, Nat.le_refl _, Nat.le_refl _, ?_, ?_, fun a c9 h9 => ⟨c9, h9, rfl, rfl, fun _ _ => rfl⟩⟩
    · obtain ⟨t, ht, -⟩ := State.frames_cons hr
      show T.setVm s.vm = { ((T.setVm s.vm).setFrames (.invoking m args :: below)).setFrames (T.setVm s.vm).frames with heap := T.heap, slotsUsed := T.slotsUsed }
      rw [State.setFrames_setFrames, State.setFrames_self ht]
      rfl
    · show T.slotsUsed = T.slotsUsed + ((T.heap.toList.drop T.heap.size).map (·.slots.size)).sum
      rw [List.drop_eq_nil_of_le (Nat.le_of_eq Array.length_toList)]
      rfl
    · show ((T.heap.toList.drop T.heap.size).map (·.slots.size)).sum ≤ 0
      rw [List.drop_eq_nil_of_le (Nat.le_of_eq Array.length_toList)]
      exact Nat.le_refl _
/-- 'throw new E()': new; dup; invokespecial; athrow -/
theorem vx_throw0 {cc : ByteArray} {pc : Nat} (hexec : p.tables.exec = Jvm.exec) (hb : c.code = cc) (hl : l.stackTraces = false) {own cls : String} {names : List String} {ik ic mc ms : Nat} {A : Nat → Prop}
    (hown : s.vm.findClass own = some m.cls) (hcls : Bundle.fit cls = true) (hnames : ∀ n ∈ names, Bundle.fit n = true)
    (hk : (Cond.classLink own ik cls).before args s = true) (hini : (Cond.initialized cls).before args s = true) (hat : ∀ w ∈ vx_at0 own ic cls names, w.before args s = true)
    (hgood : ∀ w ∈ Cond.classLink own ik cls :: Cond.initialized cls :: vx_at0 own ic cls names, vx_ot w = true)
    (hU : vx_Zq Bundle.tN "UNASSIGNED_STACK" Bundle.steD A s s.heap) (hN : vx_Zq Bundle.tN "SUPPRESSED_SENTINEL" Bundle.listD A s s.heap) (hS : va_S A s.heap H locs) (hsize : ls.size = c.maxLocals)
    (d0 : decode cc pc = .ok (.new ik, 3)) (d3 : decode cc (pc + 3) = .ok (.dup, 1)) (d4 : decode cc (pc + 4) = .ok (.invokespecial ic, 3)) (d7 : decode cc (pc + 7) = .ok (.athrow, 1))
    (hout : ∀ x ∈ c.exceptionTable.toList, covers x (pc + 7) = false)
    (hRframes : names.length + 3 < R.frames) (hRlocals : (rest.map fun v => v.category).sum + (13 * (names.length + 1) + 42) ≤ R.locals) (hRcells : cells + 1 ≤ R.cells) (hRslots : slots + 6 ≤ R.slots) (hlocks : meth.locks = false)
    (hx : ∀ t : State, s.vm.Alike t.vm → H.size ≤ t.heap.size → (∀ q : Nat, q < H.size → t.heap[q]? = H[q]?) → XC cls s t)
    (hf : ∀ z ∈ locs, free z.base) (hc : cells + 1 ≤ mc) (hs : slots + 6 ≤ ms) :
    W p l e R s m args below meth c H locs cells slots (vx_MQ below Qc XC args s mc ms free) (F0 m pc ls rest) := by
  intro T hT X
  have htr : e.platform.stackTraces = false := (show e.platform.stackTraces = l.stackTraces by rw [X.admits.platform]).trans hl
  have Y := vx_rebase X (R' := { frames := R.frames, locals := R.locals, cells := 1, slots := 6 }) (Nat.le_refl _) (Nat.le_refl _) hRcells hRslots
  obtain ⟨s', hA⟩ : ∃ z, z = (T.setVm s.vm).setFrames (.invoking m args :: below) := ⟨_, rfl⟩
  rw [← hA] at Y
  have hvm : s'.vm = s.vm := by rw [hA]; rfl
  have hhp : s'.heap = H := by rw [hA]; exact hT
  have hW0 : s.WarmedH s'.vm := by rw [hvm]; exact State.WarmedH.refl s
  have hat' : ∀ w ∈ vx_at0 own ic cls names, w.before args s' = true := fun w hw => vx_ot_at hW0 hvm.symm (hgood w (List.mem_cons_of_mem _ (List.mem_cons_of_mem _ hw))) (hat w hw)
  have hk' : (Cond.classLink own ik cls).before args s' = true := vx_ot_at hW0 hvm.symm (hgood _ List.mem_cons_self) hk
  have hini' : (Cond.initialized cls).before args s' = true := vx_ot_at hW0 hvm.symm (hgood _ (List.mem_cons_of_mem _ List.mem_cons_self)) hini
  have hU' : vx_Zq Bundle.tN "UNASSIGNED_STACK" Bundle.steD A s' s'.heap := by rw [hhp]; exact vx_Zq.moved hW0.alike (hU.kept hS.2.1)
  have hN' : vx_Zq Bundle.tN "SUPPRESSED_SENTINEL" Bundle.listD A s' s'.heap := by rw [hhp]; exact vx_Zq.moved hW0.alike (hN.kept hS.2.1)
  have h : ∀ w ∈ Bundle.ownAtoms0 own ic cls names, w.before args s' = true := vx_own hat' (vx_isRefq hU'.1) (vx_isRefq hN'.1) hU'.2.word hN'.2.word
  have hown' : s'.vm.findClass own = some m.cls := by rw [hvm]; exact hown
  have hins : (Cond.instantiable cls 6).before args s' = true := h _ (by simp [Bundle.ownAtoms0])
  obtain ⟨vm₁, cX, kX, hfX, hkX, -, -, X₁, st1⟩ := Y.newCold hexec (own := own) (C := cls) (index := ik) (n := 6) hown' hk' hins hini'
    (g := F0 m pc ls rest) rfl (by rw [hb]; exact d0) (Nat.le_refl _) (Nat.le_refl _)
  generalize hT1 : (T.setVm vm₁).pushCell { cls := cX, slots := kX.instanceTypes.map defaultValue, vm := .none } = T1 at X₁ st1
  have hcat : (Value.ref T.heap.size).category = 1 := rfl
  have hcellA : T1.heap[T.heap.size]? = some (freshCell cX kX) := by rw [← hT1]; exact State.heap_pushCell_size _ _
  have d3' : decode c.code (pc + 3) = .ok (.dup, 1) := by rw [hb]; exact d3
  obtain ⟨U, hsteps, hrun, hend, hW, hsame, ce, hce, hO⟩ := X₁.ctorThrow0 hexec htr (own := own) (cls := cls) (names := names) (ic := ic) hown' hcls hnames h (fun x hx => nomatch hx) hfX hkX hcellA (by rw [hhp, hT]; exact Nat.le_refl _)
    (g := { method := m, pc := pc + 4, locals := ls, stack := .ref T.heap.size :: .ref T.heap.size :: rest, locked := none }) rfl hsize rfl rfl (rest := rest) rfl
    (by rw [hb]; exact d4) (by rw [hb]; exact d7) hout hRframes (by simp only [List.map_cons, List.sum_cons, hcat]; omega) hlocks
  obtain ⟨f1, f2⟩ := vx_frame hsame
  rw [hhp] at f1 f2
  have hWs : s.WarmedH U.vm := State.WarmedH.trans hW0 hW
  have hcl : s.vm.findClass cls = some ce.cls := by
    have h9 := hO.cls
    rw [hvm] at h9
    exact h9
  have hall : s.sameButNew ({ U with vm := s.vm } : State) locs mc ms := by
    subst hA
    obtain ⟨e1, e2⟩ := hsame
    rw [State.setFrames_setFrames] at e1
    have h2 : (T.setVm s.vm).sameButNew ({ U with vm := s.vm } : State) [] (0 + 1) (0 + 6) := ⟨e1, e2⟩
    have h3 := X.same.trans h2
    rw [List.append_nil] at h3
    exact h3.mono hc hs
  refine ⟨U, ?_, .threw T.heap.size, hrun, hend, Or.inr ⟨T.heap.size, rfl, cls, ce, locs, hx U hWs.alike f1 (fun q hq => f2 q hq (fun z hz => nomatch hz)), hce, hO.vm, hcl, hWs, hall, hf⟩⟩
  refine st1 _ ?_
  show Steps p.tables e below (T1.setTop { method := m, pc := pc + 3, locals := ls, stack := .ref T.heap.size :: rest, locked := none }) _
  jvm_step X₁.here [X₁.here.top, hexec, d3', Value.category]
  exact hsteps
/-- 'throw new E("text")': new; dup; ldc; invokespecial; athrow -/
theorem vx_throwS {cc : ByteArray} {pc : Nat} (hexec : p.tables.exec = Jvm.exec) (hb : c.code = cc) (hl : l.stackTraces = false) {own cls text : String} {names : List String} {ik is ic mc ms sa : Nat} {A : Nat → Prop}
    (hown : s.vm.findClass own = some m.cls) (hcls : Bundle.fit cls = true) (hnames : ∀ n ∈ names, Bundle.fit n = true)
    (hk : (Cond.classLink own ik cls).before args s = true) (hini : (Cond.initialized cls).before args s = true) (hstr : vk_R own is text sa s) (hat : ∀ w ∈ vx_atS own ic cls names, w.before args s = true)
    (hgood : ∀ w ∈ Cond.classLink own ik cls :: Cond.initialized cls :: vx_atS own ic cls names, vx_ot w = true)
    (hU : vx_Zq Bundle.tN "UNASSIGNED_STACK" Bundle.steD A s s.heap) (hN : vx_Zq Bundle.tN "SUPPRESSED_SENTINEL" Bundle.listD A s s.heap) (hS : va_S A s.heap H locs) (hsize : ls.size = c.maxLocals)
    (d0 : decode cc pc = .ok (.new ik, 3)) (d3 : decode cc (pc + 3) = .ok (.dup, 1)) (d4 : decode cc (pc + 4) = .ok (.ldc is, 2)) (d6 : decode cc (pc + 6) = .ok (.invokespecial ic, 3)) (d9 : decode cc (pc + 9) = .ok (.athrow, 1))
    (hout : ∀ x ∈ c.exceptionTable.toList, covers x (pc + 9) = false)
    (hRframes : names.length + 3 < R.frames) (hRlocals : (rest.map fun v => v.category).sum + (13 * (names.length + 1) + 43) ≤ R.locals) (hRcells : cells + 1 ≤ R.cells) (hRslots : slots + 6 ≤ R.slots) (hlocks : meth.locks = false)
    (hx : ∀ t : State, s.vm.Alike t.vm → H.size ≤ t.heap.size → (∀ q : Nat, q < H.size → t.heap[q]? = H[q]?) → XC cls s t)
    (hf : ∀ z ∈ locs, free z.base) (hc : cells + 1 ≤ mc) (hs : slots + 6 ≤ ms) :
    W p l e R s m args below meth c H locs cells slots (vx_MQ below Qc XC args s mc ms free) (F0 m pc ls rest) := by
  intro T hT X
  have htr : e.platform.stackTraces = false := (show e.platform.stackTraces = l.stackTraces by rw [X.admits.platform]).trans hl
  have Y := vx_rebase X (R' := { frames := R.frames, locals := R.locals, cells := 1, slots := 6 }) (Nat.le_refl _) (Nat.le_refl _) hRcells hRslots
  obtain ⟨s', hA⟩ : ∃ z, z = (T.setVm s.vm).setFrames (.invoking m args :: below) := ⟨_, rfl⟩
  rw [← hA] at Y
  have hvm : s'.vm = s.vm := by rw [hA]; rfl
  have hhp : s'.heap = H := by rw [hA]; exact hT
  have hW0 : s.WarmedH s'.vm := by rw [hvm]; exact State.WarmedH.refl s
  have hat' : ∀ w ∈ vx_atS own ic cls names, w.before args s' = true := fun w hw => vx_ot_at hW0 hvm.symm (hgood w (List.mem_cons_of_mem _ (List.mem_cons_of_mem _ hw))) (hat w hw)
  have hk' : (Cond.classLink own ik cls).before args s' = true := vx_ot_at hW0 hvm.symm (hgood _ List.mem_cons_self) hk
  have hini' : (Cond.initialized cls).before args s' = true := vx_ot_at hW0 hvm.symm (hgood _ (List.mem_cons_of_mem _ List.mem_cons_self)) hini
  have hU' : vx_Zq Bundle.tN "UNASSIGNED_STACK" Bundle.steD A s' s'.heap := by rw [hhp]; exact vx_Zq.moved hW0.alike (hU.kept hS.2.1)
  have hN' : vx_Zq Bundle.tN "SUPPRESSED_SENTINEL" Bundle.listD A s' s'.heap := by rw [hhp]; exact vx_Zq.moved hW0.alike (hN.kept hS.2.1)
  have h : ∀ w ∈ Bundle.ownAtoms own ic cls names, w.before args s' = true := vx_own hat' (vx_isRefq hU'.1) (vx_isRefq hN'.1) hU'.2.word hN'.2.word
  have hown' : s'.vm.findClass own = some m.cls := by rw [hvm]; exact hown
  have hins : (Cond.instantiable cls 6).before args s' = true := h _ (by simp [Bundle.ownAtoms])
  obtain ⟨vm₁, cX, kX, hfX, hkX, -, -, X₁, st1⟩ := Y.newCold hexec (own := own) (C := cls) (index := ik) (n := 6) hown' hk' hins hini'
    (g := F0 m pc ls rest) rfl (by rw [hb]; exact d0) (Nat.le_refl _) (Nat.le_refl _)
  generalize hT1 : (T.setVm vm₁).pushCell { cls := cX, slots := kX.instanceTypes.map defaultValue, vm := .none } = T1 at X₁ st1
  have hcat : (Value.ref T.heap.size).category = 1 := rfl
  have hcellA : T1.heap[T.heap.size]? = some (freshCell cX kX) := by rw [← hT1]; exact State.heap_pushCell_size _ _
  have d3' : decode c.code (pc + 3) = .ok (.dup, 1) := by rw [hb]; exact d3
  have d4' : decode c.code (pc + 4) = .ok (.ldc is, 2) := by rw [hb]; exact d4
  have hstr' : vk_R own is text sa s' := vk_R.warm hW0 hstr
  obtain ⟨U, hsteps, hrun, hend, hW, hsame, ce, hce, hO⟩ := X₁.ctorThrowS hexec htr (own := own) (cls := cls) (names := names) (ic := ic) hown' hcls hnames h (fun x hx => nomatch hx) hfX hkX hcellA (by rw [hhp, hT]; exact Nat.le_refl _) (msg := .ref sa) rfl
    (g := { method := m, pc := pc + 6, locals := ls, stack := .ref sa :: .ref T.heap.size :: .ref T.heap.size :: rest, locked := none }) rfl hsize rfl rfl (rest := rest) rfl
    (by rw [hb]; exact d6) (by rw [hb]; exact d9) hout hRframes (by simp only [List.map_cons, List.sum_cons, hcat]; omega) hlocks
  obtain ⟨f1, f2⟩ := vx_frame hsame
  rw [hhp] at f1 f2
  have hWs : s.WarmedH U.vm := State.WarmedH.trans hW0 hW
  have hcl : s.vm.findClass cls = some ce.cls := by
    have h9 := hO.cls
    rw [hvm] at h9
    exact h9
  have hall : s.sameButNew ({ U with vm := s.vm } : State) locs mc ms := by
    subst hA
    obtain ⟨e1, e2⟩ := hsame
    rw [State.setFrames_setFrames] at e1
    have h2 : (T.setVm s.vm).sameButNew ({ U with vm := s.vm } : State) [] (0 + 1) (0 + 6) := ⟨e1, e2⟩
    have h3 := X.same.trans h2
    rw [List.append_nil] at h3
    exact h3.mono hc hs
  refine ⟨U, ?_, .threw T.heap.size, hrun, hend, Or.inr ⟨T.heap.size, rfl, cls, ce, locs, hx U hWs.alike f1 (fun q hq => f2 q hq (fun z hz => nomatch hz)), hce, hO.vm, hcl, hWs, hall, hf⟩⟩
  refine st1 _ ?_
  show Steps p.tables e below (T1.setTop { method := m, pc := pc + 3, locals := ls, stack := .ref T.heap.size :: rest, locked := none }) _
  jvm_step X₁.here [X₁.here.top, hexec, d3', Value.category]
  exact X₁.ldcString hexec (own := own) (text := text) (index := is) (a := sa) hown' hstr'.1 hstr'.2
    (g := { method := m, pc := pc + 4, locals := ls, stack := .ref T.heap.size :: .ref T.heap.size :: rest, locked := none }) rfl d4' _ hsteps
/-- 'throw new E("text")', the text by a wide index -/
theorem vx_throwSW {cc : ByteArray} {pc : Nat} (hexec : p.tables.exec = Jvm.exec) (hb : c.code = cc) (hl : l.stackTraces = false) {own cls text : String} {names : List String} {ik is ic mc ms sa : Nat} {A : Nat → Prop}
    (hown : s.vm.findClass own = some m.cls) (hcls : Bundle.fit cls = true) (hnames : ∀ n ∈ names, Bundle.fit n = true)
    (hk : (Cond.classLink own ik cls).before args s = true) (hini : (Cond.initialized cls).before args s = true) (hstr : vk_R own is text sa s) (hat : ∀ w ∈ vx_atS own ic cls names, w.before args s = true)
    (hgood : ∀ w ∈ Cond.classLink own ik cls :: Cond.initialized cls :: vx_atS own ic cls names, vx_ot w = true)
    (hU : vx_Zq Bundle.tN "UNASSIGNED_STACK" Bundle.steD A s s.heap) (hN : vx_Zq Bundle.tN "SUPPRESSED_SENTINEL" Bundle.listD A s s.heap) (hS : va_S A s.heap H locs) (hsize : ls.size = c.maxLocals)
    (d0 : decode cc pc = .ok (.new ik, 3)) (d3 : decode cc (pc + 3) = .ok (.dup, 1)) (d4 : decode cc (pc + 4) = .ok (.ldc_w is, 3)) (d7 : decode cc (pc + 7) = .ok (.invokespecial ic, 3)) (d10 : decode cc (pc + 10) = .ok (.athrow, 1))
    (hout : ∀ x ∈ c.exceptionTable.toList, covers x (pc + 10) = false)
    (hRframes : names.length + 3 < R.frames) (hRlocals : (rest.map fun v => v.category).sum + (13 * (names.length + 1) + 43) ≤ R.locals) (hRcells : cells + 1 ≤ R.cells) (hRslots : slots + 6 ≤ R.slots) (hlocks : meth.locks = false)
    (hx : ∀ t : State, s.vm.Alike t.vm → H.size ≤ t.heap.size → (∀ q : Nat, q < H.size → t.heap[q]? = H[q]?) → XC cls s t)
    (hf : ∀ z ∈ locs, free z.base) (hc : cells + 1 ≤ mc) (hs : slots + 6 ≤ ms) :
    W p l e R s m args below meth c H locs cells slots (vx_MQ below Qc XC args s mc ms free) (F0 m pc ls rest) := by
  intro T hT X
  have htr : e.platform.stackTraces = false := (show e.platform.stackTraces = l.stackTraces by rw [X.admits.platform]).trans hl
  have Y := vx_rebase X (R' := { frames := R.frames, locals := R.locals, cells := 1, slots := 6 }) (Nat.le_refl _) (Nat.le_refl _) hRcells hRslots
  obtain ⟨s', hA⟩ : ∃ z, z = (T.setVm s.vm).setFrames (.invoking m args :: below) := ⟨_, rfl⟩
  rw [← hA] at Y
  have hvm : s'.vm = s.vm := by rw [hA]; rfl
  have hhp : s'.heap = H := by rw [hA]; exact hT
  have hW0 : s.WarmedH s'.vm := by rw [hvm]; exact State.WarmedH.refl s
  have hat' : ∀ w ∈ vx_atS own ic cls names, w.before args s' = true := fun w hw => vx_ot_at hW0 hvm.symm (hgood w (List.mem_cons_of_mem _ (List.mem_cons_of_mem _ hw))) (hat w hw)
  have hk' : (Cond.classLink own ik cls).before args s' = true := vx_ot_at hW0 hvm.symm (hgood _ List.mem_cons_self) hk
  have hini' : (Cond.initialized cls).before args s' = true := vx_ot_at hW0 hvm.symm (hgood _ (List.mem_cons_of_mem _ List.mem_cons_self)) hini
  have hU' : vx_Zq Bundle.tN "UNASSIGNED_STACK" Bundle.steD A s' s'.heap := by rw [hhp]; exact vx_Zq.moved hW0.alike (hU.kept hS.2.1)
  have hN' : vx_Zq Bundle.tN "SUPPRESSED_SENTINEL" Bundle.listD A s' s'.heap := by rw [hhp]; exact vx_Zq.moved hW0.alike (hN.kept hS.2.1)
  have h : ∀ w ∈ Bundle.ownAtoms own ic cls names, w.before args s' = true := vx_own hat' (vx_isRefq hU'.1) (vx_isRefq hN'.1) hU'.2.word hN'.2.word
  have hown' : s'.vm.findClass own = some m.cls := by rw [hvm]; exact hown
  have hins : (Cond.instantiable cls 6).before args s' = true := h _ (by simp [Bundle.ownAtoms])
  obtain ⟨vm₁, cX, kX, hfX, hkX, -, -, X₁, st1⟩ := Y.newCold hexec (own := own) (C := cls) (index := ik) (n := 6) hown' hk' hins hini'
    (g := F0 m pc ls rest) rfl (by rw [hb]; exact d0) (Nat.le_refl _) (Nat.le_refl _)
  generalize hT1 : (T.setVm vm₁).pushCell { cls := cX, slots := kX.instanceTypes.map defaultValue, vm := .none } = T1 at X₁ st1
  have hcat : (Value.ref T.heap.size).category = 1 := rfl
  have hcellA : T1.heap[T.heap.size]? = some (freshCell cX kX) := by rw [← hT1]; exact State.heap_pushCell_size _ _
  have d3' : decode c.code (pc + 3) = .ok (.dup, 1) := by rw [hb]; exact d3
  have d4' : decode c.code (pc + 4) = .ok (.ldc_w is, 3) := by rw [hb]; exact d4
  have hstr' : vk_R own is text sa s' := vk_R.warm hW0 hstr
  obtain ⟨U, hsteps, hrun, hend, hW, hsame, ce, hce, hO⟩ := X₁.ctorThrowS hexec htr (own := own) (cls := cls) (names := names) (ic := ic) hown' hcls hnames h (fun x hx => nomatch hx) hfX hkX hcellA (by rw [hhp, hT]; exact Nat.le_refl _) (msg := .ref sa) rfl
    (g := { method := m, pc := pc + 7, locals := ls, stack := .ref sa :: .ref T.heap.size :: .ref T.heap.size :: rest, locked := none }) rfl hsize rfl rfl (rest := rest) rfl
    (by rw [hb]; exact d7) (by rw [hb]; exact d10) hout hRframes (by simp only [List.map_cons, List.sum_cons, hcat]; omega) hlocks
  obtain ⟨f1, f2⟩ := vx_frame hsame
  rw [hhp] at f1 f2
  have hWs : s.WarmedH U.vm := State.WarmedH.trans hW0 hW
  have hcl : s.vm.findClass cls = some ce.cls := by
    have h9 := hO.cls
    rw [hvm] at h9
    exact h9
  have hall : s.sameButNew ({ U with vm := s.vm } : State) locs mc ms := by
    subst hA
    obtain ⟨e1, e2⟩ := hsame
    rw [State.setFrames_setFrames] at e1
    have h2 : (T.setVm s.vm).sameButNew ({ U with vm := s.vm } : State) [] (0 + 1) (0 + 6) := ⟨e1, e2⟩
    have h3 := X.same.trans h2
    rw [List.append_nil] at h3
    exact h3.mono hc hs
  refine ⟨U, ?_, .threw T.heap.size, hrun, hend, Or.inr ⟨T.heap.size, rfl, cls, ce, locs, hx U hWs.alike f1 (fun q hq => f2 q hq (fun z hz => nomatch hz)), hce, hO.vm, hcl, hWs, hall, hf⟩⟩
  refine st1 _ ?_
  show Steps p.tables e below (T1.setTop { method := m, pc := pc + 3, locals := ls, stack := .ref T.heap.size :: rest, locked := none }) _
  jvm_step X₁.here [X₁.here.top, hexec, d3', Value.category]
  exact X₁.ldcStringW hexec (own := own) (text := text) (index := is) (a := sa) hown' hstr'.1 hstr'.2
    (g := { method := m, pc := pc + 4, locals := ls, stack := .ref T.heap.size :: .ref T.heap.size :: rest, locked := none }) rfl d4' _ hsteps
end Ends
section Bodies
variable {l : Launch}
theorem vx_ofW {y : MethodName} {ws ws' : List Cond} {rm : Room} {Pc : Array Value → State → Prop} {Qc : Array Value → State → Outcome → State → Prop} {XC : String → State → State → Prop} {mc ms : Nat} {free : Addr → Prop} {cc : ByteArray} {maxL : Nat} {ret : Option FieldType}
    (hy : plainName y.cls = true) (hw : ws = Cond.code y cc maxL ret :: ws')
    (body : ∀ p e s m args below meth c s₁, BodyLoose p l y (headSpec ws rm) cc maxL ret e s m args below meth c s₁ → c.maxLocals = maxL → (∀ x ∈ c.exceptionTable.toList, False) → Pc args s →
      W p l e (headSpec ws rm).room s m args below meth c s.heap [] 0 0 (vx_MQ below Qc XC args s mc ms free) (entryFrame m args maxL)) : vx_Met l y ws rm Pc Qc XC mc ms free := by
  refine MetFree.of_bodyS (code := cc) (maxLocals := maxL) (ret := ret) hy ?_ ?_
  · intro args s m h hn
    obtain ⟨meth, c, h1, h2, h3, h4, h5, h6, -, -⟩ := Cond.code_spec hn (atoms_spec (ws := ws) h _ (by rw [hw]; exact List.mem_cons_self))
    exact ⟨meth, c, h1, h2, h3, h4, h5, h6⟩
  · intro p e s m args below meth c s₁ B hml hP _
    have hh0 : s₁.heap = s.heap := by rw [B.state]; rfl
    have ht : ∀ x ∈ c.exceptionTable.toList, False := by
      obtain ⟨meth9, c9, h1, h2, -, -, -, -, h7, -⟩ := Cond.code_spec B.named (atoms_spec (ws := ws) B.pre _ (by rw [hw]; exact List.mem_cons_self))
      cases Option.some.inj (h1.symm.trans B.method)
      cases Option.some.inj (h2.symm.trans (Stand.of_body B).code)
      intro x hx
      rw [Array.isEmpty_iff.mp h7] at hx
      cases hx
    obtain ⟨t, a1, o, b1, b2, b3⟩ := body p e s m args below meth c s₁ B hml ht hP s₁ hh0 (Stand.of_body B)
    exact ⟨t, o, a1, b1, b2, b3⟩
/-- the table of a body with handlers -/
theorem vx_table {p : Program} {x y : MethodName} {S : Spec} {cc bytes : ByteArray} {maxL maxL' : Nat} {ret ret' : Option FieldType} {e : Env} {s s₁ : State} {m : MethodId} {args : Array Value} {below : List Frame} {meth : Method} {c : Code} {hh : List (Nat × Nat × Nat × Nat)}
    (B : BodyLoose p l y S cc maxL ret e s m args below meth c s₁) (h : (Cond.codeWith y bytes maxL' ret' hh).before args s = true) : c.exceptionTable.toList = tableOf hh := by
  obtain ⟨m9, meth9, c9, hn9, h1, h2, -, -, h6, -⟩ := Cond.codeWith_spec h
  cases Option.some.inj (hn9.symm.trans B.named)
  cases Option.some.inj (h1.symm.trans B.method)
  cases Option.some.inj (h2.symm.trans (Stand.of_body B).code)
  rw [← h6, table_eq]
end Bodies
end VXA
/-! ===== END ===== -/
/-! ===== BEGIN a static call of a method with an exception table ===== -/
section VXS
variable {p : Program} {l : Launch} {e : Env} {R : Room} {s : State} {m : MethodId} {args : Array Value} {below : List Frame} {meth : Method} {c : Code} {T : State} {H : Heap} {locs : List Loc} {cells slots : Nat}
abbrev vx_CSW (R : Room) (s : State) (args : Array Value) (own : String) (index : Nat) (y : MethodName) (bytes : ByteArray) (maxL : Nat) (ret : Option FieldType) (hh : List (Nat × Nat × Nat × Nat)) (ws : List Cond) (rm : Room) (mc ms n : Nat) : Prop :=
  (rm.cells = mc ∧ rm.slots = ms ∧ rm.frames + 1 ≤ R.frames ∧ 8 + (maxL + 11) + rm.locals ≤ R.locals ∧ (∀ w ∈ ws, ∀ (a' : Array Value) (U : State), s.WarmedH U.vm → w.before a' U = true) ∧ Cond.codeWith y bytes maxL ret hh ∈ ws) ∧
  (Cond.codeWith y bytes maxL ret hh).before args s = true ∧ (Cond.initialized y.cls).before args s = true ∧ (y.cls ≠ "java/lang/invoke/MethodHandle" ∧ y.cls ≠ "java/lang/invoke/VarHandle") ∧
  (∀ sig, parseMethodDescriptor y.desc = some sig → n = sig.parameters.length) ∧ (Cond.methodLink own index y).before args s = true ∧ (Cond.static y).before args s = true
theorem vx_cwSW {own : String} {index maxL mc ms : Nat} {y : MethodName} {bytes : ByteArray} {ret : Option FieldType} {hh : List (Nat × Nat × Nat × Nat)} {Ts ws ws' : List Cond} {rm : Room} (n : Nat) (ht : ∀ w ∈ Ts, w.before args s = true) (hT : GoodIn Ts (va_wsS own index y ws)) (hw : ws = Cond.codeWith y bytes maxL ret hh :: ws') (hrc : rm.cells = mc) (hrs : rm.slots = ms)
    (hd : y.cls ≠ "java/lang/invoke/MethodHandle" ∧ y.cls ≠ "java/lang/invoke/VarHandle" ∧ (parseMethodDescriptor y.desc).map (fun d => d.parameters.length) = some n) (hR : rm.frames + 1 ≤ R.frames ∧ 8 + (maxL + 11) + rm.locals ≤ R.locals) :
    vx_CSW R s args own index y bytes maxL ret hh ws rm mc ms n := by
  have ok : ∀ w ∈ va_wsS own index y ws, w.before args s = true := fun w h => ht w (hT w h).1
  have hG : GoodIn Ts ws := fun w h => hT w (by unfold va_wsS; exact List.mem_append_right _ h)
  have hc : Cond.codeWith y bytes maxL ret hh ∈ ws := by rw [hw]; exact List.mem_cons_self
  refine ⟨⟨hrc, hrs, hR.1, hR.2, pay_in ht hG, hc⟩, ht _ (hG _ hc).1, ok _ (by simp [va_wsS]), ⟨hd.1, hd.2.1⟩, fun sig h => ?_, ok _ (by simp [va_wsS]), ok _ (by simp [va_wsS])⟩
  have h2 := hd.2.2
  rw [h] at h2
  exact (Option.some.inj h2).symm
theorem vx_callSW (X : Stand p l e R s m args below meth c T locs cells slots) (hexec : p.tables.exec = Jvm.exec) {own : String} {index : Nat} {y : MethodName} {bytes : ByteArray} {maxL : Nat} {ret : Option FieldType} {hh : List (Nat × Nat × Nat × Nat)}
    (hown : s.vm.findClass own = some m.cls) (hlink : (Cond.methodLink own index y).before args s = true) (hstat : (Cond.static y).before args s = true) (hinit : (Cond.initialized y.cls).before args s = true)
    (hcode : (Cond.codeWith y bytes maxL ret hh).before args s = true) (hy : y.cls ≠ "java/lang/invoke/MethodHandle" ∧ y.cls ≠ "java/lang/invoke/VarHandle")
    {W9 : Nat} {Pre : Pt → Array Value → Prop} {Post : Pt → Array Value → Option Value → Pt → Prop} (hK : Back l R p e below s args y 3 W9 Pre Post)
    {g : JFrame} (hg : g.method = m) (hsize : g.locals.size = c.maxLocals) {argsL rest : List Value} (hlen : ∀ sig, parseMethodDescriptor y.desc = some sig → argsL.length = sig.parameters.length)
    (hstack : g.stack = argsL.reverse ++ rest) (hW : 2 * g.monitorRoom + (rest.map fun v => v.category).sum ≤ W9) (hdg : decode c.code g.pc = .ok (.invokestatic index, 3))
    (hpre : ∀ vm₁, s.WarmedH vm₁ → Pre ⟨T.setVm vm₁, locs, cells, slots⟩ argsL.toArray) :
    ∃ (v : Option Value) (vm₁ : Vm) (B : Pt), s.WarmedH vm₁ ∧ Stand p l e R s m args below meth c B.U B.locs B.cells B.slots ∧ Post ⟨T.setVm vm₁, locs, cells, slots⟩ argsL.toArray v B ∧
      ∀ target, Steps p.tables e below (B.U.setTop { g with pc := g.pc + 3, stack := v.toList ++ rest }) target → Steps p.tables e below (T.setTop g) target := by
  obtain ⟨mk, methM, cM, hnamed, hmethM, -, -, -, -, -, -, hsigM⟩ := Cond.codeWith_spec hcode
  have hstatic : methM.isStatic = true := Cond.static_spec hnamed hmethM hstat
  obtain ⟨kP, hkP, -⟩ := className_of_methodNamed hnamed
  have hinitP : kP.init = .initialized := Cond.initialized_spec (findClass_of_methodNamed hnamed) hkP hinit
  obtain ⟨vm₁, X₁, hstep₁⟩ := X.invokestatic hexec hown hlink hnamed hmethM hstatic hkP hinitP hy (g := g) hg (argsL := argsL) (rest := rest) (hlen _ hsigM) hstack hdg
  obtain ⟨v, B, X', hpost, hsteps⟩ := hK m meth c ⟨T.setVm vm₁, locs, cells, slots⟩ { g with stack := rest } (.invokestatic index) mk argsL.toArray X₁ hg hsize hdg hW (X₁.named hnamed) (hpre vm₁ X₁.warmed)
  exact ⟨v, vm₁, B, X₁.warmed, X', hpost, fun target h => hstep₁ _ fun acts => by rw [doInvoke_state]; exact hsteps.trans h⟩
theorem vx_runSW {y : MethodName} {bytes cc : ByteArray} {maxL nL mc ms n index : Nat} {ret : Option FieldType} {hh : List (Nat × Nat × Nat × Nat)} {ws : List Cond} {rm : Room} {Pc : Array Value → State → Prop} {Qc : Array Value → State → Outcome → State → Prop} {free : Addr → Prop} {Ts : List Cond} {own : String} {As rest : List Value} {g : JFrame}
    (S : CallFix p m c cc nL s args Ts own) (hM : Met l y ws rm Pc Qc mc ms free) (cw : vx_CSW R s args own index y bytes maxL ret hh ws rm mc ms n) (hp : PreS s H Pc As)
    (hg : g.method = m) (hn : As.length = n) (hsize : g.locals.size = nL) (hstack : g.stack = As.reverse ++ rest) (hW : 2 * g.monitorRoom + (rest.map fun v => v.category).sum ≤ 8) (hdg : decode cc g.pc = .ok (.invokestatic index, 3)) (hf : cells + mc ≤ R.cells ∧ slots + ms ≤ R.slots) :
    va_Run p l e R s m args below meth c H locs cells slots mc ms g rest (Qc As.toArray) (free) := by
  obtain ⟨⟨hrc, hrs, hfr, hlo, hws, hcw⟩, hcode, hini, hy, hlen, hl, hstt⟩ := cw
  have hK : Back l R p e below s args y 3 8 (PreOf R mc ms Pc) (PostOf Qc mc ms free) := va_backW (hh := hh) (bytes := bytes) (maxL := maxL) (ret := ret) hM hp.1 hrc hrs hfr hlo hws hcw (fun a' U hW => word_at hW (Or.inl (by first | rfl | simp [Cond.onTables, Cond.keeps, Cond.steady])) hini)
  obtain ⟨hx, hb, hml, ho, -⟩ := S
  intro T hT X
  obtain ⟨v, vm₁, ⟨U', l2, c2, s2⟩, hW₁, X', ⟨g', mk, t, L, e1, e2, hq, h1, hL, h2, h3⟩, st⟩ := vx_callSW X hx (hh := hh) (bytes := bytes) (maxL := maxL) (ret := ret) ho hl hstt hini hcode hy hK hg (hsize.trans hml.symm) (argsL := As) (rest := rest) (fun sig h => hn.trans (hlen sig h)) hstack hW (by rw [hb]; exact hdg)
    (fun vm₁ hW₁ => ⟨hf.1, hf.2, hp.2 (T.setVm vm₁) hT hW₁⟩)
  dsimp only [Pt.U, Pt.locs, Pt.cells, Pt.slots] at X' e1 e2 h1 h2 h3 st
  subst h1; subst h2; subst h3
  exact ⟨v, (T.setVm vm₁).calling g' mk As.toArray, t, U', L, hT, X', hL, e1, e2, hq, st⟩
/-- not caught here, past rows that name other classes: it goes on to the caller -/
theorem vx_outP {p : Program} {l : Launch} {e : Env} {R : Room} {s : State} {m : MethodId} {args : Array Value} {below : List Frame} {meth : Method} {c : Code} {H : Heap} {locs : List Loc} {cells slots : Nat} {free : Addr → Prop} {ls : Array Slot} {rest : List Value} {Qc : Array Value → State → Outcome → State → Prop} {XC : String → State → State → Prop}
    {pc : Nat} {own E : String} {ce : Cell} {q : Addr} {mc ms : Nat} (hown : s.vm.findClass own = some m.cls) (hlocks : meth.locks = false)
    (hpass : ∀ z ∈ c.exceptionTable.toList, covers z pc = false ∨ (z.catchType ≠ 0 ∧ ∃ nm : String, (Cond.classLink own z.catchType nm).before args s = true ∧ va_Nc E nm s)) (hcell : H[q]? = some ce) (hv : ce.vm = .none) (hcl : s.vm.findClass E = some ce.cls)
    (hx : ∀ t : State, t.heap = H → s.vm.Alike t.vm → XC E s t) (hf : ∀ z ∈ locs, free z.base) (hc : cells ≤ mc) (hs : slots ≤ ms) :
    vx_W p l e R s m args below meth c H locs cells slots (vx_MQ below Qc XC args s mc ms free) (F0 m pc ls rest) q := by
  intro T hT X
  have hpl : e.platform.magicAccessors = ({} : Platform).magicAccessors := by rw [X.admits.platform]
  obtain ⟨vm', hW', X', st⟩ := X.outThrough hlocks q (g := F0 m pc ls rest) rfl rfl rfl (cell := ce) (by rw [hT]; exact hcell) (by rw [hv]; rfl)
    (by obtain ⟨k9, h9, -⟩ := Vm.findClass_spec hcl; exact ⟨k9, h9⟩) (fun z hz => by
      rcases hpass z hz with h | ⟨hz0, nm, hl1, hn1⟩
      · exact Or.inl h
      · obtain ⟨c6, hc6, hcl6⟩ := Cond.classLink_spec hown hl1 e.platform hpl
        obtain ⟨a8, b8, h1, h2, h3⟩ := hn1
        cases Option.some.inj (h1.symm.trans hcl)
        cases Option.some.inj (h2.symm.trans hc6)
        exact Or.inr ⟨hz0, _, hcl6, h3⟩)
  obtain ⟨g₀, hfr⟩ := X'.frames_eq
  have hcell9 : ((T.setVm vm').setFrames (.throwing q :: below)).heap[q]? = some ce := by
    show T.heap[q]? = some ce
    rw [hT]; exact hcell
  have hend : Ended ((T.setVm vm').setFrames (.throwing q :: below)) below (.threw q) := State.frames_setFrames _ (State.cur_lt_of_frames hfr)
  refine ⟨(T.setVm vm').setFrames (.throwing q :: below), ?_, .threw q, X'.here.running, hend, Or.inr ⟨q, rfl, E, ce, locs, hx _ hT (X'.ends _).1.alike, hcell9, hv, hcl, (X'.ends _).1, (X'.ends _).2.mono hc hs, hf⟩⟩
  rw [X.pushThrowing_eq]
  exact st
/-- a thing of a world lies in the heap -/
theorem vx_lt {D : va_G} {cl : List vw_C} {ws : va_W} {H1 : Heap} (h : va_P D cl ws H1) {k : Nat} {q : Nat × va_E} (hk : ws[k]? = some q) : q.1 < H1.size := (h k q hk).lt
end VXS
/-! ===== END ===== -/
/-! ===== BEGIN methods with a table of their own: called by a name, returning or throwing ===== -/
section VXH
/-! vx_backW, vx_callVX, vx_callSX, vx_callVW, vx_runVW, vx_runVX, vx_runSX, vx_ofWH follow the same proofs as their sisters above (Free/Laws.lean, Shelf42/LK1.lean); vx_outP calls Shelf42/NT130.lean (outThrough). -/
section
variable {l : Launch} {R : Room} {p : Program} {e : Env} {below : List Frame} {s : State} {sargs : Array Value} {y : MethodName} {len W9 : Nat}
theorem vx_backW {ws : List Cond} {rm : Room} {Pc : Array Value → State → Prop} {Qc : Array Value → State → Outcome → State → Prop} {XC : String → State → State → Prop} {mc ms : Nat} {free : Addr → Prop} {bytes : ByteArray} {maxL : Nat} {ret : Option FieldType} {hh : List (Nat × Nat × Nat × Nat)}
    (hM : vx_Met l y ws rm Pc Qc XC mc ms free) (hblind : FrameBlind Pc) (hrc : rm.cells = mc) (hrs : rm.slots = ms)
    (hframes : rm.frames + 1 ≤ R.frames) (hlocals : W9 + (maxL + 11) + rm.locals ≤ R.locals)
    (hws : ∀ w ∈ ws, ∀ a' U, s.WarmedH U.vm → w.before a' U = true) (hcode : Cond.codeWith y bytes maxL ret hh ∈ ws) (hinit : ∀ a' U, s.WarmedH U.vm → (Cond.initialized y.cls).before a' U = true) :
    vx_Back l R p e below s sargs y len W9 (PreOf R mc ms Pc) (PostOf Qc mc ms free) (vx_Post XC mc ms free) := by
  intro m meth c A g ig mk a X hg hsize hdg hW hn hp
  have h1 : (headSpec ws rm).pre.before a A.U = true := atoms_intro fun w hw => hws w hw _ _ X.warmed
  have h2 : (Cond.codeWith y bytes maxL ret hh).before a A.U = true := hws _ hcode _ _ X.warmed
  have h3 : (Cond.initialized y.cls).before a A.U = true := hinit _ _ X.warmed
  have h4 : A.cells + (headSpec ws rm).room.cells ≤ R.cells := by rw [show (headSpec ws rm).room.cells = mc from hrc]; exact hp.1
  have h5 : A.slots + (headSpec ws rm).room.slots ≤ R.slots := by rw [show (headSpec ws rm).room.slots = ms from hrs]; exact hp.2.1
  have hPc : Pc a (A.U.calling g mk a) := hblind _ _ _ _ hp.2.2
  obtain ⟨U, Ls, c0, s0⟩ := A
  dsimp only [Pt.U, Pt.locs, Pt.cells, Pt.slots] at h1 h2 h3 h4 h5 X hn hPc ⊢
  obtain ⟨m9, methY, cY, hn9, hmY, hcY, -, hlY, -⟩ := Cond.codeWith_spec h2
  cases Option.some.inj (hn9.symm.trans hn)
  obtain ⟨kY, hkY, -⟩ := className_of_methodNamed hn
  have hinitY : kY.init = .initialized := Cond.initialized_spec (findClass_of_methodNamed hn) hkY h3
  have h : At U g.method c below := by rw [hg]; exact X.here
  have hlocals9 : W9 + (maxL + 11) + (headSpec ws rm).room.locals ≤ R.locals := hlocals
  have happ : (headSpec ws rm).appliesLoose y e.platform (U.calling g mk a) = true :=
    Spec.appliesLoose_calling (g := g) h hdg hn hkY hinitY
      (X.room_calling (g := g) (R' := (headSpec ws rm).room) hsize hmY hcY hframes (by rw [hlY]; omega) h4 h5) h1
  obtain ⟨mid, hmid⟩ := h.above
  have hfr : (U.setTop g).frames = (.java g :: mid) ++ below := by rw [State.frames_setTop' g h.top, hmid]; rfl
  obtain ⟨o, s₂, hsteps, -, hend, hq⟩ := Steps.callFree hM p X.admits X.cas X.clock (acts := []) hfr happ hPc trivial
  have hq' : vx_Q Qc XC mc ms free a (U.calling g mk a) o s₂ := hq
  rw [State.frames_setTop' g h.top] at hend
  obtain ⟨g₀, hg0⟩ := Option.isSome_iff_exists.mp h.top
  obtain ⟨r, hr⟩ := State.topJava?_eq_some.mp hg0
  have hr' : (({ U with heap := s₂.heap, slotsUsed := s₂.slotsUsed } : State).setVm s₂.vm).frames = .java g₀ :: r := hr
  rcases hq' with ⟨hqc, L, hfe, hL⟩ | ⟨q, rfl, E, ce, L, hx, hce, hcv, hcl, hW₂, hsm, hL⟩
  · obtain ⟨⟨v, rfl⟩, hW₂, e2, q2, q3, q4, q5, q6⟩ := id hfe
    have e3 : s₂ = ({ (U.calling g mk a).setFrames s₂.frames with heap := s₂.heap, slotsUsed := s₂.slotsUsed } : State).setVm s₂.vm := by
      have : s₂ = ({ s₂ with vm := (U.calling g mk a).vm } : State).setVm s₂.vm := rfl
      rw [e2] at this
      exact this
    obtain ⟨c₂, i₂, len₂, hc₂, hd₂, hf₂⟩ := hend
    have hW' : U.WarmedH s₂.vm := hW₂
    have hcc : c₂ = c := by
      have h1 : s₂.code? g.method = U.code? g.method := by
        rw [State.code?_eq, State.code?_eq, hW'.alike.method?]
      exact Option.some.inj (hc₂.symm.trans (h1.trans h.code))
    subst hcc
    have hlen : len₂ = len := by rw [hdg] at hd₂; cases hd₂; rfl
    subst hlen
    have hs₂ : s₂ = (({ U with heap := s₂.heap, slotsUsed := s₂.slotsUsed } : State).setVm s₂.vm).setTop { g with pc := g.pc + len₂, stack := v.toList ++ g.stack } := by
      refine e3.trans ?_
      rw [hf₂, State.calling_eq h.top, State.setFrames_setFrames, State.setTop_of_frames _ hr', hr]
      rfl
    have hsame : U.sameButNew ({ U with heap := s₂.heap, slotsUsed := s₂.slotsUsed } : State) L mc ms := by
      refine ⟨?_, q2, q3, q4, q5, q6⟩
      obtain ⟨t, ht, -⟩ := State.frames_cons hr
      show ({ U with heap := s₂.heap, slotsUsed := s₂.slotsUsed } : State) = { U.setFrames U.frames with heap := s₂.heap, slotsUsed := s₂.slotsUsed }
      rw [State.setFrames_self ht]
    subst hg
    refine Or.inl ⟨v, ⟨(({ U with heap := s₂.heap, slotsUsed := s₂.slotsUsed } : State).setVm s₂.vm), Ls ++ L, c0 + mc, s0 + ms⟩,
      ⟨X.admits, X.cas, X.clock, X.frames, X.room, X.hears, X.method, X.code, (X.here.setHeapUsed s₂.heap s₂.slotsUsed).setVm hW'.alike, X.tail, State.WarmedH.trans X.warmed hW', X.limits, X.bytes, X.same.trans (hsame.setVm s.vm)⟩,
      ⟨g, mk, s₂, L, rfl, rfl, hqc, rfl, hL, rfl, rfl⟩, ?_⟩
    show Steps p.tables e below _ ((({ U with heap := s₂.heap, slotsUsed := s₂.slotsUsed } : State).setVm s₂.vm).setTop { g with pc := g.pc + len₂, stack := v.toList ++ g.stack })
    rw [← hs₂]
    exact hsteps
  · obtain ⟨e2, q2, q3, q4, q5, q6⟩ := id hsm
    have e3 : s₂ = ({ (U.calling g mk a).setFrames s₂.frames with heap := s₂.heap, slotsUsed := s₂.slotsUsed } : State).setVm s₂.vm := by
      have : s₂ = ({ s₂ with vm := (U.calling g mk a).vm } : State).setVm s₂.vm := rfl
      rw [e2] at this
      exact this
    have hf₂ : s₂.frames = .throwing q :: .java g :: U.frames.tail := hend
    have hW' : U.WarmedH s₂.vm := hW₂
    have hs₂ : s₂ = ((({ U with heap := s₂.heap, slotsUsed := s₂.slotsUsed } : State).setVm s₂.vm).setTop g).pushFrame (.throwing q) := by
      refine e3.trans ?_
      rw [hf₂, State.calling_eq h.top, State.setFrames_setFrames, State.pushFrame, State.frames_setTop _ hr', State.setTop_of_frames _ hr', State.setFrames_setFrames, hr]
      rfl
    have hsame : U.sameButNew ({ U with heap := s₂.heap, slotsUsed := s₂.slotsUsed } : State) L mc ms := by
      refine ⟨?_, q2, q3, q4, q5, q6⟩
      obtain ⟨t, ht, -⟩ := State.frames_cons hr
      show ({ U with heap := s₂.heap, slotsUsed := s₂.slotsUsed } : State) = { U.setFrames U.frames with heap := s₂.heap, slotsUsed := s₂.slotsUsed }
      rw [State.setFrames_self ht]
    subst hg
    refine Or.inr ⟨q, ⟨(({ U with heap := s₂.heap, slotsUsed := s₂.slotsUsed } : State).setVm s₂.vm), Ls ++ L, c0 + mc, s0 + ms⟩,
      ⟨X.admits, X.cas, X.clock, X.frames, X.room, X.hears, X.method, X.code, (X.here.setHeapUsed s₂.heap s₂.slotsUsed).setVm hW'.alike, X.tail, State.WarmedH.trans X.warmed hW', X.limits, X.bytes, X.same.trans (hsame.setVm s.vm)⟩,
      ⟨g, mk, s₂, L, E, ce, rfl, rfl, hx, hce, hcv, hcl, rfl, hL, rfl, rfl⟩, ?_⟩
    show Steps p.tables e below _ (((({ U with heap := s₂.heap, slotsUsed := s₂.slotsUsed } : State).setVm s₂.vm).setTop g).pushFrame (.throwing q))
    rw [← hs₂]
    exact hsteps
end
variable {p : Program} {l : Launch} {e : Env} {R : Room} {s : State} {m : MethodId} {args : Array Value} {below : List Frame} {meth : Method} {c : Code} {T : State} {H : Heap} {locs : List Loc} {cells slots : Nat}
theorem vx_callVX (X : Stand p l e R s m args below meth c T locs cells slots) (hexec : p.tables.exec = Jvm.exec) {own C : String} {index : Nat} {y : MethodName} {bytes : ByteArray} {maxL : Nat} {ret : Option FieldType} {hh : List (Nat × Nat × Nat × Nat)}
    (hown : s.vm.findClass own = some m.cls) (hlink : (Cond.methodLink own index y).before args s = true) (hinst : (Cond.instanceMethod y).before args s = true) (hsel : (Cond.selects C y y).before args s = true)
    (hcode : (Cond.codeWith y bytes maxL ret hh).before args s = true) (hy : y.cls ≠ "java/lang/invoke/MethodHandle" ∧ y.cls ≠ "java/lang/invoke/VarHandle")
    {W9 : Nat} {Pre : Pt → Array Value → Prop} {Post : Pt → Array Value → Option Value → Pt → Prop} {PostX : Pt → Array Value → Addr → Pt → Prop} (hK : vx_Back l R p e below s args y 3 W9 Pre Post PostX)
    {b : Addr} {cellB : Cell} (hcell : T.heap[b]? = some cellB) (hobj : cellB.vm.isStatics = false) (hcls : s.vm.findClass C = some cellB.cls)
    {g : JFrame} (hg : g.method = m) (hsize : g.locals.size = c.maxLocals) {argsL rest : List Value} (hlen : ∀ sig, parseMethodDescriptor y.desc = some sig → argsL.length = sig.parameters.length)
    (hstack : g.stack = argsL.reverse ++ .ref b :: rest) (hW : 2 * g.monitorRoom + (rest.map fun v => v.category).sum ≤ W9) (hdg : decode c.code g.pc = .ok (.invokevirtual index, 3))
    (hpre : ∀ vm₁, s.WarmedH vm₁ → Pre ⟨T.setVm vm₁, locs, cells, slots⟩ (Value.ref b :: argsL).toArray) :
    (∃ (v : Option Value) (vm₁ : Vm) (B : Pt), s.WarmedH vm₁ ∧ Stand p l e R s m args below meth c B.U B.locs B.cells B.slots ∧ Post ⟨T.setVm vm₁, locs, cells, slots⟩ (Value.ref b :: argsL).toArray v B ∧
      ∀ target, Steps p.tables e below (B.U.setTop { g with pc := g.pc + 3, stack := v.toList ++ rest }) target → Steps p.tables e below (T.setTop g) target) ∨
    (∃ (q : Addr) (vm₁ : Vm) (B : Pt), s.WarmedH vm₁ ∧ Stand p l e R s m args below meth c B.U B.locs B.cells B.slots ∧ PostX ⟨T.setVm vm₁, locs, cells, slots⟩ (Value.ref b :: argsL).toArray q B ∧
      Steps p.tables e below (T.setTop g) ((B.U.setTop { g with stack := rest }).pushFrame (.throwing q))) := by
  obtain ⟨mk, methM, hnamed, hmethM, hstM, habM⟩ := Cond.instanceMethod_spec hinst
  obtain ⟨m8, methM', cM, hn8, hmethM', -, -, -, -, -, -, hsigM⟩ := Cond.codeWith_spec hcode
  cases Option.some.inj (hn8.symm.trans hnamed)
  cases hmethM.symm.trans hmethM'
  obtain ⟨c2, r2, m2, q1, q2, q3, q4, kP, hkP, hkPi⟩ := Cond.selects_spec hsel
  cases hcls.symm.trans q1
  cases (State.methodFound?_of_named hnamed hy).symm.trans q2
  cases hnamed.symm.trans q3
  have hselP : selectMethod e.platform s.vm cellB.cls mk = .method mk := by rw [Launch.admits_selectMethod X.admits]; exact q4
  obtain ⟨vm₁, X₁, hstep₁⟩ := X.invokevirtual hexec hown hlink hnamed hmethM hstM hkP hkPi hy (a := b) (cell := cellB) hcell
    (fun z h => by rw [h] at hobj; cases hobj) hselP hmethM habM hkP hkPi (g := g) hg (argsL := argsL) (rest := rest) (hlen _ hsigM) hstack hdg
  rcases hK m meth c ⟨T.setVm vm₁, locs, cells, slots⟩ { g with stack := rest } (.invokevirtual index) mk (Value.ref b :: argsL).toArray X₁ hg hsize hdg hW (X₁.named hnamed) (hpre vm₁ X₁.warmed) with ⟨v, B, X', hpost, hsteps⟩ | ⟨q, B, X', hpost, hsteps⟩
  · exact Or.inl ⟨v, vm₁, B, X₁.warmed, X', hpost, fun target h => hstep₁ _ fun acts => by rw [doInvoke_state]; exact hsteps.trans h⟩
  · exact Or.inr ⟨q, vm₁, B, X₁.warmed, X', hpost, hstep₁ _ fun acts => by rw [doInvoke_state]; exact hsteps⟩
theorem vx_callSX (X : Stand p l e R s m args below meth c T locs cells slots) (hexec : p.tables.exec = Jvm.exec) {own : String} {index : Nat} {y : MethodName} {bytes : ByteArray} {maxL : Nat} {ret : Option FieldType} {hh : List (Nat × Nat × Nat × Nat)}
    (hown : s.vm.findClass own = some m.cls) (hlink : (Cond.methodLink own index y).before args s = true) (hstat : (Cond.static y).before args s = true) (hinit : (Cond.initialized y.cls).before args s = true)
    (hcode : (Cond.codeWith y bytes maxL ret hh).before args s = true) (hy : y.cls ≠ "java/lang/invoke/MethodHandle" ∧ y.cls ≠ "java/lang/invoke/VarHandle")
    {W9 : Nat} {Pre : Pt → Array Value → Prop} {Post : Pt → Array Value → Option Value → Pt → Prop} {PostX : Pt → Array Value → Addr → Pt → Prop} (hK : vx_Back l R p e below s args y 3 W9 Pre Post PostX)
    {g : JFrame} (hg : g.method = m) (hsize : g.locals.size = c.maxLocals) {argsL rest : List Value} (hlen : ∀ sig, parseMethodDescriptor y.desc = some sig → argsL.length = sig.parameters.length)
    (hstack : g.stack = argsL.reverse ++ rest) (hW : 2 * g.monitorRoom + (rest.map fun v => v.category).sum ≤ W9) (hdg : decode c.code g.pc = .ok (.invokestatic index, 3))
    (hpre : ∀ vm₁, s.WarmedH vm₁ → Pre ⟨T.setVm vm₁, locs, cells, slots⟩ argsL.toArray) :
    (∃ (v : Option Value) (vm₁ : Vm) (B : Pt), s.WarmedH vm₁ ∧ Stand p l e R s m args below meth c B.U B.locs B.cells B.slots ∧ Post ⟨T.setVm vm₁, locs, cells, slots⟩ argsL.toArray v B ∧
      ∀ target, Steps p.tables e below (B.U.setTop { g with pc := g.pc + 3, stack := v.toList ++ rest }) target → Steps p.tables e below (T.setTop g) target) ∨
    (∃ (q : Addr) (vm₁ : Vm) (B : Pt), s.WarmedH vm₁ ∧ Stand p l e R s m args below meth c B.U B.locs B.cells B.slots ∧ PostX ⟨T.setVm vm₁, locs, cells, slots⟩ argsL.toArray q B ∧
      Steps p.tables e below (T.setTop g) ((B.U.setTop { g with stack := rest }).pushFrame (.throwing q))) := by
  obtain ⟨mk, methM, cM, hnamed, hmethM, -, -, -, -, -, -, hsigM⟩ := Cond.codeWith_spec hcode
  have hstatic : methM.isStatic = true := Cond.static_spec hnamed hmethM hstat
  obtain ⟨kP, hkP, -⟩ := className_of_methodNamed hnamed
  have hinitP : kP.init = .initialized := Cond.initialized_spec (findClass_of_methodNamed hnamed) hkP hinit
  obtain ⟨vm₁, X₁, hstep₁⟩ := X.invokestatic hexec hown hlink hnamed hmethM hstatic hkP hinitP hy (g := g) hg (argsL := argsL) (rest := rest) (hlen _ hsigM) hstack hdg
  rcases hK m meth c ⟨T.setVm vm₁, locs, cells, slots⟩ { g with stack := rest } (.invokestatic index) mk argsL.toArray X₁ hg hsize hdg hW (X₁.named hnamed) (hpre vm₁ X₁.warmed) with ⟨v, B, X', hpost, hsteps⟩ | ⟨q, B, X', hpost, hsteps⟩
  · exact Or.inl ⟨v, vm₁, B, X₁.warmed, X', hpost, fun target h => hstep₁ _ fun acts => by rw [doInvoke_state]; exact hsteps.trans h⟩
  · exact Or.inr ⟨q, vm₁, B, X₁.warmed, X', hpost, hstep₁ _ fun acts => by rw [doInvoke_state]; exact hsteps⟩
theorem vx_callVW (X : Stand p l e R s m args below meth c T locs cells slots) (hexec : p.tables.exec = Jvm.exec) {own C : String} {index : Nat} {y : MethodName} {bytes : ByteArray} {maxL : Nat} {ret : Option FieldType} {hh : List (Nat × Nat × Nat × Nat)}
    (hown : s.vm.findClass own = some m.cls) (hlink : (Cond.methodLink own index y).before args s = true) (hinst : (Cond.instanceMethod y).before args s = true) (hsel : (Cond.selects C y y).before args s = true)
    (hcode : (Cond.codeWith y bytes maxL ret hh).before args s = true) (hy : y.cls ≠ "java/lang/invoke/MethodHandle" ∧ y.cls ≠ "java/lang/invoke/VarHandle")
    {W9 : Nat} {Pre : Pt → Array Value → Prop} {Post : Pt → Array Value → Option Value → Pt → Prop} (hK : Back l R p e below s args y 3 W9 Pre Post)
    {b : Addr} {cellB : Cell} (hcell : T.heap[b]? = some cellB) (hobj : cellB.vm.isStatics = false) (hcls : s.vm.findClass C = some cellB.cls)
    {g : JFrame} (hg : g.method = m) (hsize : g.locals.size = c.maxLocals) {argsL rest : List Value} (hlen : ∀ sig, parseMethodDescriptor y.desc = some sig → argsL.length = sig.parameters.length)
    (hstack : g.stack = argsL.reverse ++ .ref b :: rest) (hW : 2 * g.monitorRoom + (rest.map fun v => v.category).sum ≤ W9) (hdg : decode c.code g.pc = .ok (.invokevirtual index, 3))
    (hpre : ∀ vm₁, s.WarmedH vm₁ → Pre ⟨T.setVm vm₁, locs, cells, slots⟩ (Value.ref b :: argsL).toArray) :
    ∃ (v : Option Value) (vm₁ : Vm) (B : Pt), s.WarmedH vm₁ ∧ Stand p l e R s m args below meth c B.U B.locs B.cells B.slots ∧ Post ⟨T.setVm vm₁, locs, cells, slots⟩ (Value.ref b :: argsL).toArray v B ∧
      ∀ target, Steps p.tables e below (B.U.setTop { g with pc := g.pc + 3, stack := v.toList ++ rest }) target → Steps p.tables e below (T.setTop g) target := by
  obtain ⟨mk, methM, hnamed, hmethM, hstM, habM⟩ := Cond.instanceMethod_spec hinst
  obtain ⟨m8, methM', cM, hn8, hmethM', -, -, -, -, -, -, hsigM⟩ := Cond.codeWith_spec hcode
  cases Option.some.inj (hn8.symm.trans hnamed)
  cases hmethM.symm.trans hmethM'
  obtain ⟨c2, r2, m2, q1, q2, q3, q4, kP, hkP, hkPi⟩ := Cond.selects_spec hsel
  cases hcls.symm.trans q1
  cases (State.methodFound?_of_named hnamed hy).symm.trans q2
  cases hnamed.symm.trans q3
  have hselP : selectMethod e.platform s.vm cellB.cls mk = .method mk := by rw [Launch.admits_selectMethod X.admits]; exact q4
  obtain ⟨vm₁, X₁, hstep₁⟩ := X.invokevirtual hexec hown hlink hnamed hmethM hstM hkP hkPi hy (a := b) (cell := cellB) hcell
    (fun z h => by rw [h] at hobj; cases hobj) hselP hmethM habM hkP hkPi (g := g) hg (argsL := argsL) (rest := rest) (hlen _ hsigM) hstack hdg
  obtain ⟨v, B, X', hpost, hsteps⟩ := hK m meth c ⟨T.setVm vm₁, locs, cells, slots⟩ { g with stack := rest } (.invokevirtual index) mk (Value.ref b :: argsL).toArray X₁ hg hsize hdg hW (X₁.named hnamed) (hpre vm₁ X₁.warmed)
  exact ⟨v, vm₁, B, X₁.warmed, X', hpost, fun target h => hstep₁ _ fun acts => by rw [doInvoke_state]; exact hsteps.trans h⟩
abbrev vx_CVW (R : Room) (s : State) (args : Array Value) (own C : String) (index : Nat) (y : MethodName) (bytes : ByteArray) (maxL : Nat) (ret : Option FieldType) (hh : List (Nat × Nat × Nat × Nat)) (ws : List Cond) (rm : Room) (mc ms n : Nat) : Prop :=
  (rm.cells = mc ∧ rm.slots = ms ∧ rm.frames + 1 ≤ R.frames ∧ 8 + (maxL + 11) + rm.locals ≤ R.locals ∧ (∀ w ∈ ws, ∀ (a' : Array Value) (U : State), s.WarmedH U.vm → w.before a' U = true) ∧ Cond.codeWith y bytes maxL ret hh ∈ ws) ∧
  (Cond.codeWith y bytes maxL ret hh).before args s = true ∧ (Cond.initialized y.cls).before args s = true ∧ (y.cls ≠ "java/lang/invoke/MethodHandle" ∧ y.cls ≠ "java/lang/invoke/VarHandle") ∧
  (∀ sig, parseMethodDescriptor y.desc = some sig → n = sig.parameters.length) ∧ (Cond.methodLink own index y).before args s = true ∧ (Cond.instanceMethod y).before args s = true ∧ (Cond.selects C y y).before args s = true
theorem vx_cwVW {own C : String} {index maxL mc ms : Nat} {y : MethodName} {bytes : ByteArray} {ret : Option FieldType} {hh : List (Nat × Nat × Nat × Nat)} {Ts ws ws' : List Cond} {rm : Room} (n : Nat) (ht : ∀ w ∈ Ts, w.before args s = true) (hT : GoodIn Ts (wsV own index C y ws)) (hw : ws = Cond.codeWith y bytes maxL ret hh :: ws') (hrc : rm.cells = mc) (hrs : rm.slots = ms)
    (hd : y.cls = C ∧ y.cls ≠ "java/lang/invoke/MethodHandle" ∧ y.cls ≠ "java/lang/invoke/VarHandle" ∧ (parseMethodDescriptor y.desc).map (fun d => d.parameters.length) = some n) (hR : rm.frames + 1 ≤ R.frames ∧ 8 + (maxL + 11) + rm.locals ≤ R.locals) :
    vx_CVW R s args own C index y bytes maxL ret hh ws rm mc ms n := by
  obtain ⟨hC, hd⟩ := hd
  subst hC
  have ok : ∀ w ∈ wsV own index y.cls y ws, w.before args s = true := fun w h => ht w (hT w h).1
  have hG : GoodIn Ts ws := fun w h => hT w (by unfold wsV; exact List.mem_append_right _ h)
  have hc : Cond.codeWith y bytes maxL ret hh ∈ ws := by rw [hw]; exact List.mem_cons_self
  refine ⟨⟨hrc, hrs, hR.1, hR.2, pay_in ht hG, hc⟩, ht _ (hG _ hc).1, ok _ (by simp [wsV]), ⟨hd.1, hd.2.1⟩, fun sig h => ?_, ok _ (by simp [wsV]), ok _ (by simp [wsV]), ok _ (by simp [wsV])⟩
  have h2 := hd.2.2
  rw [h] at h2
  exact (Option.some.inj h2).symm
theorem vx_runVW {y : MethodName} {bytes cc : ByteArray} {maxL nL mc ms n index : Nat} {ret : Option FieldType} {hh : List (Nat × Nat × Nat × Nat)} {ws : List Cond} {rm : Room} {Pc : Array Value → State → Prop} {Qc : Array Value → State → Outcome → State → Prop} {free : Addr → Prop} {Ts : List Cond} {own C : String} {b : Addr} {As rest : List Value} {g : JFrame}
    (S : CallFix p m c cc nL s args Ts own) (hM : Met l y ws rm Pc Qc mc ms free) (cw : vx_CVW R s args own C index y bytes maxL ret hh ws rm mc ms n) (hp : PreV s H C b Pc As)
    (hg : g.method = m) (hn : As.length = n) (hsize : g.locals.size = nL) (hstack : g.stack = As.reverse ++ .ref b :: rest) (hW : 2 * g.monitorRoom + (rest.map fun v => v.category).sum ≤ 8) (hdg : decode cc g.pc = .ok (.invokevirtual index, 3)) (hf : cells + mc ≤ R.cells ∧ slots + ms ≤ R.slots) :
    va_Run p l e R s m args below meth c H locs cells slots mc ms g rest (Qc (Value.ref b :: As).toArray) free := by
  obtain ⟨⟨hrc, hrs, hfr, hlo, hws, hcw⟩, hcode, hini, hy, hlen, hl, hin, hse⟩ := cw
  have hK : Back l R p e below s args y 3 8 (PreOf R mc ms Pc) (PostOf Qc mc ms free) := va_backW (hh := hh) (bytes := bytes) (maxL := maxL) (ret := ret) hM hp.1 hrc hrs hfr hlo hws hcw (fun a' U hW => word_at hW (Or.inl (by first | rfl | simp [Cond.onTables, Cond.keeps, Cond.steady])) hini)
  obtain ⟨hx, hb, hml, ho, -⟩ := S
  obtain ⟨-, ⟨cellB, hcB, hoB, hclB⟩, hPc⟩ := hp
  intro T hT X
  obtain ⟨v, vm₁, ⟨U', l2, c2, s2⟩, hW₁, X', ⟨g', mk, t, L, e1, e2, hq, h1, hL, h2, h3⟩, st⟩ := vx_callVW X hx (C := C) (hh := hh) (bytes := bytes) (maxL := maxL) (ret := ret) ho hl hin hse hcode hy hK (by rw [hT]; exact hcB) hoB hclB hg (hsize.trans hml.symm) (argsL := As) (rest := rest) (fun sig h => hn.trans (hlen sig h)) hstack hW (by rw [hb]; exact hdg)
    (fun vm₁ hW₁ => ⟨hf.1, hf.2, hPc (T.setVm vm₁) hT hW₁⟩)
  dsimp only [Pt.U, Pt.locs, Pt.cells, Pt.slots] at X' e1 e2 h1 h2 h3 st
  subst h1; subst h2; subst h3
  exact ⟨v, (T.setVm vm₁).calling g' mk (Value.ref b :: As).toArray, t, U', L, hT, X', hL, e1, e2, hq, st⟩
section
variable {y : MethodName} {bytes cc : ByteArray} {maxL nL mc ms n index : Nat} {ret : Option FieldType} {ws : List Cond} {rm : Room} {Pc : Array Value → State → Prop} {Qc : Array Value → State → Outcome → State → Prop} {XC : String → State → State → Prop} {free : Addr → Prop} {Ts : List Cond} {own C : String} {b : Addr} {As rest : List Value} {g : JFrame}
theorem vx_runVX {hh : List (Nat × Nat × Nat × Nat)} (S : CallFix p m c cc nL s args Ts own) (hM : vx_Met l y ws rm Pc Qc XC mc ms free) (cw : vx_CVW R s args own C index y bytes maxL ret hh ws rm mc ms n) (hp : PreV s H C b Pc As)
    (hg : g.method = m) (hn : As.length = n) (hsize : g.locals.size = nL) (hstack : g.stack = As.reverse ++ .ref b :: rest) (hW : 2 * g.monitorRoom + (rest.map fun v => v.category).sum ≤ 8) (hdg : decode cc g.pc = .ok (.invokevirtual index, 3)) (hf : cells + mc ≤ R.cells ∧ slots + ms ≤ R.slots) :
    vx_Run p l e R s m args below meth c H locs cells slots mc ms g rest (Qc (Value.ref b :: As).toArray) XC free := by
  obtain ⟨⟨hrc, hrs, hfr, hlo, hws, hcw⟩, hcode, hini, hy, hlen, hl, hin, hse⟩ := cw
  have hK : vx_Back l R p e below s args y 3 8 (PreOf R mc ms Pc) (PostOf Qc mc ms free) (vx_Post XC mc ms free) := vx_backW (hh := hh) (bytes := bytes) (maxL := maxL) (ret := ret) hM hp.1 hrc hrs hfr hlo hws hcw (fun a' U hW => word_at hW (Or.inl (by first | rfl | simp [Cond.onTables, Cond.keeps, Cond.steady])) hini)
  obtain ⟨hx, hb, hml, ho, -⟩ := S
  obtain ⟨-, ⟨cellB, hcB, hoB, hclB⟩, hPc⟩ := hp
  intro T hT X
  rcases vx_callVX X hx (C := C) (hh := hh) (bytes := bytes) (maxL := maxL) (ret := ret) ho hl hin hse hcode hy hK (by rw [hT]; exact hcB) hoB hclB hg (hsize.trans hml.symm) (argsL := As) (rest := rest) (fun sig h => hn.trans (hlen sig h)) hstack hW (by rw [hb]; exact hdg)
    (fun vm₁ hW₁ => ⟨hf.1, hf.2, hPc (T.setVm vm₁) hT hW₁⟩) with ⟨v, vm₁, ⟨U', l2, c2, s2⟩, hW₁, X', ⟨g', mk, t, L, e1, e2, hq, h1, hL, h2, h3⟩, st⟩ | ⟨q, vm₁, ⟨U', l2, c2, s2⟩, hW₁, X', ⟨g', mk, t, L, E, ce, e1, e2, hq, hce, hcv, hcl, h1, hL, h2, h3⟩, st⟩
  · dsimp only [Pt.U, Pt.locs, Pt.cells, Pt.slots] at X' e1 e2 h1 h2 h3 st
    subst h1; subst h2; subst h3
    exact Or.inl ⟨v, (T.setVm vm₁).calling g' mk (Value.ref b :: As).toArray, t, U', L, hT, X', hL, e1, e2, hq, st⟩
  · dsimp only [Pt.U, Pt.locs, Pt.cells, Pt.slots] at X' e1 e2 h1 h2 h3 st hcl
    subst h1; subst h2; subst h3
    exact Or.inr ⟨q, (T.setVm vm₁).calling g' mk (Value.ref b :: As).toArray, t, U', L, E, ce, hT, X', hL, e1, e2, hq, hce, hcv, vx_cls hW₁ hcl, st⟩
theorem vx_runSX {hh : List (Nat × Nat × Nat × Nat)} (S : CallFix p m c cc nL s args Ts own) (hM : vx_Met l y ws rm Pc Qc XC mc ms free) (cw : vx_CSW R s args own index y bytes maxL ret hh ws rm mc ms n) (hp : PreS s H Pc As)
    (hg : g.method = m) (hn : As.length = n) (hsize : g.locals.size = nL) (hstack : g.stack = As.reverse ++ rest) (hW : 2 * g.monitorRoom + (rest.map fun v => v.category).sum ≤ 8) (hdg : decode cc g.pc = .ok (.invokestatic index, 3)) (hf : cells + mc ≤ R.cells ∧ slots + ms ≤ R.slots) :
    vx_Run p l e R s m args below meth c H locs cells slots mc ms g rest (Qc As.toArray) XC free := by
  obtain ⟨⟨hrc, hrs, hfr, hlo, hws, hcw⟩, hcode, hini, hy, hlen, hl, hstt⟩ := cw
  have hK : vx_Back l R p e below s args y 3 8 (PreOf R mc ms Pc) (PostOf Qc mc ms free) (vx_Post XC mc ms free) := vx_backW (hh := hh) (bytes := bytes) (maxL := maxL) (ret := ret) hM hp.1 hrc hrs hfr hlo hws hcw (fun a' U hW => word_at hW (Or.inl (by first | rfl | simp [Cond.onTables, Cond.keeps, Cond.steady])) hini)
  obtain ⟨hx, hb, hml, ho, -⟩ := S
  intro T hT X
  rcases vx_callSX X hx (hh := hh) (bytes := bytes) (maxL := maxL) (ret := ret) ho hl hstt hini hcode hy hK hg (hsize.trans hml.symm) (argsL := As) (rest := rest) (fun sig h => hn.trans (hlen sig h)) hstack hW (by rw [hb]; exact hdg)
    (fun vm₁ hW₁ => ⟨hf.1, hf.2, hp.2 (T.setVm vm₁) hT hW₁⟩) with ⟨v, vm₁, ⟨U', l2, c2, s2⟩, hW₁, X', ⟨g', mk, t, L, e1, e2, hq, h1, hL, h2, h3⟩, st⟩ | ⟨q, vm₁, ⟨U', l2, c2, s2⟩, hW₁, X', ⟨g', mk, t, L, E, ce, e1, e2, hq, hce, hcv, hcl, h1, hL, h2, h3⟩, st⟩
  · dsimp only [Pt.U, Pt.locs, Pt.cells, Pt.slots] at X' e1 e2 h1 h2 h3 st
    subst h1; subst h2; subst h3
    exact Or.inl ⟨v, (T.setVm vm₁).calling g' mk As.toArray, t, U', L, hT, X', hL, e1, e2, hq, st⟩
  · dsimp only [Pt.U, Pt.locs, Pt.cells, Pt.slots] at X' e1 e2 h1 h2 h3 st hcl
    subst h1; subst h2; subst h3
    exact Or.inr ⟨q, (T.setVm vm₁).calling g' mk As.toArray, t, U', L, E, ce, hT, X', hL, e1, e2, hq, hce, hcv, vx_cls hW₁ hcl, st⟩
end
end VXH
theorem vx_ofWH {l : Launch} {y : MethodName} {ws ws' : List Cond} {rm : Room} {Pc : Array Value → State → Prop} {Qc : Array Value → State → Outcome → State → Prop} {XC : String → State → State → Prop} {mc ms : Nat} {free : Addr → Prop} {cc : ByteArray} {maxL : Nat} {ret : Option FieldType} {hh : List (Nat × Nat × Nat × Nat)}
    (hy : plainName y.cls = true) (hw : ws = Cond.codeWith y cc maxL ret hh :: ws')
    (body : ∀ p e s m args below meth c s₁, BodyLoose p l y (headSpec ws rm) cc maxL ret e s m args below meth c s₁ → c.maxLocals = maxL → Pc args s →
      W p l e (headSpec ws rm).room s m args below meth c s.heap [] 0 0 (vx_MQ below Qc XC args s mc ms free) (entryFrame m args maxL)) : vx_Met l y ws rm Pc Qc XC mc ms free := by
  refine MetFree.of_bodyS (code := cc) (maxLocals := maxL) (ret := ret) hy ?_ ?_
  · intro args s m h hn
    obtain ⟨m9, meth, c, hn9, h1, h2, h3, h4, -, h5, h6, -⟩ := Cond.codeWith_spec (atoms_spec (ws := ws) h _ (by rw [hw]; exact List.mem_cons_self))
    cases hn.symm.trans hn9
    exact ⟨meth, c, h1, h2, h3, h4, h5, h6⟩
  · intro p e s m args below meth c s₁ B hml hP _
    have hh0 : s₁.heap = s.heap := by rw [B.state]; rfl
    obtain ⟨t, a1, o, b1, b2, b3⟩ := body p e s m args below meth c s₁ B hml hP s₁ hh0 (Stand.of_body B)
    exact ⟨t, o, a1, b1, b2, b3⟩
/-! ===== END ===== -/
end
section
def RX0 : String := "BarcodeWand$CodeList"
def TX0 : u_T := fun k => match k with
  | 0 => ("BarcodeWand$CodeList", "numbers", "LBarcodeWand$Row;", true)
  | 1 => ("BarcodeWand$CodeList", "lengths", "LBarcodeWand$Row;", true)
  | _ => ("BarcodeWand$CodeList", "counts", "LBarcodeWand$Row;", true)
def tyX0 : Nat → FieldType := fun k => match k with
  | 0 => .object "BarcodeWand$Row"
  | 1 => .object "BarcodeWand$Row"
  | _ => .object "BarcodeWand$Row"
theorem nmX0 : ∀ a, a < 3 → ∀ b, b < 3 → a ≠ b → (TX0 a).2.1 ≠ (TX0 b).2.1 := by decide +kernel
theorem tyX0_ok : ∀ k, k < 3 → parseFieldDescriptor (TX0 k).2.2.1 = some (tyX0 k) := by decide +kernel
abbrev cX0_init : ByteArray := prog_2_method_1_code
def yX0_init : MethodName := ⟨RX0, "<init>", "()V"⟩
abbrev cX0_countReading : ByteArray := prog_2_method_2_code
def yX0_countReading : MethodName := ⟨RX0, "countReading", "(II)V"⟩
abbrev cX0_copyFrom : ByteArray := prog_2_method_3_code
def yX0_copyFrom : MethodName := ⟨RX0, "copyFrom", "(LBarcodeWand$CodeList;)V"⟩
def RX1 : String := "BarcodeWand$CommandParser"
def TX1 : u_T := fun k => match k with
  | 0 => ("BarcodeWand$CommandParser", "kind", "I", false)
  | 1 => ("BarcodeWand$CommandParser", "first", "I", false)
  | 2 => ("BarcodeWand$CommandParser", "second", "I", false)
  | 3 => ("BarcodeWand$CommandParser", "numberLength", "I", false)
  | 4 => ("BarcodeWand$CommandParser", "part", "I", false)
  | _ => ("BarcodeWand$CommandParser", "isNegative", "Z", false)
def tyX1 : Nat → FieldType := fun k => match k with
  | 0 => .int
  | 1 => .int
  | 2 => .int
  | 3 => .int
  | 4 => .int
  | _ => .boolean
theorem nmX1 : ∀ a, a < 6 → ∀ b, b < 6 → a ≠ b → (TX1 a).2.1 ≠ (TX1 b).2.1 := by decide +kernel
theorem tyX1_ok : ∀ k, k < 6 → parseFieldDescriptor (TX1 k).2.2.1 = some (tyX1 k) := by decide +kernel
abbrev cX1_init : ByteArray := prog_3_method_1_code
def yX1_init : MethodName := ⟨RX1, "<init>", "()V"⟩
abbrev cX1_restart : ByteArray := prog_3_method_2_code
def yX1_restart : MethodName := ⟨RX1, "restart", "()V"⟩
abbrev cX1_accept : ByteArray := prog_3_method_3_code
def yX1_accept : MethodName := ⟨RX1, "accept", "(I)Z"⟩
abbrev cX1_isAtEndOfCommand : ByteArray := prog_3_method_4_code
def yX1_isAtEndOfCommand : MethodName := ⟨RX1, "isAtEndOfCommand", "()Z"⟩
abbrev cX1_signedSecond : ByteArray := prog_3_method_5_code
def yX1_signedSecond : MethodName := ⟨RX1, "signedSecond", "()I"⟩
abbrev cX1_acceptKind : ByteArray := prog_3_method_6_code
def yX1_acceptKind : MethodName := ⟨RX1, "acceptKind", "(I)Z"⟩
abbrev cX1_startNumber : ByteArray := prog_3_method_7_code
def yX1_startNumber : MethodName := ⟨RX1, "startNumber", "(I)V"⟩
abbrev cX1_acceptDigit : ByteArray := prog_3_method_8_code
def yX1_acceptDigit : MethodName := ⟨RX1, "acceptDigit", "(I)Z"⟩
abbrev cX1_isAllowed : ByteArray := prog_3_method_9_code
def yX1_isAllowed : MethodName := ⟨RX1, "isAllowed", "(II)Z"⟩
abbrev cX1_leastNumber : ByteArray := prog_3_method_10_code
def yX1_leastNumber : MethodName := ⟨RX1, "leastNumber", "()I"⟩
abbrev cX1_greatestNumber : ByteArray := prog_3_method_11_code
def yX1_greatestNumber : MethodName := ⟨RX1, "greatestNumber", "()I"⟩
abbrev cX1_acceptMinus : ByteArray := prog_3_method_12_code
def yX1_acceptMinus : MethodName := ⟨RX1, "acceptMinus", "()Z"⟩
abbrev cX1_acceptSeparator : ByteArray := prog_3_method_13_code
def yX1_acceptSeparator : MethodName := ⟨RX1, "acceptSeparator", "(I)Z"⟩
def RX2 : String := "BarcodeWand$Label"
def TX2 : u_T := fun k => match k with
  | 0 => ("BarcodeWand$Label", "digits", "LBarcodeWand$Row;", true)
  | _ => ("BarcodeWand$Label", "smudges", "LBarcodeWand$Row;", true)
def tyX2 : Nat → FieldType := fun k => match k with
  | 0 => .object "BarcodeWand$Row"
  | _ => .object "BarcodeWand$Row"
theorem nmX2 : ∀ a, a < 2 → ∀ b, b < 2 → a ≠ b → (TX2 a).2.1 ≠ (TX2 b).2.1 := by decide +kernel
theorem tyX2_ok : ∀ k, k < 2 → parseFieldDescriptor (TX2 k).2.2.1 = some (tyX2 k) := by decide +kernel
abbrev cX2_init : ByteArray := prog_4_method_1_code
def yX2_init : MethodName := ⟨RX2, "<init>", "()V"⟩
abbrev cX2_size : ByteArray := prog_4_method_2_code
def yX2_size : MethodName := ⟨RX2, "size", "()I"⟩
abbrev cX2_setDigits : ByteArray := prog_4_method_3_code
def yX2_setDigits : MethodName := ⟨RX2, "setDigits", "(II)V"⟩
abbrev cX2_widthOf : ByteArray := prog_4_method_4_code
def yX2_widthOf : MethodName := ⟨RX2, "widthOf", "(I)I"⟩
abbrev cX2_timeOf : ByteArray := prog_4_method_5_code
def yX2_timeOf : MethodName := ⟨RX2, "timeOf", "(IIII)I"⟩
abbrev cX2_drawInto : ByteArray := prog_4_method_6_code
def yX2_drawInto : MethodName := ⟨RX2, "drawInto", "(LBarcodeWand$Row;IIZ)V"⟩
abbrev cX2_copyFrom : ByteArray := prog_4_method_7_code
def yX2_copyFrom : MethodName := ⟨RX2, "copyFrom", "(LBarcodeWand$Label;)V"⟩
def RX3 : String := "BarcodeWand$Reader"
def TX3 : u_T := fun k => match k with
  | 0 => ("BarcodeWand$Reader", "digits", "LBarcodeWand$Row;", true)
  | 1 => ("BarcodeWand$Reader", "nearestDigit", "I", false)
  | 2 => ("BarcodeWand$Reader", "line", "LBarcodeWand$Row;", true)
  | 3 => ("BarcodeWand$Reader", "leastDistance", "I", false)
  | 4 => ("BarcodeWand$Reader", "sumOfTimes", "I", false)
  | 5 => ("BarcodeWand$Reader", "isTied", "Z", false)
  | 6 => ("BarcodeWand$Reader", "failedFrom", "I", false)
  | _ => ("BarcodeWand$Reader", "failedTo", "I", false)
def tyX3 : Nat → FieldType := fun k => match k with
  | 0 => .object "BarcodeWand$Row"
  | 1 => .int
  | 2 => .object "BarcodeWand$Row"
  | 3 => .int
  | 4 => .int
  | 5 => .boolean
  | 6 => .int
  | _ => .int
theorem nmX3 : ∀ a, a < 8 → ∀ b, b < 8 → a ≠ b → (TX3 a).2.1 ≠ (TX3 b).2.1 := by decide +kernel
theorem tyX3_ok : ∀ k, k < 8 → parseFieldDescriptor (TX3 k).2.2.1 = some (tyX3 k) := by decide +kernel
abbrev cX3_init : ByteArray := prog_5_method_1_code
def yX3_init : MethodName := ⟨RX3, "<init>", "()V"⟩
abbrev cX3_resultOf : ByteArray := prog_5_method_2_code
def yX3_resultOf : MethodName := ⟨RX3, "resultOf", "(LBarcodeWand$Row;I)I"⟩
abbrev cX3_failureOf : ByteArray := prog_5_method_3_code
def yX3_failureOf : MethodName := ⟨RX3, "failureOf", "(LBarcodeWand$Row;ZI)I"⟩
abbrev cX3_hasFailedAt : ByteArray := prog_5_method_4_code
def yX3_hasFailedAt : MethodName := ⟨RX3, "hasFailedAt", "(I)Z"⟩
abbrev cX3_findNearest : ByteArray := prog_5_method_5_code
def yX3_findNearest : MethodName := ⟨RX3, "findNearest", "(LBarcodeWand$Row;I)V"⟩
abbrev cX3_amountOff : ByteArray := prog_5_method_6_code
def yX3_amountOff : MethodName := ⟨RX3, "amountOff", "(II)I"⟩
abbrev cX3_layOut : ByteArray := prog_5_method_7_code
def yX3_layOut : MethodName := ⟨RX3, "layOut", "(LBarcodeWand$Row;Z)V"⟩
abbrev cX3_failAt : ByteArray := prog_5_method_8_code
def yX3_failAt : MethodName := ⟨RX3, "failAt", "(III)I"⟩
abbrev cX3_digitsOf : ByteArray := prog_5_method_9_code
def yX3_digitsOf : MethodName := ⟨RX3, "digitsOf", "(I)I"⟩
abbrev cX3_isLeftGuardRight : ByteArray := prog_5_method_10_code
def yX3_isLeftGuardRight : MethodName := ⟨RX3, "isLeftGuardRight", "()Z"⟩
abbrev cX3_isRightGuardRight : ByteArray := prog_5_method_11_code
def yX3_isRightGuardRight : MethodName := ⟨RX3, "isRightGuardRight", "()Z"⟩
def RX4 : String := "BarcodeWand$Row"
def TX4 : u_T := fun k => match k with
  | 0 => ("BarcodeWand$Row", "cells", "[I", true)
  | _ => ("BarcodeWand$Row", "length", "I", false)
def tyX4 : Nat → FieldType := fun k => match k with
  | 0 => .array .int
  | _ => .int
theorem nmX4 : ∀ a, a < 2 → ∀ b, b < 2 → a ≠ b → (TX4 a).2.1 ≠ (TX4 b).2.1 := by decide +kernel
theorem tyX4_ok : ∀ k, k < 2 → parseFieldDescriptor (TX4 k).2.2.1 = some (tyX4 k) := by decide +kernel
abbrev cX4_init : ByteArray := prog_6_method_1_code
def yX4_init : MethodName := ⟨RX4, "<init>", "(I)V"⟩
abbrev cX4_size : ByteArray := prog_6_method_2_code
def yX4_size : MethodName := ⟨RX4, "size", "()I"⟩
abbrev cX4_isFull : ByteArray := prog_6_method_3_code
def yX4_isFull : MethodName := ⟨RX4, "isFull", "()Z"⟩
abbrev cX4_has : ByteArray := prog_6_method_4_code
def yX4_has : MethodName := ⟨RX4, "has", "(I)Z"⟩
abbrev cX4_at : ByteArray := prog_6_method_5_code
def yX4_at : MethodName := ⟨RX4, "at", "(I)I"⟩
abbrev cX4_put : ByteArray := prog_6_method_6_code
def yX4_put : MethodName := ⟨RX4, "put", "(II)V"⟩
abbrev cX4_add : ByteArray := prog_6_method_7_code
def yX4_add : MethodName := ⟨RX4, "add", "(I)V"⟩
abbrev cX4_clear : ByteArray := prog_6_method_8_code
def yX4_clear : MethodName := ⟨RX4, "clear", "()V"⟩
abbrev cX4_fillWithZeros : ByteArray := prog_6_method_9_code
def yX4_fillWithZeros : MethodName := ⟨RX4, "fillWithZeros", "(I)V"⟩
abbrev cX4_removeFirst : ByteArray := prog_6_method_10_code
def yX4_removeFirst : MethodName := ⟨RX4, "removeFirst", "()V"⟩
abbrev cX4_copyFrom : ByteArray := prog_6_method_11_code
def yX4_copyFrom : MethodName := ⟨RX4, "copyFrom", "(LBarcodeWand$Row;)V"⟩
def RX5 : String := "BarcodeWand$SavedStates"
def TX5 : u_T := fun k => match k with
  | 0 => ("BarcodeWand$SavedStates", "ring", "[LBarcodeWand$State;", true)
  | 1 => ("BarcodeWand$SavedStates", "next", "I", false)
  | _ => ("BarcodeWand$SavedStates", "kept", "I", false)
def tyX5 : Nat → FieldType := fun k => match k with
  | 0 => .array (.object "BarcodeWand$State")
  | 1 => .int
  | _ => .int
theorem nmX5 : ∀ a, a < 3 → ∀ b, b < 3 → a ≠ b → (TX5 a).2.1 ≠ (TX5 b).2.1 := by decide +kernel
theorem tyX5_ok : ∀ k, k < 3 → parseFieldDescriptor (TX5 k).2.2.1 = some (tyX5 k) := by decide +kernel
abbrev cX5_init : ByteArray := prog_7_method_1_code
def yX5_init : MethodName := ⟨RX5, "<init>", "()V"⟩
abbrev cX5_size : ByteArray := prog_7_method_2_code
def yX5_size : MethodName := ⟨RX5, "size", "()I"⟩
abbrev cX5_save : ByteArray := prog_7_method_3_code
def yX5_save : MethodName := ⟨RX5, "save", "(LBarcodeWand$State;)V"⟩
abbrev cX5_restore : ByteArray := prog_7_method_4_code
def yX5_restore : MethodName := ⟨RX5, "restore", "(LBarcodeWand$State;)V"⟩
abbrev cX5_stateAt : ByteArray := prog_7_method_5_code
def yX5_stateAt : MethodName := ⟨RX5, "stateAt", "(I)LBarcodeWand$State;"⟩
abbrev cX5_copy : ByteArray := prog_7_method_6_code
def yX5_copy : MethodName := ⟨RX5, "copy", "(LBarcodeWand$State;LBarcodeWand$State;)V"⟩
def RX6 : String := "BarcodeWand$State"
def TX6 : u_T := fun k => match k with
  | 0 => ("BarcodeWand$State", "label", "LBarcodeWand$Label;", true)
  | 1 => ("BarcodeWand$State", "measurement", "LBarcodeWand$Row;", true)
  | 2 => ("BarcodeWand$State", "list", "LBarcodeWand$CodeList;", true)
  | 3 => ("BarcodeWand$State", "tolerance", "I", false)
  | 4 => ("BarcodeWand$State", "successes", "I", false)
  | _ => ("BarcodeWand$State", "failures", "I", false)
def tyX6 : Nat → FieldType := fun k => match k with
  | 0 => .object "BarcodeWand$Label"
  | 1 => .object "BarcodeWand$Row"
  | 2 => .object "BarcodeWand$CodeList"
  | 3 => .int
  | 4 => .int
  | _ => .int
theorem nmX6 : ∀ a, a < 6 → ∀ b, b < 6 → a ≠ b → (TX6 a).2.1 ≠ (TX6 b).2.1 := by decide +kernel
theorem tyX6_ok : ∀ k, k < 6 → parseFieldDescriptor (TX6 k).2.2.1 = some (tyX6 k) := by decide +kernel
abbrev cX6_init : ByteArray := prog_8_method_1_code
def yX6_init : MethodName := ⟨RX6, "<init>", "()V"⟩
abbrev cX6_copyFrom : ByteArray := prog_8_method_2_code
def yX6_copyFrom : MethodName := ⟨RX6, "copyFrom", "(LBarcodeWand$State;)V"⟩
def RX7 : String := "BarcodeWand"
def TX7 : u_T := fun k => match k with
  | 0 => ("BarcodeWand", "state", "LBarcodeWand$State;", true)
  | 1 => ("BarcodeWand", "history", "LBarcodeWand$SavedStates;", true)
  | 2 => ("BarcodeWand", "reader", "LBarcodeWand$Reader;", true)
  | 3 => ("BarcodeWand", "forecast", "LBarcodeWand$Row;", true)
  | 4 => ("BarcodeWand", "buffer", "LBarcodeWand$Row;", true)
  | _ => ("BarcodeWand", "parser", "LBarcodeWand$CommandParser;", true)
def tyX7 : Nat → FieldType := fun k => match k with
  | 0 => .object "BarcodeWand$State"
  | 1 => .object "BarcodeWand$SavedStates"
  | 2 => .object "BarcodeWand$Reader"
  | 3 => .object "BarcodeWand$Row"
  | 4 => .object "BarcodeWand$Row"
  | _ => .object "BarcodeWand$CommandParser"
theorem nmX7 : ∀ a, a < 6 → ∀ b, b < 6 → a ≠ b → (TX7 a).2.1 ≠ (TX7 b).2.1 := by decide +kernel
theorem tyX7_ok : ∀ k, k < 6 → parseFieldDescriptor (TX7 k).2.2.1 = some (tyX7 k) := by decide +kernel
abbrev cX7_init : ByteArray := prog_1_method_1_code
def yX7_init : MethodName := ⟨RX7, "<init>", "()V"⟩
abbrev cX7_print : ByteArray := prog_1_method_2_code
def yX7_print : MethodName := ⟨RX7, "print", "(II)I"⟩
abbrev cX7_smudge : ByteArray := prog_1_method_3_code
def yX7_smudge : MethodName := ⟨RX7, "smudge", "(II)I"⟩
abbrev cX7_elements : ByteArray := prog_1_method_4_code
def yX7_elements : MethodName := ⟨RX7, "elements", "()I"⟩
abbrev cX7_width : ByteArray := prog_1_method_5_code
def yX7_width : MethodName := ⟨RX7, "width", "(I)I"⟩
abbrev cX7_labelDigit : ByteArray := prog_1_method_6_code
def yX7_labelDigit : MethodName := ⟨RX7, "labelDigit", "(I)I"⟩
abbrev cX7_draw : ByteArray := prog_1_method_7_code
def yX7_draw : MethodName := ⟨RX7, "draw", "(IIZ)I"⟩
abbrev cX7_measure : ByteArray := prog_1_method_8_code
def yX7_measure : MethodName := ⟨RX7, "measure", "(I)I"⟩
abbrev cX7_clearMeasurement : ByteArray := prog_1_method_9_code
def yX7_clearMeasurement : MethodName := ⟨RX7, "clearMeasurement", "()I"⟩
abbrev cX7_read : ByteArray := prog_1_method_10_code
def yX7_read : MethodName := ⟨RX7, "read", "()I"⟩
abbrev cX7_times : ByteArray := prog_1_method_11_code
def yX7_times : MethodName := ⟨RX7, "times", "()I"⟩
abbrev cX7_time : ByteArray := prog_1_method_12_code
def yX7_time : MethodName := ⟨RX7, "time", "(I)I"⟩
abbrev cX7_setTolerance : ByteArray := prog_1_method_13_code
def yX7_setTolerance : MethodName := ⟨RX7, "setTolerance", "(I)I"⟩
abbrev cX7_result : ByteArray := prog_1_method_14_code
def yX7_result : MethodName := ⟨RX7, "result", "()I"⟩
abbrev cX7_reason : ByteArray := prog_1_method_15_code
def yX7_reason : MethodName := ⟨RX7, "reason", "(Z)I"⟩
abbrev cX7_digit : ByteArray := prog_1_method_16_code
def yX7_digit : MethodName := ⟨RX7, "digit", "(I)I"⟩
abbrev cX7_nearest : ByteArray := prog_1_method_17_code
def yX7_nearest : MethodName := ⟨RX7, "nearest", "(I)I"⟩
abbrev cX7_codes : ByteArray := prog_1_method_18_code
def yX7_codes : MethodName := ⟨RX7, "codes", "()I"⟩
abbrev cX7_code : ByteArray := prog_1_method_19_code
def yX7_code : MethodName := ⟨RX7, "code", "(I)I"⟩
abbrev cX7_codeLength : ByteArray := prog_1_method_20_code
def yX7_codeLength : MethodName := ⟨RX7, "codeLength", "(I)I"⟩
abbrev cX7_count : ByteArray := prog_1_method_21_code
def yX7_count : MethodName := ⟨RX7, "count", "(I)I"⟩
abbrev cX7_successes : ByteArray := prog_1_method_22_code
def yX7_successes : MethodName := ⟨RX7, "successes", "()I"⟩
abbrev cX7_failures : ByteArray := prog_1_method_23_code
def yX7_failures : MethodName := ⟨RX7, "failures", "()I"⟩
abbrev cX7_ifDrawn : ByteArray := prog_1_method_24_code
def yX7_ifDrawn : MethodName := ⟨RX7, "ifDrawn", "(IIZ)I"⟩
abbrev cX7_greatestSmudge : ByteArray := prog_1_method_25_code
def yX7_greatestSmudge : MethodName := ⟨RX7, "greatestSmudge", "(I)I"⟩
abbrev cX7_leastTolerance : ByteArray := prog_1_method_26_code
def yX7_leastTolerance : MethodName := ⟨RX7, "leastTolerance", "()I"⟩
abbrev cX7_append : ByteArray := prog_1_method_27_code
def yX7_append : MethodName := ⟨RX7, "append", "(I)I"⟩
abbrev cX7_clearBuffer : ByteArray := prog_1_method_28_code
def yX7_clearBuffer : MethodName := ⟨RX7, "clearBuffer", "()I"⟩
abbrev cX7_firstError : ByteArray := prog_1_method_29_code
def yX7_firstError : MethodName := ⟨RX7, "firstError", "()I"⟩
abbrev cX7_run : ByteArray := prog_1_method_30_code
def yX7_run : MethodName := ⟨RX7, "run", "()I"⟩
abbrev cX7_undo : ByteArray := prog_1_method_31_code
def yX7_undo : MethodName := ⟨RX7, "undo", "()I"⟩
abbrev cX7_savedStates : ByteArray := prog_1_method_32_code
def yX7_savedStates : MethodName := ⟨RX7, "savedStates", "()I"⟩
abbrev cX7_digest : ByteArray := prog_1_method_33_code
def yX7_digest : MethodName := ⟨RX7, "digest", "()J"⟩
abbrev cX7_requireElement : ByteArray := prog_1_method_34_code
def yX7_requireElement : MethodName := ⟨RX7, "requireElement", "(I)V"⟩
abbrev cX7_requireCode : ByteArray := prog_1_method_35_code
def yX7_requireCode : MethodName := ⟨RX7, "requireCode", "(I)V"⟩
abbrev cX7_requireDrawing : ByteArray := prog_1_method_36_code
def yX7_requireDrawing : MethodName := ⟨RX7, "requireDrawing", "(II)V"⟩
abbrev cX7_readAndCount : ByteArray := prog_1_method_37_code
def yX7_readAndCount : MethodName := ⟨RX7, "readAndCount", "()I"⟩
abbrev cX7_parseBuffer : ByteArray := prog_1_method_38_code
def yX7_parseBuffer : MethodName := ⟨RX7, "parseBuffer", "()I"⟩
abbrev cX7_executeCommand : ByteArray := prog_1_method_39_code
def yX7_executeCommand : MethodName := ⟨RX7, "executeCommand", "()Z"⟩
abbrev cX7_hasSucceeded : ByteArray := prog_1_method_40_code
def yX7_hasSucceeded : MethodName := ⟨RX7, "hasSucceeded", "(I)Z"⟩
abbrev cX7_powerOfTen : ByteArray := prog_1_method_41_code
def yX7_powerOfTen : MethodName := ⟨RX7, "powerOfTen", "(I)I"⟩
abbrev cX7_numberOf : ByteArray := prog_1_method_42_code
def yX7_numberOf : MethodName := ⟨RX7, "numberOf", "(LBarcodeWand$Row;)I"⟩
abbrev cX7_checkDigitFor : ByteArray := prog_1_method_43_code
def yX7_checkDigitFor : MethodName := ⟨RX7, "checkDigitFor", "(LBarcodeWand$Row;I)I"⟩
def RX8 : String := "BarcodeWandModel"
def TX8 : u_T := fun k => match k with
  | 0 => ("BarcodeWandModel", "s", "[I", true)
  | 1 => ("BarcodeWandModel", "saved", "I", false)
  | 2 => ("BarcodeWandModel", "buffer", "[C", true)
  | 3 => ("BarcodeWandModel", "typed", "I", false)
  | 4 => ("BarcodeWandModel", "thrown", "I", false)
  | 5 => ("BarcodeWandModel", "looked", "[I", true)
  | 6 => ("BarcodeWandModel", "manyLooked", "I", false)
  | 7 => ("BarcodeWandModel", "found", "[I", true)
  | 8 => ("BarcodeWandModel", "manyFound", "I", false)
  | 9 => ("BarcodeWandModel", "spot", "I", false)
  | 10 => ("BarcodeWandModel", "one", "I", false)
  | _ => ("BarcodeWandModel", "two", "I", false)
def tyX8 : Nat → FieldType := fun k => match k with
  | 0 => .array .int
  | 1 => .int
  | 2 => .array .char
  | 3 => .int
  | 4 => .int
  | 5 => .array .int
  | 6 => .int
  | 7 => .array .int
  | 8 => .int
  | 9 => .int
  | 10 => .int
  | _ => .int
theorem nmX8 : ∀ a, a < 12 → ∀ b, b < 12 → a ≠ b → (TX8 a).2.1 ≠ (TX8 b).2.1 := by decide +kernel
theorem tyX8_ok : ∀ k, k < 12 → parseFieldDescriptor (TX8 k).2.2.1 = some (tyX8 k) := by decide +kernel
abbrev cX8_init : ByteArray := prog_10_method_1_code
def yX8_init : MethodName := ⟨RX8, "<init>", "()V"⟩
abbrev cX8_thrown : ByteArray := prog_10_method_2_code
def yX8_thrown : MethodName := ⟨RX8, "thrown", "()I"⟩
abbrev cX8_in : ByteArray := prog_10_method_3_code
def yX8_in : MethodName := ⟨RX8, "in", "(III)Z"⟩
abbrev cX8_goes : ByteArray := prog_10_method_4_code
def yX8_goes : MethodName := ⟨RX8, "goes", "(ZZ)Z"⟩
abbrev cX8_copies : ByteArray := prog_10_method_5_code
def yX8_copies : MethodName := ⟨RX8, "copies", "(II)V"⟩
abbrev cX8_saves : ByteArray := prog_10_method_6_code
def yX8_saves : MethodName := ⟨RX8, "saves", "()V"⟩
abbrev cX8_pattern : ByteArray := prog_10_method_7_code
def yX8_pattern : MethodName := ⟨RX8, "pattern", "(I)I"⟩
abbrev cX8_widthOf : ByteArray := prog_10_method_8_code
def yX8_widthOf : MethodName := ⟨RX8, "widthOf", "(II)I"⟩
abbrev cX8_manyElements : ByteArray := prog_10_method_9_code
def yX8_manyElements : MethodName := ⟨RX8, "manyElements", "()I"⟩
abbrev cX8_elementWidth : ByteArray := prog_10_method_10_code
def yX8_elementWidth : MethodName := ⟨RX8, "elementWidth", "(I)I"⟩
abbrev cX8_isElement : ByteArray := prog_10_method_11_code
def yX8_isElement : MethodName := ⟨RX8, "isElement", "(I)Z"⟩
abbrev cX8_isPrint : ByteArray := prog_10_method_12_code
def yX8_isPrint : MethodName := ⟨RX8, "isPrint", "(II)Z"⟩
abbrev cX8_check : ByteArray := prog_10_method_13_code
def yX8_check : MethodName := ⟨RX8, "check", "([III)I"⟩
abbrev cX8_prints : ByteArray := prog_10_method_14_code
def yX8_prints : MethodName := ⟨RX8, "prints", "(II)I"⟩
abbrev cX8_print : ByteArray := prog_10_method_15_code
def yX8_print : MethodName := ⟨RX8, "print", "(II)I"⟩
abbrev cX8_smudges : ByteArray := prog_10_method_16_code
def yX8_smudges : MethodName := ⟨RX8, "smudges", "(II)I"⟩
abbrev cX8_smudge : ByteArray := prog_10_method_17_code
def yX8_smudge : MethodName := ⟨RX8, "smudge", "(II)I"⟩
abbrev cX8_elements : ByteArray := prog_10_method_18_code
def yX8_elements : MethodName := ⟨RX8, "elements", "()I"⟩
abbrev cX8_width : ByteArray := prog_10_method_19_code
def yX8_width : MethodName := ⟨RX8, "width", "(I)I"⟩
abbrev cX8_labelDigit : ByteArray := prog_10_method_20_code
def yX8_labelDigit : MethodName := ⟨RX8, "labelDigit", "(I)I"⟩
abbrev cX8_looksAtMeasurement : ByteArray := prog_10_method_21_code
def yX8_looksAtMeasurement : MethodName := ⟨RX8, "looksAtMeasurement", "()V"⟩
abbrev cX8_looksAtLabel : ByteArray := prog_10_method_22_code
def yX8_looksAtLabel : MethodName := ⟨RX8, "looksAtLabel", "(IIZ)V"⟩
abbrev cX8_time : ByteArray := prog_10_method_23_code
def yX8_time : MethodName := ⟨RX8, "time", "(IZ)I"⟩
abbrev cX8_size : ByteArray := prog_10_method_24_code
def yX8_size : MethodName := ⟨RX8, "size", "(I)I"⟩
abbrev cX8_sumOfFour : ByteArray := prog_10_method_25_code
def yX8_sumOfFour : MethodName := ⟨RX8, "sumOfFour", "(IZ)I"⟩
abbrev cX8_distance : ByteArray := prog_10_method_26_code
def yX8_distance : MethodName := ⟨RX8, "distance", "(IIZ)I"⟩
abbrev cX8_nearestDigit : ByteArray := prog_10_method_27_code
def yX8_nearestDigit : MethodName := ⟨RX8, "nearestDigit", "(IZ)I"⟩
abbrev cX8_digitAt : ByteArray := prog_10_method_28_code
def yX8_digitAt : MethodName := ⟨RX8, "digitAt", "(IZI)I"⟩
abbrev cX8_isLeftGuard : ByteArray := prog_10_method_29_code
def yX8_isLeftGuard : MethodName := ⟨RX8, "isLeftGuard", "(Z)Z"⟩
abbrev cX8_isRightGuard : ByteArray := prog_10_method_30_code
def yX8_isRightGuard : MethodName := ⟨RX8, "isRightGuard", "(Z)Z"⟩
abbrev cX8_fails : ByteArray := prog_10_method_31_code
def yX8_fails : MethodName := ⟨RX8, "fails", "(ZI)I"⟩
abbrev cX8_reads : ByteArray := prog_10_method_32_code
def yX8_reads : MethodName := ⟨RX8, "reads", "(I)I"⟩
abbrev cX8_number : ByteArray := prog_10_method_33_code
def yX8_number : MethodName := ⟨RX8, "number", "()I"⟩
abbrev cX8_notes : ByteArray := prog_10_method_34_code
def yX8_notes : MethodName := ⟨RX8, "notes", "()V"⟩
abbrev cX8_readsAndCounts : ByteArray := prog_10_method_35_code
def yX8_readsAndCounts : MethodName := ⟨RX8, "readsAndCounts", "()I"⟩
abbrev cX8_arePeriods : ByteArray := prog_10_method_36_code
def yX8_arePeriods : MethodName := ⟨RX8, "arePeriods", "(II)Z"⟩
abbrev cX8_draws : ByteArray := prog_10_method_37_code
def yX8_draws : MethodName := ⟨RX8, "draws", "(IIZ)I"⟩
abbrev cX8_draw : ByteArray := prog_10_method_38_code
def yX8_draw : MethodName := ⟨RX8, "draw", "(IIZ)I"⟩
abbrev cX8_measure : ByteArray := prog_10_method_39_code
def yX8_measure : MethodName := ⟨RX8, "measure", "(I)I"⟩
abbrev cX8_clearMeasurement : ByteArray := prog_10_method_40_code
def yX8_clearMeasurement : MethodName := ⟨RX8, "clearMeasurement", "()I"⟩
abbrev cX8_read : ByteArray := prog_10_method_41_code
def yX8_read : MethodName := ⟨RX8, "read", "()I"⟩
abbrev cX8_times : ByteArray := prog_10_method_42_code
def yX8_times : MethodName := ⟨RX8, "times", "()I"⟩
abbrev cX8_time_ : ByteArray := prog_10_method_43_code
def yX8_time_ : MethodName := ⟨RX8, "time", "(I)I"⟩
abbrev cX8_setTolerance : ByteArray := prog_10_method_44_code
def yX8_setTolerance : MethodName := ⟨RX8, "setTolerance", "(I)I"⟩
abbrev cX8_result : ByteArray := prog_10_method_45_code
def yX8_result : MethodName := ⟨RX8, "result", "()I"⟩
abbrev cX8_reason : ByteArray := prog_10_method_46_code
def yX8_reason : MethodName := ⟨RX8, "reason", "(Z)I"⟩
abbrev cX8_digit : ByteArray := prog_10_method_47_code
def yX8_digit : MethodName := ⟨RX8, "digit", "(I)I"⟩
abbrev cX8_nearest : ByteArray := prog_10_method_48_code
def yX8_nearest : MethodName := ⟨RX8, "nearest", "(I)I"⟩
abbrev cX8_isCode : ByteArray := prog_10_method_49_code
def yX8_isCode : MethodName := ⟨RX8, "isCode", "(I)Z"⟩
abbrev cX8_codes : ByteArray := prog_10_method_50_code
def yX8_codes : MethodName := ⟨RX8, "codes", "()I"⟩
abbrev cX8_code : ByteArray := prog_10_method_51_code
def yX8_code : MethodName := ⟨RX8, "code", "(I)I"⟩
abbrev cX8_codeLength : ByteArray := prog_10_method_52_code
def yX8_codeLength : MethodName := ⟨RX8, "codeLength", "(I)I"⟩
abbrev cX8_count : ByteArray := prog_10_method_53_code
def yX8_count : MethodName := ⟨RX8, "count", "(I)I"⟩
abbrev cX8_successes : ByteArray := prog_10_method_54_code
def yX8_successes : MethodName := ⟨RX8, "successes", "()I"⟩
abbrev cX8_failures : ByteArray := prog_10_method_55_code
def yX8_failures : MethodName := ⟨RX8, "failures", "()I"⟩
abbrev cX8_ifDrawn : ByteArray := prog_10_method_56_code
def yX8_ifDrawn : MethodName := ⟨RX8, "ifDrawn", "(IIZ)I"⟩
abbrev cX8_greatest : ByteArray := prog_10_method_57_code
def yX8_greatest : MethodName := ⟨RX8, "greatest", "(I)I"⟩
abbrev cX8_greatestSmudge : ByteArray := prog_10_method_58_code
def yX8_greatestSmudge : MethodName := ⟨RX8, "greatestSmudge", "(I)I"⟩
abbrev cX8_leastTolerance : ByteArray := prog_10_method_59_code
def yX8_leastTolerance : MethodName := ⟨RX8, "leastTolerance", "()I"⟩
abbrev cX8_append : ByteArray := prog_10_method_60_code
def yX8_append : MethodName := ⟨RX8, "append", "(I)I"⟩
abbrev cX8_clearBuffer : ByteArray := prog_10_method_61_code
def yX8_clearBuffer : MethodName := ⟨RX8, "clearBuffer", "()I"⟩
abbrev cX8_isHere : ByteArray := prog_10_method_62_code
def yX8_isHere : MethodName := ⟨RX8, "isHere", "(CC)Z"⟩
abbrev cX8_takes : ByteArray := prog_10_method_63_code
def yX8_takes : MethodName := ⟨RX8, "takes", "(C)Z"⟩
abbrev cX8_reads_ : ByteArray := prog_10_method_64_code
def yX8_reads_ : MethodName := ⟨RX8, "reads", "(II)I"⟩
abbrev cX8_readsLabel : ByteArray := prog_10_method_65_code
def yX8_readsLabel : MethodName := ⟨RX8, "readsLabel", "()Z"⟩
abbrev cX8_readsSmudge : ByteArray := prog_10_method_66_code
def yX8_readsSmudge : MethodName := ⟨RX8, "readsSmudge", "()Z"⟩
abbrev cX8_readsPeriods : ByteArray := prog_10_method_67_code
def yX8_readsPeriods : MethodName := ⟨RX8, "readsPeriods", "()Z"⟩
abbrev cX8_command : ByteArray := prog_10_method_68_code
def yX8_command : MethodName := ⟨RX8, "command", "()C"⟩
abbrev cX8_error : ByteArray := prog_10_method_69_code
def yX8_error : MethodName := ⟨RX8, "error", "()I"⟩
abbrev cX8_firstError : ByteArray := prog_10_method_70_code
def yX8_firstError : MethodName := ⟨RX8, "firstError", "()I"⟩
abbrev cX8_can : ByteArray := prog_10_method_71_code
def yX8_can : MethodName := ⟨RX8, "can", "(C)Z"⟩
abbrev cX8_does : ByteArray := prog_10_method_72_code
def yX8_does : MethodName := ⟨RX8, "does", "(C)V"⟩
abbrev cX8_run : ByteArray := prog_10_method_73_code
def yX8_run : MethodName := ⟨RX8, "run", "()I"⟩
abbrev cX8_undo : ByteArray := prog_10_method_74_code
def yX8_undo : MethodName := ⟨RX8, "undo", "()I"⟩
abbrev cX8_savedStates : ByteArray := prog_10_method_75_code
def yX8_savedStates : MethodName := ⟨RX8, "savedStates", "()I"⟩
abbrev cX8_digest : ByteArray := prog_10_method_76_code
def yX8_digest : MethodName := ⟨RX8, "digest", "()J"⟩
def RL : String := "BarcodeWandLaw"
abbrev cL_print : ByteArray := method_3_code
def yL_print : MethodName := ⟨RL, "print", "(LBarcodeWand;II[J)I"⟩
abbrev cL_smudge : ByteArray := method_4_code
def yL_smudge : MethodName := ⟨RL, "smudge", "(LBarcodeWand;II[J)I"⟩
abbrev cL_width : ByteArray := method_5_code
def yL_width : MethodName := ⟨RL, "width", "(LBarcodeWand;I[J)I"⟩
abbrev cL_labelDigit : ByteArray := method_6_code
def yL_labelDigit : MethodName := ⟨RL, "labelDigit", "(LBarcodeWand;I[J)I"⟩
abbrev cL_draw : ByteArray := method_7_code
def yL_draw : MethodName := ⟨RL, "draw", "(LBarcodeWand;IIZ[J)I"⟩
abbrev cL_measure : ByteArray := method_8_code
def yL_measure : MethodName := ⟨RL, "measure", "(LBarcodeWand;I[J)I"⟩
abbrev cL_time : ByteArray := method_9_code
def yL_time : MethodName := ⟨RL, "time", "(LBarcodeWand;I[J)I"⟩
abbrev cL_setTolerance : ByteArray := method_10_code
def yL_setTolerance : MethodName := ⟨RL, "setTolerance", "(LBarcodeWand;I[J)I"⟩
abbrev cL_digit : ByteArray := method_11_code
def yL_digit : MethodName := ⟨RL, "digit", "(LBarcodeWand;I[J)I"⟩
abbrev cL_nearest : ByteArray := method_12_code
def yL_nearest : MethodName := ⟨RL, "nearest", "(LBarcodeWand;I[J)I"⟩
abbrev cL_code : ByteArray := method_13_code
def yL_code : MethodName := ⟨RL, "code", "(LBarcodeWand;I[J)I"⟩
abbrev cL_codeLength : ByteArray := method_14_code
def yL_codeLength : MethodName := ⟨RL, "codeLength", "(LBarcodeWand;I[J)I"⟩
abbrev cL_count : ByteArray := method_15_code
def yL_count : MethodName := ⟨RL, "count", "(LBarcodeWand;I[J)I"⟩
abbrev cL_ifDrawn : ByteArray := method_16_code
def yL_ifDrawn : MethodName := ⟨RL, "ifDrawn", "(LBarcodeWand;IIZ[J)I"⟩
abbrev cL_greatestSmudge : ByteArray := method_17_code
def yL_greatestSmudge : MethodName := ⟨RL, "greatestSmudge", "(LBarcodeWand;I[J)I"⟩
abbrev cL_append : ByteArray := method_18_code
def yL_append : MethodName := ⟨RL, "append", "(LBarcodeWand;I[J)I"⟩
abbrev cL_run : ByteArray := method_19_code
def yL_run : MethodName := ⟨RL, "run", "(LBarcodeWand;[J)I"⟩
abbrev cL_undo : ByteArray := method_20_code
def yL_undo : MethodName := ⟨RL, "undo", "(LBarcodeWand;[J)I"⟩
abbrev cL_law : ByteArray := code
def yL_law : MethodName := ⟨RL, "law", "([I)Z"⟩
abbrev vwCl : List vw_C := [(RX0, TX0, 3), (RX1, TX1, 6), (RX2, TX2, 2), (RX3, TX3, 8), (RX4, TX4, 2), (RX5, TX5, 3), (RX6, TX6, 6), (RX7, TX7, 6), (RX8, TX8, 12)]
end
section
/-- the texts of the class, by their entries -/
def k_TX : List (Nat × String) := [(259, "the label has no such element"), (51, "count is not 1 to 8"), (60, "digits is negative or has more than count digits"), (85, "tenths is not -9 to 9"), (106, "the label has no such digit"), (263, "a period is not 1 to 50"), (265, "there is no label"), (122, "time is not 1 to 9999"), (130, "the measurement contains 41 times"), (140, "there is no such time"), (142, "tolerance is not 1 to 8"), (156, "digit is not 0 to 8"), (162, "there are no four times from this index on"), (261, "there is no such code"), (202, "code is not 33 to 126"), (204, "the buffer contains 60 characters"), (212, "the buffer is not a complete command text"), (224, "no state is saved")]
/-! ===== one list of words for every method: what the tables say and keep ===== -/
def wsA : List Cond := lw_tbl.filter goodWord
theorem wsA_good {w : Cond} (h : w ∈ wsA) : goodWord w = true := (List.mem_filter.mp h).2
theorem wsA_tbl {w : Cond} (h : w ∈ wsA) : w ∈ lw_tbl := (List.mem_filter.mp h).1
theorem mA {w : Cond} (i : Nat) (h : tables_1[i]? = some w) (g : goodWord w = true) : w ∈ wsA := List.mem_filter.mpr ⟨List.mem_append_right _ (List.mem_of_getElem? h), g⟩
theorem mS {w : Cond} (i : Nat) (h : (k2_sels lw_privs)[i]? = some w) (g : goodWord w = true) : w ∈ wsA := List.mem_filter.mpr ⟨List.mem_append_left _ (List.mem_of_getElem? h), g⟩
/-! words that hold on and on, but are not of wsA -/
def k_isNX : Cond → Bool
  | .methodLinkNest _ _ _ _ => true
  | .fieldLinkNest _ _ _ _ _ _ => true
  | .castable _ _ => true
  | .declares _ => true
  | _ => false
theorem k_NX_on {w : Cond} (h : k_isNX w = true) : w.onTables = true := by
  cases w <;> first | rfl | (exact absurd h (by simp [k_isNX]))
theorem k_NX_warm {w : Cond} {s U : State} (h : k_isNX w = true) (hW : s.WarmedH U.vm) (hZ : va_Nw w s) : va_Nw w U := by
  cases w <;> first | exact va_Nw.warmM hW hZ | exact va_Nw.warmF hW hZ | exact va_Nw.warmC hW hZ | exact va_Nw.warmD hW hZ | (exact absurd h (by simp [k_isNX]))
abbrev k_T : Type := List (ClassId × FieldType)
/-- what holds on and on of the start: nest words, the throwables' statics, the texts, what is not castable -/
def k_G (A : Nat → Prop) (U : State) (H : Heap) : Prop :=
  (∀ w ∈ tables_1, k_isNX w = true → va_Nw w U) ∧ vx_Zq Bundle.tN "UNASSIGNED_STACK" Bundle.steD A U H ∧ vx_Zq Bundle.tN "SUPPRESSED_SENTINEL" Bundle.listD A U H ∧ (∀ q ∈ k_TX, ∃ a : Nat, vk_R RX7 q.1 q.2 a U) ∧ va_Nc "java/lang/IllegalStateException" "java/lang/IllegalArgumentException" U ∧ va_AO "BarcodeWand$State" U
theorem k_G.call {A0 A1 : Nat → Prop} {s U : State} {H : Heap} {locs : List Loc} (h : k_G A0 s s.heap) (hS : va_S A0 s.heap H locs) (hF : ∀ q, A1 q → A0 q) (hU : U.heap = H) (hW : s.WarmedH U.vm) : k_G A1 U U.heap := by
  obtain ⟨h1, h2, h3, h4, h5, h6⟩ := h
  rw [hU]
  refine ⟨fun w hw hn => k_NX_warm hn hW (h1 w hw hn), ((h2.moved hW.alike).kept hS.2.1).narrow hF, ((h3.moved hW.alike).kept hS.2.1).narrow hF, fun q hq => ?_, h5.moved hW.alike, h6.moved hW.alike⟩
  obtain ⟨a, ha⟩ := h4 q hq
  exact ⟨a, vk_R.warm hW ha⟩
theorem k_G.blind {A : Nat → Prop} {U : State} {H : Heap} (g : JFrame) (mk : MethodId) (a : Array Value) (h : k_G A U H) : k_G A (U.calling g mk a) H := by
  obtain ⟨h1, h2, h3, h4, h5, h6⟩ := h
  refine ⟨fun w hw hn => va_Nw.same (k_NX_on hn) (u := U) (U := U.calling g mk a) rfl (h1 w hw hn), vx_Zq.moved (u := U) (U := U.calling g mk a) (Vm.Alike.refl U.vm) h2, vx_Zq.moved (u := U) (U := U.calling g mk a) (Vm.Alike.refl U.vm) h3, fun q hq => ?_, va_Nc.moved (u := U) (U := U.calling g mk a) (Vm.Alike.refl U.vm) h5, va_AO.moved (u := U) (U := U.calling g mk a) (Vm.Alike.refl U.vm) h6⟩
  obtain ⟨b, hb⟩ := h4 q hq
  exact ⟨b, vk_R.same (u := U) (U := U.calling g mk a) rfl hb⟩
/-- a contract's start -/
def k_P (D : va_G) (av : List Value) (ws : va_W) (tys : k_T) (sz : Nat) : Array Value → State → Prop := va_Pc av (fun U => U.heap.size = sz ∧ va_P D vwCl ws U.heap ∧ va_K D vwCl tys U ∧ va_D (fun _ => True) ws ∧ k_G (va_A ws sz) U U.heap)
/-- its world behind -/
def k_B {S : Type} (D : va_G) (A : Nat → Prop) (w1 : S → va_W) (t1 : S → k_T) (u : S) (t : State) : Prop := va_P D vwCl (w1 u) t.heap ∧ va_K D vwCl (t1 u) t ∧ va_D A (w1 u)
theorem k_P_blind {D : va_G} {av : List Value} {ws : va_W} {tys : k_T} {sz : Nat} : FrameBlind (k_P D av ws tys sz) := fun a U g mk q => by
  obtain ⟨q0, q1, qP, qK, qD, qG⟩ := q
  exact ⟨q0, q1, qP, va_K.moved (u := U) (U := U.calling g mk a) (Vm.Alike.refl U.vm) qK, qD, qG.blind g mk a⟩
theorem k_P_of {D : va_G} {av : List Value} {ws wc : va_W} {tys tc : k_T} {A0 : Nat → Prop} {s : State} {H : Heap} {locs : List Loc} (hG : k_G A0 s s.heap) (hS : va_S A0 s.heap H locs) (hF : ∀ q, va_A wc H.size q → A0 q)
    (hP : va_P D vwCl wc H) (hK : va_K D vwCl tc s) (hD : va_D A0 wc) (U : State) (hU : U.heap = H) (hW : s.WarmedH U.vm) : k_P D av wc tc H.size av.toArray U :=
  ⟨rfl, by rw [hU], by rw [hU]; exact hP, va_K.moved hW.alike hK, hD.weaken (fun _ _ _ _ => trivial), hG.call hS hF hU hW⟩
/-! a link of a method: the caller's class and entry, the callee -/
def k_y (y : MethodName) (n : Nat) : Prop := y.cls ≠ "java/lang/invoke/MethodHandle" ∧ y.cls ≠ "java/lang/invoke/VarHandle" ∧ (parseMethodDescriptor y.desc).map (fun d => d.parameters.length) = some n
def k_LV (own : String) (index : Nat) (y : MethodName) (bytes : ByteArray) (maxL : Nat) (ret : Option FieldType) (n : Nat) : Prop :=
  Cond.methodLink own index y ∈ wsA ∧ Cond.instanceMethod y ∈ wsA ∧ Cond.selects y.cls y y ∈ wsA ∧ Cond.initialized y.cls ∈ wsA ∧ Cond.code y bytes maxL ret ∈ wsA ∧ k_y y n
def k_LI (own : String) (index : Nat) (y : MethodName) (bytes : ByteArray) (maxL : Nat) (n : Nat) : Prop :=
  Cond.methodLink own index y ∈ wsA ∧ Cond.instanceMethod y ∈ wsA ∧ Cond.initialized y.cls ∈ wsA ∧ Cond.code y bytes maxL none ∈ wsA ∧ y.name = "<init>" ∧ k_y y n
def k_LS (own : String) (index : Nat) (y : MethodName) (bytes : ByteArray) (maxL : Nat) (ret : Option FieldType) (n : Nat) : Prop :=
  Cond.methodLink own index y ∈ wsA ∧ Cond.static y ∈ wsA ∧ Cond.initialized y.cls ∈ wsA ∧ Cond.code y bytes maxL ret ∈ wsA ∧ k_y y n
def k_LIN (own : String) (index : Nat) (host : String) (y : MethodName) (bytes : ByteArray) (maxL : Nat) (n : Nat) : Prop :=
  (Cond.methodLinkNest own index y host ∈ tables_1) ∧ Cond.instanceMethod y ∈ wsA ∧ Cond.initialized y.cls ∈ wsA ∧ Cond.code y bytes maxL none ∈ wsA ∧ y.name = "<init>" ∧ k_y y n
def k_LSN (own : String) (index : Nat) (host : String) (y : MethodName) (bytes : ByteArray) (maxL : Nat) (ret : Option FieldType) (n : Nat) : Prop :=
  (Cond.methodLinkNest own index y host ∈ tables_1) ∧ Cond.static y ∈ wsA ∧ Cond.initialized y.cls ∈ wsA ∧ Cond.code y bytes maxL ret ∈ wsA ∧ k_y y n
theorem k_goodIn {w : Cond} (h : w ∈ wsA) : GoodIn wsA (w :: wsA) := fun v hv => by
  rcases List.mem_cons.mp hv with rfl | hv
  · exact ⟨h, good_of_word (wsA_good h)⟩
  · exact ⟨hv, good_of_word (wsA_good hv)⟩
abbrev k_ws (y : MethodName) (bytes : ByteArray) (maxL : Nat) (ret : Option FieldType) : List Cond := Cond.code y bytes maxL ret :: wsA
abbrev k_rm (fr mc ms lo : Nat) : Room := { frames := fr, cells := mc, slots := ms, locals := lo }
theorem k_one {D : va_G} {cl : List vw_C} {tys : k_T} {s : State} (hK : va_K D cl tys s) {i j : Nat} {a b : ClassId} {ty : FieldType} (hi : tys[i]? = some (a, ty)) (hj : tys[j]? = some (b, ty)) : a = b := by
  have h1 := (hK.2 i _ hi).2
  have h2 := (hK.2 j _ hj).2
  cases ty with
  | object C =>
    obtain ⟨_, _, _, _, _, h3⟩ := h1
    obtain ⟨_, _, _, _, _, h4⟩ := h2
    exact Option.some.inj (h3.symm.trans h4)
  | _ => exact Option.some.inj (Eq.trans (Eq.symm h1) h2)
/-! contracts: int (and boolean), long, void, reference -/
abbrev k_Mi {S : Type} (l : Launch) (D : va_G) (y : MethodName) (bytes : ByteArray) (maxL : Nat) (ret : Option FieldType) (fr mc ms lo : Nat) (av : List Value) (ws : va_W) (tys : k_T) (post : Int32 → S → Prop) (w1 : S → va_W) (t1 : S → k_T) (sz : Nat) : Prop :=
  Met l y (k_ws y bytes maxL ret) (k_rm fr mc ms lo) (k_P D av ws tys sz) (va_Qi post (k_B D (va_A ws sz) w1 t1) (va_A ws sz)) mc ms (va_A ws sz)
abbrev k_Ml {S : Type} (l : Launch) (D : va_G) (y : MethodName) (bytes : ByteArray) (maxL : Nat) (ret : Option FieldType) (fr mc ms lo : Nat) (av : List Value) (ws : va_W) (tys : k_T) (post : Int64 → S → Prop) (w1 : S → va_W) (t1 : S → k_T) (sz : Nat) : Prop :=
  Met l y (k_ws y bytes maxL ret) (k_rm fr mc ms lo) (k_P D av ws tys sz) (va_Ql post (k_B D (va_A ws sz) w1 t1) (va_A ws sz)) mc ms (va_A ws sz)
abbrev k_Mv {S : Type} (l : Launch) (D : va_G) (y : MethodName) (bytes : ByteArray) (maxL : Nat) (ret : Option FieldType) (fr mc ms lo : Nat) (av : List Value) (ws : va_W) (tys : k_T) (post : S → Prop) (w1 : S → va_W) (t1 : S → k_T) (sz : Nat) : Prop :=
  Met l y (k_ws y bytes maxL ret) (k_rm fr mc ms lo) (k_P D av ws tys sz) (va_Qv post (k_B D (va_A ws sz) w1 t1) (va_A ws sz)) mc ms (va_A ws sz)
abbrev k_Mr {S : Type} (l : Launch) (D : va_G) (y : MethodName) (bytes : ByteArray) (maxL : Nat) (ret : Option FieldType) (fr mc ms lo : Nat) (av : List Value) (ws : va_W) (tys : k_T) (post : S → Nat → Prop) (w1 : S → va_W) (t1 : S → k_T) (sz : Nat) : Prop :=
  Met l y (k_ws y bytes maxL ret) (k_rm fr mc ms lo) (k_P D av ws tys sz) (va_Qr (fun _ : S => True) (fun u a t => post u a ∧ k_B D (va_A ws sz) w1 t1 u t) (va_A ws sz)) mc ms (va_A ws sz)
/-- where a method throws: the class by its name, and the world as it was -/
abbrev k_X (D : va_G) (ws : va_W) (tys : k_T) (sz : Nat) (EX : String → Prop) : String → State → State → Prop := vx_X (S := Unit) (fun _ => True) (fun E u t => EX E ∧ k_B D (va_A ws sz) (fun _ : Unit => ws) (fun _ => []) u t) (va_A ws sz)
abbrev k_Xi {S : Type} (l : Launch) (D : va_G) (y : MethodName) (bytes : ByteArray) (maxL : Nat) (ret : Option FieldType) (fr mc ms lo : Nat) (av : List Value) (ws : va_W) (tys : k_T) (post : Int32 → S → Prop) (w1 : S → va_W) (t1 : S → k_T) (EX : String → Prop) (sz : Nat) : Prop :=
  vx_Met l y (k_ws y bytes maxL ret) (k_rm fr mc ms lo) (k_P D av ws tys sz) (va_Qi post (k_B D (va_A ws sz) w1 t1) (va_A ws sz)) (k_X D ws tys sz EX) mc ms (va_A ws sz)
abbrev k_Xv {S : Type} (l : Launch) (D : va_G) (y : MethodName) (bytes : ByteArray) (maxL : Nat) (ret : Option FieldType) (fr mc ms lo : Nat) (av : List Value) (ws : va_W) (tys : k_T) (post : S → Prop) (w1 : S → va_W) (t1 : S → k_T) (EX : String → Prop) (sz : Nat) : Prop :=
  vx_Met l y (k_ws y bytes maxL ret) (k_rm fr mc ms lo) (k_P D av ws tys sz) (va_Qv post (k_B D (va_A ws sz) w1 t1) (va_A ws sz)) (k_X D ws tys sz EX) mc ms (va_A ws sz)
/-- a loop: a picture of its head, a measure that falls -/
theorem k_loop {p : Program} {l : Launch} {e : Env} {R : Room} {s : State} {m : MethodId} {args : Array Value} {below : List Frame} {meth : Method} {c : Code} {cells slots : Nat} {Q : State → Prop} {pc : Nat} {st : List Value} {ι : Type} (F : ι → Heap → List Loc → Array Slot → Prop) (μ : ι → Nat)
    (hs : ∀ (x : ι) (H : Heap) (locs : List Loc) (ls : Array Slot), F x H locs ls → (∀ (y : ι) (H1 : Heap) (locs1 : List Loc) (ls1 : Array Slot), μ y < μ x → F y H1 locs1 ls1 → W p l e R s m args below meth c H1 locs1 cells slots Q (F0 m pc ls1 st)) → W p l e R s m args below meth c H locs cells slots Q (F0 m pc ls st))
    (x : ι) {H : Heap} {locs : List Loc} {ls : Array Slot} (h : F x H locs ls) : W p l e R s m args below meth c H locs cells slots Q (F0 m pc ls st) := by
  have key : ∀ (n : Nat) (x : ι) (H : Heap) (locs : List Loc) (ls : Array Slot), μ x < n → F x H locs ls → W p l e R s m args below meth c H locs cells slots Q (F0 m pc ls st) := by
    intro n
    induction n with
    | zero => intro x H locs ls h; exact absurd h (Nat.not_lt_zero _)
    | succ n ih => intro x H locs ls hn hF; exact hs x H locs ls hF (fun y H1 locs1 ls1 hy hF1 => ih y H1 locs1 ls1 (by omega) hF1)
  exact key (μ x + 1) x H locs ls (Nat.lt_succ_self _) h
section KC
variable {p : Program} {l : Launch} {e : Env} {R : Room} {s : State} {m : MethodId} {args : Array Value} {below : List Frame} {meth : Method} {c : Code} {H : Heap} {locs : List Loc} {cells slots : Nat} {Q : State → Prop}
variable {cc : ByteArray} {pc : Nat} {ls : Array Slot} {rest st0 : List Value} {A0 : Nat → Prop} {D : va_G}
variable {y : MethodName} {bytes : ByteArray} {maxL nL n index : Nat} {ret : Option FieldType} {own host : String} {b : Nat} {As : List Value} {ws wc wr : va_W} {tys tc : k_T} {fr mc ms lo c2 s2 : Nat}
/-- what stands at every row of a walk -/
abbrev k_C (p : Program) (s : State) (m : MethodId) (args : Array Value) (c : Code) (cc : ByteArray) (nL : Nat) (own : String) : Prop := CallFix p m c cc nL s args wsA own
theorem k_callB (ht : ∀ w ∈ wsA, w.before args s = true) (hl : (Cond.methodLink own index y).before args s = true) (hi : Cond.initialized y.cls ∈ wsA) (hc : Cond.code y bytes maxL ret ∈ wsA) (hy : k_y y n) (hR : fr + 1 ≤ R.frames ∧ 8 + (maxL + 11) + lo ≤ R.locals) : CallB R s args own index y bytes maxL ret (k_ws y bytes maxL ret) (k_rm fr mc ms lo) mc ms n :=
  callB_of n ht (k_goodIn hc) rfl rfl rfl (ht _ hi) hl hy hR
/-- a norm of a computed number -/
theorem k_nrm {x y : Int32} (h : x = y) (k : W p l e R s m args below meth c H locs cells slots Q (F0 m pc ls (.int y :: rest))) : W p l e R s m args below meth c H locs cells slots Q (F0 m pc ls (.int x :: rest)) := h ▸ k
theorem k_nrml {x y : Int64} (h : x = y) (k : W p l e R s m args below meth c H locs cells slots Q (F0 m pc ls (.long y :: rest))) : W p l e R s m args below meth c H locs cells slots Q (F0 m pc ls (.long x :: rest)) := h ▸ k
/-- what a call asks of the caller's world: the callee's cells out of it, the rest beside -/
def k_cut (D : va_G) (A0 : Nat → Prop) (s : State) (H : Heap) (locs : List Loc) (ws wc wr : va_W) (tys tc : k_T) : Prop :=
  k_G A0 s s.heap ∧ va_S A0 s.heap H locs ∧ (∀ q, s.heap.size ≤ q → A0 q) ∧ va_K D vwCl tys s ∧ va_K D vwCl tc s ∧ va_P D vwCl wc H ∧ va_D A0 wc ∧ (∀ q, va_A wc H.size q → A0 q) ∧
  (∀ (w1 : va_W) (H1 : Heap), (∀ q : Nat, q < H.size → ¬ va_A wc H.size q → H1[q]? = H[q]?) → va_P D vwCl w1 H1 → va_D (va_A wc H.size) w1 → va_P D vwCl (wr ++ w1) H1 ∧ va_D A0 (wr ++ w1))
theorem k_cut_of (hG : k_G A0 s s.heap) (hS : va_S A0 s.heap H locs) (hA : ∀ q, s.heap.size ≤ q → A0 q) (hK : va_K D vwCl tys s) (hP : va_P D vwCl ws H) (hD : va_D A0 ws) (isC isR isT : List Nat)
    (hC : isC.map (fun i => ws[i]?) = wc.map some) (hR : isR.map (fun i => ws[i]?) = wr.map some) (hn : va_nd isC = true) (hnR : va_nd isR = true) (hdis : ∀ i ∈ isR, i ∉ isC) (hT : isT.filterMap (fun i => tys[i]?) = tc) : k_cut D A0 s H locs ws wc wr tys tc := by
  have hF := va_free (wc := wc) hD hS hA isC hC
  have hPc : va_P D vwCl wc H := by
    intro k q hk
    have h1 : (isC.map (fun i => ws[i]?))[k]? = some (some q) := by rw [hC, List.getElem?_map, hk]; rfl
    rw [List.getElem?_map] at h1
    cases hi : isC[k]? with
    | none => rw [hi] at h1; cases h1
    | some i => rw [hi] at h1; exact hP i q (Option.some.inj h1)
  exact ⟨hG, hS, hA, hK, hK.sub isT hT, hPc, hD.sub isC hn hC, hF, fun w1 H1 hk hP1 hD1 => va_join (wr := wr) (w1 := w1) hP hD isC isR hC hR hnR hdis hk hF hP1 hD1⟩
abbrev k_KK {α : Type} (D : va_G) (A0 : Nat → Prop) (s : State) (wr : va_W) (tys : k_T) {S : Type} (post : α → S → Prop) (w1 : S → va_W) (t1 : S → k_T) (K : Heap → List Loc → α → Prop) : Prop :=
  ∀ (r : α) (u : S) (H1 : Heap) (locs1 : List Loc), post r u → va_P D vwCl (wr ++ w1 u) H1 → va_D A0 (wr ++ w1 u) → va_K D vwCl (tys ++ t1 u) s → va_S A0 s.heap H1 locs1 → K H1 locs1 r
theorem k_endi {S : Type} {post : Int32 → S → Prop} {w1 : S → va_W} {t1 : S → k_T} (ct : k_cut D A0 s H locs ws wc wr tys tc)
    (hr : va_Run p l e R s m args below meth c H locs cells slots mc ms (F0 m pc ls st0) rest (va_Qi post (k_B D (va_A wc H.size) w1 t1) (va_A wc H.size) As.toArray) (va_A wc H.size)) (hc2 : cells + mc = c2) (hs2 : slots + ms = s2)
    (kk : k_KK D A0 s wr tys post w1 t1 (fun H1 locs1 r => W p l e R s m args below meth c H1 locs1 c2 s2 Q (F0 m (pc + 3) ls (.int r :: rest)))) : W p l e R s m args below meth c H locs cells slots Q (F0 m pc ls st0) := by
  obtain ⟨hG, hS, hA, hK, hKc, hPc, hDc, hF, hJ⟩ := ct
  refine va_calli hr hS (fun q _ h => hF q h) hF (fun r u t H1 locs1 ht hvm hw hB hz1 hk1 hS1 => ?_)
  obtain ⟨hP1, hK1, hD1⟩ := hB
  rw [ht] at hP1
  obtain ⟨hP2, hD2⟩ := hJ (w1 u) H1 hk1 hP1 hD1
  rw [hc2, hs2]
  exact kk r u H1 locs1 hw hP2 hD2 (hK.app (va_K.moved hvm.symm hK1)) hS1
theorem k_endl {S : Type} {post : Int64 → S → Prop} {w1 : S → va_W} {t1 : S → k_T} (ct : k_cut D A0 s H locs ws wc wr tys tc)
    (hr : va_Run p l e R s m args below meth c H locs cells slots mc ms (F0 m pc ls st0) rest (va_Ql post (k_B D (va_A wc H.size) w1 t1) (va_A wc H.size) As.toArray) (va_A wc H.size)) (hc2 : cells + mc = c2) (hs2 : slots + ms = s2)
    (kk : k_KK D A0 s wr tys post w1 t1 (fun H1 locs1 r => W p l e R s m args below meth c H1 locs1 c2 s2 Q (F0 m (pc + 3) ls (.long r :: rest)))) : W p l e R s m args below meth c H locs cells slots Q (F0 m pc ls st0) := by
  obtain ⟨hG, hS, hA, hK, hKc, hPc, hDc, hF, hJ⟩ := ct
  refine va_calll hr hS (fun q _ h => hF q h) hF (fun r u t H1 locs1 ht hvm hw hB hz1 hk1 hS1 => ?_)
  obtain ⟨hP1, hK1, hD1⟩ := hB
  rw [ht] at hP1
  obtain ⟨hP2, hD2⟩ := hJ (w1 u) H1 hk1 hP1 hD1
  rw [hc2, hs2]
  exact kk r u H1 locs1 hw hP2 hD2 (hK.app (va_K.moved hvm.symm hK1)) hS1
theorem k_endv {S : Type} {post : S → Prop} {w1 : S → va_W} {t1 : S → k_T} (ct : k_cut D A0 s H locs ws wc wr tys tc)
    (hr : va_Run p l e R s m args below meth c H locs cells slots mc ms (F0 m pc ls st0) rest (va_Qv post (k_B D (va_A wc H.size) w1 t1) (va_A wc H.size) As.toArray) (va_A wc H.size)) (hc2 : cells + mc = c2) (hs2 : slots + ms = s2)
    (kk : k_KK D A0 s wr tys (fun (_ : Unit) u => post u) w1 t1 (fun H1 locs1 _ => W p l e R s m args below meth c H1 locs1 c2 s2 Q (F0 m (pc + 3) ls rest))) : W p l e R s m args below meth c H locs cells slots Q (F0 m pc ls st0) := by
  obtain ⟨hG, hS, hA, hK, hKc, hPc, hDc, hF, hJ⟩ := ct
  refine va_callv hr hS (fun q _ h => hF q h) hF (fun u t H1 locs1 ht hvm hw hB hz1 hk1 hS1 => ?_)
  obtain ⟨hP1, hK1, hD1⟩ := hB
  rw [ht] at hP1
  obtain ⟨hP2, hD2⟩ := hJ (w1 u) H1 hk1 hP1 hD1
  rw [hc2, hs2]
  exact kk () u H1 locs1 hw hP2 hD2 (hK.app (va_K.moved hvm.symm hK1)) hS1
theorem k_endr {S : Type} {post : S → Nat → Prop} {w1 : S → va_W} {t1 : S → k_T} (ct : k_cut D A0 s H locs ws wc wr tys tc)
    (hr : va_Run p l e R s m args below meth c H locs cells slots mc ms (F0 m pc ls st0) rest (va_Qr (fun _ : S => True) (fun u a t => post u a ∧ k_B D (va_A wc H.size) w1 t1 u t) (va_A wc H.size) As.toArray) (va_A wc H.size)) (hc2 : cells + mc = c2) (hs2 : slots + ms = s2)
    (kk : k_KK D A0 s wr tys (fun (r : Nat) u => post u r) w1 t1 (fun H1 locs1 r => W p l e R s m args below meth c H1 locs1 c2 s2 Q (F0 m (pc + 3) ls (.ref r :: rest)))) : W p l e R s m args below meth c H locs cells slots Q (F0 m pc ls st0) := by
  obtain ⟨hG, hS, hA, hK, hKc, hPc, hDc, hF, hJ⟩ := ct
  refine va_callr hr hS (fun q _ h => hF q h) hF (fun u ra t H1 locs1 ht hvm hw hB hz1 hk1 hS1 => ?_)
  obtain ⟨hw, hP1, hK1, hD1⟩ := hB
  rw [ht] at hP1
  obtain ⟨hP2, hD2⟩ := hJ (w1 u) H1 hk1 hP1 hD1
  rw [hc2, hs2]
  exact kk ra u H1 locs1 hw hP2 hD2 (hK.app (va_K.moved hvm.symm hK1)) hS1
/-- where the callee throws, the caller's world is as it was -/
abbrev k_KX (p : Program) (l : Launch) (e : Env) (R : Room) (s : State) (m : MethodId) (args : Array Value) (below : List Frame) (meth : Method) (c : Code) (Q : State → Prop) (D : va_G) (A0 : Nat → Prop) (wr wc : va_W) (tys : k_T) (EX : String → Prop) (c2 s2 : Nat) (g : JFrame) : Prop :=
  ∀ (E : String) (ce : Cell) (q9 : Addr) (H1 : Heap) (locs1 : List Loc), EX E → va_P D vwCl (wr ++ wc) H1 → va_D A0 (wr ++ wc) → va_S A0 s.heap H1 locs1 → H1[q9]? = some ce → ce.vm = .none → s.vm.findClass E = some ce.cls → vx_W p l e R s m args below meth c H1 locs1 c2 s2 Q g q9
theorem k_endXi {S : Type} {post : Int32 → S → Prop} {w1 : S → va_W} {t1 : S → k_T} {EX : String → Prop} {tx : k_T} (ct : k_cut D A0 s H locs ws wc wr tys tc)
    (hr : vx_Run p l e R s m args below meth c H locs cells slots mc ms (F0 m pc ls st0) rest (va_Qi post (k_B D (va_A wc H.size) w1 t1) (va_A wc H.size) As.toArray) (k_X D wc tx H.size EX) (va_A wc H.size)) (hc2 : cells + mc = c2) (hs2 : slots + ms = s2)
    (kx : k_KX p l e R s m args below meth c Q D A0 wr wc tys EX c2 s2 (F0 m pc ls rest))
    (kk : k_KK D A0 s wr tys post w1 t1 (fun H1 locs1 r => W p l e R s m args below meth c H1 locs1 c2 s2 Q (F0 m (pc + 3) ls (.int r :: rest)))) : W p l e R s m args below meth c H locs cells slots Q (F0 m pc ls st0) := by
  obtain ⟨hG, hS, hA, hK, hKc, hPc, hDc, hF, hJ⟩ := ct
  refine vx_calli hr hS (fun q _ h => hF q h) hF (fun q _ h => hF q h) (fun E ce q9 u t H1 locs1 ht hvm hw hB hz1 hk1 hS1 h1 h2 h3 => ?_) (fun r u t H1 locs1 ht hvm hw hB hz1 hk1 hS1 => ?_)
  · obtain ⟨hE, hP1, hK1, hD1⟩ := hB
    rw [ht] at hP1
    obtain ⟨hP2, hD2⟩ := hJ wc H1 hk1 hP1 hD1
    rw [hc2, hs2]
    exact kx E ce q9 H1 locs1 hE hP2 hD2 hS1 h1 h2 h3
  · obtain ⟨hP1, hK1, hD1⟩ := hB
    rw [ht] at hP1
    obtain ⟨hP2, hD2⟩ := hJ (w1 u) H1 hk1 hP1 hD1
    rw [hc2, hs2]
    exact kk r u H1 locs1 hw hP2 hD2 (hK.app (va_K.moved hvm.symm hK1)) hS1
theorem k_endXv {S : Type} {post : S → Prop} {w1 : S → va_W} {t1 : S → k_T} {EX : String → Prop} {tx : k_T} (ct : k_cut D A0 s H locs ws wc wr tys tc)
    (hr : vx_Run p l e R s m args below meth c H locs cells slots mc ms (F0 m pc ls st0) rest (va_Qv post (k_B D (va_A wc H.size) w1 t1) (va_A wc H.size) As.toArray) (k_X D wc tx H.size EX) (va_A wc H.size)) (hc2 : cells + mc = c2) (hs2 : slots + ms = s2)
    (kx : k_KX p l e R s m args below meth c Q D A0 wr wc tys EX c2 s2 (F0 m pc ls rest))
    (kk : k_KK D A0 s wr tys (fun (_ : Unit) u => post u) w1 t1 (fun H1 locs1 _ => W p l e R s m args below meth c H1 locs1 c2 s2 Q (F0 m (pc + 3) ls rest))) : W p l e R s m args below meth c H locs cells slots Q (F0 m pc ls st0) := by
  obtain ⟨hG, hS, hA, hK, hKc, hPc, hDc, hF, hJ⟩ := ct
  refine vx_callv hr hS (fun q _ h => hF q h) hF (fun q _ h => hF q h) (fun E ce q9 u t H1 locs1 ht hvm hw hB hz1 hk1 hS1 h1 h2 h3 => ?_) (fun u t H1 locs1 ht hvm hw hB hz1 hk1 hS1 => ?_)
  · obtain ⟨hE, hP1, hK1, hD1⟩ := hB
    rw [ht] at hP1
    obtain ⟨hP2, hD2⟩ := hJ wc H1 hk1 hP1 hD1
    rw [hc2, hs2]
    exact kx E ce q9 H1 locs1 hE hP2 hD2 hS1 h1 h2 h3
  · obtain ⟨hP1, hK1, hD1⟩ := hB
    rw [ht] at hP1
    obtain ⟨hP2, hD2⟩ := hJ (w1 u) H1 hk1 hP1 hD1
    rw [hc2, hs2]
    exact kk () u H1 locs1 hw hP2 hD2 (hK.app (va_K.moved hvm.symm hK1)) hS1
/-! the runs: by the link's kind -/
theorem k_preV {C : String} {T : u_T} {N ci q0 : Nat} {fs : List Value} (ct : k_cut D A0 s H locs ws wc wr tys tc) (hc : vwCl[ci]? = some (C, T, N)) (hq : wc[q0]? = some (b, .inr (ci, fs))) : PreV s H C b (k_P D (.ref b :: As) wc tc H.size) As := by
  obtain ⟨hG, hS, hA, hK, hKc, hPc, hDc, hF, hJ⟩ := ct
  exact ⟨k_P_blind, va_recv hKc hPc hc hq, fun U hU hW => k_P_of (av := .ref b :: As) (ws := ws) (tys := tys) hG hS hF hPc hKc hDc U hU hW⟩
theorem k_preS (ct : k_cut D A0 s H locs ws wc wr tys tc) : PreS s H (k_P D As wc tc H.size) As := by
  obtain ⟨hG, hS, hA, hK, hKc, hPc, hDc, hF, hJ⟩ := ct
  exact ⟨k_P_blind, fun U hU hW => k_P_of (av := As) (ws := ws) (tys := tys) hG hS hF hPc hKc hDc U hU hW⟩
/-- the room that a call asks -/
abbrev k_fit (R : Room) (fr lo maxL mc ms cells slots : Nat) : Prop := (fr + 1 ≤ R.frames ∧ 8 + (maxL + 11) + lo ≤ R.locals) ∧ cells + mc ≤ R.cells ∧ slots + ms ≤ R.slots
theorem k_runV {Qc : Array Value → State → Outcome → State → Prop} {free : Addr → Prop} {C : String} {T : u_T} {N ci q0 : Nat} {fs : List Value} (S : k_C p s m args c cc nL own) (L : k_LV own index y bytes maxL ret n) (hC : y.cls = C) (hc : vwCl[ci]? = some (C, T, N)) (hq : wc[q0]? = some (b, .inr (ci, fs))) (ct : k_cut D A0 s H locs ws wc wr tys tc)
    (hM : Met l y (k_ws y bytes maxL ret) (k_rm fr mc ms lo) (k_P D (.ref b :: As) wc tc H.size) Qc mc ms free) (hsz : ls.size = nL) (hst : st0 = As.reverse ++ .ref b :: rest) (hW : (rest.map fun v => v.category).sum ≤ 8) (hn : As.length = n) (hdg : decode cc pc = .ok (.invokevirtual index, 3)) (hf : k_fit R fr lo maxL mc ms cells slots) :
    va_Run p l e R s m args below meth c H locs cells slots mc ms (F0 m pc ls st0) rest (Qc (Value.ref b :: As).toArray) free := by
  obtain ⟨L1, L2, L3, L4, L5, L6⟩ := L
  subst hC
  exact va_runV S hM ⟨k_callB S.2.2.2.2 (S.2.2.2.2 _ L1) L4 L5 L6 hf.1, S.2.2.2.2 _ L2, S.2.2.2.2 _ L3⟩ (k_preV ct hc hq) rfl hn hsz hst (lv_room (m := m) (pc := pc) (ls := ls) (rest := st0) hW) hdg hf.2
theorem k_runI {Qc : Array Value → State → Outcome → State → Prop} {free : Addr → Prop} (S : k_C p s m args c cc nL own) (L : k_LI own index y bytes maxL n) (ct : k_cut D A0 s H locs ws wc wr tys tc)
    (hM : Met l y (k_ws y bytes maxL none) (k_rm fr mc ms lo) (k_P D (.ref b :: As) wc tc H.size) Qc mc ms free) (hsz : ls.size = nL) (hst : st0 = As.reverse ++ .ref b :: rest) (hW : (rest.map fun v => v.category).sum ≤ 8) (hn : As.length = n) (hdg : decode cc pc = .ok (.invokespecial index, 3)) (hf : k_fit R fr lo maxL mc ms cells slots) :
    va_Run p l e R s m args below meth c H locs cells slots mc ms (F0 m pc ls st0) rest (Qc (Value.ref b :: As).toArray) free := by
  obtain ⟨L1, L2, L4, L5, L7, L6⟩ := L
  exact va_runI S hM ⟨k_callB S.2.2.2.2 (S.2.2.2.2 _ L1) L4 L5 L6 hf.1, L7, S.2.2.2.2 _ L2⟩ (k_preS (As := .ref b :: As) ct) rfl hn hsz hst (lv_room (m := m) (pc := pc) (ls := ls) (rest := st0) hW) hdg hf.2
theorem k_runS {Qc : Array Value → State → Outcome → State → Prop} {free : Addr → Prop} (S : k_C p s m args c cc nL own) (L : k_LS own index y bytes maxL ret n) (ct : k_cut D A0 s H locs ws wc wr tys tc)
    (hM : Met l y (k_ws y bytes maxL ret) (k_rm fr mc ms lo) (k_P D As wc tc H.size) Qc mc ms free) (hsz : ls.size = nL) (hst : st0 = As.reverse ++ rest) (hW : (rest.map fun v => v.category).sum ≤ 8) (hn : As.length = n) (hdg : decode cc pc = .ok (.invokestatic index, 3)) (hf : k_fit R fr lo maxL mc ms cells slots) :
    va_Run p l e R s m args below meth c H locs cells slots mc ms (F0 m pc ls st0) rest (Qc As.toArray) free := by
  obtain ⟨L1, L2, L4, L5, L6⟩ := L
  exact va_runS S hM ⟨k_callB S.2.2.2.2 (S.2.2.2.2 _ L1) L4 L5 L6 hf.1, S.2.2.2.2 _ L2⟩ (k_preS ct) rfl hn hsz hst (lv_room (m := m) (pc := pc) (ls := ls) (rest := st0) hW) hdg hf.2
theorem k_xrunV {Qc : Array Value → State → Outcome → State → Prop} {XC : String → State → State → Prop} {free : Addr → Prop} {C : String} {T : u_T} {N ci q0 : Nat} {fs : List Value} (S : k_C p s m args c cc nL own) (L : k_LV own index y bytes maxL ret n) (hC : y.cls = C) (hc : vwCl[ci]? = some (C, T, N)) (hq : wc[q0]? = some (b, .inr (ci, fs))) (ct : k_cut D A0 s H locs ws wc wr tys tc)
    (hM : vx_Met l y (k_ws y bytes maxL ret) (k_rm fr mc ms lo) (k_P D (.ref b :: As) wc tc H.size) Qc XC mc ms free) (hsz : ls.size = nL) (hst : st0 = As.reverse ++ .ref b :: rest) (hW : (rest.map fun v => v.category).sum ≤ 8) (hn : As.length = n) (hdg : decode cc pc = .ok (.invokevirtual index, 3)) (hf : k_fit R fr lo maxL mc ms cells slots) :
    vx_Run p l e R s m args below meth c H locs cells slots mc ms (F0 m pc ls st0) rest (Qc (Value.ref b :: As).toArray) XC free := by
  obtain ⟨L1, L2, L3, L4, L5, L6⟩ := L
  subst hC
  exact vx_runV S hM ⟨k_callB S.2.2.2.2 (S.2.2.2.2 _ L1) L4 L5 L6 hf.1, S.2.2.2.2 _ L2, S.2.2.2.2 _ L3⟩ (k_preV ct hc hq) rfl hn hsz hst (lv_room (m := m) (pc := pc) (ls := ls) (rest := st0) hW) hdg hf.2
theorem k_cn (ht : ∀ w ∈ wsA, w.before args s = true) (hN : Cond.methodLinkNest own index y host ∈ tables_1) (hg : k_G A0 s s.heap) (hi : Cond.initialized y.cls ∈ wsA) (hc : Cond.code y bytes maxL ret ∈ wsA) (hy : k_y y n) (hR : fr + 1 ≤ R.frames ∧ 8 + (maxL + 11) + lo ≤ R.locals) : va_CN R s args own index y host bytes maxL ret (k_ws y bytes maxL ret) (k_rm fr mc ms lo) mc ms n :=
  va_cnB n ht (k_goodIn hc) rfl rfl rfl (hg.1 _ hN rfl) (ht _ hi) hy hR
theorem k_runIN {Qc : Array Value → State → Outcome → State → Prop} {free : Addr → Prop} (S : k_C p s m args c cc nL own) (L : k_LIN own index host y bytes maxL n) (ct : k_cut D A0 s H locs ws wc wr tys tc)
    (hM : Met l y (k_ws y bytes maxL none) (k_rm fr mc ms lo) (k_P D (.ref b :: As) wc tc H.size) Qc mc ms free) (hsz : ls.size = nL) (hst : st0 = As.reverse ++ .ref b :: rest) (hW : (rest.map fun v => v.category).sum ≤ 8) (hn : As.length = n) (hdg : decode cc pc = .ok (.invokespecial index, 3)) (hf : k_fit R fr lo maxL mc ms cells slots) :
    va_Run p l e R s m args below meth c H locs cells slots mc ms (F0 m pc ls st0) rest (Qc (Value.ref b :: As).toArray) free := by
  obtain ⟨L1, L2, L4, L5, L7, L6⟩ := L
  exact va_runIN S hM ⟨k_cn S.2.2.2.2 L1 ct.1 L4 L5 L6 hf.1, L7, S.2.2.2.2 _ L2⟩ (k_preS (As := .ref b :: As) ct) rfl hn hsz hst (lv_room (m := m) (pc := pc) (ls := ls) (rest := st0) hW) hdg hf.2
theorem k_runSN {Qc : Array Value → State → Outcome → State → Prop} {free : Addr → Prop} (S : k_C p s m args c cc nL own) (L : k_LSN own index host y bytes maxL ret n) (ct : k_cut D A0 s H locs ws wc wr tys tc)
    (hM : Met l y (k_ws y bytes maxL ret) (k_rm fr mc ms lo) (k_P D As wc tc H.size) Qc mc ms free) (hsz : ls.size = nL) (hst : st0 = As.reverse ++ rest) (hW : (rest.map fun v => v.category).sum ≤ 8) (hn : As.length = n) (hdg : decode cc pc = .ok (.invokestatic index, 3)) (hf : k_fit R fr lo maxL mc ms cells slots) :
    va_Run p l e R s m args below meth c H locs cells slots mc ms (F0 m pc ls st0) rest (Qc As.toArray) free := by
  obtain ⟨L1, L2, L4, L5, L6⟩ := L
  exact va_runSN S hM ⟨k_cn S.2.2.2.2 L1 ct.1 L4 L5 L6 hf.1, S.2.2.2.2 _ L2, trivial⟩ (k_preS ct) rfl hn hsz hst (lv_room (m := m) (pc := pc) (ls := ls) (rest := st0) hW) hdg hf.2
end KC
end
section
theorem lo_X4_1 : Cond.methodLink RX4 1 objectInit ∈ wsA := mA 42 rfl rfl
theorem lo_inst : Cond.instanceMethod objectInit ∈ wsA := mA 23 rfl rfl
theorem lo_code : Cond.code objectInit ⟨#[0xb1]⟩ 1 none ∈ wsA := mA 24 rfl rfl
theorem lM_X4_7 : Cond.methodLink RX4 7 Lib.Math.max.name ∈ wsA := mA 43 rfl rfl
theorem lM_st_max : Cond.static Lib.Math.max.name ∈ wsA := mA 44 rfl rfl
theorem li_java_lang_Math : Cond.initialized "java/lang/Math" ∈ wsA := mA 5 rfl rfl
theorem lM_code_max : Cond.code Lib.Math.max.name Lib.Math.max.code 2 (some .int) ∈ wsA := mA 45 rfl rfl
theorem la_int : Cond.arrayClass .int ∈ wsA := mA 53 rfl rfl
theorem inA_X4 : ∀ w ∈ u_ws RX4 TX4 2, w ∈ wsA := by
  show ∀ w ∈ ([u_lay RX4 TX4 0, u_lay RX4 TX4 1] : List Cond), w ∈ wsA
  exact List.forall_mem_cons.mpr ⟨mA 48 rfl rfl, List.forall_mem_cons.mpr ⟨mA 50 rfl rfl, fun _ h => absurd h List.not_mem_nil⟩⟩
theorem lf_X4_13 : Cond.fieldLink RX4 13 "BarcodeWand$Row" "cells" "[I" ∈ wsA := mA 46 rfl rfl
theorem lf_X4_19 : Cond.fieldLink RX4 19 "BarcodeWand$Row" "length" "I" ∈ wsA := mA 47 rfl rfl
theorem dX4_init_0 : decode cX4_init 0 = .ok (.aload_n 0, 1) := by decide +kernel
theorem dX4_init_1 : decode cX4_init 1 = .ok (.invokespecial 1, 3) := by decide +kernel
theorem dX4_init_4 : decode cX4_init 4 = .ok (.aload_n 0, 1) := by decide +kernel
theorem dX4_init_5 : decode cX4_init 5 = .ok (.iload_n 1, 1) := by decide +kernel
theorem dX4_init_6 : decode cX4_init 6 = .ok (.iconst 0, 1) := by decide +kernel
theorem dX4_init_7 : decode cX4_init 7 = .ok (.invokestatic 7, 3) := by decide +kernel
theorem dX4_init_10 : decode cX4_init 10 = .ok (.newarray .int, 2) := by decide +kernel
theorem dX4_init_12 : decode cX4_init 12 = .ok (.putfield 13, 3) := by decide +kernel
theorem dX4_init_15 : decode cX4_init 15 = .ok (.return_, 1) := by decide +kernel
theorem dX4_size_0 : decode cX4_size 0 = .ok (.aload_n 0, 1) := by decide +kernel
theorem dX4_size_1 : decode cX4_size 1 = .ok (.getfield 19, 3) := by decide +kernel
theorem dX4_size_4 : decode cX4_size 4 = .ok (.ireturn, 1) := by decide +kernel
theorem dX4_isFull_0 : decode cX4_isFull 0 = .ok (.aload_n 0, 1) := by decide +kernel
theorem dX4_isFull_1 : decode cX4_isFull 1 = .ok (.getfield 19, 3) := by decide +kernel
theorem dX4_isFull_4 : decode cX4_isFull 4 = .ok (.aload_n 0, 1) := by decide +kernel
theorem dX4_isFull_5 : decode cX4_isFull 5 = .ok (.getfield 13, 3) := by decide +kernel
theorem dX4_isFull_8 : decode cX4_isFull 8 = .ok (.arraylength, 1) := by decide +kernel
theorem dX4_isFull_9 : decode cX4_isFull 9 = .ok (.if_icmp .lt 7, 3) := by decide +kernel
theorem dX4_isFull_12 : decode cX4_isFull 12 = .ok (.iconst 1, 1) := by decide +kernel
theorem dX4_isFull_13 : decode cX4_isFull 13 = .ok (.goto 4, 3) := by decide +kernel
theorem dX4_isFull_16 : decode cX4_isFull 16 = .ok (.iconst 0, 1) := by decide +kernel
theorem dX4_isFull_17 : decode cX4_isFull 17 = .ok (.ireturn, 1) := by decide +kernel
theorem dX4_has_0 : decode cX4_has 0 = .ok (.iload_n 1, 1) := by decide +kernel
theorem dX4_has_1 : decode cX4_has 1 = .ok (.ifCond .lt 15, 3) := by decide +kernel
theorem dX4_has_4 : decode cX4_has 4 = .ok (.iload_n 1, 1) := by decide +kernel
theorem dX4_has_5 : decode cX4_has 5 = .ok (.aload_n 0, 1) := by decide +kernel
theorem dX4_has_6 : decode cX4_has 6 = .ok (.getfield 19, 3) := by decide +kernel
theorem dX4_has_9 : decode cX4_has 9 = .ok (.if_icmp .ge 7, 3) := by decide +kernel
theorem dX4_has_12 : decode cX4_has 12 = .ok (.iconst 1, 1) := by decide +kernel
theorem dX4_has_13 : decode cX4_has 13 = .ok (.goto 4, 3) := by decide +kernel
theorem dX4_has_16 : decode cX4_has 16 = .ok (.iconst 0, 1) := by decide +kernel
theorem dX4_has_17 : decode cX4_has 17 = .ok (.ireturn, 1) := by decide +kernel
theorem dX4_at_0 : decode cX4_at 0 = .ok (.iload_n 1, 1) := by decide +kernel
theorem dX4_at_1 : decode cX4_at 1 = .ok (.ifCond .lt 29, 3) := by decide +kernel
theorem dX4_at_4 : decode cX4_at 4 = .ok (.iload_n 1, 1) := by decide +kernel
theorem dX4_at_5 : decode cX4_at 5 = .ok (.aload_n 0, 1) := by decide +kernel
theorem dX4_at_6 : decode cX4_at 6 = .ok (.getfield 19, 3) := by decide +kernel
theorem dX4_at_9 : decode cX4_at 9 = .ok (.if_icmp .ge 21, 3) := by decide +kernel
theorem dX4_at_12 : decode cX4_at 12 = .ok (.iload_n 1, 1) := by decide +kernel
theorem dX4_at_13 : decode cX4_at 13 = .ok (.aload_n 0, 1) := by decide +kernel
theorem dX4_at_14 : decode cX4_at 14 = .ok (.getfield 13, 3) := by decide +kernel
theorem dX4_at_17 : decode cX4_at 17 = .ok (.arraylength, 1) := by decide +kernel
theorem dX4_at_18 : decode cX4_at 18 = .ok (.if_icmp .ge 12, 3) := by decide +kernel
theorem dX4_at_21 : decode cX4_at 21 = .ok (.aload_n 0, 1) := by decide +kernel
theorem dX4_at_22 : decode cX4_at 22 = .ok (.getfield 13, 3) := by decide +kernel
theorem dX4_at_25 : decode cX4_at 25 = .ok (.iload_n 1, 1) := by decide +kernel
theorem dX4_at_26 : decode cX4_at 26 = .ok (.iaload, 1) := by decide +kernel
theorem dX4_at_27 : decode cX4_at 27 = .ok (.goto 4, 3) := by decide +kernel
theorem dX4_at_30 : decode cX4_at 30 = .ok (.iconst 0, 1) := by decide +kernel
theorem dX4_at_31 : decode cX4_at 31 = .ok (.ireturn, 1) := by decide +kernel
set_option maxHeartbeats 4000000 in
set_option maxRecDepth 100000 in
theorem c_Row_init_9 (l : Launch) (D : va_G) (h : Nat) (sz : Nat) : k_Mv (S := Nat × ClassId) l D yX4_init cX4_init 2 none 1 1 9 14 [.ref h, .int 9] [(h, .inr (4, [.null, .int 0]))] [] (fun (u : Nat × ClassId) => match u with | (a, K) => True) (fun u => match u with | (a, K) => [(h, .inr (4, [.ref a, .int 0])), (a, .inl (K, 9, .inl (fun _ => 0)))]) (fun u => match u with | (a, K) => [(K, .int)]) sz := by
  refine Met.ofW (cc := cX4_init) (maxL := 2) (ret := none) (by decide) rfl ?_
  intro p e s m args below meth c s₁ B hml hv
  obtain ⟨rfl, hsz, hP, hK, hD0, hG⟩ := hv
  have hx := B.exec
  have hb := B.bytes
  have hr := B.returns
  have ht : ∀ v9 ∈ wsA, v9.before ([.ref h, .int 9] : List Value).toArray s = true := fun v9 h9 => atoms_spec (ws := k_ws yX4_init cX4_init 2 none) B.pre v9 (List.mem_cons_of_mem _ h9)
  have hown : s.vm.findClass RX4 = some m.cls := findClass_of_methodNamed B.named
  have S0 : k_C p s m ([.ref h, .int 9] : List Value).toArray c cX4_init 2 RX4 := ⟨hx, hb, hml, hown, ht⟩
  have hlocks := B.notSynchronized
  have hin : meth.name = "<init>" := (name_of_methodNamed B.named B.method).1
  subst hsz
  have hD := hD0.self (sz := s.heap.size)
  generalize hAe : va_A [(h, .inr (4, [.null, .int 0]))] s.heap.size = A at hD hG ⊢
  have hA : ∀ q : Nat, s.heap.size ≤ q → A q := fun q h => by rw [← hAe]; exact Or.inr h
  have hS : va_S A s.heap s.heap [] := va_S.rf
  have hl := lv_entry ([.ref h, .int 9]) (n := 2) (Nat.le_of_ble_eq_true rfl)
  rw [lg_entry_eq]
  generalize (lg_sl ([.ref h, .int 9]) ++ List.replicate (2 - (lg_sl ([.ref h, .int 9])).length) Slot.unset).toArray = ls at hl ⊢
  have hl : lv_has ls 2 [(0, .ref h), (1, .int 9)] := hl
  have hP : va_P D vwCl [(h, .inr (4, [.null, .int 0]))] s.heap := hP
  refine lv_aload_n hx hb dX4_init_0 rfl (lv_at hl 0 rfl) ?_
  refine W.objInit hx hb hown (ht _ lo_X4_1) (ht _ lo_inst) (ht _ lo_code) rfl (by rw [hml]; exact hl.1) rfl dX4_init_1 (Nat.le_of_ble_eq_true rfl) (Nat.le_of_ble_eq_true rfl) ?_
  refine W.eq (g2 := F0 m 4 ls []) rfl ?_
  refine lv_aload_n hx hb dX4_init_4 rfl (lv_at hl 0 rfl) ?_
  refine lv_iload_n hx hb dX4_init_5 rfl (lv_at hl 1 rfl) ?_
  refine lv_iconst (v := 0) hx hb dX4_init_6 (by decide) ?_
  refine va_mmax hx hb (by rw [hml]; exact hl.1.symm) hown (ht _ lM_X4_7) (ht _ lM_st_max) (ht _ li_java_lang_Math) (ht _ lM_code_max) (Nat.le_of_ble_eq_true rfl) (Nat.le_of_ble_eq_true rfl) (Nat.le_of_ble_eq_true rfl) (Nat.le_of_ble_eq_true rfl) dX4_init_7 ?_
  refine k_nrm (y := 9) (by decide) ?_
  refine va_newa (atype := .int) (ty := .int) hx hb (ht _ la_int) rfl hK hP hD hS hA (N' := 9) (a0 := (9, .inl (fun _ => 0))) (fun cA => rfl) (by decide) (by decide) (Nat.le_of_ble_eq_true rfl) (Nat.le_of_ble_eq_true rfl) (Nat.le_of_ble_eq_true rfl) dX4_init_10 (fun q_1 K_2 H hK hP hD hS => ?_)
  have hK : va_K D vwCl [(K_2, .int)] s := hK
  have hP : va_P D vwCl [(h, .inr (4, [.null, .int 0])), (q_1, .inl (K_2, 9, .inl (fun _ => 0)))] H := hP
  have hD : va_D A [(h, .inr (4, [.null, .int 0])), (q_1, .inl (K_2, 9, .inl (fun _ => 0)))] := hD
  refine W.widen (k := 1) (n := 9) (Nat.le_of_ble_eq_true rfl) (Nat.le_of_ble_eq_true rfl) ?_
  refine va_putF (D := D) (ci := 4) (v := .ref q_1) (ty := tyX4 0) (C := RX4) (T := TX4) (N := 2) hx hb ht inA_X4 tyX4 tyX4_ok nmX4 hown hK hP hD hS 0 rfl rfl 0 (by decide) (ht _ lf_X4_13) (fun _ h9 => h9) rfl hin rfl (tyX4_ok 0 (by decide)) rfl rfl (Nat.le_of_ble_eq_true rfl) dX4_init_12 (fun H locs hP hD hS => ?_)
  have hP : va_P D vwCl [(h, .inr (4, [.ref q_1, .int 0])), (q_1, .inl (K_2, 9, .inl (fun _ => 0)))] H := hP
  have hD : va_D A [(h, .inr (4, [.ref q_1, .int 0])), (q_1, .inl (K_2, 9, .inl (fun _ => 0)))] := hD
  have hP9 : va_P D vwCl [(h, .inr (4, [.ref q_1, .int 0])), (q_1, .inl (K_2, 9, .inl (fun _ => 0)))] H := hP.sub [0, 1] rfl
  have hD9 : va_D A [(h, .inr (4, [.ref q_1, .int 0])), (q_1, .inl (K_2, 9, .inl (fun _ => 0)))] := hD.sub [0, 1] (by decide) rfl
  have hK9 : va_K D vwCl [(K_2, .int)] s := hK.sub [0] rfl
  exact W.vret hx hb hr (fun t ht9 hW9 => ⟨⟨(q_1, K_2), rfl, by first | rfl | trivial | (simp only [if_true, if_false, reduceIte, and_self]; done) | simp_all, ⟨by rw [ht9]; exact hP9, va_K.moved hW9.alike hK9, hD9⟩⟩, hS.F ht9⟩) hS.2.2 dX4_init_15
set_option maxHeartbeats 4000000 in
set_option maxRecDepth 100000 in
theorem c_Row_init_41 (l : Launch) (D : va_G) (h : Nat) (sz : Nat) : k_Mv (S := Nat × ClassId) l D yX4_init cX4_init 2 none 1 1 41 14 [.ref h, .int 41] [(h, .inr (4, [.null, .int 0]))] [] (fun (u : Nat × ClassId) => match u with | (a, K) => True) (fun u => match u with | (a, K) => [(h, .inr (4, [.ref a, .int 0])), (a, .inl (K, 41, .inl (fun _ => 0)))]) (fun u => match u with | (a, K) => [(K, .int)]) sz := by
  refine Met.ofW (cc := cX4_init) (maxL := 2) (ret := none) (by decide) rfl ?_
  intro p e s m args below meth c s₁ B hml hv
  obtain ⟨rfl, hsz, hP, hK, hD0, hG⟩ := hv
  have hx := B.exec
  have hb := B.bytes
  have hr := B.returns
  have ht : ∀ v9 ∈ wsA, v9.before ([.ref h, .int 41] : List Value).toArray s = true := fun v9 h9 => atoms_spec (ws := k_ws yX4_init cX4_init 2 none) B.pre v9 (List.mem_cons_of_mem _ h9)
  have hown : s.vm.findClass RX4 = some m.cls := findClass_of_methodNamed B.named
  have S0 : k_C p s m ([.ref h, .int 41] : List Value).toArray c cX4_init 2 RX4 := ⟨hx, hb, hml, hown, ht⟩
  have hlocks := B.notSynchronized
  have hin : meth.name = "<init>" := (name_of_methodNamed B.named B.method).1
  subst hsz
  have hD := hD0.self (sz := s.heap.size)
  generalize hAe : va_A [(h, .inr (4, [.null, .int 0]))] s.heap.size = A at hD hG ⊢
  have hA : ∀ q : Nat, s.heap.size ≤ q → A q := fun q h => by rw [← hAe]; exact Or.inr h
  have hS : va_S A s.heap s.heap [] := va_S.rf
  have hl := lv_entry ([.ref h, .int 41]) (n := 2) (Nat.le_of_ble_eq_true rfl)
  rw [lg_entry_eq]
  generalize (lg_sl ([.ref h, .int 41]) ++ List.replicate (2 - (lg_sl ([.ref h, .int 41])).length) Slot.unset).toArray = ls at hl ⊢
  have hl : lv_has ls 2 [(0, .ref h), (1, .int 41)] := hl
  have hP : va_P D vwCl [(h, .inr (4, [.null, .int 0]))] s.heap := hP
  refine lv_aload_n hx hb dX4_init_0 rfl (lv_at hl 0 rfl) ?_
  refine W.objInit hx hb hown (ht _ lo_X4_1) (ht _ lo_inst) (ht _ lo_code) rfl (by rw [hml]; exact hl.1) rfl dX4_init_1 (Nat.le_of_ble_eq_true rfl) (Nat.le_of_ble_eq_true rfl) ?_
  refine W.eq (g2 := F0 m 4 ls []) rfl ?_
  refine lv_aload_n hx hb dX4_init_4 rfl (lv_at hl 0 rfl) ?_
  refine lv_iload_n hx hb dX4_init_5 rfl (lv_at hl 1 rfl) ?_
  refine lv_iconst (v := 0) hx hb dX4_init_6 (by decide) ?_
  refine va_mmax hx hb (by rw [hml]; exact hl.1.symm) hown (ht _ lM_X4_7) (ht _ lM_st_max) (ht _ li_java_lang_Math) (ht _ lM_code_max) (Nat.le_of_ble_eq_true rfl) (Nat.le_of_ble_eq_true rfl) (Nat.le_of_ble_eq_true rfl) (Nat.le_of_ble_eq_true rfl) dX4_init_7 ?_
  refine k_nrm (y := 41) (by decide) ?_
  refine va_newa (atype := .int) (ty := .int) hx hb (ht _ la_int) rfl hK hP hD hS hA (N' := 41) (a0 := (41, .inl (fun _ => 0))) (fun cA => rfl) (by decide) (by decide) (Nat.le_of_ble_eq_true rfl) (Nat.le_of_ble_eq_true rfl) (Nat.le_of_ble_eq_true rfl) dX4_init_10 (fun q_1 K_2 H hK hP hD hS => ?_)
  have hK : va_K D vwCl [(K_2, .int)] s := hK
  have hP : va_P D vwCl [(h, .inr (4, [.null, .int 0])), (q_1, .inl (K_2, 41, .inl (fun _ => 0)))] H := hP
  have hD : va_D A [(h, .inr (4, [.null, .int 0])), (q_1, .inl (K_2, 41, .inl (fun _ => 0)))] := hD
  refine W.widen (k := 1) (n := 41) (Nat.le_of_ble_eq_true rfl) (Nat.le_of_ble_eq_true rfl) ?_
  refine va_putF (D := D) (ci := 4) (v := .ref q_1) (ty := tyX4 0) (C := RX4) (T := TX4) (N := 2) hx hb ht inA_X4 tyX4 tyX4_ok nmX4 hown hK hP hD hS 0 rfl rfl 0 (by decide) (ht _ lf_X4_13) (fun _ h9 => h9) rfl hin rfl (tyX4_ok 0 (by decide)) rfl rfl (Nat.le_of_ble_eq_true rfl) dX4_init_12 (fun H locs hP hD hS => ?_)
  have hP : va_P D vwCl [(h, .inr (4, [.ref q_1, .int 0])), (q_1, .inl (K_2, 41, .inl (fun _ => 0)))] H := hP
  have hD : va_D A [(h, .inr (4, [.ref q_1, .int 0])), (q_1, .inl (K_2, 41, .inl (fun _ => 0)))] := hD
  have hP9 : va_P D vwCl [(h, .inr (4, [.ref q_1, .int 0])), (q_1, .inl (K_2, 41, .inl (fun _ => 0)))] H := hP.sub [0, 1] rfl
  have hD9 : va_D A [(h, .inr (4, [.ref q_1, .int 0])), (q_1, .inl (K_2, 41, .inl (fun _ => 0)))] := hD.sub [0, 1] (by decide) rfl
  have hK9 : va_K D vwCl [(K_2, .int)] s := hK.sub [0] rfl
  exact W.vret hx hb hr (fun t ht9 hW9 => ⟨⟨(q_1, K_2), rfl, by first | rfl | trivial | (simp only [if_true, if_false, reduceIte, and_self]; done) | simp_all, ⟨by rw [ht9]; exact hP9, va_K.moved hW9.alike hK9, hD9⟩⟩, hS.F ht9⟩) hS.2.2 dX4_init_15
set_option maxHeartbeats 4000000 in
set_option maxRecDepth 100000 in
theorem c_Row_init_10 (l : Launch) (D : va_G) (h : Nat) (sz : Nat) : k_Mv (S := Nat × ClassId) l D yX4_init cX4_init 2 none 1 1 10 14 [.ref h, .int 10] [(h, .inr (4, [.null, .int 0]))] [] (fun (u : Nat × ClassId) => match u with | (a, K) => True) (fun u => match u with | (a, K) => [(h, .inr (4, [.ref a, .int 0])), (a, .inl (K, 10, .inl (fun _ => 0)))]) (fun u => match u with | (a, K) => [(K, .int)]) sz := by
  refine Met.ofW (cc := cX4_init) (maxL := 2) (ret := none) (by decide) rfl ?_
  intro p e s m args below meth c s₁ B hml hv
  obtain ⟨rfl, hsz, hP, hK, hD0, hG⟩ := hv
  have hx := B.exec
  have hb := B.bytes
  have hr := B.returns
  have ht : ∀ v9 ∈ wsA, v9.before ([.ref h, .int 10] : List Value).toArray s = true := fun v9 h9 => atoms_spec (ws := k_ws yX4_init cX4_init 2 none) B.pre v9 (List.mem_cons_of_mem _ h9)
  have hown : s.vm.findClass RX4 = some m.cls := findClass_of_methodNamed B.named
  have S0 : k_C p s m ([.ref h, .int 10] : List Value).toArray c cX4_init 2 RX4 := ⟨hx, hb, hml, hown, ht⟩
  have hlocks := B.notSynchronized
  have hin : meth.name = "<init>" := (name_of_methodNamed B.named B.method).1
  subst hsz
  have hD := hD0.self (sz := s.heap.size)
  generalize hAe : va_A [(h, .inr (4, [.null, .int 0]))] s.heap.size = A at hD hG ⊢
  have hA : ∀ q : Nat, s.heap.size ≤ q → A q := fun q h => by rw [← hAe]; exact Or.inr h
  have hS : va_S A s.heap s.heap [] := va_S.rf
  have hl := lv_entry ([.ref h, .int 10]) (n := 2) (Nat.le_of_ble_eq_true rfl)
  rw [lg_entry_eq]
  generalize (lg_sl ([.ref h, .int 10]) ++ List.replicate (2 - (lg_sl ([.ref h, .int 10])).length) Slot.unset).toArray = ls at hl ⊢
  have hl : lv_has ls 2 [(0, .ref h), (1, .int 10)] := hl
  have hP : va_P D vwCl [(h, .inr (4, [.null, .int 0]))] s.heap := hP
  refine lv_aload_n hx hb dX4_init_0 rfl (lv_at hl 0 rfl) ?_
  refine W.objInit hx hb hown (ht _ lo_X4_1) (ht _ lo_inst) (ht _ lo_code) rfl (by rw [hml]; exact hl.1) rfl dX4_init_1 (Nat.le_of_ble_eq_true rfl) (Nat.le_of_ble_eq_true rfl) ?_
  refine W.eq (g2 := F0 m 4 ls []) rfl ?_
  refine lv_aload_n hx hb dX4_init_4 rfl (lv_at hl 0 rfl) ?_
  refine lv_iload_n hx hb dX4_init_5 rfl (lv_at hl 1 rfl) ?_
  refine lv_iconst (v := 0) hx hb dX4_init_6 (by decide) ?_
  refine va_mmax hx hb (by rw [hml]; exact hl.1.symm) hown (ht _ lM_X4_7) (ht _ lM_st_max) (ht _ li_java_lang_Math) (ht _ lM_code_max) (Nat.le_of_ble_eq_true rfl) (Nat.le_of_ble_eq_true rfl) (Nat.le_of_ble_eq_true rfl) (Nat.le_of_ble_eq_true rfl) dX4_init_7 ?_
  refine k_nrm (y := 10) (by decide) ?_
  refine va_newa (atype := .int) (ty := .int) hx hb (ht _ la_int) rfl hK hP hD hS hA (N' := 10) (a0 := (10, .inl (fun _ => 0))) (fun cA => rfl) (by decide) (by decide) (Nat.le_of_ble_eq_true rfl) (Nat.le_of_ble_eq_true rfl) (Nat.le_of_ble_eq_true rfl) dX4_init_10 (fun q_1 K_2 H hK hP hD hS => ?_)
  have hK : va_K D vwCl [(K_2, .int)] s := hK
  have hP : va_P D vwCl [(h, .inr (4, [.null, .int 0])), (q_1, .inl (K_2, 10, .inl (fun _ => 0)))] H := hP
  have hD : va_D A [(h, .inr (4, [.null, .int 0])), (q_1, .inl (K_2, 10, .inl (fun _ => 0)))] := hD
  refine W.widen (k := 1) (n := 10) (Nat.le_of_ble_eq_true rfl) (Nat.le_of_ble_eq_true rfl) ?_
  refine va_putF (D := D) (ci := 4) (v := .ref q_1) (ty := tyX4 0) (C := RX4) (T := TX4) (N := 2) hx hb ht inA_X4 tyX4 tyX4_ok nmX4 hown hK hP hD hS 0 rfl rfl 0 (by decide) (ht _ lf_X4_13) (fun _ h9 => h9) rfl hin rfl (tyX4_ok 0 (by decide)) rfl rfl (Nat.le_of_ble_eq_true rfl) dX4_init_12 (fun H locs hP hD hS => ?_)
  have hP : va_P D vwCl [(h, .inr (4, [.ref q_1, .int 0])), (q_1, .inl (K_2, 10, .inl (fun _ => 0)))] H := hP
  have hD : va_D A [(h, .inr (4, [.ref q_1, .int 0])), (q_1, .inl (K_2, 10, .inl (fun _ => 0)))] := hD
  have hP9 : va_P D vwCl [(h, .inr (4, [.ref q_1, .int 0])), (q_1, .inl (K_2, 10, .inl (fun _ => 0)))] H := hP.sub [0, 1] rfl
  have hD9 : va_D A [(h, .inr (4, [.ref q_1, .int 0])), (q_1, .inl (K_2, 10, .inl (fun _ => 0)))] := hD.sub [0, 1] (by decide) rfl
  have hK9 : va_K D vwCl [(K_2, .int)] s := hK.sub [0] rfl
  exact W.vret hx hb hr (fun t ht9 hW9 => ⟨⟨(q_1, K_2), rfl, by first | rfl | trivial | (simp only [if_true, if_false, reduceIte, and_self]; done) | simp_all, ⟨by rw [ht9]; exact hP9, va_K.moved hW9.alike hK9, hD9⟩⟩, hS.F ht9⟩) hS.2.2 dX4_init_15
set_option maxHeartbeats 4000000 in
set_option maxRecDepth 100000 in
theorem c_Row_init_60 (l : Launch) (D : va_G) (h : Nat) (sz : Nat) : k_Mv (S := Nat × ClassId) l D yX4_init cX4_init 2 none 1 1 60 14 [.ref h, .int 60] [(h, .inr (4, [.null, .int 0]))] [] (fun (u : Nat × ClassId) => match u with | (a, K) => True) (fun u => match u with | (a, K) => [(h, .inr (4, [.ref a, .int 0])), (a, .inl (K, 60, .inl (fun _ => 0)))]) (fun u => match u with | (a, K) => [(K, .int)]) sz := by
  refine Met.ofW (cc := cX4_init) (maxL := 2) (ret := none) (by decide) rfl ?_
  intro p e s m args below meth c s₁ B hml hv
  obtain ⟨rfl, hsz, hP, hK, hD0, hG⟩ := hv
  have hx := B.exec
  have hb := B.bytes
  have hr := B.returns
  have ht : ∀ v9 ∈ wsA, v9.before ([.ref h, .int 60] : List Value).toArray s = true := fun v9 h9 => atoms_spec (ws := k_ws yX4_init cX4_init 2 none) B.pre v9 (List.mem_cons_of_mem _ h9)
  have hown : s.vm.findClass RX4 = some m.cls := findClass_of_methodNamed B.named
  have S0 : k_C p s m ([.ref h, .int 60] : List Value).toArray c cX4_init 2 RX4 := ⟨hx, hb, hml, hown, ht⟩
  have hlocks := B.notSynchronized
  have hin : meth.name = "<init>" := (name_of_methodNamed B.named B.method).1
  subst hsz
  have hD := hD0.self (sz := s.heap.size)
  generalize hAe : va_A [(h, .inr (4, [.null, .int 0]))] s.heap.size = A at hD hG ⊢
  have hA : ∀ q : Nat, s.heap.size ≤ q → A q := fun q h => by rw [← hAe]; exact Or.inr h
  have hS : va_S A s.heap s.heap [] := va_S.rf
  have hl := lv_entry ([.ref h, .int 60]) (n := 2) (Nat.le_of_ble_eq_true rfl)
  rw [lg_entry_eq]
  generalize (lg_sl ([.ref h, .int 60]) ++ List.replicate (2 - (lg_sl ([.ref h, .int 60])).length) Slot.unset).toArray = ls at hl ⊢
  have hl : lv_has ls 2 [(0, .ref h), (1, .int 60)] := hl
  have hP : va_P D vwCl [(h, .inr (4, [.null, .int 0]))] s.heap := hP
  refine lv_aload_n hx hb dX4_init_0 rfl (lv_at hl 0 rfl) ?_
  refine W.objInit hx hb hown (ht _ lo_X4_1) (ht _ lo_inst) (ht _ lo_code) rfl (by rw [hml]; exact hl.1) rfl dX4_init_1 (Nat.le_of_ble_eq_true rfl) (Nat.le_of_ble_eq_true rfl) ?_
  refine W.eq (g2 := F0 m 4 ls []) rfl ?_
  refine lv_aload_n hx hb dX4_init_4 rfl (lv_at hl 0 rfl) ?_
  refine lv_iload_n hx hb dX4_init_5 rfl (lv_at hl 1 rfl) ?_
  refine lv_iconst (v := 0) hx hb dX4_init_6 (by decide) ?_
  refine va_mmax hx hb (by rw [hml]; exact hl.1.symm) hown (ht _ lM_X4_7) (ht _ lM_st_max) (ht _ li_java_lang_Math) (ht _ lM_code_max) (Nat.le_of_ble_eq_true rfl) (Nat.le_of_ble_eq_true rfl) (Nat.le_of_ble_eq_true rfl) (Nat.le_of_ble_eq_true rfl) dX4_init_7 ?_
  refine k_nrm (y := 60) (by decide) ?_
  refine va_newa (atype := .int) (ty := .int) hx hb (ht _ la_int) rfl hK hP hD hS hA (N' := 60) (a0 := (60, .inl (fun _ => 0))) (fun cA => rfl) (by decide) (by decide) (Nat.le_of_ble_eq_true rfl) (Nat.le_of_ble_eq_true rfl) (Nat.le_of_ble_eq_true rfl) dX4_init_10 (fun q_1 K_2 H hK hP hD hS => ?_)
  have hK : va_K D vwCl [(K_2, .int)] s := hK
  have hP : va_P D vwCl [(h, .inr (4, [.null, .int 0])), (q_1, .inl (K_2, 60, .inl (fun _ => 0)))] H := hP
  have hD : va_D A [(h, .inr (4, [.null, .int 0])), (q_1, .inl (K_2, 60, .inl (fun _ => 0)))] := hD
  refine W.widen (k := 1) (n := 60) (Nat.le_of_ble_eq_true rfl) (Nat.le_of_ble_eq_true rfl) ?_
  refine va_putF (D := D) (ci := 4) (v := .ref q_1) (ty := tyX4 0) (C := RX4) (T := TX4) (N := 2) hx hb ht inA_X4 tyX4 tyX4_ok nmX4 hown hK hP hD hS 0 rfl rfl 0 (by decide) (ht _ lf_X4_13) (fun _ h9 => h9) rfl hin rfl (tyX4_ok 0 (by decide)) rfl rfl (Nat.le_of_ble_eq_true rfl) dX4_init_12 (fun H locs hP hD hS => ?_)
  have hP : va_P D vwCl [(h, .inr (4, [.ref q_1, .int 0])), (q_1, .inl (K_2, 60, .inl (fun _ => 0)))] H := hP
  have hD : va_D A [(h, .inr (4, [.ref q_1, .int 0])), (q_1, .inl (K_2, 60, .inl (fun _ => 0)))] := hD
  have hP9 : va_P D vwCl [(h, .inr (4, [.ref q_1, .int 0])), (q_1, .inl (K_2, 60, .inl (fun _ => 0)))] H := hP.sub [0, 1] rfl
  have hD9 : va_D A [(h, .inr (4, [.ref q_1, .int 0])), (q_1, .inl (K_2, 60, .inl (fun _ => 0)))] := hD.sub [0, 1] (by decide) rfl
  have hK9 : va_K D vwCl [(K_2, .int)] s := hK.sub [0] rfl
  exact W.vret hx hb hr (fun t ht9 hW9 => ⟨⟨(q_1, K_2), rfl, by first | rfl | trivial | (simp only [if_true, if_false, reduceIte, and_self]; done) | simp_all, ⟨by rw [ht9]; exact hP9, va_K.moved hW9.alike hK9, hD9⟩⟩, hS.F ht9⟩) hS.2.2 dX4_init_15
set_option maxHeartbeats 4000000 in
set_option maxRecDepth 100000 in
theorem c_Row_size (l : Launch) (D : va_G) (h : Nat) (a : Nat) (n : Int32) (sz : Nat) : k_Mi (S := Unit) l D yX4_size cX4_size 1 (some .int) 0 0 0 0 [.ref h] [(h, .inr (4, [.ref a, .int n]))] [] (fun (r : Int32) (_ : Unit) => r = n) (fun _ => [(h, .inr (4, [.ref a, .int n]))]) (fun _ => []) sz := by
  refine Met.ofW (cc := cX4_size) (maxL := 1) (ret := (some .int)) (by decide) rfl ?_
  intro p e s m args below meth c s₁ B hml hv
  obtain ⟨rfl, hsz, hP, hK, hD0, hG⟩ := hv
  have hx := B.exec
  have hb := B.bytes
  have hr := B.returns
  have ht : ∀ v9 ∈ wsA, v9.before ([.ref h] : List Value).toArray s = true := fun v9 h9 => atoms_spec (ws := k_ws yX4_size cX4_size 1 (some .int)) B.pre v9 (List.mem_cons_of_mem _ h9)
  have hown : s.vm.findClass RX4 = some m.cls := findClass_of_methodNamed B.named
  have S0 : k_C p s m ([.ref h] : List Value).toArray c cX4_size 1 RX4 := ⟨hx, hb, hml, hown, ht⟩
  have hlocks := B.notSynchronized
  subst hsz
  have hD := hD0.self (sz := s.heap.size)
  generalize hAe : va_A [(h, .inr (4, [.ref a, .int n]))] s.heap.size = A at hD hG ⊢
  have hA : ∀ q : Nat, s.heap.size ≤ q → A q := fun q h => by rw [← hAe]; exact Or.inr h
  have hS : va_S A s.heap s.heap [] := va_S.rf
  have hl := lv_entry ([.ref h]) (n := 1) (Nat.le_of_ble_eq_true rfl)
  rw [lg_entry_eq]
  generalize (lg_sl ([.ref h]) ++ List.replicate (1 - (lg_sl ([.ref h])).length) Slot.unset).toArray = ls at hl ⊢
  have hl : lv_has ls 1 [(0, .ref h)] := hl
  have hP : va_P D vwCl [(h, .inr (4, [.ref a, .int n]))] s.heap := hP
  refine lv_aload_n hx hb dX4_size_0 rfl (lv_at hl 0 rfl) ?_
  refine va_get (D := D) (ci := 4) (v := .int n) (C := RX4) (T := TX4) (N := 2) hx hb ht inA_X4 hown hK hP 0 rfl rfl 1 (by decide) (ht _ lf_X4_19) (fun _ h9 => h9) rfl dX4_size_1 ?_
  have hP9 : va_P D vwCl [(h, .inr (4, [.ref a, .int n]))] s.heap := hP.sub [0] rfl
  have hD9 : va_D A [(h, .inr (4, [.ref a, .int n]))] := hD.sub [0] (by decide) rfl
  have hK9 : va_K D vwCl [] s := hK.sub [] rfl
  exact W.iret (v := n) hx hb hr (fun t ht9 hW9 => ⟨⟨n, (), rfl, by first | rfl | trivial | (simp only [if_true, if_false, reduceIte, and_self]; done) | simp_all, ⟨by rw [ht9]; exact hP9, va_K.moved hW9.alike hK9, hD9⟩⟩, hS.F ht9⟩) hS.2.2 dX4_size_4
set_option maxHeartbeats 4000000 in
set_option maxRecDepth 100000 in
theorem c_Row_isFull (l : Launch) (D : va_G) (h : Nat) (a : Nat) (K : ClassId) (cap : Nat) (n : Int32) (f : Nat → Int32) (sz : Nat) : k_Mi (S := Unit) l D yX4_isFull cX4_isFull 1 (some .boolean) 0 0 0 0 [.ref h] [(h, .inr (4, [.ref a, .int n])), (a, .inl (K, cap, .inl f))] [(K, .int)] (fun (r : Int32) (_ : Unit) => r = (if nI cap ≤ n then 1 else 0)) (fun _ => [(h, .inr (4, [.ref a, .int n])), (a, .inl (K, cap, .inl f))]) (fun _ => []) sz := by
  refine Met.ofW (cc := cX4_isFull) (maxL := 1) (ret := (some .boolean)) (by decide) rfl ?_
  intro p e s m args below meth c s₁ B hml hv
  obtain ⟨rfl, hsz, hP, hK, hD0, hG⟩ := hv
  have hx := B.exec
  have hb := B.bytes
  have hr := B.returns
  have ht : ∀ v9 ∈ wsA, v9.before ([.ref h] : List Value).toArray s = true := fun v9 h9 => atoms_spec (ws := k_ws yX4_isFull cX4_isFull 1 (some .boolean)) B.pre v9 (List.mem_cons_of_mem _ h9)
  have hown : s.vm.findClass RX4 = some m.cls := findClass_of_methodNamed B.named
  have S0 : k_C p s m ([.ref h] : List Value).toArray c cX4_isFull 1 RX4 := ⟨hx, hb, hml, hown, ht⟩
  have hlocks := B.notSynchronized
  subst hsz
  have hD := hD0.self (sz := s.heap.size)
  generalize hAe : va_A [(h, .inr (4, [.ref a, .int n])), (a, .inl (K, cap, .inl f))] s.heap.size = A at hD hG ⊢
  have hA : ∀ q : Nat, s.heap.size ≤ q → A q := fun q h => by rw [← hAe]; exact Or.inr h
  have hS : va_S A s.heap s.heap [] := va_S.rf
  have hl := lv_entry ([.ref h]) (n := 1) (Nat.le_of_ble_eq_true rfl)
  rw [lg_entry_eq]
  generalize (lg_sl ([.ref h]) ++ List.replicate (1 - (lg_sl ([.ref h])).length) Slot.unset).toArray = ls at hl ⊢
  have hl : lv_has ls 1 [(0, .ref h)] := hl
  have hP : va_P D vwCl [(h, .inr (4, [.ref a, .int n])), (a, .inl (K, cap, .inl f))] s.heap := hP
  refine lv_aload_n hx hb dX4_isFull_0 rfl (lv_at hl 0 rfl) ?_
  refine va_get (D := D) (ci := 4) (v := .int n) (C := RX4) (T := TX4) (N := 2) hx hb ht inA_X4 hown hK hP 0 rfl rfl 1 (by decide) (ht _ lf_X4_19) (fun _ h9 => h9) rfl dX4_isFull_1 ?_
  refine lv_aload_n hx hb dX4_isFull_4 rfl (lv_at hl 0 rfl) ?_
  refine va_get (D := D) (ci := 4) (v := .ref a) (C := RX4) (T := TX4) (N := 2) hx hb ht inA_X4 hown hK hP 0 rfl rfl 0 (by decide) (ht _ lf_X4_13) (fun _ h9 => h9) rfl dX4_isFull_5 ?_
  refine va_alen (v := nI cap) hx hb hK hP 1 0 rfl rfl rfl dX4_isFull_8 ?_
  refine lv_icmp_lt (tgt := 16) hx hb dX4_isFull_9 (by decide) (fun c_1 => ?_) (fun c_1 => ?_)
  · have hc9 := c_1
    refine lv_iconst (v := 0) hx hb dX4_isFull_16 (by decide) ?_
    have hP9 : va_P D vwCl [(h, .inr (4, [.ref a, .int n])), (a, .inl (K, cap, .inl f))] s.heap := hP.sub [0, 1] rfl
    have hD9 : va_D A [(h, .inr (4, [.ref a, .int n])), (a, .inl (K, cap, .inl f))] := hD.sub [0, 1] (by decide) rfl
    have hK9 : va_K D vwCl [] s := hK.sub [] rfl
    exact W.zret (v := 0) hx hb hr (rfl) (fun t ht9 hW9 => ⟨⟨0, (), rfl, by first | rfl | trivial | (simp only [c_1, if_true, if_false, reduceIte, and_self]; done) | simp_all, ⟨by rw [ht9]; exact hP9, va_K.moved hW9.alike hK9, hD9⟩⟩, hS.F ht9⟩) hS.2.2 dX4_isFull_17
  · have hc9 := c_1
    refine lv_iconst (v := 1) hx hb dX4_isFull_12 (by decide) ?_
    refine lv_goto (tgt := 17) hx hb dX4_isFull_13 (by decide) ?_
    have hP9 : va_P D vwCl [(h, .inr (4, [.ref a, .int n])), (a, .inl (K, cap, .inl f))] s.heap := hP.sub [0, 1] rfl
    have hD9 : va_D A [(h, .inr (4, [.ref a, .int n])), (a, .inl (K, cap, .inl f))] := hD.sub [0, 1] (by decide) rfl
    have hK9 : va_K D vwCl [] s := hK.sub [] rfl
    exact W.zret (v := 1) hx hb hr (rfl) (fun t ht9 hW9 => ⟨⟨1, (), rfl, by first | rfl | trivial | (simp only [c_1, if_true, if_false, reduceIte, and_self]; done) | simp_all, ⟨by rw [ht9]; exact hP9, va_K.moved hW9.alike hK9, hD9⟩⟩, hS.F ht9⟩) hS.2.2 dX4_isFull_17
set_option maxHeartbeats 4000000 in
set_option maxRecDepth 100000 in
theorem c_Row_has (l : Launch) (D : va_G) (h : Nat) (a : Nat) (n : Int32) (i : Int32) (sz : Nat) : k_Mi (S := Unit) l D yX4_has cX4_has 2 (some .boolean) 0 0 0 0 [.ref h, .int i] [(h, .inr (4, [.ref a, .int n]))] [] (fun (r : Int32) (_ : Unit) => r = (if i < 0 then 0 else if n ≤ i then 0 else 1)) (fun _ => [(h, .inr (4, [.ref a, .int n]))]) (fun _ => []) sz := by
  refine Met.ofW (cc := cX4_has) (maxL := 2) (ret := (some .boolean)) (by decide) rfl ?_
  intro p e s m args below meth c s₁ B hml hv
  obtain ⟨rfl, hsz, hP, hK, hD0, hG⟩ := hv
  have hx := B.exec
  have hb := B.bytes
  have hr := B.returns
  have ht : ∀ v9 ∈ wsA, v9.before ([.ref h, .int i] : List Value).toArray s = true := fun v9 h9 => atoms_spec (ws := k_ws yX4_has cX4_has 2 (some .boolean)) B.pre v9 (List.mem_cons_of_mem _ h9)
  have hown : s.vm.findClass RX4 = some m.cls := findClass_of_methodNamed B.named
  have S0 : k_C p s m ([.ref h, .int i] : List Value).toArray c cX4_has 2 RX4 := ⟨hx, hb, hml, hown, ht⟩
  have hlocks := B.notSynchronized
  subst hsz
  have hD := hD0.self (sz := s.heap.size)
  generalize hAe : va_A [(h, .inr (4, [.ref a, .int n]))] s.heap.size = A at hD hG ⊢
  have hA : ∀ q : Nat, s.heap.size ≤ q → A q := fun q h => by rw [← hAe]; exact Or.inr h
  have hS : va_S A s.heap s.heap [] := va_S.rf
  have hl := lv_entry ([.ref h, .int i]) (n := 2) (Nat.le_of_ble_eq_true rfl)
  rw [lg_entry_eq]
  generalize (lg_sl ([.ref h, .int i]) ++ List.replicate (2 - (lg_sl ([.ref h, .int i])).length) Slot.unset).toArray = ls at hl ⊢
  have hl : lv_has ls 2 [(0, .ref h), (1, .int i)] := hl
  have hP : va_P D vwCl [(h, .inr (4, [.ref a, .int n]))] s.heap := hP
  refine lv_iload_n hx hb dX4_has_0 rfl (lv_at hl 1 rfl) ?_
  refine lv_if_lt (tgt := 16) hx hb dX4_has_1 (by decide) (fun c_1 => ?_) (fun c_1 => ?_)
  · have hc9 := c_1
    refine lv_iconst (v := 0) hx hb dX4_has_16 (by decide) ?_
    have hP9 : va_P D vwCl [(h, .inr (4, [.ref a, .int n]))] s.heap := hP.sub [0] rfl
    have hD9 : va_D A [(h, .inr (4, [.ref a, .int n]))] := hD.sub [0] (by decide) rfl
    have hK9 : va_K D vwCl [] s := hK.sub [] rfl
    exact W.zret (v := 0) hx hb hr (rfl) (fun t ht9 hW9 => ⟨⟨0, (), rfl, by first | rfl | trivial | (simp only [c_1, if_true, if_false, reduceIte, and_self]; done) | simp_all, ⟨by rw [ht9]; exact hP9, va_K.moved hW9.alike hK9, hD9⟩⟩, hS.F ht9⟩) hS.2.2 dX4_has_17
  · have hc9 := c_1
    refine lv_iload_n hx hb dX4_has_4 rfl (lv_at hl 1 rfl) ?_
    refine lv_aload_n hx hb dX4_has_5 rfl (lv_at hl 0 rfl) ?_
    refine va_get (D := D) (ci := 4) (v := .int n) (C := RX4) (T := TX4) (N := 2) hx hb ht inA_X4 hown hK hP 0 rfl rfl 1 (by decide) (ht _ lf_X4_19) (fun _ h9 => h9) rfl dX4_has_6 ?_
    refine lv_icmp_ge (tgt := 16) hx hb dX4_has_9 (by decide) (fun c_2 => ?_) (fun c_2 => ?_)
    · have hc9 := c_2
      refine lv_iconst (v := 0) hx hb dX4_has_16 (by decide) ?_
      have hP9 : va_P D vwCl [(h, .inr (4, [.ref a, .int n]))] s.heap := hP.sub [0] rfl
      have hD9 : va_D A [(h, .inr (4, [.ref a, .int n]))] := hD.sub [0] (by decide) rfl
      have hK9 : va_K D vwCl [] s := hK.sub [] rfl
      exact W.zret (v := 0) hx hb hr (rfl) (fun t ht9 hW9 => ⟨⟨0, (), rfl, by first | rfl | trivial | (simp only [c_1, c_2, if_true, if_false, reduceIte, and_self]; done) | simp_all, ⟨by rw [ht9]; exact hP9, va_K.moved hW9.alike hK9, hD9⟩⟩, hS.F ht9⟩) hS.2.2 dX4_has_17
    · have hc9 := c_2
      refine lv_iconst (v := 1) hx hb dX4_has_12 (by decide) ?_
      refine lv_goto (tgt := 17) hx hb dX4_has_13 (by decide) ?_
      have hP9 : va_P D vwCl [(h, .inr (4, [.ref a, .int n]))] s.heap := hP.sub [0] rfl
      have hD9 : va_D A [(h, .inr (4, [.ref a, .int n]))] := hD.sub [0] (by decide) rfl
      have hK9 : va_K D vwCl [] s := hK.sub [] rfl
      exact W.zret (v := 1) hx hb hr (rfl) (fun t ht9 hW9 => ⟨⟨1, (), rfl, by first | rfl | trivial | (simp only [c_1, c_2, if_true, if_false, reduceIte, and_self]; done) | simp_all, ⟨by rw [ht9]; exact hP9, va_K.moved hW9.alike hK9, hD9⟩⟩, hS.F ht9⟩) hS.2.2 dX4_has_17
/-- a row's cell; 0 where there is none -/
def rowAt (cap : Nat) (n : Int32) (f : Nat → Int32) (i : Int32) : Int32 := if i < 0 then 0 else if n ≤ i then 0 else if nI cap ≤ i then 0 else f i.toNatClampNeg
theorem vp_in_row {cap : Nat} {i : Int32} (hc : cap < 2 ^ 31) (h0 : ¬ i < 0) (h1 : ¬ nI cap ≤ i) : vp_in i cap := by
  rcases pk_ix i hc with h | h | ⟨j, hj, rfl⟩
  · exact absurd h h0
  · exact absurd h h1
  · exact vp_in_nI hj hc
set_option maxHeartbeats 4000000 in
set_option maxRecDepth 100000 in
theorem c_Row_at (l : Launch) (D : va_G) (h : Nat) (a : Nat) (K : ClassId) (cap : Nat) (n : Int32) (f : Nat → Int32) (i : Int32) (hcap : cap < 2 ^ 31) (sz : Nat) : k_Mi (S := Unit) l D yX4_at cX4_at 2 (some .int) 0 0 0 0 [.ref h, .int i] [(h, .inr (4, [.ref a, .int n])), (a, .inl (K, cap, .inl f))] [(K, .int)] (fun (r : Int32) (_ : Unit) => r = rowAt cap n f i) (fun _ => [(h, .inr (4, [.ref a, .int n])), (a, .inl (K, cap, .inl f))]) (fun _ => []) sz := by
  refine Met.ofW (cc := cX4_at) (maxL := 2) (ret := (some .int)) (by decide) rfl ?_
  intro p e s m args below meth c s₁ B hml hv
  obtain ⟨rfl, hsz, hP, hK, hD0, hG⟩ := hv
  have hx := B.exec
  have hb := B.bytes
  have hr := B.returns
  have ht : ∀ v9 ∈ wsA, v9.before ([.ref h, .int i] : List Value).toArray s = true := fun v9 h9 => atoms_spec (ws := k_ws yX4_at cX4_at 2 (some .int)) B.pre v9 (List.mem_cons_of_mem _ h9)
  have hown : s.vm.findClass RX4 = some m.cls := findClass_of_methodNamed B.named
  have S0 : k_C p s m ([.ref h, .int i] : List Value).toArray c cX4_at 2 RX4 := ⟨hx, hb, hml, hown, ht⟩
  have hlocks := B.notSynchronized
  subst hsz
  have hD := hD0.self (sz := s.heap.size)
  generalize hAe : va_A [(h, .inr (4, [.ref a, .int n])), (a, .inl (K, cap, .inl f))] s.heap.size = A at hD hG ⊢
  have hA : ∀ q : Nat, s.heap.size ≤ q → A q := fun q h => by rw [← hAe]; exact Or.inr h
  have hS : va_S A s.heap s.heap [] := va_S.rf
  have hl := lv_entry ([.ref h, .int i]) (n := 2) (Nat.le_of_ble_eq_true rfl)
  rw [lg_entry_eq]
  generalize (lg_sl ([.ref h, .int i]) ++ List.replicate (2 - (lg_sl ([.ref h, .int i])).length) Slot.unset).toArray = ls at hl ⊢
  have hl : lv_has ls 2 [(0, .ref h), (1, .int i)] := hl
  have hP : va_P D vwCl [(h, .inr (4, [.ref a, .int n])), (a, .inl (K, cap, .inl f))] s.heap := hP
  refine lv_iload_n hx hb dX4_at_0 rfl (lv_at hl 1 rfl) ?_
  refine lv_if_lt (tgt := 30) hx hb dX4_at_1 (by decide) (fun c_1 => ?_) (fun c_1 => ?_)
  · have hc9 := c_1
    refine lv_iconst (v := 0) hx hb dX4_at_30 (by decide) ?_
    have hP9 : va_P D vwCl [(h, .inr (4, [.ref a, .int n])), (a, .inl (K, cap, .inl f))] s.heap := hP.sub [0, 1] rfl
    have hD9 : va_D A [(h, .inr (4, [.ref a, .int n])), (a, .inl (K, cap, .inl f))] := hD.sub [0, 1] (by decide) rfl
    have hK9 : va_K D vwCl [] s := hK.sub [] rfl
    exact W.iret (v := 0) hx hb hr (fun t ht9 hW9 => ⟨⟨0, (), rfl, by first | rfl | trivial | (simp only [rowAt, c_1, if_true, if_false, reduceIte, and_self]; done) | simp_all, ⟨by rw [ht9]; exact hP9, va_K.moved hW9.alike hK9, hD9⟩⟩, hS.F ht9⟩) hS.2.2 dX4_at_31
  · have hc9 := c_1
    refine lv_iload_n hx hb dX4_at_4 rfl (lv_at hl 1 rfl) ?_
    refine lv_aload_n hx hb dX4_at_5 rfl (lv_at hl 0 rfl) ?_
    refine va_get (D := D) (ci := 4) (v := .int n) (C := RX4) (T := TX4) (N := 2) hx hb ht inA_X4 hown hK hP 0 rfl rfl 1 (by decide) (ht _ lf_X4_19) (fun _ h9 => h9) rfl dX4_at_6 ?_
    refine lv_icmp_ge (tgt := 30) hx hb dX4_at_9 (by decide) (fun c_2 => ?_) (fun c_2 => ?_)
    · have hc9 := c_2
      refine lv_iconst (v := 0) hx hb dX4_at_30 (by decide) ?_
      have hP9 : va_P D vwCl [(h, .inr (4, [.ref a, .int n])), (a, .inl (K, cap, .inl f))] s.heap := hP.sub [0, 1] rfl
      have hD9 : va_D A [(h, .inr (4, [.ref a, .int n])), (a, .inl (K, cap, .inl f))] := hD.sub [0, 1] (by decide) rfl
      have hK9 : va_K D vwCl [] s := hK.sub [] rfl
      exact W.iret (v := 0) hx hb hr (fun t ht9 hW9 => ⟨⟨0, (), rfl, by first | rfl | trivial | (simp only [rowAt, c_1, c_2, if_true, if_false, reduceIte, and_self]; done) | simp_all, ⟨by rw [ht9]; exact hP9, va_K.moved hW9.alike hK9, hD9⟩⟩, hS.F ht9⟩) hS.2.2 dX4_at_31
    · have hc9 := c_2
      refine lv_iload_n hx hb dX4_at_12 rfl (lv_at hl 1 rfl) ?_
      refine lv_aload_n hx hb dX4_at_13 rfl (lv_at hl 0 rfl) ?_
      refine va_get (D := D) (ci := 4) (v := .ref a) (C := RX4) (T := TX4) (N := 2) hx hb ht inA_X4 hown hK hP 0 rfl rfl 0 (by decide) (ht _ lf_X4_13) (fun _ h9 => h9) rfl dX4_at_14 ?_
      refine va_alen (v := nI cap) hx hb hK hP 1 0 rfl rfl rfl dX4_at_17 ?_
      refine lv_icmp_ge (tgt := 30) hx hb dX4_at_18 (by decide) (fun c_3 => ?_) (fun c_3 => ?_)
      · have hc9 := c_3
        refine lv_iconst (v := 0) hx hb dX4_at_30 (by decide) ?_
        have hP9 : va_P D vwCl [(h, .inr (4, [.ref a, .int n])), (a, .inl (K, cap, .inl f))] s.heap := hP.sub [0, 1] rfl
        have hD9 : va_D A [(h, .inr (4, [.ref a, .int n])), (a, .inl (K, cap, .inl f))] := hD.sub [0, 1] (by decide) rfl
        have hK9 : va_K D vwCl [] s := hK.sub [] rfl
        exact W.iret (v := 0) hx hb hr (fun t ht9 hW9 => ⟨⟨0, (), rfl, by first | rfl | trivial | (simp only [rowAt, c_1, c_2, c_3, if_true, if_false, reduceIte, and_self]; done) | simp_all, ⟨by rw [ht9]; exact hP9, va_K.moved hW9.alike hK9, hD9⟩⟩, hS.F ht9⟩) hS.2.2 dX4_at_31
      · have hc9 := c_3
        refine lv_aload_n hx hb dX4_at_21 rfl (lv_at hl 0 rfl) ?_
        refine va_get (D := D) (ci := 4) (v := .ref a) (C := RX4) (T := TX4) (N := 2) hx hb ht inA_X4 hown hK hP 0 rfl rfl 0 (by decide) (ht _ lf_X4_13) (fun _ h9 => h9) rfl dX4_at_22 ?_
        refine lv_iload_n hx hb dX4_at_25 rfl (lv_at hl 1 rfl) ?_
        refine va_iald hx hb hK hP 1 0 rfl rfl (vp_in_row hcap c_1 c_3) dX4_at_26 ?_
        refine lv_goto (tgt := 31) hx hb dX4_at_27 (by decide) ?_
        have hP9 : va_P D vwCl [(h, .inr (4, [.ref a, .int n])), (a, .inl (K, cap, .inl f))] s.heap := hP.sub [0, 1] rfl
        have hD9 : va_D A [(h, .inr (4, [.ref a, .int n])), (a, .inl (K, cap, .inl f))] := hD.sub [0, 1] (by decide) rfl
        have hK9 : va_K D vwCl [] s := hK.sub [] rfl
        exact W.iret (v := f i.toNatClampNeg) hx hb hr (fun t ht9 hW9 => ⟨⟨f i.toNatClampNeg, (), rfl, by first | rfl | trivial | (simp only [rowAt, c_1, c_2, c_3, if_true, if_false, reduceIte, and_self]; done) | simp_all, ⟨by rw [ht9]; exact hP9, va_K.moved hW9.alike hK9, hD9⟩⟩, hS.F ht9⟩) hS.2.2 dX4_at_31
end
section
theorem li_BarcodeWand_Row : Cond.initialized "BarcodeWand$Row" ∈ wsA := mA 4 rfl rfl
theorem lk_X4_clear : Cond.code yX4_clear cX4_clear 1 none ∈ wsA := mA 257 rfl rfl
theorem ly_X4_clear : k_y yX4_clear 0 := ⟨by decide +kernel, by decide +kernel, by decide +kernel⟩
theorem lm_X4_clear : Cond.instanceMethod yX4_clear ∈ wsA := mA 255 rfl rfl
theorem le_X4_clear : Cond.selects (yX4_clear).cls yX4_clear yX4_clear ∈ wsA := mA 256 rfl rfl
theorem Lv_X4_23 : k_LV RX4 23 yX4_clear cX4_clear 1 none 0 := ⟨mA 254 rfl rfl, lm_X4_clear, le_X4_clear, li_BarcodeWand_Row, lk_X4_clear, ly_X4_clear⟩
theorem lk_X4_add : Cond.code yX4_add cX4_add 2 none ∈ wsA := mA 265 rfl rfl
theorem ly_X4_add : k_y yX4_add 1 := ⟨by decide +kernel, by decide +kernel, by decide +kernel⟩
theorem lm_X4_add : Cond.instanceMethod yX4_add ∈ wsA := mA 263 rfl rfl
theorem le_X4_add : Cond.selects (yX4_add).cls yX4_add yX4_add ∈ wsA := mA 264 rfl rfl
theorem Lv_X4_26 : k_LV RX4 26 yX4_add cX4_add 2 none 1 := ⟨mA 262 rfl rfl, lm_X4_add, le_X4_add, li_BarcodeWand_Row, lk_X4_add, ly_X4_add⟩
theorem dX4_put_0 : decode cX4_put 0 = .ok (.iload_n 1, 1) := by decide +kernel
theorem dX4_put_1 : decode cX4_put 1 = .ok (.ifCond .lt 27, 3) := by decide +kernel
theorem dX4_put_4 : decode cX4_put 4 = .ok (.iload_n 1, 1) := by decide +kernel
theorem dX4_put_5 : decode cX4_put 5 = .ok (.aload_n 0, 1) := by decide +kernel
theorem dX4_put_6 : decode cX4_put 6 = .ok (.getfield 19, 3) := by decide +kernel
theorem dX4_put_9 : decode cX4_put 9 = .ok (.if_icmp .ge 19, 3) := by decide +kernel
theorem dX4_put_12 : decode cX4_put 12 = .ok (.iload_n 1, 1) := by decide +kernel
theorem dX4_put_13 : decode cX4_put 13 = .ok (.aload_n 0, 1) := by decide +kernel
theorem dX4_put_14 : decode cX4_put 14 = .ok (.getfield 13, 3) := by decide +kernel
theorem dX4_put_17 : decode cX4_put 17 = .ok (.arraylength, 1) := by decide +kernel
theorem dX4_put_18 : decode cX4_put 18 = .ok (.if_icmp .ge 10, 3) := by decide +kernel
theorem dX4_put_21 : decode cX4_put 21 = .ok (.aload_n 0, 1) := by decide +kernel
theorem dX4_put_22 : decode cX4_put 22 = .ok (.getfield 13, 3) := by decide +kernel
theorem dX4_put_25 : decode cX4_put 25 = .ok (.iload_n 1, 1) := by decide +kernel
theorem dX4_put_26 : decode cX4_put 26 = .ok (.iload_n 2, 1) := by decide +kernel
theorem dX4_put_27 : decode cX4_put 27 = .ok (.iastore, 1) := by decide +kernel
theorem dX4_put_28 : decode cX4_put 28 = .ok (.return_, 1) := by decide +kernel
theorem dX4_add_0 : decode cX4_add 0 = .ok (.aload_n 0, 1) := by decide +kernel
theorem dX4_add_1 : decode cX4_add 1 = .ok (.getfield 19, 3) := by decide +kernel
theorem dX4_add_4 : decode cX4_add 4 = .ok (.ifCond .lt 35, 3) := by decide +kernel
theorem dX4_add_7 : decode cX4_add 7 = .ok (.aload_n 0, 1) := by decide +kernel
theorem dX4_add_8 : decode cX4_add 8 = .ok (.getfield 19, 3) := by decide +kernel
theorem dX4_add_11 : decode cX4_add 11 = .ok (.aload_n 0, 1) := by decide +kernel
theorem dX4_add_12 : decode cX4_add 12 = .ok (.getfield 13, 3) := by decide +kernel
theorem dX4_add_15 : decode cX4_add 15 = .ok (.arraylength, 1) := by decide +kernel
theorem dX4_add_16 : decode cX4_add 16 = .ok (.if_icmp .ge 23, 3) := by decide +kernel
theorem dX4_add_19 : decode cX4_add 19 = .ok (.aload_n 0, 1) := by decide +kernel
theorem dX4_add_20 : decode cX4_add 20 = .ok (.getfield 13, 3) := by decide +kernel
theorem dX4_add_23 : decode cX4_add 23 = .ok (.aload_n 0, 1) := by decide +kernel
theorem dX4_add_24 : decode cX4_add 24 = .ok (.getfield 19, 3) := by decide +kernel
theorem dX4_add_27 : decode cX4_add 27 = .ok (.iload_n 1, 1) := by decide +kernel
theorem dX4_add_28 : decode cX4_add 28 = .ok (.iastore, 1) := by decide +kernel
theorem dX4_add_29 : decode cX4_add 29 = .ok (.aload_n 0, 1) := by decide +kernel
theorem dX4_add_30 : decode cX4_add 30 = .ok (.dup, 1) := by decide +kernel
theorem dX4_add_31 : decode cX4_add 31 = .ok (.getfield 19, 3) := by decide +kernel
theorem dX4_add_34 : decode cX4_add 34 = .ok (.iconst 1, 1) := by decide +kernel
theorem dX4_add_35 : decode cX4_add 35 = .ok (.iadd, 1) := by decide +kernel
theorem dX4_add_36 : decode cX4_add 36 = .ok (.putfield 19, 3) := by decide +kernel
theorem dX4_add_39 : decode cX4_add 39 = .ok (.return_, 1) := by decide +kernel
theorem dX4_clear_0 : decode cX4_clear 0 = .ok (.aload_n 0, 1) := by decide +kernel
theorem dX4_clear_1 : decode cX4_clear 1 = .ok (.iconst 0, 1) := by decide +kernel
theorem dX4_clear_2 : decode cX4_clear 2 = .ok (.putfield 19, 3) := by decide +kernel
theorem dX4_clear_5 : decode cX4_clear 5 = .ok (.return_, 1) := by decide +kernel
theorem dX4_fillWithZeros_0 : decode cX4_fillWithZeros 0 = .ok (.aload_n 0, 1) := by decide +kernel
theorem dX4_fillWithZeros_1 : decode cX4_fillWithZeros 1 = .ok (.invokevirtual 23, 3) := by decide +kernel
theorem dX4_fillWithZeros_4 : decode cX4_fillWithZeros 4 = .ok (.iconst 0, 1) := by decide +kernel
theorem dX4_fillWithZeros_5 : decode cX4_fillWithZeros 5 = .ok (.istore_n 2, 1) := by decide +kernel
theorem dX4_fillWithZeros_6 : decode cX4_fillWithZeros 6 = .ok (.iload_n 2, 1) := by decide +kernel
theorem dX4_fillWithZeros_7 : decode cX4_fillWithZeros 7 = .ok (.iload_n 1, 1) := by decide +kernel
theorem dX4_fillWithZeros_8 : decode cX4_fillWithZeros 8 = .ok (.if_icmp .ge 14, 3) := by decide +kernel
theorem dX4_fillWithZeros_11 : decode cX4_fillWithZeros 11 = .ok (.aload_n 0, 1) := by decide +kernel
theorem dX4_fillWithZeros_12 : decode cX4_fillWithZeros 12 = .ok (.iconst 0, 1) := by decide +kernel
theorem dX4_fillWithZeros_13 : decode cX4_fillWithZeros 13 = .ok (.invokevirtual 26, 3) := by decide +kernel
theorem dX4_fillWithZeros_16 : decode cX4_fillWithZeros 16 = .ok (.iinc 2 1, 3) := by decide +kernel
theorem dX4_fillWithZeros_19 : decode cX4_fillWithZeros 19 = .ok (.goto (-13), 3) := by decide +kernel
theorem dX4_fillWithZeros_22 : decode cX4_fillWithZeros 22 = .ok (.return_, 1) := by decide +kernel
theorem dX4_copyFrom_0 : decode cX4_copyFrom 0 = .ok (.aload_n 0, 1) := by decide +kernel
theorem dX4_copyFrom_1 : decode cX4_copyFrom 1 = .ok (.invokevirtual 23, 3) := by decide +kernel
theorem dX4_copyFrom_4 : decode cX4_copyFrom 4 = .ok (.iconst 0, 1) := by decide +kernel
theorem dX4_copyFrom_5 : decode cX4_copyFrom 5 = .ok (.istore_n 2, 1) := by decide +kernel
theorem dX4_copyFrom_6 : decode cX4_copyFrom 6 = .ok (.iload_n 2, 1) := by decide +kernel
theorem dX4_copyFrom_7 : decode cX4_copyFrom 7 = .ok (.aload_n 1, 1) := by decide +kernel
theorem dX4_copyFrom_8 : decode cX4_copyFrom 8 = .ok (.getfield 19, 3) := by decide +kernel
theorem dX4_copyFrom_11 : decode cX4_copyFrom 11 = .ok (.if_icmp .ge 18, 3) := by decide +kernel
theorem dX4_copyFrom_14 : decode cX4_copyFrom 14 = .ok (.aload_n 0, 1) := by decide +kernel
theorem dX4_copyFrom_15 : decode cX4_copyFrom 15 = .ok (.aload_n 1, 1) := by decide +kernel
theorem dX4_copyFrom_16 : decode cX4_copyFrom 16 = .ok (.iload_n 2, 1) := by decide +kernel
theorem dX4_copyFrom_17 : decode cX4_copyFrom 17 = .ok (.invokevirtual 30, 3) := by decide +kernel
theorem dX4_copyFrom_20 : decode cX4_copyFrom 20 = .ok (.invokevirtual 26, 3) := by decide +kernel
theorem dX4_copyFrom_23 : decode cX4_copyFrom 23 = .ok (.iinc 2 1, 3) := by decide +kernel
theorem dX4_copyFrom_26 : decode cX4_copyFrom 26 = .ok (.goto (-20), 3) := by decide +kernel
theorem dX4_copyFrom_29 : decode cX4_copyFrom 29 = .ok (.return_, 1) := by decide +kernel
def rowPut (cap : Nat) (n : Int32) (f : Nat → Int32) (i v : Int32) : Nat → Int32 := if i < 0 then f else if n ≤ i then f else if nI cap ≤ i then f else upd f i.toNatClampNeg v
def rowLen (cap : Nat) (n : Int32) : Int32 := if n < 0 then n else if nI cap ≤ n then n else n + 1
def rowAdd (cap : Nat) (n : Int32) (f : Nat → Int32) (v : Int32) : Nat → Int32 := if n < 0 then f else if nI cap ≤ n then f else upd f n.toNatClampNeg v
theorem rowLen_lt {cap i : Nat} (h : i < cap) (hc : cap < 2 ^ 31) : rowLen cap (nI i) = nI (i + 1) := by
  unfold rowLen
  rw [if_neg (nI_pos (by omega)), if_neg (nI_ge h hc), nI_1]
theorem rowAdd_lt {cap i : Nat} {f : Nat → Int32} {v : Int32} (h : i < cap) (hc : cap < 2 ^ 31) : rowAdd cap (nI i) f v = upd f i v := by
  unfold rowAdd
  rw [if_neg (nI_pos (by omega)), if_neg (nI_ge h hc), nI_clamp (by omega)]
theorem rowAt_lt {cap i n : Nat} {f : Nat → Int32} (h : i < n) (h2 : n ≤ cap) (hc : cap < 2 ^ 31) : rowAt cap (nI n) f (nI i) = f i := by
  unfold rowAt
  rw [if_neg (nI_pos (by omega)), if_neg (nI_ge h (by omega)), if_neg (nI_ge (by omega) hc), nI_clamp (by omega)]
theorem rowPut_lt {cap i n : Nat} {f : Nat → Int32} {v : Int32} (h : i < n) (h2 : n ≤ cap) (hc : cap < 2 ^ 31) : rowPut cap (nI n) f (nI i) v = upd f i v := by
  unfold rowPut
  rw [if_neg (nI_pos (by omega)), if_neg (nI_ge h (by omega)), if_neg (nI_ge (by omega) hc), nI_clamp (by omega)]
def zf (f : Nat → Int32) (i : Nat) : Nat → Int32 := fun j => if j < i then 0 else f j
theorem zf_0 (f : Nat → Int32) : zf f 0 = f := rfl
theorem zf_s (f : Nat → Int32) (i : Nat) : upd (zf f i) i 0 = zf f (i + 1) := by
  funext j
  unfold upd zf
  by_cases h : j = i
  · subst h; simp
  · by_cases h2 : j < i
    · have h3 : j < i + 1 := by omega
      simp [h, h2, h3]
    · have h3 : ¬ j < i + 1 := by omega
      simp [h, h2, h3]
set_option maxHeartbeats 4000000 in
set_option maxRecDepth 100000 in
theorem c_Row_put (l : Launch) (D : va_G) (h : Nat) (a : Nat) (K : ClassId) (cap : Nat) (n : Int32) (f : Nat → Int32) (i : Int32) (v : Int32) (hcap : cap < 2 ^ 31) (sz : Nat) : k_Mv (S := Unit) l D yX4_put cX4_put 3 none 0 0 0 0 [.ref h, .int i, .int v] [(h, .inr (4, [.ref a, .int n])), (a, .inl (K, cap, .inl f))] [(K, .int)] (fun (_ : Unit) => True) (fun _ => [(h, .inr (4, [.ref a, .int n])), (a, .inl (K, cap, .inl (rowPut cap n f i v)))]) (fun _ => []) sz := by
  refine Met.ofW (cc := cX4_put) (maxL := 3) (ret := none) (by decide) rfl ?_
  intro p e s m args below meth c s₁ B hml hv
  obtain ⟨rfl, hsz, hP, hK, hD0, hG⟩ := hv
  have hx := B.exec
  have hb := B.bytes
  have hr := B.returns
  have ht : ∀ v9 ∈ wsA, v9.before ([.ref h, .int i, .int v] : List Value).toArray s = true := fun v9 h9 => atoms_spec (ws := k_ws yX4_put cX4_put 3 none) B.pre v9 (List.mem_cons_of_mem _ h9)
  have hown : s.vm.findClass RX4 = some m.cls := findClass_of_methodNamed B.named
  have S0 : k_C p s m ([.ref h, .int i, .int v] : List Value).toArray c cX4_put 3 RX4 := ⟨hx, hb, hml, hown, ht⟩
  have hlocks := B.notSynchronized
  subst hsz
  have hD := hD0.self (sz := s.heap.size)
  generalize hAe : va_A [(h, .inr (4, [.ref a, .int n])), (a, .inl (K, cap, .inl f))] s.heap.size = A at hD hG ⊢
  have hA : ∀ q : Nat, s.heap.size ≤ q → A q := fun q h => by rw [← hAe]; exact Or.inr h
  have hS : va_S A s.heap s.heap [] := va_S.rf
  have hl := lv_entry ([.ref h, .int i, .int v]) (n := 3) (Nat.le_of_ble_eq_true rfl)
  rw [lg_entry_eq]
  generalize (lg_sl ([.ref h, .int i, .int v]) ++ List.replicate (3 - (lg_sl ([.ref h, .int i, .int v])).length) Slot.unset).toArray = ls at hl ⊢
  have hl : lv_has ls 3 [(0, .ref h), (1, .int i), (2, .int v)] := hl
  have hP : va_P D vwCl [(h, .inr (4, [.ref a, .int n])), (a, .inl (K, cap, .inl f))] s.heap := hP
  refine lv_iload_n hx hb dX4_put_0 rfl (lv_at hl 1 rfl) ?_
  refine lv_if_lt (tgt := 28) hx hb dX4_put_1 (by decide) (fun c_1 => ?_) (fun c_1 => ?_)
  · have hc9 := c_1
    have hf_2 : f = (rowPut cap n f i v) := by first | rfl | (simp only [rowPut, c_1, if_true, if_false, reduceIte]; done)
    have hP : va_P D vwCl [(h, .inr (4, [.ref a, .int n])), (a, .inl (K, cap, .inl (rowPut cap n f i v)))] s.heap := by rw [← hf_2]; exact hP
    have hD : va_D A [(h, .inr (4, [.ref a, .int n])), (a, .inl (K, cap, .inl (rowPut cap n f i v)))] := by rw [← hf_2]; exact hD
    have hP9 : va_P D vwCl [(h, .inr (4, [.ref a, .int n])), (a, .inl (K, cap, .inl (rowPut cap n f i v)))] s.heap := hP.sub [0, 1] rfl
    have hD9 : va_D A [(h, .inr (4, [.ref a, .int n])), (a, .inl (K, cap, .inl (rowPut cap n f i v)))] := hD.sub [0, 1] (by decide) rfl
    have hK9 : va_K D vwCl [] s := hK.sub [] rfl
    exact W.vret hx hb hr (fun t ht9 hW9 => ⟨⟨(), rfl, by first | rfl | trivial | (simp only [rowPut, c_1, if_true, if_false, reduceIte, and_self]; done) | simp_all, ⟨by rw [ht9]; exact hP9, va_K.moved hW9.alike hK9, hD9⟩⟩, hS.F ht9⟩) hS.2.2 dX4_put_28
  · have hc9 := c_1
    refine lv_iload_n hx hb dX4_put_4 rfl (lv_at hl 1 rfl) ?_
    refine lv_aload_n hx hb dX4_put_5 rfl (lv_at hl 0 rfl) ?_
    refine va_get (D := D) (ci := 4) (v := .int n) (C := RX4) (T := TX4) (N := 2) hx hb ht inA_X4 hown hK hP 0 rfl rfl 1 (by decide) (ht _ lf_X4_19) (fun _ h9 => h9) rfl dX4_put_6 ?_
    refine lv_icmp_ge (tgt := 28) hx hb dX4_put_9 (by decide) (fun c_3 => ?_) (fun c_3 => ?_)
    · have hc9 := c_3
      have hf_4 : f = (rowPut cap n f i v) := by first | rfl | (simp only [rowPut, c_1, c_3, if_true, if_false, reduceIte]; done)
      have hP : va_P D vwCl [(h, .inr (4, [.ref a, .int n])), (a, .inl (K, cap, .inl (rowPut cap n f i v)))] s.heap := by rw [← hf_4]; exact hP
      have hD : va_D A [(h, .inr (4, [.ref a, .int n])), (a, .inl (K, cap, .inl (rowPut cap n f i v)))] := by rw [← hf_4]; exact hD
      have hP9 : va_P D vwCl [(h, .inr (4, [.ref a, .int n])), (a, .inl (K, cap, .inl (rowPut cap n f i v)))] s.heap := hP.sub [0, 1] rfl
      have hD9 : va_D A [(h, .inr (4, [.ref a, .int n])), (a, .inl (K, cap, .inl (rowPut cap n f i v)))] := hD.sub [0, 1] (by decide) rfl
      have hK9 : va_K D vwCl [] s := hK.sub [] rfl
      exact W.vret hx hb hr (fun t ht9 hW9 => ⟨⟨(), rfl, by first | rfl | trivial | (simp only [rowPut, c_1, c_3, if_true, if_false, reduceIte, and_self]; done) | simp_all, ⟨by rw [ht9]; exact hP9, va_K.moved hW9.alike hK9, hD9⟩⟩, hS.F ht9⟩) hS.2.2 dX4_put_28
    · have hc9 := c_3
      refine lv_iload_n hx hb dX4_put_12 rfl (lv_at hl 1 rfl) ?_
      refine lv_aload_n hx hb dX4_put_13 rfl (lv_at hl 0 rfl) ?_
      refine va_get (D := D) (ci := 4) (v := .ref a) (C := RX4) (T := TX4) (N := 2) hx hb ht inA_X4 hown hK hP 0 rfl rfl 0 (by decide) (ht _ lf_X4_13) (fun _ h9 => h9) rfl dX4_put_14 ?_
      refine va_alen (v := nI cap) hx hb hK hP 1 0 rfl rfl rfl dX4_put_17 ?_
      refine lv_icmp_ge (tgt := 28) hx hb dX4_put_18 (by decide) (fun c_5 => ?_) (fun c_5 => ?_)
      · have hc9 := c_5
        have hf_6 : f = (rowPut cap n f i v) := by first | rfl | (simp only [rowPut, c_1, c_3, c_5, if_true, if_false, reduceIte]; done)
        have hP : va_P D vwCl [(h, .inr (4, [.ref a, .int n])), (a, .inl (K, cap, .inl (rowPut cap n f i v)))] s.heap := by rw [← hf_6]; exact hP
        have hD : va_D A [(h, .inr (4, [.ref a, .int n])), (a, .inl (K, cap, .inl (rowPut cap n f i v)))] := by rw [← hf_6]; exact hD
        have hP9 : va_P D vwCl [(h, .inr (4, [.ref a, .int n])), (a, .inl (K, cap, .inl (rowPut cap n f i v)))] s.heap := hP.sub [0, 1] rfl
        have hD9 : va_D A [(h, .inr (4, [.ref a, .int n])), (a, .inl (K, cap, .inl (rowPut cap n f i v)))] := hD.sub [0, 1] (by decide) rfl
        have hK9 : va_K D vwCl [] s := hK.sub [] rfl
        exact W.vret hx hb hr (fun t ht9 hW9 => ⟨⟨(), rfl, by first | rfl | trivial | (simp only [rowPut, c_1, c_3, c_5, if_true, if_false, reduceIte, and_self]; done) | simp_all, ⟨by rw [ht9]; exact hP9, va_K.moved hW9.alike hK9, hD9⟩⟩, hS.F ht9⟩) hS.2.2 dX4_put_28
      · have hc9 := c_5
        refine lv_aload_n hx hb dX4_put_21 rfl (lv_at hl 0 rfl) ?_
        refine va_get (D := D) (ci := 4) (v := .ref a) (C := RX4) (T := TX4) (N := 2) hx hb ht inA_X4 hown hK hP 0 rfl rfl 0 (by decide) (ht _ lf_X4_13) (fun _ h9 => h9) rfl dX4_put_22 ?_
        refine lv_iload_n hx hb dX4_put_25 rfl (lv_at hl 1 rfl) ?_
        refine lv_iload_n hx hb dX4_put_26 rfl (lv_at hl 2 rfl) ?_
        refine va_iast hx hb hK hP hD hS 1 0 rfl rfl (vp_in_row hcap c_1 c_5) dX4_put_27 (fun H locs hP hD hS => ?_)
        have hP : va_P D vwCl [(h, .inr (4, [.ref a, .int n])), (a, .inl (K, cap, .inl (upd f i.toNatClampNeg v)))] H := hP
        have hD : va_D A [(h, .inr (4, [.ref a, .int n])), (a, .inl (K, cap, .inl (upd f i.toNatClampNeg v)))] := hD
        have hf_7 : upd f i.toNatClampNeg v = (rowPut cap n f i v) := by first | rfl | (simp only [rowPut, c_1, c_3, c_5, if_true, if_false, reduceIte]; done)
        have hP : va_P D vwCl [(h, .inr (4, [.ref a, .int n])), (a, .inl (K, cap, .inl (rowPut cap n f i v)))] H := by rw [← hf_7]; exact hP
        have hD : va_D A [(h, .inr (4, [.ref a, .int n])), (a, .inl (K, cap, .inl (rowPut cap n f i v)))] := by rw [← hf_7]; exact hD
        have hP9 : va_P D vwCl [(h, .inr (4, [.ref a, .int n])), (a, .inl (K, cap, .inl (rowPut cap n f i v)))] H := hP.sub [0, 1] rfl
        have hD9 : va_D A [(h, .inr (4, [.ref a, .int n])), (a, .inl (K, cap, .inl (rowPut cap n f i v)))] := hD.sub [0, 1] (by decide) rfl
        have hK9 : va_K D vwCl [] s := hK.sub [] rfl
        exact W.vret hx hb hr (fun t ht9 hW9 => ⟨⟨(), rfl, by first | rfl | trivial | (simp only [rowPut, c_1, c_3, c_5, if_true, if_false, reduceIte, and_self]; done) | simp_all, ⟨by rw [ht9]; exact hP9, va_K.moved hW9.alike hK9, hD9⟩⟩, hS.F ht9⟩) hS.2.2 dX4_put_28
set_option maxHeartbeats 4000000 in
set_option maxRecDepth 100000 in
theorem c_Row_add (l : Launch) (D : va_G) (h : Nat) (a : Nat) (K : ClassId) (cap : Nat) (n : Int32) (f : Nat → Int32) (v : Int32) (hcap : cap < 2 ^ 31) (sz : Nat) : k_Mv (S := Unit) l D yX4_add cX4_add 2 none 0 0 0 0 [.ref h, .int v] [(h, .inr (4, [.ref a, .int n])), (a, .inl (K, cap, .inl f))] [(K, .int)] (fun (_ : Unit) => True) (fun _ => [(h, .inr (4, [.ref a, .int (rowLen cap n)])), (a, .inl (K, cap, .inl (rowAdd cap n f v)))]) (fun _ => []) sz := by
  refine Met.ofW (cc := cX4_add) (maxL := 2) (ret := none) (by decide) rfl ?_
  intro p e s m args below meth c s₁ B hml hv
  obtain ⟨rfl, hsz, hP, hK, hD0, hG⟩ := hv
  have hx := B.exec
  have hb := B.bytes
  have hr := B.returns
  have ht : ∀ v9 ∈ wsA, v9.before ([.ref h, .int v] : List Value).toArray s = true := fun v9 h9 => atoms_spec (ws := k_ws yX4_add cX4_add 2 none) B.pre v9 (List.mem_cons_of_mem _ h9)
  have hown : s.vm.findClass RX4 = some m.cls := findClass_of_methodNamed B.named
  have S0 : k_C p s m ([.ref h, .int v] : List Value).toArray c cX4_add 2 RX4 := ⟨hx, hb, hml, hown, ht⟩
  have hlocks := B.notSynchronized
  subst hsz
  have hD := hD0.self (sz := s.heap.size)
  generalize hAe : va_A [(h, .inr (4, [.ref a, .int n])), (a, .inl (K, cap, .inl f))] s.heap.size = A at hD hG ⊢
  have hA : ∀ q : Nat, s.heap.size ≤ q → A q := fun q h => by rw [← hAe]; exact Or.inr h
  have hS : va_S A s.heap s.heap [] := va_S.rf
  have hl := lv_entry ([.ref h, .int v]) (n := 2) (Nat.le_of_ble_eq_true rfl)
  rw [lg_entry_eq]
  generalize (lg_sl ([.ref h, .int v]) ++ List.replicate (2 - (lg_sl ([.ref h, .int v])).length) Slot.unset).toArray = ls at hl ⊢
  have hl : lv_has ls 2 [(0, .ref h), (1, .int v)] := hl
  have hP : va_P D vwCl [(h, .inr (4, [.ref a, .int n])), (a, .inl (K, cap, .inl f))] s.heap := hP
  refine lv_aload_n hx hb dX4_add_0 rfl (lv_at hl 0 rfl) ?_
  refine va_get (D := D) (ci := 4) (v := .int n) (C := RX4) (T := TX4) (N := 2) hx hb ht inA_X4 hown hK hP 0 rfl rfl 1 (by decide) (ht _ lf_X4_19) (fun _ h9 => h9) rfl dX4_add_1 ?_
  refine lv_if_lt (tgt := 39) hx hb dX4_add_4 (by decide) (fun c_1 => ?_) (fun c_1 => ?_)
  · have hc9 := c_1
    have hf_2 : n = (rowLen cap n) := by first | rfl | (simp only [rowLen, rowAdd, c_1, if_true, if_false, reduceIte]; done)
    have hP : va_P D vwCl [(h, .inr (4, [.ref a, .int (rowLen cap n)])), (a, .inl (K, cap, .inl f))] s.heap := by rw [← hf_2]; exact hP
    have hD : va_D A [(h, .inr (4, [.ref a, .int (rowLen cap n)])), (a, .inl (K, cap, .inl f))] := by rw [← hf_2]; exact hD
    have hf_3 : f = (rowAdd cap n f v) := by first | rfl | (simp only [rowLen, rowAdd, c_1, if_true, if_false, reduceIte]; done)
    have hP : va_P D vwCl [(h, .inr (4, [.ref a, .int (rowLen cap n)])), (a, .inl (K, cap, .inl (rowAdd cap n f v)))] s.heap := by rw [← hf_3]; exact hP
    have hD : va_D A [(h, .inr (4, [.ref a, .int (rowLen cap n)])), (a, .inl (K, cap, .inl (rowAdd cap n f v)))] := by rw [← hf_3]; exact hD
    have hP9 : va_P D vwCl [(h, .inr (4, [.ref a, .int (rowLen cap n)])), (a, .inl (K, cap, .inl (rowAdd cap n f v)))] s.heap := hP.sub [0, 1] rfl
    have hD9 : va_D A [(h, .inr (4, [.ref a, .int (rowLen cap n)])), (a, .inl (K, cap, .inl (rowAdd cap n f v)))] := hD.sub [0, 1] (by decide) rfl
    have hK9 : va_K D vwCl [] s := hK.sub [] rfl
    exact W.vret hx hb hr (fun t ht9 hW9 => ⟨⟨(), rfl, by first | rfl | trivial | (simp only [rowLen, rowAdd, c_1, if_true, if_false, reduceIte, and_self]; done) | simp_all, ⟨by rw [ht9]; exact hP9, va_K.moved hW9.alike hK9, hD9⟩⟩, hS.F ht9⟩) hS.2.2 dX4_add_39
  · have hc9 := c_1
    refine lv_aload_n hx hb dX4_add_7 rfl (lv_at hl 0 rfl) ?_
    refine va_get (D := D) (ci := 4) (v := .int n) (C := RX4) (T := TX4) (N := 2) hx hb ht inA_X4 hown hK hP 0 rfl rfl 1 (by decide) (ht _ lf_X4_19) (fun _ h9 => h9) rfl dX4_add_8 ?_
    refine lv_aload_n hx hb dX4_add_11 rfl (lv_at hl 0 rfl) ?_
    refine va_get (D := D) (ci := 4) (v := .ref a) (C := RX4) (T := TX4) (N := 2) hx hb ht inA_X4 hown hK hP 0 rfl rfl 0 (by decide) (ht _ lf_X4_13) (fun _ h9 => h9) rfl dX4_add_12 ?_
    refine va_alen (v := nI cap) hx hb hK hP 1 0 rfl rfl rfl dX4_add_15 ?_
    refine lv_icmp_ge (tgt := 39) hx hb dX4_add_16 (by decide) (fun c_4 => ?_) (fun c_4 => ?_)
    · have hc9 := c_4
      have hf_5 : n = (rowLen cap n) := by first | rfl | (simp only [rowLen, rowAdd, c_1, c_4, if_true, if_false, reduceIte]; done)
      have hP : va_P D vwCl [(h, .inr (4, [.ref a, .int (rowLen cap n)])), (a, .inl (K, cap, .inl f))] s.heap := by rw [← hf_5]; exact hP
      have hD : va_D A [(h, .inr (4, [.ref a, .int (rowLen cap n)])), (a, .inl (K, cap, .inl f))] := by rw [← hf_5]; exact hD
      have hf_6 : f = (rowAdd cap n f v) := by first | rfl | (simp only [rowLen, rowAdd, c_1, c_4, if_true, if_false, reduceIte]; done)
      have hP : va_P D vwCl [(h, .inr (4, [.ref a, .int (rowLen cap n)])), (a, .inl (K, cap, .inl (rowAdd cap n f v)))] s.heap := by rw [← hf_6]; exact hP
      have hD : va_D A [(h, .inr (4, [.ref a, .int (rowLen cap n)])), (a, .inl (K, cap, .inl (rowAdd cap n f v)))] := by rw [← hf_6]; exact hD
      have hP9 : va_P D vwCl [(h, .inr (4, [.ref a, .int (rowLen cap n)])), (a, .inl (K, cap, .inl (rowAdd cap n f v)))] s.heap := hP.sub [0, 1] rfl
      have hD9 : va_D A [(h, .inr (4, [.ref a, .int (rowLen cap n)])), (a, .inl (K, cap, .inl (rowAdd cap n f v)))] := hD.sub [0, 1] (by decide) rfl
      have hK9 : va_K D vwCl [] s := hK.sub [] rfl
      exact W.vret hx hb hr (fun t ht9 hW9 => ⟨⟨(), rfl, by first | rfl | trivial | (simp only [rowLen, rowAdd, c_1, c_4, if_true, if_false, reduceIte, and_self]; done) | simp_all, ⟨by rw [ht9]; exact hP9, va_K.moved hW9.alike hK9, hD9⟩⟩, hS.F ht9⟩) hS.2.2 dX4_add_39
    · have hc9 := c_4
      refine lv_aload_n hx hb dX4_add_19 rfl (lv_at hl 0 rfl) ?_
      refine va_get (D := D) (ci := 4) (v := .ref a) (C := RX4) (T := TX4) (N := 2) hx hb ht inA_X4 hown hK hP 0 rfl rfl 0 (by decide) (ht _ lf_X4_13) (fun _ h9 => h9) rfl dX4_add_20 ?_
      refine lv_aload_n hx hb dX4_add_23 rfl (lv_at hl 0 rfl) ?_
      refine va_get (D := D) (ci := 4) (v := .int n) (C := RX4) (T := TX4) (N := 2) hx hb ht inA_X4 hown hK hP 0 rfl rfl 1 (by decide) (ht _ lf_X4_19) (fun _ h9 => h9) rfl dX4_add_24 ?_
      refine lv_iload_n hx hb dX4_add_27 rfl (lv_at hl 1 rfl) ?_
      refine va_iast hx hb hK hP hD hS 1 0 rfl rfl (vp_in_row hcap c_1 c_4) dX4_add_28 (fun H locs hP hD hS => ?_)
      have hP : va_P D vwCl [(h, .inr (4, [.ref a, .int n])), (a, .inl (K, cap, .inl (upd f n.toNatClampNeg v)))] H := hP
      have hD : va_D A [(h, .inr (4, [.ref a, .int n])), (a, .inl (K, cap, .inl (upd f n.toNatClampNeg v)))] := hD
      refine lv_aload_n hx hb dX4_add_29 rfl (lv_at hl 0 rfl) ?_
      refine lv_dup hx hb dX4_add_30 rfl ?_
      refine va_get (D := D) (ci := 4) (v := .int n) (C := RX4) (T := TX4) (N := 2) hx hb ht inA_X4 hown hK hP 0 rfl rfl 1 (by decide) (ht _ lf_X4_19) (fun _ h9 => h9) rfl dX4_add_31 ?_
      refine lv_iconst (v := 1) hx hb dX4_add_34 (by decide) ?_
      refine lv_iadd hx hb dX4_add_35 ?_
      refine lv_topi (fun x_7 ex_7 => ?_)
      refine va_put (D := D) (ci := 4) (v := .int x_7) (ty := .int) (C := RX4) (T := TX4) (N := 2) hx hb ht inA_X4 tyX4 tyX4_ok nmX4 hown hK hP hD hS 0 rfl rfl 1 (by decide) (ht _ lf_X4_19) (fun _ h9 => h9) rfl (tyX4_ok 1 (by decide)) rfl rfl (Nat.le_of_ble_eq_true rfl) dX4_add_36 (fun H locs hP hD hS => ?_)
      have hP : va_P D vwCl [(h, .inr (4, [.ref a, .int x_7])), (a, .inl (K, cap, .inl (upd f n.toNatClampNeg v)))] H := hP
      have hD : va_D A [(h, .inr (4, [.ref a, .int x_7])), (a, .inl (K, cap, .inl (upd f n.toNatClampNeg v)))] := hD
      have hf_8 : x_7 = (rowLen cap n) := by first | rfl | (simp only [rowLen, rowAdd, c_1, c_4, ex_7, if_true, if_false, reduceIte]; done)
      have hP : va_P D vwCl [(h, .inr (4, [.ref a, .int (rowLen cap n)])), (a, .inl (K, cap, .inl (upd f n.toNatClampNeg v)))] H := by rw [← hf_8]; exact hP
      have hD : va_D A [(h, .inr (4, [.ref a, .int (rowLen cap n)])), (a, .inl (K, cap, .inl (upd f n.toNatClampNeg v)))] := by rw [← hf_8]; exact hD
      have hf_9 : upd f n.toNatClampNeg v = (rowAdd cap n f v) := by first | rfl | (simp only [rowLen, rowAdd, c_1, c_4, ex_7, if_true, if_false, reduceIte]; done)
      have hP : va_P D vwCl [(h, .inr (4, [.ref a, .int (rowLen cap n)])), (a, .inl (K, cap, .inl (rowAdd cap n f v)))] H := by rw [← hf_9]; exact hP
      have hD : va_D A [(h, .inr (4, [.ref a, .int (rowLen cap n)])), (a, .inl (K, cap, .inl (rowAdd cap n f v)))] := by rw [← hf_9]; exact hD
      have hP9 : va_P D vwCl [(h, .inr (4, [.ref a, .int (rowLen cap n)])), (a, .inl (K, cap, .inl (rowAdd cap n f v)))] H := hP.sub [0, 1] rfl
      have hD9 : va_D A [(h, .inr (4, [.ref a, .int (rowLen cap n)])), (a, .inl (K, cap, .inl (rowAdd cap n f v)))] := hD.sub [0, 1] (by decide) rfl
      have hK9 : va_K D vwCl [] s := hK.sub [] rfl
      exact W.vret hx hb hr (fun t ht9 hW9 => ⟨⟨(), rfl, by first | rfl | trivial | (simp only [rowLen, rowAdd, c_1, c_4, ex_7, if_true, if_false, reduceIte, and_self]; done) | simp_all, ⟨by rw [ht9]; exact hP9, va_K.moved hW9.alike hK9, hD9⟩⟩, hS.F ht9⟩) hS.2.2 dX4_add_39
set_option maxHeartbeats 4000000 in
set_option maxRecDepth 100000 in
theorem c_Row_clear (l : Launch) (D : va_G) (h : Nat) (a : Nat) (n : Int32) (sz : Nat) : k_Mv (S := Unit) l D yX4_clear cX4_clear 1 none 0 0 0 0 [.ref h] [(h, .inr (4, [.ref a, .int n]))] [] (fun (_ : Unit) => True) (fun _ => [(h, .inr (4, [.ref a, .int 0]))]) (fun _ => []) sz := by
  refine Met.ofW (cc := cX4_clear) (maxL := 1) (ret := none) (by decide) rfl ?_
  intro p e s m args below meth c s₁ B hml hv
  obtain ⟨rfl, hsz, hP, hK, hD0, hG⟩ := hv
  have hx := B.exec
  have hb := B.bytes
  have hr := B.returns
  have ht : ∀ v9 ∈ wsA, v9.before ([.ref h] : List Value).toArray s = true := fun v9 h9 => atoms_spec (ws := k_ws yX4_clear cX4_clear 1 none) B.pre v9 (List.mem_cons_of_mem _ h9)
  have hown : s.vm.findClass RX4 = some m.cls := findClass_of_methodNamed B.named
  have S0 : k_C p s m ([.ref h] : List Value).toArray c cX4_clear 1 RX4 := ⟨hx, hb, hml, hown, ht⟩
  have hlocks := B.notSynchronized
  subst hsz
  have hD := hD0.self (sz := s.heap.size)
  generalize hAe : va_A [(h, .inr (4, [.ref a, .int n]))] s.heap.size = A at hD hG ⊢
  have hA : ∀ q : Nat, s.heap.size ≤ q → A q := fun q h => by rw [← hAe]; exact Or.inr h
  have hS : va_S A s.heap s.heap [] := va_S.rf
  have hl := lv_entry ([.ref h]) (n := 1) (Nat.le_of_ble_eq_true rfl)
  rw [lg_entry_eq]
  generalize (lg_sl ([.ref h]) ++ List.replicate (1 - (lg_sl ([.ref h])).length) Slot.unset).toArray = ls at hl ⊢
  have hl : lv_has ls 1 [(0, .ref h)] := hl
  have hP : va_P D vwCl [(h, .inr (4, [.ref a, .int n]))] s.heap := hP
  refine lv_aload_n hx hb dX4_clear_0 rfl (lv_at hl 0 rfl) ?_
  refine lv_iconst (v := 0) hx hb dX4_clear_1 (by decide) ?_
  refine va_put (D := D) (ci := 4) (v := .int 0) (ty := .int) (C := RX4) (T := TX4) (N := 2) hx hb ht inA_X4 tyX4 tyX4_ok nmX4 hown hK hP hD hS 0 rfl rfl 1 (by decide) (ht _ lf_X4_19) (fun _ h9 => h9) rfl (tyX4_ok 1 (by decide)) rfl rfl (Nat.le_of_ble_eq_true rfl) dX4_clear_2 (fun H locs hP hD hS => ?_)
  have hP : va_P D vwCl [(h, .inr (4, [.ref a, .int 0]))] H := hP
  have hD : va_D A [(h, .inr (4, [.ref a, .int 0]))] := hD
  have hP9 : va_P D vwCl [(h, .inr (4, [.ref a, .int 0]))] H := hP.sub [0] rfl
  have hD9 : va_D A [(h, .inr (4, [.ref a, .int 0]))] := hD.sub [0] (by decide) rfl
  have hK9 : va_K D vwCl [] s := hK.sub [] rfl
  exact W.vret hx hb hr (fun t ht9 hW9 => ⟨⟨(), rfl, by first | rfl | trivial | (simp only [if_true, if_false, reduceIte, and_self]; done) | simp_all, ⟨by rw [ht9]; exact hP9, va_K.moved hW9.alike hK9, hD9⟩⟩, hS.F ht9⟩) hS.2.2 dX4_clear_5
set_option maxHeartbeats 4000000 in
set_option maxRecDepth 100000 in
theorem c_Row_fill (l : Launch) (D : va_G) (h : Nat) (a : Nat) (K : ClassId) (cap : Nat) (n : Int32) (f : Nat → Int32) (z : Int32) (k : Nat) (hcap : cap < 2 ^ 31) (hz : z = nI k) (hk : k ≤ cap) (sz : Nat) : k_Mv (S := Unit) l D yX4_fillWithZeros cX4_fillWithZeros 3 none 1 0 0 21 [.ref h, .int z] [(h, .inr (4, [.ref a, .int n])), (a, .inl (K, cap, .inl f))] [(K, .int)] (fun (_ : Unit) => True) (fun _ => [(h, .inr (4, [.ref a, .int (nI k)])), (a, .inl (K, cap, .inl (zf f k)))]) (fun _ => []) sz := by
  refine Met.ofW (cc := cX4_fillWithZeros) (maxL := 3) (ret := none) (by decide) rfl ?_
  intro p e s m args below meth c s₁ B hml hv
  obtain ⟨rfl, hsz, hP, hK, hD0, hG⟩ := hv
  have hx := B.exec
  have hb := B.bytes
  have hr := B.returns
  have ht : ∀ v9 ∈ wsA, v9.before ([.ref h, .int z] : List Value).toArray s = true := fun v9 h9 => atoms_spec (ws := k_ws yX4_fillWithZeros cX4_fillWithZeros 3 none) B.pre v9 (List.mem_cons_of_mem _ h9)
  have hown : s.vm.findClass RX4 = some m.cls := findClass_of_methodNamed B.named
  have S0 : k_C p s m ([.ref h, .int z] : List Value).toArray c cX4_fillWithZeros 3 RX4 := ⟨hx, hb, hml, hown, ht⟩
  have hlocks := B.notSynchronized
  subst hsz
  have hD := hD0.self (sz := s.heap.size)
  generalize hAe : va_A [(h, .inr (4, [.ref a, .int n])), (a, .inl (K, cap, .inl f))] s.heap.size = A at hD hG ⊢
  have hA : ∀ q : Nat, s.heap.size ≤ q → A q := fun q h => by rw [← hAe]; exact Or.inr h
  have hS : va_S A s.heap s.heap [] := va_S.rf
  have hl := lv_entry ([.ref h, .int z]) (n := 3) (Nat.le_of_ble_eq_true rfl)
  rw [lg_entry_eq]
  generalize (lg_sl ([.ref h, .int z]) ++ List.replicate (3 - (lg_sl ([.ref h, .int z])).length) Slot.unset).toArray = ls at hl ⊢
  have hl : lv_has ls 3 [(0, .ref h), (1, .int z)] := hl
  have hP : va_P D vwCl [(h, .inr (4, [.ref a, .int n])), (a, .inl (K, cap, .inl f))] s.heap := hP
  refine lv_aload_n hx hb dX4_fillWithZeros_0 rfl (lv_at hl 0 rfl) ?_
  have ct := k_cut_of (wc := [(h, .inr (4, [.ref a, .int n]))]) (wr := [(a, .inl (K, cap, .inl f))]) (tc := []) hG hS hA hK hP hD [0] [1] [] rfl rfl (by decide) (by decide) (by decide) rfl
  refine k_endv (As := [.ref h]) ct (k_runV (As := []) (rest := []) S0 Lv_X4_23 rfl (ci := 4) (q0 := 0) rfl rfl ct (c_Row_clear l D h a n s.heap.size) hl.1 rfl (Nat.le_of_ble_eq_true rfl) rfl dX4_fillWithZeros_1 ⟨⟨Nat.le_of_ble_eq_true rfl, Nat.le_of_ble_eq_true rfl⟩, Nat.le_of_ble_eq_true rfl, Nat.le_of_ble_eq_true rfl⟩) rfl rfl (fun _ _ H locs hw_2 hP hD hK hS => ?_)
  have hK : va_K D vwCl [(K, .int)] s := hK
  have hP : va_P D vwCl [(a, .inl (K, cap, .inl f)), (h, .inr (4, [.ref a, .int 0]))] H := hP
  have hD : va_D A [(a, .inl (K, cap, .inl f)), (h, .inr (4, [.ref a, .int 0]))] := hD
  refine lv_iconst (v := 0) hx hb dX4_fillWithZeros_4 (by decide) ?_
  refine lv_istore_n (lv' := [(2, .int 0), (0, .ref h), (1, .int z)]) hx hb dX4_fillWithZeros_5 rfl hl (by decide) rfl (fun ls hl => ?_)
  have hf_3 : f = (zf f 0) := (zf_0 f).symm
  have hP : va_P D vwCl [(a, .inl (K, cap, .inl (zf f 0))), (h, .inr (4, [.ref a, .int 0]))] H := by rw [← hf_3]; exact hP
  have hD : va_D A [(a, .inl (K, cap, .inl (zf f 0))), (h, .inr (4, [.ref a, .int 0]))] := by rw [← hf_3]; exact hD
  have hf_4 : 0 = (nI 0) := rfl
  have hP : va_P D vwCl [(a, .inl (K, cap, .inl (zf f 0))), (h, .inr (4, [.ref a, .int (nI 0)]))] H := by rw [← hf_4]; exact hP
  have hD : va_D A [(a, .inl (K, cap, .inl (zf f 0))), (h, .inr (4, [.ref a, .int (nI 0)]))] := by rw [← hf_4]; exact hD
  have hl : lv_has ls 3 [(2, .int (nI 0)), (0, .ref h), (1, .int z)] := hl
  refine k_loop (ι := Nat) (fun (i : Nat) H9 locs9 ls9 => (i ≤ k) ∧ va_P D vwCl [(h, .inr (4, [.ref a, .int (nI i)])), (a, .inl (K, cap, .inl (zf f i)))] H9 ∧ va_D A [(h, .inr (4, [.ref a, .int (nI i)])), (a, .inl (K, cap, .inl (zf f i)))] ∧ va_S A s.heap H9 locs9 ∧ lv_has ls9 3 [(2, .int (nI i)), (0, .ref h), (1, .int z)]) (fun (i : Nat) => k - i) ?_ (0) ⟨(Nat.zero_le _), hP.sub [1, 0] rfl, hD.sub [1, 0] (by decide) rfl, hS, lv_sub hl [0, 1, 2] rfl⟩
  intro x9 H locs ls hF9 ih9
  obtain ⟨i, hv9⟩ : ∃ z, z = x9 := ⟨_, rfl⟩
  subst hv9
  obtain ⟨hi, hP, hD, hS, hl⟩ := hF9
  try dsimp only at ih9
  have hP : va_P D vwCl [(h, .inr (4, [.ref a, .int (nI i)])), (a, .inl (K, cap, .inl (zf f i)))] H := hP
  have hD : va_D A [(h, .inr (4, [.ref a, .int (nI i)])), (a, .inl (K, cap, .inl (zf f i)))] := hD
  have hl : lv_has ls 3 [(2, .int (nI i)), (0, .ref h), (1, .int z)] := hl
  refine lv_iload_n hx hb dX4_fillWithZeros_6 rfl (lv_at hl 0 rfl) ?_
  refine lv_iload_n hx hb dX4_fillWithZeros_7 rfl (lv_at hl 2 rfl) ?_
  refine lv_icmp_ge (tgt := 22) hx hb dX4_fillWithZeros_8 (by decide) (fun c_5 => ?_) (fun c_5 => ?_)
  · have hc9 := c_5
    obtain rfl : k = i := by rcases Nat.lt_or_ge i k with q9 | q9; exact absurd (by rw [hz] at c_5; exact c_5) (nI_ge q9 (by omega)); omega
    have hP9 : va_P D vwCl [(h, .inr (4, [.ref a, .int (nI k)])), (a, .inl (K, cap, .inl (zf f k)))] H := hP.sub [0, 1] rfl
    have hD9 : va_D A [(h, .inr (4, [.ref a, .int (nI k)])), (a, .inl (K, cap, .inl (zf f k)))] := hD.sub [0, 1] (by decide) rfl
    have hK9 : va_K D vwCl [] s := hK.sub [] rfl
    exact W.vret hx hb hr (fun t ht9 hW9 => ⟨⟨(), rfl, by first | rfl | trivial | (simp only [hi, c_5, if_true, if_false, reduceIte, and_self]; done) | simp_all, ⟨by rw [ht9]; exact hP9, va_K.moved hW9.alike hK9, hD9⟩⟩, hS.F ht9⟩) hS.2.2 dX4_fillWithZeros_22
  · have hc9 := c_5
    have hik : i + 1 ≤ k := by rcases Nat.lt_or_ge i k with q9 | q9; exact q9; exact absurd (by rw [hz]; exact nI_le q9 (by omega)) c_5
    refine lv_aload_n hx hb dX4_fillWithZeros_11 rfl (lv_at hl 1 rfl) ?_
    refine lv_iconst (v := 0) hx hb dX4_fillWithZeros_12 (by decide) ?_
    have ct := k_cut_of (wc := [(h, .inr (4, [.ref a, .int (nI i)])), (a, .inl (K, cap, .inl (zf f i)))]) (wr := []) (tc := [(K, .int)]) hG hS hA hK hP hD [0, 1] [] [0] rfl rfl (by decide) (by decide) (by decide) rfl
    refine k_endv (As := [.ref h, .int 0]) ct (k_runV (As := [.int 0]) (rest := []) S0 Lv_X4_26 rfl (ci := 4) (q0 := 0) rfl rfl ct (c_Row_add l D h a K cap (nI i) (zf f i) 0 (by first | assumption | decide) H.size) hl.1 rfl (Nat.le_of_ble_eq_true rfl) rfl dX4_fillWithZeros_13 ⟨⟨Nat.le_of_ble_eq_true rfl, Nat.le_of_ble_eq_true rfl⟩, Nat.le_of_ble_eq_true rfl, Nat.le_of_ble_eq_true rfl⟩) rfl rfl (fun _ _ H locs hw_7 hP hD hK hS => ?_)
    have hK : va_K D vwCl [(K, .int)] s := hK
    have hP : va_P D vwCl [(h, .inr (4, [.ref a, .int (rowLen cap (nI i))])), (a, .inl (K, cap, .inl (rowAdd cap (nI i) (zf f i) 0)))] H := hP
    have hD : va_D A [(h, .inr (4, [.ref a, .int (rowLen cap (nI i))])), (a, .inl (K, cap, .inl (rowAdd cap (nI i) (zf f i) 0)))] := hD
    have hf_8 : (rowLen cap (nI i)) = (nI (i + 1)) := rowLen_lt (by omega) hcap
    have hP : va_P D vwCl [(h, .inr (4, [.ref a, .int (nI (i + 1))])), (a, .inl (K, cap, .inl (rowAdd cap (nI i) (zf f i) 0)))] H := by rw [← hf_8]; exact hP
    have hD : va_D A [(h, .inr (4, [.ref a, .int (nI (i + 1))])), (a, .inl (K, cap, .inl (rowAdd cap (nI i) (zf f i) 0)))] := by rw [← hf_8]; exact hD
    have hf_9 : (rowAdd cap (nI i) (zf f i) 0) = (zf f (i + 1)) := (rowAdd_lt (by omega) hcap).trans (zf_s f i)
    have hP : va_P D vwCl [(h, .inr (4, [.ref a, .int (nI (i + 1))])), (a, .inl (K, cap, .inl (zf f (i + 1))))] H := by rw [← hf_9]; exact hP
    have hD : va_D A [(h, .inr (4, [.ref a, .int (nI (i + 1))])), (a, .inl (K, cap, .inl (zf f (i + 1))))] := by rw [← hf_9]; exact hD
    obtain ⟨x_10, ex_10⟩ : ∃ z : Int32, z = (nI i) + 1 := ⟨_, rfl⟩
    refine lv_iinc (v := x_10) (lv' := [(2, .int x_10), (0, .ref h), (1, .int z)]) hx hb dX4_fillWithZeros_16 hl (k := 0) rfl (by rw [ex_10]; rfl) (by decide) rfl (fun ls hl => ?_)
    refine lv_goto (tgt := 6) hx hb dX4_fillWithZeros_19 (by decide) ?_
    have he9 : x_10 = nI (i + 1) := by rw [ex_10]; exact nI_1 i
    rw [he9] at hl
    exact ih9 (i + 1) H locs ls (by omega) ⟨hik, hP.sub [0, 1] rfl, hD.sub [0, 1] (by decide) rfl, hS, lv_sub hl [0, 1, 2] rfl⟩
set_option maxHeartbeats 4000000 in
set_option maxRecDepth 100000 in
theorem c_Row_copy0 (l : Launch) (D : va_G) (h : Nat) (a : Nat) (n : Int32) (h2 : Nat) (a2 : Nat) (sz : Nat) : k_Mv (S := Unit) l D yX4_copyFrom cX4_copyFrom 3 none 1 0 0 20 [.ref h, .ref h2] [(h, .inr (4, [.ref a, .int n])), (h2, .inr (4, [.ref a2, .int 0]))] [] (fun (_ : Unit) => True) (fun _ => [(h, .inr (4, [.ref a, .int 0])), (h2, .inr (4, [.ref a2, .int 0]))]) (fun _ => []) sz := by
  refine Met.ofW (cc := cX4_copyFrom) (maxL := 3) (ret := none) (by decide) rfl ?_
  intro p e s m args below meth c s₁ B hml hv
  obtain ⟨rfl, hsz, hP, hK, hD0, hG⟩ := hv
  have hx := B.exec
  have hb := B.bytes
  have hr := B.returns
  have ht : ∀ v9 ∈ wsA, v9.before ([.ref h, .ref h2] : List Value).toArray s = true := fun v9 h9 => atoms_spec (ws := k_ws yX4_copyFrom cX4_copyFrom 3 none) B.pre v9 (List.mem_cons_of_mem _ h9)
  have hown : s.vm.findClass RX4 = some m.cls := findClass_of_methodNamed B.named
  have S0 : k_C p s m ([.ref h, .ref h2] : List Value).toArray c cX4_copyFrom 3 RX4 := ⟨hx, hb, hml, hown, ht⟩
  have hlocks := B.notSynchronized
  subst hsz
  have hD := hD0.self (sz := s.heap.size)
  generalize hAe : va_A [(h, .inr (4, [.ref a, .int n])), (h2, .inr (4, [.ref a2, .int 0]))] s.heap.size = A at hD hG ⊢
  have hA : ∀ q : Nat, s.heap.size ≤ q → A q := fun q h => by rw [← hAe]; exact Or.inr h
  have hS : va_S A s.heap s.heap [] := va_S.rf
  have hl := lv_entry ([.ref h, .ref h2]) (n := 3) (Nat.le_of_ble_eq_true rfl)
  rw [lg_entry_eq]
  generalize (lg_sl ([.ref h, .ref h2]) ++ List.replicate (3 - (lg_sl ([.ref h, .ref h2])).length) Slot.unset).toArray = ls at hl ⊢
  have hl : lv_has ls 3 [(0, .ref h), (1, .ref h2)] := hl
  have hP : va_P D vwCl [(h, .inr (4, [.ref a, .int n])), (h2, .inr (4, [.ref a2, .int 0]))] s.heap := hP
  refine lv_aload_n hx hb dX4_copyFrom_0 rfl (lv_at hl 0 rfl) ?_
  have ct := k_cut_of (wc := [(h, .inr (4, [.ref a, .int n]))]) (wr := [(h2, .inr (4, [.ref a2, .int 0]))]) (tc := []) hG hS hA hK hP hD [0] [1] [] rfl rfl (by decide) (by decide) (by decide) rfl
  refine k_endv (As := [.ref h]) ct (k_runV (As := []) (rest := []) S0 Lv_X4_23 rfl (ci := 4) (q0 := 0) rfl rfl ct (c_Row_clear l D h a n s.heap.size) hl.1 rfl (Nat.le_of_ble_eq_true rfl) rfl dX4_copyFrom_1 ⟨⟨Nat.le_of_ble_eq_true rfl, Nat.le_of_ble_eq_true rfl⟩, Nat.le_of_ble_eq_true rfl, Nat.le_of_ble_eq_true rfl⟩) rfl rfl (fun _ _ H locs hw_2 hP hD hK hS => ?_)
  have hK : va_K D vwCl [] s := hK
  have hP : va_P D vwCl [(h2, .inr (4, [.ref a2, .int 0])), (h, .inr (4, [.ref a, .int 0]))] H := hP
  have hD : va_D A [(h2, .inr (4, [.ref a2, .int 0])), (h, .inr (4, [.ref a, .int 0]))] := hD
  refine lv_iconst (v := 0) hx hb dX4_copyFrom_4 (by decide) ?_
  refine lv_istore_n (lv' := [(2, .int 0), (0, .ref h), (1, .ref h2)]) hx hb dX4_copyFrom_5 rfl hl (by decide) rfl (fun ls hl => ?_)
  refine lv_iload_n hx hb dX4_copyFrom_6 rfl (lv_at hl 0 rfl) ?_
  refine lv_aload_n hx hb dX4_copyFrom_7 rfl (lv_at hl 2 rfl) ?_
  refine va_get (D := D) (ci := 4) (v := .int 0) (C := RX4) (T := TX4) (N := 2) hx hb ht inA_X4 hown hK hP 0 rfl rfl 1 (by decide) (ht _ lf_X4_19) (fun _ h9 => h9) rfl dX4_copyFrom_8 ?_
  refine lv_icmp_ge (tgt := 29) hx hb dX4_copyFrom_11 (by decide) (fun _ => ?_) (fun c9 => absurd (by decide) c9)
  have hP9 : va_P D vwCl [(h, .inr (4, [.ref a, .int 0])), (h2, .inr (4, [.ref a2, .int 0]))] H := hP.sub [1, 0] rfl
  have hD9 : va_D A [(h, .inr (4, [.ref a, .int 0])), (h2, .inr (4, [.ref a2, .int 0]))] := hD.sub [1, 0] (by decide) rfl
  have hK9 : va_K D vwCl [] s := hK.sub [] rfl
  exact W.vret hx hb hr (fun t ht9 hW9 => ⟨⟨(), rfl, by first | rfl | trivial | (simp only [if_true, if_false, reduceIte, and_self]; done) | simp_all, ⟨by rw [ht9]; exact hP9, va_K.moved hW9.alike hK9, hD9⟩⟩, hS.F ht9⟩) hS.2.2 dX4_copyFrom_29
end
section
theorem lo_X2_3 : Cond.methodLink RX2 3 objectInit ∈ wsA := mA 36 rfl rfl
theorem lc_X2_9 : Cond.classLink RX2 9 "BarcodeWand$Row" ∈ wsA := mA 37 rfl rfl
theorem lt_BarcodeWand_Row : Cond.instantiable "BarcodeWand$Row" 2 ∈ wsA := mA 38 rfl rfl
theorem lk_X4_init : Cond.code yX4_init cX4_init 2 none ∈ wsA := mA 41 rfl rfl
theorem ly_X4_init : k_y yX4_init 1 := ⟨by decide +kernel, by decide +kernel, by decide +kernel⟩
theorem lm_X4_init : Cond.instanceMethod yX4_init ∈ wsA := mA 40 rfl rfl
theorem Li_X2_11 : k_LI RX2 11 yX4_init cX4_init 2 1 := ⟨mA 39 rfl rfl, lm_X4_init, li_BarcodeWand_Row, lk_X4_init, rfl, ly_X4_init⟩
theorem inA_X2 : ∀ w ∈ u_ws RX2 TX2 2, w ∈ wsA := by
  show ∀ w ∈ ([u_lay RX2 TX2 0, u_lay RX2 TX2 1] : List Cond), w ∈ wsA
  exact List.forall_mem_cons.mpr ⟨mA 58 rfl rfl, List.forall_mem_cons.mpr ⟨mA 60 rfl rfl, fun _ h => absurd h List.not_mem_nil⟩⟩
theorem lf_X2_14 : Cond.fieldLink RX2 14 "BarcodeWand$Label" "digits" "LBarcodeWand$Row;" ∈ wsA := mA 54 rfl rfl
theorem lf_X2_20 : Cond.fieldLink RX2 20 "BarcodeWand$Label" "smudges" "LBarcodeWand$Row;" ∈ wsA := mA 56 rfl rfl
theorem lo_X0_3 : Cond.methodLink RX0 3 objectInit ∈ wsA := mA 70 rfl rfl
theorem lc_X0_9 : Cond.classLink RX0 9 "BarcodeWand$Row" ∈ wsA := mA 71 rfl rfl
theorem Li_X0_11 : k_LI RX0 11 yX4_init cX4_init 2 1 := ⟨mA 72 rfl rfl, lm_X4_init, li_BarcodeWand_Row, lk_X4_init, rfl, ly_X4_init⟩
theorem inA_X0 : ∀ w ∈ u_ws RX0 TX0 3, w ∈ wsA := by
  show ∀ w ∈ ([u_lay RX0 TX0 0, u_lay RX0 TX0 1, u_lay RX0 TX0 2] : List Cond), w ∈ wsA
  exact List.forall_mem_cons.mpr ⟨mA 79 rfl rfl, List.forall_mem_cons.mpr ⟨mA 81 rfl rfl, List.forall_mem_cons.mpr ⟨mA 83 rfl rfl, fun _ h => absurd h List.not_mem_nil⟩⟩⟩
theorem lf_X0_14 : Cond.fieldLink RX0 14 "BarcodeWand$CodeList" "numbers" "LBarcodeWand$Row;" ∈ wsA := mA 73 rfl rfl
theorem lf_X0_20 : Cond.fieldLink RX0 20 "BarcodeWand$CodeList" "lengths" "LBarcodeWand$Row;" ∈ wsA := mA 75 rfl rfl
theorem lf_X0_23 : Cond.fieldLink RX0 23 "BarcodeWand$CodeList" "counts" "LBarcodeWand$Row;" ∈ wsA := mA 77 rfl rfl
theorem lo_X6_3 : Cond.methodLink RX6 3 objectInit ∈ wsA := mA 30 rfl rfl
theorem lc_X6_9 : Cond.classLink RX6 9 "BarcodeWand$Label" ∈ wsA := mA 31 rfl rfl
theorem lt_BarcodeWand_Label : Cond.instantiable "BarcodeWand$Label" 2 ∈ wsA := mA 32 rfl rfl
theorem li_BarcodeWand_Label : Cond.initialized "BarcodeWand$Label" ∈ wsA := mA 3 rfl rfl
theorem lk_X2_init : Cond.code yX2_init cX2_init 1 none ∈ wsA := mA 35 rfl rfl
theorem ly_X2_init : k_y yX2_init 0 := ⟨by decide +kernel, by decide +kernel, by decide +kernel⟩
theorem lm_X2_init : Cond.instanceMethod yX2_init ∈ wsA := mA 34 rfl rfl
theorem Li_X6_11 : k_LIN RX6 11 "BarcodeWand" yX2_init cX2_init 1 0 := ⟨List.mem_of_getElem? (i := 33) rfl, lm_X2_init, li_BarcodeWand_Label, lk_X2_init, rfl, ly_X2_init⟩
theorem inA_X6 : ∀ w ∈ u_ws RX6 TX6 6, w ∈ wsA := by
  show ∀ w ∈ ([u_lay RX6 TX6 0, u_lay RX6 TX6 1, u_lay RX6 TX6 2, u_lay RX6 TX6 3, u_lay RX6 TX6 4, u_lay RX6 TX6 5] : List Cond), w ∈ wsA
  exact List.forall_mem_cons.mpr ⟨mA 98 rfl rfl, List.forall_mem_cons.mpr ⟨mA 100 rfl rfl, List.forall_mem_cons.mpr ⟨mA 102 rfl rfl, List.forall_mem_cons.mpr ⟨mA 104 rfl rfl, List.forall_mem_cons.mpr ⟨mA 106 rfl rfl, List.forall_mem_cons.mpr ⟨mA 108 rfl rfl, fun _ h => absurd h List.not_mem_nil⟩⟩⟩⟩⟩⟩
theorem lf_X6_12 : Cond.fieldLink RX6 12 "BarcodeWand$State" "label" "LBarcodeWand$Label;" ∈ wsA := mA 86 rfl rfl
theorem lc_X6_18 : Cond.classLink RX6 18 "BarcodeWand$Row" ∈ wsA := mA 63 rfl rfl
theorem Li_X6_20 : k_LI RX6 20 yX4_init cX4_init 2 1 := ⟨mA 64 rfl rfl, lm_X4_init, li_BarcodeWand_Row, lk_X4_init, rfl, ly_X4_init⟩
theorem lf_X6_23 : Cond.fieldLink RX6 23 "BarcodeWand$State" "measurement" "LBarcodeWand$Row;" ∈ wsA := mA 88 rfl rfl
theorem lc_X6_27 : Cond.classLink RX6 27 "BarcodeWand$CodeList" ∈ wsA := mA 65 rfl rfl
theorem lt_BarcodeWand_CodeList : Cond.instantiable "BarcodeWand$CodeList" 3 ∈ wsA := mA 66 rfl rfl
theorem li_BarcodeWand_CodeList : Cond.initialized "BarcodeWand$CodeList" ∈ wsA := mA 6 rfl rfl
theorem lk_X0_init : Cond.code yX0_init cX0_init 1 none ∈ wsA := mA 69 rfl rfl
theorem ly_X0_init : k_y yX0_init 0 := ⟨by decide +kernel, by decide +kernel, by decide +kernel⟩
theorem lm_X0_init : Cond.instanceMethod yX0_init ∈ wsA := mA 68 rfl rfl
theorem Li_X6_29 : k_LIN RX6 29 "BarcodeWand" yX0_init cX0_init 1 0 := ⟨List.mem_of_getElem? (i := 67) rfl, lm_X0_init, li_BarcodeWand_CodeList, lk_X0_init, rfl, ly_X0_init⟩
theorem lf_X6_30 : Cond.fieldLink RX6 30 "BarcodeWand$State" "list" "LBarcodeWand$CodeList;" ∈ wsA := mA 90 rfl rfl
theorem lf_X6_34 : Cond.fieldLink RX6 34 "BarcodeWand$State" "tolerance" "I" ∈ wsA := mA 92 rfl rfl
theorem dX2_init_0 : decode cX2_init 0 = .ok (.aload_n 0, 1) := by decide +kernel
theorem dX2_init_1 : decode cX2_init 1 = .ok (.invokespecial 3, 3) := by decide +kernel
theorem dX2_init_4 : decode cX2_init 4 = .ok (.aload_n 0, 1) := by decide +kernel
theorem dX2_init_5 : decode cX2_init 5 = .ok (.new 9, 3) := by decide +kernel
theorem dX2_init_8 : decode cX2_init 8 = .ok (.dup, 1) := by decide +kernel
theorem dX2_init_9 : decode cX2_init 9 = .ok (.bipush 9, 2) := by decide +kernel
theorem dX2_init_11 : decode cX2_init 11 = .ok (.invokespecial 11, 3) := by decide +kernel
theorem dX2_init_14 : decode cX2_init 14 = .ok (.putfield 14, 3) := by decide +kernel
theorem dX2_init_17 : decode cX2_init 17 = .ok (.aload_n 0, 1) := by decide +kernel
theorem dX2_init_18 : decode cX2_init 18 = .ok (.new 9, 3) := by decide +kernel
theorem dX2_init_21 : decode cX2_init 21 = .ok (.dup, 1) := by decide +kernel
theorem dX2_init_22 : decode cX2_init 22 = .ok (.bipush 41, 2) := by decide +kernel
theorem dX2_init_24 : decode cX2_init 24 = .ok (.invokespecial 11, 3) := by decide +kernel
theorem dX2_init_27 : decode cX2_init 27 = .ok (.putfield 20, 3) := by decide +kernel
theorem dX2_init_30 : decode cX2_init 30 = .ok (.return_, 1) := by decide +kernel
theorem dX0_init_0 : decode cX0_init 0 = .ok (.aload_n 0, 1) := by decide +kernel
theorem dX0_init_1 : decode cX0_init 1 = .ok (.invokespecial 3, 3) := by decide +kernel
theorem dX0_init_4 : decode cX0_init 4 = .ok (.aload_n 0, 1) := by decide +kernel
theorem dX0_init_5 : decode cX0_init 5 = .ok (.new 9, 3) := by decide +kernel
theorem dX0_init_8 : decode cX0_init 8 = .ok (.dup, 1) := by decide +kernel
theorem dX0_init_9 : decode cX0_init 9 = .ok (.bipush 10, 2) := by decide +kernel
theorem dX0_init_11 : decode cX0_init 11 = .ok (.invokespecial 11, 3) := by decide +kernel
theorem dX0_init_14 : decode cX0_init 14 = .ok (.putfield 14, 3) := by decide +kernel
theorem dX0_init_17 : decode cX0_init 17 = .ok (.aload_n 0, 1) := by decide +kernel
theorem dX0_init_18 : decode cX0_init 18 = .ok (.new 9, 3) := by decide +kernel
theorem dX0_init_21 : decode cX0_init 21 = .ok (.dup, 1) := by decide +kernel
theorem dX0_init_22 : decode cX0_init 22 = .ok (.bipush 10, 2) := by decide +kernel
theorem dX0_init_24 : decode cX0_init 24 = .ok (.invokespecial 11, 3) := by decide +kernel
theorem dX0_init_27 : decode cX0_init 27 = .ok (.putfield 20, 3) := by decide +kernel
theorem dX0_init_30 : decode cX0_init 30 = .ok (.aload_n 0, 1) := by decide +kernel
theorem dX0_init_31 : decode cX0_init 31 = .ok (.new 9, 3) := by decide +kernel
theorem dX0_init_34 : decode cX0_init 34 = .ok (.dup, 1) := by decide +kernel
theorem dX0_init_35 : decode cX0_init 35 = .ok (.bipush 10, 2) := by decide +kernel
theorem dX0_init_37 : decode cX0_init 37 = .ok (.invokespecial 11, 3) := by decide +kernel
theorem dX0_init_40 : decode cX0_init 40 = .ok (.putfield 23, 3) := by decide +kernel
theorem dX0_init_43 : decode cX0_init 43 = .ok (.return_, 1) := by decide +kernel
theorem dX6_init_0 : decode cX6_init 0 = .ok (.aload_n 0, 1) := by decide +kernel
theorem dX6_init_1 : decode cX6_init 1 = .ok (.invokespecial 3, 3) := by decide +kernel
theorem dX6_init_4 : decode cX6_init 4 = .ok (.aload_n 0, 1) := by decide +kernel
theorem dX6_init_5 : decode cX6_init 5 = .ok (.new 9, 3) := by decide +kernel
theorem dX6_init_8 : decode cX6_init 8 = .ok (.dup, 1) := by decide +kernel
theorem dX6_init_9 : decode cX6_init 9 = .ok (.invokespecial 11, 3) := by decide +kernel
theorem dX6_init_12 : decode cX6_init 12 = .ok (.putfield 12, 3) := by decide +kernel
theorem dX6_init_15 : decode cX6_init 15 = .ok (.aload_n 0, 1) := by decide +kernel
theorem dX6_init_16 : decode cX6_init 16 = .ok (.new 18, 3) := by decide +kernel
theorem dX6_init_19 : decode cX6_init 19 = .ok (.dup, 1) := by decide +kernel
theorem dX6_init_20 : decode cX6_init 20 = .ok (.bipush 41, 2) := by decide +kernel
theorem dX6_init_22 : decode cX6_init 22 = .ok (.invokespecial 20, 3) := by decide +kernel
theorem dX6_init_25 : decode cX6_init 25 = .ok (.putfield 23, 3) := by decide +kernel
theorem dX6_init_28 : decode cX6_init 28 = .ok (.aload_n 0, 1) := by decide +kernel
theorem dX6_init_29 : decode cX6_init 29 = .ok (.new 27, 3) := by decide +kernel
theorem dX6_init_32 : decode cX6_init 32 = .ok (.dup, 1) := by decide +kernel
theorem dX6_init_33 : decode cX6_init 33 = .ok (.invokespecial 29, 3) := by decide +kernel
theorem dX6_init_36 : decode cX6_init 36 = .ok (.putfield 30, 3) := by decide +kernel
theorem dX6_init_39 : decode cX6_init 39 = .ok (.aload_n 0, 1) := by decide +kernel
theorem dX6_init_40 : decode cX6_init 40 = .ok (.iconst 4, 1) := by decide +kernel
theorem dX6_init_41 : decode cX6_init 41 = .ok (.putfield 34, 3) := by decide +kernel
theorem dX6_init_44 : decode cX6_init 44 = .ok (.return_, 1) := by decide +kernel
set_option maxHeartbeats 4000000 in
set_option maxRecDepth 100000 in
theorem c_Label_init (l : Launch) (D : va_G) (h : Nat) (sz : Nat) : k_Mv (S := Nat × Nat × Nat × Nat × ClassId) l D yX2_init cX2_init 1 none 2 4 54 35 [.ref h] [(h, .inr (2, [.null, .null]))] [] (fun (u : Nat × Nat × Nat × Nat × ClassId) => match u with | (ld, ldA, lz, lzA, K) => True) (fun u => match u with | (ld, ldA, lz, lzA, K) => [(h, .inr (2, [.ref ld, .ref lz])), (ld, .inr (4, [.ref ldA, .int 0])), (ldA, .inl (K, 9, .inl (fun _ => 0))), (lz, .inr (4, [.ref lzA, .int 0])), (lzA, .inl (K, 41, .inl (fun _ => 0)))]) (fun u => match u with | (ld, ldA, lz, lzA, K) => [(K, .int)]) sz := by
  refine Met.ofW (cc := cX2_init) (maxL := 1) (ret := none) (by decide) rfl ?_
  intro p e s m args below meth c s₁ B hml hv
  obtain ⟨rfl, hsz, hP, hK, hD0, hG⟩ := hv
  have hx := B.exec
  have hb := B.bytes
  have hr := B.returns
  have ht : ∀ v9 ∈ wsA, v9.before ([.ref h] : List Value).toArray s = true := fun v9 h9 => atoms_spec (ws := k_ws yX2_init cX2_init 1 none) B.pre v9 (List.mem_cons_of_mem _ h9)
  have hown : s.vm.findClass RX2 = some m.cls := findClass_of_methodNamed B.named
  have S0 : k_C p s m ([.ref h] : List Value).toArray c cX2_init 1 RX2 := ⟨hx, hb, hml, hown, ht⟩
  have hlocks := B.notSynchronized
  have hin : meth.name = "<init>" := (name_of_methodNamed B.named B.method).1
  subst hsz
  have hD := hD0.self (sz := s.heap.size)
  generalize hAe : va_A [(h, .inr (2, [.null, .null]))] s.heap.size = A at hD hG ⊢
  have hA : ∀ q : Nat, s.heap.size ≤ q → A q := fun q h => by rw [← hAe]; exact Or.inr h
  have hS : va_S A s.heap s.heap [] := va_S.rf
  have hl := lv_entry ([.ref h]) (n := 1) (Nat.le_of_ble_eq_true rfl)
  rw [lg_entry_eq]
  generalize (lg_sl ([.ref h]) ++ List.replicate (1 - (lg_sl ([.ref h])).length) Slot.unset).toArray = ls at hl ⊢
  have hl : lv_has ls 1 [(0, .ref h)] := hl
  have hP : va_P D vwCl [(h, .inr (2, [.null, .null]))] s.heap := hP
  refine lv_aload_n hx hb dX2_init_0 rfl (lv_at hl 0 rfl) ?_
  refine W.objInit hx hb hown (ht _ lo_X2_3) (ht _ lo_inst) (ht _ lo_code) rfl (by rw [hml]; exact hl.1) rfl dX2_init_1 (Nat.le_of_ble_eq_true rfl) (Nat.le_of_ble_eq_true rfl) ?_
  refine W.eq (g2 := F0 m 4 ls []) rfl ?_
  refine lv_aload_n hx hb dX2_init_4 rfl (lv_at hl 0 rfl) ?_
  refine va_new (ci := 4) (fs := [.null, .int 0]) (C := RX4) (T := TX4) (N := 2) hx hb ht inA_X4 tyX4 tyX4_ok hown (ht _ lc_X2_9) (ht _ lt_BarcodeWand_Row) (ht _ li_BarcodeWand_Row) hK hP hD hS hA rfl (fun j hj => by rcases (show j = 0 ∨ j = 1 by omega) with rfl | rfl <;> rfl) (Nat.le_of_ble_eq_true rfl) (Nat.le_of_ble_eq_true rfl) dX2_init_5 (fun q_1 H hP hD hS => ?_)
  have hP : va_P D vwCl [(h, .inr (2, [.null, .null])), (q_1, .inr (4, [.null, .int 0]))] H := hP
  have hD : va_D A [(h, .inr (2, [.null, .null])), (q_1, .inr (4, [.null, .int 0]))] := hD
  refine W.widen (k := 1) (n := 2) (Nat.le_of_ble_eq_true rfl) (Nat.le_of_ble_eq_true rfl) ?_
  refine lv_dup hx hb dX2_init_8 rfl ?_
  refine lv_bipush (v := 9) hx hb dX2_init_9 (by decide) ?_
  have ct := k_cut_of (wc := [(q_1, .inr (4, [.null, .int 0]))]) (wr := [(h, .inr (2, [.null, .null]))]) (tc := []) hG hS hA hK hP hD [1] [0] [] rfl rfl (by decide) (by decide) (by decide) rfl
  refine k_endv (As := [.ref q_1, .int 9]) ct (k_runI (As := [.int 9]) (rest := [.ref q_1, .ref h]) S0 Li_X2_11 ct (c_Row_init_9 l D q_1 H.size) hl.1 rfl (Nat.le_of_ble_eq_true rfl) rfl dX2_init_11 ⟨⟨Nat.le_of_ble_eq_true rfl, Nat.le_of_ble_eq_true rfl⟩, Nat.le_of_ble_eq_true rfl, Nat.le_of_ble_eq_true rfl⟩) rfl rfl (fun _ u H locs hw_5 hP hD hK hS => ?_)
  obtain ⟨a_3, K_4⟩ := u
  have hK : va_K D vwCl [(K_4, .int)] s := hK
  have hP : va_P D vwCl [(h, .inr (2, [.null, .null])), (q_1, .inr (4, [.ref a_3, .int 0])), (a_3, .inl (K_4, 9, .inl (fun _ => 0)))] H := hP
  have hD : va_D A [(h, .inr (2, [.null, .null])), (q_1, .inr (4, [.ref a_3, .int 0])), (a_3, .inl (K_4, 9, .inl (fun _ => 0)))] := hD
  refine va_putF (D := D) (ci := 2) (v := .ref q_1) (ty := tyX2 0) (C := RX2) (T := TX2) (N := 2) hx hb ht inA_X2 tyX2 tyX2_ok nmX2 hown hK hP hD hS 0 rfl rfl 0 (by decide) (ht _ lf_X2_14) (fun _ h9 => h9) rfl hin rfl (tyX2_ok 0 (by decide)) rfl rfl (Nat.le_of_ble_eq_true rfl) dX2_init_14 (fun H locs hP hD hS => ?_)
  have hP : va_P D vwCl [(h, .inr (2, [.ref q_1, .null])), (q_1, .inr (4, [.ref a_3, .int 0])), (a_3, .inl (K_4, 9, .inl (fun _ => 0)))] H := hP
  have hD : va_D A [(h, .inr (2, [.ref q_1, .null])), (q_1, .inr (4, [.ref a_3, .int 0])), (a_3, .inl (K_4, 9, .inl (fun _ => 0)))] := hD
  refine lv_aload_n hx hb dX2_init_17 rfl (lv_at hl 0 rfl) ?_
  refine va_new (ci := 4) (fs := [.null, .int 0]) (C := RX4) (T := TX4) (N := 2) hx hb ht inA_X4 tyX4 tyX4_ok hown (ht _ lc_X2_9) (ht _ lt_BarcodeWand_Row) (ht _ li_BarcodeWand_Row) hK hP hD hS hA rfl (fun j hj => by rcases (show j = 0 ∨ j = 1 by omega) with rfl | rfl <;> rfl) (Nat.le_of_ble_eq_true rfl) (Nat.le_of_ble_eq_true rfl) dX2_init_18 (fun q_6 H hP hD hS => ?_)
  have hP : va_P D vwCl [(h, .inr (2, [.ref q_1, .null])), (q_1, .inr (4, [.ref a_3, .int 0])), (a_3, .inl (K_4, 9, .inl (fun _ => 0))), (q_6, .inr (4, [.null, .int 0]))] H := hP
  have hD : va_D A [(h, .inr (2, [.ref q_1, .null])), (q_1, .inr (4, [.ref a_3, .int 0])), (a_3, .inl (K_4, 9, .inl (fun _ => 0))), (q_6, .inr (4, [.null, .int 0]))] := hD
  refine W.widen (k := 3) (n := 13) (Nat.le_of_ble_eq_true rfl) (Nat.le_of_ble_eq_true rfl) ?_
  refine lv_dup hx hb dX2_init_21 rfl ?_
  refine lv_bipush (v := 41) hx hb dX2_init_22 (by decide) ?_
  have ct := k_cut_of (wc := [(q_6, .inr (4, [.null, .int 0]))]) (wr := [(h, .inr (2, [.ref q_1, .null])), (q_1, .inr (4, [.ref a_3, .int 0])), (a_3, .inl (K_4, 9, .inl (fun _ => 0)))]) (tc := []) hG hS hA hK hP hD [3] [0, 1, 2] [] rfl rfl (by decide) (by decide) (by decide) rfl
  refine k_endv (As := [.ref q_6, .int 41]) ct (k_runI (As := [.int 41]) (rest := [.ref q_6, .ref h]) S0 Li_X2_11 ct (c_Row_init_41 l D q_6 H.size) hl.1 rfl (Nat.le_of_ble_eq_true rfl) rfl dX2_init_24 ⟨⟨Nat.le_of_ble_eq_true rfl, Nat.le_of_ble_eq_true rfl⟩, Nat.le_of_ble_eq_true rfl, Nat.le_of_ble_eq_true rfl⟩) rfl rfl (fun _ u H locs hw_10 hP hD hK hS => ?_)
  obtain ⟨a_8, K_9⟩ := u
  have hK : va_K D vwCl [(K_4, .int), (K_9, .int)] s := hK
  have hP : va_P D vwCl [(h, .inr (2, [.ref q_1, .null])), (q_1, .inr (4, [.ref a_3, .int 0])), (a_3, .inl (K_4, 9, .inl (fun _ => 0))), (q_6, .inr (4, [.ref a_8, .int 0])), (a_8, .inl (K_9, 41, .inl (fun _ => 0)))] H := hP
  have hD : va_D A [(h, .inr (2, [.ref q_1, .null])), (q_1, .inr (4, [.ref a_3, .int 0])), (a_3, .inl (K_4, 9, .inl (fun _ => 0))), (q_6, .inr (4, [.ref a_8, .int 0])), (a_8, .inl (K_9, 41, .inl (fun _ => 0)))] := hD
  obtain rfl : K_4 = K_9 := k_one hK (i := 0) (j := 1) rfl rfl
  have hK : va_K D vwCl [(K_4, .int)] s := hK.sub [0] rfl
  refine va_putF (D := D) (ci := 2) (v := .ref q_6) (ty := tyX2 1) (C := RX2) (T := TX2) (N := 2) hx hb ht inA_X2 tyX2 tyX2_ok nmX2 hown hK hP hD hS 0 rfl rfl 1 (by decide) (ht _ lf_X2_20) (fun _ h9 => h9) rfl hin rfl (tyX2_ok 1 (by decide)) rfl rfl (Nat.le_of_ble_eq_true rfl) dX2_init_27 (fun H locs hP hD hS => ?_)
  have hP : va_P D vwCl [(h, .inr (2, [.ref q_1, .ref q_6])), (q_1, .inr (4, [.ref a_3, .int 0])), (a_3, .inl (K_4, 9, .inl (fun _ => 0))), (q_6, .inr (4, [.ref a_8, .int 0])), (a_8, .inl (K_4, 41, .inl (fun _ => 0)))] H := hP
  have hD : va_D A [(h, .inr (2, [.ref q_1, .ref q_6])), (q_1, .inr (4, [.ref a_3, .int 0])), (a_3, .inl (K_4, 9, .inl (fun _ => 0))), (q_6, .inr (4, [.ref a_8, .int 0])), (a_8, .inl (K_4, 41, .inl (fun _ => 0)))] := hD
  have hP9 : va_P D vwCl [(h, .inr (2, [.ref q_1, .ref q_6])), (q_1, .inr (4, [.ref a_3, .int 0])), (a_3, .inl (K_4, 9, .inl (fun _ => 0))), (q_6, .inr (4, [.ref a_8, .int 0])), (a_8, .inl (K_4, 41, .inl (fun _ => 0)))] H := hP.sub [0, 1, 2, 3, 4] rfl
  have hD9 : va_D A [(h, .inr (2, [.ref q_1, .ref q_6])), (q_1, .inr (4, [.ref a_3, .int 0])), (a_3, .inl (K_4, 9, .inl (fun _ => 0))), (q_6, .inr (4, [.ref a_8, .int 0])), (a_8, .inl (K_4, 41, .inl (fun _ => 0)))] := hD.sub [0, 1, 2, 3, 4] (by decide) rfl
  have hK9 : va_K D vwCl [(K_4, .int)] s := hK.sub [0] rfl
  exact W.vret hx hb hr (fun t ht9 hW9 => ⟨⟨(q_1, a_3, q_6, a_8, K_4), rfl, by first | rfl | trivial | (simp only [if_true, if_false, reduceIte, and_self]; done) | simp_all, ⟨by rw [ht9]; exact hP9, va_K.moved hW9.alike hK9, hD9⟩⟩, hS.F ht9⟩) hS.2.2 dX2_init_30
set_option maxHeartbeats 4000000 in
set_option maxRecDepth 100000 in
theorem c_CodeList_init (l : Launch) (D : va_G) (h : Nat) (sz : Nat) : k_Mv (S := Nat × Nat × Nat × Nat × Nat × Nat × ClassId) l D yX0_init cX0_init 1 none 2 6 36 35 [.ref h] [(h, .inr (0, [.null, .null, .null]))] [] (fun (u : Nat × Nat × Nat × Nat × Nat × Nat × ClassId) => match u with | (ln, lnA, ll, llA, lc, lcA, K) => True) (fun u => match u with | (ln, lnA, ll, llA, lc, lcA, K) => [(h, .inr (0, [.ref ln, .ref ll, .ref lc])), (ln, .inr (4, [.ref lnA, .int 0])), (lnA, .inl (K, 10, .inl (fun _ => 0))), (ll, .inr (4, [.ref llA, .int 0])), (llA, .inl (K, 10, .inl (fun _ => 0))), (lc, .inr (4, [.ref lcA, .int 0])), (lcA, .inl (K, 10, .inl (fun _ => 0)))]) (fun u => match u with | (ln, lnA, ll, llA, lc, lcA, K) => [(K, .int)]) sz := by
  refine Met.ofW (cc := cX0_init) (maxL := 1) (ret := none) (by decide) rfl ?_
  intro p e s m args below meth c s₁ B hml hv
  obtain ⟨rfl, hsz, hP, hK, hD0, hG⟩ := hv
  have hx := B.exec
  have hb := B.bytes
  have hr := B.returns
  have ht : ∀ v9 ∈ wsA, v9.before ([.ref h] : List Value).toArray s = true := fun v9 h9 => atoms_spec (ws := k_ws yX0_init cX0_init 1 none) B.pre v9 (List.mem_cons_of_mem _ h9)
  have hown : s.vm.findClass RX0 = some m.cls := findClass_of_methodNamed B.named
  have S0 : k_C p s m ([.ref h] : List Value).toArray c cX0_init 1 RX0 := ⟨hx, hb, hml, hown, ht⟩
  have hlocks := B.notSynchronized
  have hin : meth.name = "<init>" := (name_of_methodNamed B.named B.method).1
  subst hsz
  have hD := hD0.self (sz := s.heap.size)
  generalize hAe : va_A [(h, .inr (0, [.null, .null, .null]))] s.heap.size = A at hD hG ⊢
  have hA : ∀ q : Nat, s.heap.size ≤ q → A q := fun q h => by rw [← hAe]; exact Or.inr h
  have hS : va_S A s.heap s.heap [] := va_S.rf
  have hl := lv_entry ([.ref h]) (n := 1) (Nat.le_of_ble_eq_true rfl)
  rw [lg_entry_eq]
  generalize (lg_sl ([.ref h]) ++ List.replicate (1 - (lg_sl ([.ref h])).length) Slot.unset).toArray = ls at hl ⊢
  have hl : lv_has ls 1 [(0, .ref h)] := hl
  have hP : va_P D vwCl [(h, .inr (0, [.null, .null, .null]))] s.heap := hP
  refine lv_aload_n hx hb dX0_init_0 rfl (lv_at hl 0 rfl) ?_
  refine W.objInit hx hb hown (ht _ lo_X0_3) (ht _ lo_inst) (ht _ lo_code) rfl (by rw [hml]; exact hl.1) rfl dX0_init_1 (Nat.le_of_ble_eq_true rfl) (Nat.le_of_ble_eq_true rfl) ?_
  refine W.eq (g2 := F0 m 4 ls []) rfl ?_
  refine lv_aload_n hx hb dX0_init_4 rfl (lv_at hl 0 rfl) ?_
  refine va_new (ci := 4) (fs := [.null, .int 0]) (C := RX4) (T := TX4) (N := 2) hx hb ht inA_X4 tyX4 tyX4_ok hown (ht _ lc_X0_9) (ht _ lt_BarcodeWand_Row) (ht _ li_BarcodeWand_Row) hK hP hD hS hA rfl (fun j hj => by rcases (show j = 0 ∨ j = 1 by omega) with rfl | rfl <;> rfl) (Nat.le_of_ble_eq_true rfl) (Nat.le_of_ble_eq_true rfl) dX0_init_5 (fun q_1 H hP hD hS => ?_)
  have hP : va_P D vwCl [(h, .inr (0, [.null, .null, .null])), (q_1, .inr (4, [.null, .int 0]))] H := hP
  have hD : va_D A [(h, .inr (0, [.null, .null, .null])), (q_1, .inr (4, [.null, .int 0]))] := hD
  refine W.widen (k := 1) (n := 2) (Nat.le_of_ble_eq_true rfl) (Nat.le_of_ble_eq_true rfl) ?_
  refine lv_dup hx hb dX0_init_8 rfl ?_
  refine lv_bipush (v := 10) hx hb dX0_init_9 (by decide) ?_
  have ct := k_cut_of (wc := [(q_1, .inr (4, [.null, .int 0]))]) (wr := [(h, .inr (0, [.null, .null, .null]))]) (tc := []) hG hS hA hK hP hD [1] [0] [] rfl rfl (by decide) (by decide) (by decide) rfl
  refine k_endv (As := [.ref q_1, .int 10]) ct (k_runI (As := [.int 10]) (rest := [.ref q_1, .ref h]) S0 Li_X0_11 ct (c_Row_init_10 l D q_1 H.size) hl.1 rfl (Nat.le_of_ble_eq_true rfl) rfl dX0_init_11 ⟨⟨Nat.le_of_ble_eq_true rfl, Nat.le_of_ble_eq_true rfl⟩, Nat.le_of_ble_eq_true rfl, Nat.le_of_ble_eq_true rfl⟩) rfl rfl (fun _ u H locs hw_5 hP hD hK hS => ?_)
  obtain ⟨a_3, K_4⟩ := u
  have hK : va_K D vwCl [(K_4, .int)] s := hK
  have hP : va_P D vwCl [(h, .inr (0, [.null, .null, .null])), (q_1, .inr (4, [.ref a_3, .int 0])), (a_3, .inl (K_4, 10, .inl (fun _ => 0)))] H := hP
  have hD : va_D A [(h, .inr (0, [.null, .null, .null])), (q_1, .inr (4, [.ref a_3, .int 0])), (a_3, .inl (K_4, 10, .inl (fun _ => 0)))] := hD
  refine va_putF (D := D) (ci := 0) (v := .ref q_1) (ty := tyX0 0) (C := RX0) (T := TX0) (N := 3) hx hb ht inA_X0 tyX0 tyX0_ok nmX0 hown hK hP hD hS 0 rfl rfl 0 (by decide) (ht _ lf_X0_14) (fun _ h9 => h9) rfl hin rfl (tyX0_ok 0 (by decide)) rfl rfl (Nat.le_of_ble_eq_true rfl) dX0_init_14 (fun H locs hP hD hS => ?_)
  have hP : va_P D vwCl [(h, .inr (0, [.ref q_1, .null, .null])), (q_1, .inr (4, [.ref a_3, .int 0])), (a_3, .inl (K_4, 10, .inl (fun _ => 0)))] H := hP
  have hD : va_D A [(h, .inr (0, [.ref q_1, .null, .null])), (q_1, .inr (4, [.ref a_3, .int 0])), (a_3, .inl (K_4, 10, .inl (fun _ => 0)))] := hD
  refine lv_aload_n hx hb dX0_init_17 rfl (lv_at hl 0 rfl) ?_
  refine va_new (ci := 4) (fs := [.null, .int 0]) (C := RX4) (T := TX4) (N := 2) hx hb ht inA_X4 tyX4 tyX4_ok hown (ht _ lc_X0_9) (ht _ lt_BarcodeWand_Row) (ht _ li_BarcodeWand_Row) hK hP hD hS hA rfl (fun j hj => by rcases (show j = 0 ∨ j = 1 by omega) with rfl | rfl <;> rfl) (Nat.le_of_ble_eq_true rfl) (Nat.le_of_ble_eq_true rfl) dX0_init_18 (fun q_6 H hP hD hS => ?_)
  have hP : va_P D vwCl [(h, .inr (0, [.ref q_1, .null, .null])), (q_1, .inr (4, [.ref a_3, .int 0])), (a_3, .inl (K_4, 10, .inl (fun _ => 0))), (q_6, .inr (4, [.null, .int 0]))] H := hP
  have hD : va_D A [(h, .inr (0, [.ref q_1, .null, .null])), (q_1, .inr (4, [.ref a_3, .int 0])), (a_3, .inl (K_4, 10, .inl (fun _ => 0))), (q_6, .inr (4, [.null, .int 0]))] := hD
  refine W.widen (k := 3) (n := 14) (Nat.le_of_ble_eq_true rfl) (Nat.le_of_ble_eq_true rfl) ?_
  refine lv_dup hx hb dX0_init_21 rfl ?_
  refine lv_bipush (v := 10) hx hb dX0_init_22 (by decide) ?_
  have ct := k_cut_of (wc := [(q_6, .inr (4, [.null, .int 0]))]) (wr := [(h, .inr (0, [.ref q_1, .null, .null])), (q_1, .inr (4, [.ref a_3, .int 0])), (a_3, .inl (K_4, 10, .inl (fun _ => 0)))]) (tc := []) hG hS hA hK hP hD [3] [0, 1, 2] [] rfl rfl (by decide) (by decide) (by decide) rfl
  refine k_endv (As := [.ref q_6, .int 10]) ct (k_runI (As := [.int 10]) (rest := [.ref q_6, .ref h]) S0 Li_X0_11 ct (c_Row_init_10 l D q_6 H.size) hl.1 rfl (Nat.le_of_ble_eq_true rfl) rfl dX0_init_24 ⟨⟨Nat.le_of_ble_eq_true rfl, Nat.le_of_ble_eq_true rfl⟩, Nat.le_of_ble_eq_true rfl, Nat.le_of_ble_eq_true rfl⟩) rfl rfl (fun _ u H locs hw_10 hP hD hK hS => ?_)
  obtain ⟨a_8, K_9⟩ := u
  have hK : va_K D vwCl [(K_4, .int), (K_9, .int)] s := hK
  have hP : va_P D vwCl [(h, .inr (0, [.ref q_1, .null, .null])), (q_1, .inr (4, [.ref a_3, .int 0])), (a_3, .inl (K_4, 10, .inl (fun _ => 0))), (q_6, .inr (4, [.ref a_8, .int 0])), (a_8, .inl (K_9, 10, .inl (fun _ => 0)))] H := hP
  have hD : va_D A [(h, .inr (0, [.ref q_1, .null, .null])), (q_1, .inr (4, [.ref a_3, .int 0])), (a_3, .inl (K_4, 10, .inl (fun _ => 0))), (q_6, .inr (4, [.ref a_8, .int 0])), (a_8, .inl (K_9, 10, .inl (fun _ => 0)))] := hD
  obtain rfl : K_4 = K_9 := k_one hK (i := 0) (j := 1) rfl rfl
  have hK : va_K D vwCl [(K_4, .int)] s := hK.sub [0] rfl
  refine va_putF (D := D) (ci := 0) (v := .ref q_6) (ty := tyX0 1) (C := RX0) (T := TX0) (N := 3) hx hb ht inA_X0 tyX0 tyX0_ok nmX0 hown hK hP hD hS 0 rfl rfl 1 (by decide) (ht _ lf_X0_20) (fun _ h9 => h9) rfl hin rfl (tyX0_ok 1 (by decide)) rfl rfl (Nat.le_of_ble_eq_true rfl) dX0_init_27 (fun H locs hP hD hS => ?_)
  have hP : va_P D vwCl [(h, .inr (0, [.ref q_1, .ref q_6, .null])), (q_1, .inr (4, [.ref a_3, .int 0])), (a_3, .inl (K_4, 10, .inl (fun _ => 0))), (q_6, .inr (4, [.ref a_8, .int 0])), (a_8, .inl (K_4, 10, .inl (fun _ => 0)))] H := hP
  have hD : va_D A [(h, .inr (0, [.ref q_1, .ref q_6, .null])), (q_1, .inr (4, [.ref a_3, .int 0])), (a_3, .inl (K_4, 10, .inl (fun _ => 0))), (q_6, .inr (4, [.ref a_8, .int 0])), (a_8, .inl (K_4, 10, .inl (fun _ => 0)))] := hD
  refine lv_aload_n hx hb dX0_init_30 rfl (lv_at hl 0 rfl) ?_
  refine va_new (ci := 4) (fs := [.null, .int 0]) (C := RX4) (T := TX4) (N := 2) hx hb ht inA_X4 tyX4 tyX4_ok hown (ht _ lc_X0_9) (ht _ lt_BarcodeWand_Row) (ht _ li_BarcodeWand_Row) hK hP hD hS hA rfl (fun j hj => by rcases (show j = 0 ∨ j = 1 by omega) with rfl | rfl <;> rfl) (Nat.le_of_ble_eq_true rfl) (Nat.le_of_ble_eq_true rfl) dX0_init_31 (fun q_11 H hP hD hS => ?_)
  have hP : va_P D vwCl [(h, .inr (0, [.ref q_1, .ref q_6, .null])), (q_1, .inr (4, [.ref a_3, .int 0])), (a_3, .inl (K_4, 10, .inl (fun _ => 0))), (q_6, .inr (4, [.ref a_8, .int 0])), (a_8, .inl (K_4, 10, .inl (fun _ => 0))), (q_11, .inr (4, [.null, .int 0]))] H := hP
  have hD : va_D A [(h, .inr (0, [.ref q_1, .ref q_6, .null])), (q_1, .inr (4, [.ref a_3, .int 0])), (a_3, .inl (K_4, 10, .inl (fun _ => 0))), (q_6, .inr (4, [.ref a_8, .int 0])), (a_8, .inl (K_4, 10, .inl (fun _ => 0))), (q_11, .inr (4, [.null, .int 0]))] := hD
  refine W.widen (k := 5) (n := 26) (Nat.le_of_ble_eq_true rfl) (Nat.le_of_ble_eq_true rfl) ?_
  refine lv_dup hx hb dX0_init_34 rfl ?_
  refine lv_bipush (v := 10) hx hb dX0_init_35 (by decide) ?_
  have ct := k_cut_of (wc := [(q_11, .inr (4, [.null, .int 0]))]) (wr := [(h, .inr (0, [.ref q_1, .ref q_6, .null])), (q_1, .inr (4, [.ref a_3, .int 0])), (a_3, .inl (K_4, 10, .inl (fun _ => 0))), (q_6, .inr (4, [.ref a_8, .int 0])), (a_8, .inl (K_4, 10, .inl (fun _ => 0)))]) (tc := []) hG hS hA hK hP hD [5] [0, 1, 2, 3, 4] [] rfl rfl (by decide) (by decide) (by decide) rfl
  refine k_endv (As := [.ref q_11, .int 10]) ct (k_runI (As := [.int 10]) (rest := [.ref q_11, .ref h]) S0 Li_X0_11 ct (c_Row_init_10 l D q_11 H.size) hl.1 rfl (Nat.le_of_ble_eq_true rfl) rfl dX0_init_37 ⟨⟨Nat.le_of_ble_eq_true rfl, Nat.le_of_ble_eq_true rfl⟩, Nat.le_of_ble_eq_true rfl, Nat.le_of_ble_eq_true rfl⟩) rfl rfl (fun _ u H locs hw_15 hP hD hK hS => ?_)
  obtain ⟨a_13, K_14⟩ := u
  have hK : va_K D vwCl [(K_4, .int), (K_14, .int)] s := hK
  have hP : va_P D vwCl [(h, .inr (0, [.ref q_1, .ref q_6, .null])), (q_1, .inr (4, [.ref a_3, .int 0])), (a_3, .inl (K_4, 10, .inl (fun _ => 0))), (q_6, .inr (4, [.ref a_8, .int 0])), (a_8, .inl (K_4, 10, .inl (fun _ => 0))), (q_11, .inr (4, [.ref a_13, .int 0])), (a_13, .inl (K_14, 10, .inl (fun _ => 0)))] H := hP
  have hD : va_D A [(h, .inr (0, [.ref q_1, .ref q_6, .null])), (q_1, .inr (4, [.ref a_3, .int 0])), (a_3, .inl (K_4, 10, .inl (fun _ => 0))), (q_6, .inr (4, [.ref a_8, .int 0])), (a_8, .inl (K_4, 10, .inl (fun _ => 0))), (q_11, .inr (4, [.ref a_13, .int 0])), (a_13, .inl (K_14, 10, .inl (fun _ => 0)))] := hD
  obtain rfl : K_4 = K_14 := k_one hK (i := 0) (j := 1) rfl rfl
  have hK : va_K D vwCl [(K_4, .int)] s := hK.sub [0] rfl
  refine va_putF (D := D) (ci := 0) (v := .ref q_11) (ty := tyX0 2) (C := RX0) (T := TX0) (N := 3) hx hb ht inA_X0 tyX0 tyX0_ok nmX0 hown hK hP hD hS 0 rfl rfl 2 (by decide) (ht _ lf_X0_23) (fun _ h9 => h9) rfl hin rfl (tyX0_ok 2 (by decide)) rfl rfl (Nat.le_of_ble_eq_true rfl) dX0_init_40 (fun H locs hP hD hS => ?_)
  have hP : va_P D vwCl [(h, .inr (0, [.ref q_1, .ref q_6, .ref q_11])), (q_1, .inr (4, [.ref a_3, .int 0])), (a_3, .inl (K_4, 10, .inl (fun _ => 0))), (q_6, .inr (4, [.ref a_8, .int 0])), (a_8, .inl (K_4, 10, .inl (fun _ => 0))), (q_11, .inr (4, [.ref a_13, .int 0])), (a_13, .inl (K_4, 10, .inl (fun _ => 0)))] H := hP
  have hD : va_D A [(h, .inr (0, [.ref q_1, .ref q_6, .ref q_11])), (q_1, .inr (4, [.ref a_3, .int 0])), (a_3, .inl (K_4, 10, .inl (fun _ => 0))), (q_6, .inr (4, [.ref a_8, .int 0])), (a_8, .inl (K_4, 10, .inl (fun _ => 0))), (q_11, .inr (4, [.ref a_13, .int 0])), (a_13, .inl (K_4, 10, .inl (fun _ => 0)))] := hD
  have hP9 : va_P D vwCl [(h, .inr (0, [.ref q_1, .ref q_6, .ref q_11])), (q_1, .inr (4, [.ref a_3, .int 0])), (a_3, .inl (K_4, 10, .inl (fun _ => 0))), (q_6, .inr (4, [.ref a_8, .int 0])), (a_8, .inl (K_4, 10, .inl (fun _ => 0))), (q_11, .inr (4, [.ref a_13, .int 0])), (a_13, .inl (K_4, 10, .inl (fun _ => 0)))] H := hP.sub [0, 1, 2, 3, 4, 5, 6] rfl
  have hD9 : va_D A [(h, .inr (0, [.ref q_1, .ref q_6, .ref q_11])), (q_1, .inr (4, [.ref a_3, .int 0])), (a_3, .inl (K_4, 10, .inl (fun _ => 0))), (q_6, .inr (4, [.ref a_8, .int 0])), (a_8, .inl (K_4, 10, .inl (fun _ => 0))), (q_11, .inr (4, [.ref a_13, .int 0])), (a_13, .inl (K_4, 10, .inl (fun _ => 0)))] := hD.sub [0, 1, 2, 3, 4, 5, 6] (by decide) rfl
  have hK9 : va_K D vwCl [(K_4, .int)] s := hK.sub [0] rfl
  exact W.vret hx hb hr (fun t ht9 hW9 => ⟨⟨(q_1, a_3, q_6, a_8, q_11, a_13, K_4), rfl, by first | rfl | trivial | (simp only [if_true, if_false, reduceIte, and_self]; done) | simp_all, ⟨by rw [ht9]; exact hP9, va_K.moved hW9.alike hK9, hD9⟩⟩, hS.F ht9⟩) hS.2.2 dX0_init_43
set_option maxHeartbeats 4000000 in
set_option maxRecDepth 100000 in
theorem c_State_init (l : Launch) (D : va_G) (st : Nat) (sz : Nat) : k_Mv (S := Nat × Nat × Nat × Nat × Nat × Nat × Nat × Nat × Nat × Nat × Nat × Nat × Nat × Nat × ClassId) l D yX6_init cX6_init 1 none 3 14 138 55 [.ref st] [(st, .inr (6, [.null, .null, .null, .int 0, .int 0, .int 0]))] [] (fun (u : Nat × Nat × Nat × Nat × Nat × Nat × Nat × Nat × Nat × Nat × Nat × Nat × Nat × Nat × ClassId) => match u with | (la, ld, ldA, lz, lzA, me, meA, li, ln, lnA, ll, llA, lc, lcA, K) => True) (fun u => match u with | (la, ld, ldA, lz, lzA, me, meA, li, ln, lnA, ll, llA, lc, lcA, K) => [(st, .inr (6, [.ref la, .ref me, .ref li, .int 4, .int 0, .int 0])), (la, .inr (2, [.ref ld, .ref lz])), (ld, .inr (4, [.ref ldA, .int 0])), (ldA, .inl (K, 9, .inl (fun _ => 0))), (lz, .inr (4, [.ref lzA, .int 0])), (lzA, .inl (K, 41, .inl (fun _ => 0))), (me, .inr (4, [.ref meA, .int 0])), (meA, .inl (K, 41, .inl (fun _ => 0))), (li, .inr (0, [.ref ln, .ref ll, .ref lc])), (ln, .inr (4, [.ref lnA, .int 0])), (lnA, .inl (K, 10, .inl (fun _ => 0))), (ll, .inr (4, [.ref llA, .int 0])), (llA, .inl (K, 10, .inl (fun _ => 0))), (lc, .inr (4, [.ref lcA, .int 0])), (lcA, .inl (K, 10, .inl (fun _ => 0)))]) (fun u => match u with | (la, ld, ldA, lz, lzA, me, meA, li, ln, lnA, ll, llA, lc, lcA, K) => [(K, .int)]) sz := by
  refine Met.ofW (cc := cX6_init) (maxL := 1) (ret := none) (by decide) rfl ?_
  intro p e s m args below meth c s₁ B hml hv
  obtain ⟨rfl, hsz, hP, hK, hD0, hG⟩ := hv
  have hx := B.exec
  have hb := B.bytes
  have hr := B.returns
  have ht : ∀ v9 ∈ wsA, v9.before ([.ref st] : List Value).toArray s = true := fun v9 h9 => atoms_spec (ws := k_ws yX6_init cX6_init 1 none) B.pre v9 (List.mem_cons_of_mem _ h9)
  have hown : s.vm.findClass RX6 = some m.cls := findClass_of_methodNamed B.named
  have S0 : k_C p s m ([.ref st] : List Value).toArray c cX6_init 1 RX6 := ⟨hx, hb, hml, hown, ht⟩
  have hlocks := B.notSynchronized
  have hin : meth.name = "<init>" := (name_of_methodNamed B.named B.method).1
  subst hsz
  have hD := hD0.self (sz := s.heap.size)
  generalize hAe : va_A [(st, .inr (6, [.null, .null, .null, .int 0, .int 0, .int 0]))] s.heap.size = A at hD hG ⊢
  have hA : ∀ q : Nat, s.heap.size ≤ q → A q := fun q h => by rw [← hAe]; exact Or.inr h
  have hS : va_S A s.heap s.heap [] := va_S.rf
  have hl := lv_entry ([.ref st]) (n := 1) (Nat.le_of_ble_eq_true rfl)
  rw [lg_entry_eq]
  generalize (lg_sl ([.ref st]) ++ List.replicate (1 - (lg_sl ([.ref st])).length) Slot.unset).toArray = ls at hl ⊢
  have hl : lv_has ls 1 [(0, .ref st)] := hl
  have hP : va_P D vwCl [(st, .inr (6, [.null, .null, .null, .int 0, .int 0, .int 0]))] s.heap := hP
  refine lv_aload_n hx hb dX6_init_0 rfl (lv_at hl 0 rfl) ?_
  refine W.objInit hx hb hown (ht _ lo_X6_3) (ht _ lo_inst) (ht _ lo_code) rfl (by rw [hml]; exact hl.1) rfl dX6_init_1 (Nat.le_of_ble_eq_true rfl) (Nat.le_of_ble_eq_true rfl) ?_
  refine W.eq (g2 := F0 m 4 ls []) rfl ?_
  refine lv_aload_n hx hb dX6_init_4 rfl (lv_at hl 0 rfl) ?_
  refine va_new (ci := 2) (fs := [.null, .null]) (C := RX2) (T := TX2) (N := 2) hx hb ht inA_X2 tyX2 tyX2_ok hown (ht _ lc_X6_9) (ht _ lt_BarcodeWand_Label) (ht _ li_BarcodeWand_Label) hK hP hD hS hA rfl (fun j hj => by rcases (show j = 0 ∨ j = 1 by omega) with rfl | rfl <;> rfl) (Nat.le_of_ble_eq_true rfl) (Nat.le_of_ble_eq_true rfl) dX6_init_5 (fun q_1 H hP hD hS => ?_)
  have hP : va_P D vwCl [(st, .inr (6, [.null, .null, .null, .int 0, .int 0, .int 0])), (q_1, .inr (2, [.null, .null]))] H := hP
  have hD : va_D A [(st, .inr (6, [.null, .null, .null, .int 0, .int 0, .int 0])), (q_1, .inr (2, [.null, .null]))] := hD
  refine W.widen (k := 1) (n := 2) (Nat.le_of_ble_eq_true rfl) (Nat.le_of_ble_eq_true rfl) ?_
  refine lv_dup hx hb dX6_init_8 rfl ?_
  have ct := k_cut_of (wc := [(q_1, .inr (2, [.null, .null]))]) (wr := [(st, .inr (6, [.null, .null, .null, .int 0, .int 0, .int 0]))]) (tc := []) hG hS hA hK hP hD [1] [0] [] rfl rfl (by decide) (by decide) (by decide) rfl
  refine k_endv (As := [.ref q_1]) ct (k_runIN (As := []) (rest := [.ref q_1, .ref st]) S0 Li_X6_11 ct (c_Label_init l D q_1 H.size) hl.1 rfl (Nat.le_of_ble_eq_true rfl) rfl dX6_init_9 ⟨⟨Nat.le_of_ble_eq_true rfl, Nat.le_of_ble_eq_true rfl⟩, Nat.le_of_ble_eq_true rfl, Nat.le_of_ble_eq_true rfl⟩) rfl rfl (fun _ u H locs hw_8 hP hD hK hS => ?_)
  obtain ⟨ld_3, ldA_4, lz_5, lzA_6, K_7⟩ := u
  have hK : va_K D vwCl [(K_7, .int)] s := hK
  have hP : va_P D vwCl [(st, .inr (6, [.null, .null, .null, .int 0, .int 0, .int 0])), (q_1, .inr (2, [.ref ld_3, .ref lz_5])), (ld_3, .inr (4, [.ref ldA_4, .int 0])), (ldA_4, .inl (K_7, 9, .inl (fun _ => 0))), (lz_5, .inr (4, [.ref lzA_6, .int 0])), (lzA_6, .inl (K_7, 41, .inl (fun _ => 0)))] H := hP
  have hD : va_D A [(st, .inr (6, [.null, .null, .null, .int 0, .int 0, .int 0])), (q_1, .inr (2, [.ref ld_3, .ref lz_5])), (ld_3, .inr (4, [.ref ldA_4, .int 0])), (ldA_4, .inl (K_7, 9, .inl (fun _ => 0))), (lz_5, .inr (4, [.ref lzA_6, .int 0])), (lzA_6, .inl (K_7, 41, .inl (fun _ => 0)))] := hD
  refine va_putF (D := D) (ci := 6) (v := .ref q_1) (ty := tyX6 0) (C := RX6) (T := TX6) (N := 6) hx hb ht inA_X6 tyX6 tyX6_ok nmX6 hown hK hP hD hS 0 rfl rfl 0 (by decide) (ht _ lf_X6_12) (fun _ h9 => h9) rfl hin rfl (tyX6_ok 0 (by decide)) rfl rfl (Nat.le_of_ble_eq_true rfl) dX6_init_12 (fun H locs hP hD hS => ?_)
  have hP : va_P D vwCl [(st, .inr (6, [.ref q_1, .null, .null, .int 0, .int 0, .int 0])), (q_1, .inr (2, [.ref ld_3, .ref lz_5])), (ld_3, .inr (4, [.ref ldA_4, .int 0])), (ldA_4, .inl (K_7, 9, .inl (fun _ => 0))), (lz_5, .inr (4, [.ref lzA_6, .int 0])), (lzA_6, .inl (K_7, 41, .inl (fun _ => 0)))] H := hP
  have hD : va_D A [(st, .inr (6, [.ref q_1, .null, .null, .int 0, .int 0, .int 0])), (q_1, .inr (2, [.ref ld_3, .ref lz_5])), (ld_3, .inr (4, [.ref ldA_4, .int 0])), (ldA_4, .inl (K_7, 9, .inl (fun _ => 0))), (lz_5, .inr (4, [.ref lzA_6, .int 0])), (lzA_6, .inl (K_7, 41, .inl (fun _ => 0)))] := hD
  refine lv_aload_n hx hb dX6_init_15 rfl (lv_at hl 0 rfl) ?_
  refine va_new (ci := 4) (fs := [.null, .int 0]) (C := RX4) (T := TX4) (N := 2) hx hb ht inA_X4 tyX4 tyX4_ok hown (ht _ lc_X6_18) (ht _ lt_BarcodeWand_Row) (ht _ li_BarcodeWand_Row) hK hP hD hS hA rfl (fun j hj => by rcases (show j = 0 ∨ j = 1 by omega) with rfl | rfl <;> rfl) (Nat.le_of_ble_eq_true rfl) (Nat.le_of_ble_eq_true rfl) dX6_init_16 (fun q_9 H hP hD hS => ?_)
  have hP : va_P D vwCl [(st, .inr (6, [.ref q_1, .null, .null, .int 0, .int 0, .int 0])), (q_1, .inr (2, [.ref ld_3, .ref lz_5])), (ld_3, .inr (4, [.ref ldA_4, .int 0])), (ldA_4, .inl (K_7, 9, .inl (fun _ => 0))), (lz_5, .inr (4, [.ref lzA_6, .int 0])), (lzA_6, .inl (K_7, 41, .inl (fun _ => 0))), (q_9, .inr (4, [.null, .int 0]))] H := hP
  have hD : va_D A [(st, .inr (6, [.ref q_1, .null, .null, .int 0, .int 0, .int 0])), (q_1, .inr (2, [.ref ld_3, .ref lz_5])), (ld_3, .inr (4, [.ref ldA_4, .int 0])), (ldA_4, .inl (K_7, 9, .inl (fun _ => 0))), (lz_5, .inr (4, [.ref lzA_6, .int 0])), (lzA_6, .inl (K_7, 41, .inl (fun _ => 0))), (q_9, .inr (4, [.null, .int 0]))] := hD
  refine W.widen (k := 6) (n := 58) (Nat.le_of_ble_eq_true rfl) (Nat.le_of_ble_eq_true rfl) ?_
  refine lv_dup hx hb dX6_init_19 rfl ?_
  refine lv_bipush (v := 41) hx hb dX6_init_20 (by decide) ?_
  have ct := k_cut_of (wc := [(q_9, .inr (4, [.null, .int 0]))]) (wr := [(st, .inr (6, [.ref q_1, .null, .null, .int 0, .int 0, .int 0])), (q_1, .inr (2, [.ref ld_3, .ref lz_5])), (ld_3, .inr (4, [.ref ldA_4, .int 0])), (ldA_4, .inl (K_7, 9, .inl (fun _ => 0))), (lz_5, .inr (4, [.ref lzA_6, .int 0])), (lzA_6, .inl (K_7, 41, .inl (fun _ => 0)))]) (tc := []) hG hS hA hK hP hD [6] [0, 1, 2, 3, 4, 5] [] rfl rfl (by decide) (by decide) (by decide) rfl
  refine k_endv (As := [.ref q_9, .int 41]) ct (k_runI (As := [.int 41]) (rest := [.ref q_9, .ref st]) S0 Li_X6_20 ct (c_Row_init_41 l D q_9 H.size) hl.1 rfl (Nat.le_of_ble_eq_true rfl) rfl dX6_init_22 ⟨⟨Nat.le_of_ble_eq_true rfl, Nat.le_of_ble_eq_true rfl⟩, Nat.le_of_ble_eq_true rfl, Nat.le_of_ble_eq_true rfl⟩) rfl rfl (fun _ u H locs hw_13 hP hD hK hS => ?_)
  obtain ⟨a_11, K_12⟩ := u
  have hK : va_K D vwCl [(K_7, .int), (K_12, .int)] s := hK
  have hP : va_P D vwCl [(st, .inr (6, [.ref q_1, .null, .null, .int 0, .int 0, .int 0])), (q_1, .inr (2, [.ref ld_3, .ref lz_5])), (ld_3, .inr (4, [.ref ldA_4, .int 0])), (ldA_4, .inl (K_7, 9, .inl (fun _ => 0))), (lz_5, .inr (4, [.ref lzA_6, .int 0])), (lzA_6, .inl (K_7, 41, .inl (fun _ => 0))), (q_9, .inr (4, [.ref a_11, .int 0])), (a_11, .inl (K_12, 41, .inl (fun _ => 0)))] H := hP
  have hD : va_D A [(st, .inr (6, [.ref q_1, .null, .null, .int 0, .int 0, .int 0])), (q_1, .inr (2, [.ref ld_3, .ref lz_5])), (ld_3, .inr (4, [.ref ldA_4, .int 0])), (ldA_4, .inl (K_7, 9, .inl (fun _ => 0))), (lz_5, .inr (4, [.ref lzA_6, .int 0])), (lzA_6, .inl (K_7, 41, .inl (fun _ => 0))), (q_9, .inr (4, [.ref a_11, .int 0])), (a_11, .inl (K_12, 41, .inl (fun _ => 0)))] := hD
  obtain rfl : K_7 = K_12 := k_one hK (i := 0) (j := 1) rfl rfl
  have hK : va_K D vwCl [(K_7, .int)] s := hK.sub [0] rfl
  refine va_putF (D := D) (ci := 6) (v := .ref q_9) (ty := tyX6 1) (C := RX6) (T := TX6) (N := 6) hx hb ht inA_X6 tyX6 tyX6_ok nmX6 hown hK hP hD hS 0 rfl rfl 1 (by decide) (ht _ lf_X6_23) (fun _ h9 => h9) rfl hin rfl (tyX6_ok 1 (by decide)) rfl rfl (Nat.le_of_ble_eq_true rfl) dX6_init_25 (fun H locs hP hD hS => ?_)
  have hP : va_P D vwCl [(st, .inr (6, [.ref q_1, .ref q_9, .null, .int 0, .int 0, .int 0])), (q_1, .inr (2, [.ref ld_3, .ref lz_5])), (ld_3, .inr (4, [.ref ldA_4, .int 0])), (ldA_4, .inl (K_7, 9, .inl (fun _ => 0))), (lz_5, .inr (4, [.ref lzA_6, .int 0])), (lzA_6, .inl (K_7, 41, .inl (fun _ => 0))), (q_9, .inr (4, [.ref a_11, .int 0])), (a_11, .inl (K_7, 41, .inl (fun _ => 0)))] H := hP
  have hD : va_D A [(st, .inr (6, [.ref q_1, .ref q_9, .null, .int 0, .int 0, .int 0])), (q_1, .inr (2, [.ref ld_3, .ref lz_5])), (ld_3, .inr (4, [.ref ldA_4, .int 0])), (ldA_4, .inl (K_7, 9, .inl (fun _ => 0))), (lz_5, .inr (4, [.ref lzA_6, .int 0])), (lzA_6, .inl (K_7, 41, .inl (fun _ => 0))), (q_9, .inr (4, [.ref a_11, .int 0])), (a_11, .inl (K_7, 41, .inl (fun _ => 0)))] := hD
  refine lv_aload_n hx hb dX6_init_28 rfl (lv_at hl 0 rfl) ?_
  refine va_new (ci := 0) (fs := [.null, .null, .null]) (C := RX0) (T := TX0) (N := 3) hx hb ht inA_X0 tyX0 tyX0_ok hown (ht _ lc_X6_27) (ht _ lt_BarcodeWand_CodeList) (ht _ li_BarcodeWand_CodeList) hK hP hD hS hA rfl (fun j hj => by rcases (show j = 0 ∨ j = 1 ∨ j = 2 by omega) with rfl | rfl | rfl <;> rfl) (Nat.le_of_ble_eq_true rfl) (Nat.le_of_ble_eq_true rfl) dX6_init_29 (fun q_14 H hP hD hS => ?_)
  have hP : va_P D vwCl [(st, .inr (6, [.ref q_1, .ref q_9, .null, .int 0, .int 0, .int 0])), (q_1, .inr (2, [.ref ld_3, .ref lz_5])), (ld_3, .inr (4, [.ref ldA_4, .int 0])), (ldA_4, .inl (K_7, 9, .inl (fun _ => 0))), (lz_5, .inr (4, [.ref lzA_6, .int 0])), (lzA_6, .inl (K_7, 41, .inl (fun _ => 0))), (q_9, .inr (4, [.ref a_11, .int 0])), (a_11, .inl (K_7, 41, .inl (fun _ => 0))), (q_14, .inr (0, [.null, .null, .null]))] H := hP
  have hD : va_D A [(st, .inr (6, [.ref q_1, .ref q_9, .null, .int 0, .int 0, .int 0])), (q_1, .inr (2, [.ref ld_3, .ref lz_5])), (ld_3, .inr (4, [.ref ldA_4, .int 0])), (ldA_4, .inl (K_7, 9, .inl (fun _ => 0))), (lz_5, .inr (4, [.ref lzA_6, .int 0])), (lzA_6, .inl (K_7, 41, .inl (fun _ => 0))), (q_9, .inr (4, [.ref a_11, .int 0])), (a_11, .inl (K_7, 41, .inl (fun _ => 0))), (q_14, .inr (0, [.null, .null, .null]))] := hD
  refine W.widen (k := 8) (n := 102) (Nat.le_of_ble_eq_true rfl) (Nat.le_of_ble_eq_true rfl) ?_
  refine lv_dup hx hb dX6_init_32 rfl ?_
  have ct := k_cut_of (wc := [(q_14, .inr (0, [.null, .null, .null]))]) (wr := [(st, .inr (6, [.ref q_1, .ref q_9, .null, .int 0, .int 0, .int 0])), (q_1, .inr (2, [.ref ld_3, .ref lz_5])), (ld_3, .inr (4, [.ref ldA_4, .int 0])), (ldA_4, .inl (K_7, 9, .inl (fun _ => 0))), (lz_5, .inr (4, [.ref lzA_6, .int 0])), (lzA_6, .inl (K_7, 41, .inl (fun _ => 0))), (q_9, .inr (4, [.ref a_11, .int 0])), (a_11, .inl (K_7, 41, .inl (fun _ => 0)))]) (tc := []) hG hS hA hK hP hD [8] [0, 1, 2, 3, 4, 5, 6, 7] [] rfl rfl (by decide) (by decide) (by decide) rfl
  refine k_endv (As := [.ref q_14]) ct (k_runIN (As := []) (rest := [.ref q_14, .ref st]) S0 Li_X6_29 ct (c_CodeList_init l D q_14 H.size) hl.1 rfl (Nat.le_of_ble_eq_true rfl) rfl dX6_init_33 ⟨⟨Nat.le_of_ble_eq_true rfl, Nat.le_of_ble_eq_true rfl⟩, Nat.le_of_ble_eq_true rfl, Nat.le_of_ble_eq_true rfl⟩) rfl rfl (fun _ u H locs hw_23 hP hD hK hS => ?_)
  obtain ⟨ln_16, lnA_17, ll_18, llA_19, lc_20, lcA_21, K_22⟩ := u
  have hK : va_K D vwCl [(K_7, .int), (K_22, .int)] s := hK
  have hP : va_P D vwCl [(st, .inr (6, [.ref q_1, .ref q_9, .null, .int 0, .int 0, .int 0])), (q_1, .inr (2, [.ref ld_3, .ref lz_5])), (ld_3, .inr (4, [.ref ldA_4, .int 0])), (ldA_4, .inl (K_7, 9, .inl (fun _ => 0))), (lz_5, .inr (4, [.ref lzA_6, .int 0])), (lzA_6, .inl (K_7, 41, .inl (fun _ => 0))), (q_9, .inr (4, [.ref a_11, .int 0])), (a_11, .inl (K_7, 41, .inl (fun _ => 0))), (q_14, .inr (0, [.ref ln_16, .ref ll_18, .ref lc_20])), (ln_16, .inr (4, [.ref lnA_17, .int 0])), (lnA_17, .inl (K_22, 10, .inl (fun _ => 0))), (ll_18, .inr (4, [.ref llA_19, .int 0])), (llA_19, .inl (K_22, 10, .inl (fun _ => 0))), (lc_20, .inr (4, [.ref lcA_21, .int 0])), (lcA_21, .inl (K_22, 10, .inl (fun _ => 0)))] H := hP
  have hD : va_D A [(st, .inr (6, [.ref q_1, .ref q_9, .null, .int 0, .int 0, .int 0])), (q_1, .inr (2, [.ref ld_3, .ref lz_5])), (ld_3, .inr (4, [.ref ldA_4, .int 0])), (ldA_4, .inl (K_7, 9, .inl (fun _ => 0))), (lz_5, .inr (4, [.ref lzA_6, .int 0])), (lzA_6, .inl (K_7, 41, .inl (fun _ => 0))), (q_9, .inr (4, [.ref a_11, .int 0])), (a_11, .inl (K_7, 41, .inl (fun _ => 0))), (q_14, .inr (0, [.ref ln_16, .ref ll_18, .ref lc_20])), (ln_16, .inr (4, [.ref lnA_17, .int 0])), (lnA_17, .inl (K_22, 10, .inl (fun _ => 0))), (ll_18, .inr (4, [.ref llA_19, .int 0])), (llA_19, .inl (K_22, 10, .inl (fun _ => 0))), (lc_20, .inr (4, [.ref lcA_21, .int 0])), (lcA_21, .inl (K_22, 10, .inl (fun _ => 0)))] := hD
  obtain rfl : K_7 = K_22 := k_one hK (i := 0) (j := 1) rfl rfl
  have hK : va_K D vwCl [(K_7, .int)] s := hK.sub [0] rfl
  refine va_putF (D := D) (ci := 6) (v := .ref q_14) (ty := tyX6 2) (C := RX6) (T := TX6) (N := 6) hx hb ht inA_X6 tyX6 tyX6_ok nmX6 hown hK hP hD hS 0 rfl rfl 2 (by decide) (ht _ lf_X6_30) (fun _ h9 => h9) rfl hin rfl (tyX6_ok 2 (by decide)) rfl rfl (Nat.le_of_ble_eq_true rfl) dX6_init_36 (fun H locs hP hD hS => ?_)
  have hP : va_P D vwCl [(st, .inr (6, [.ref q_1, .ref q_9, .ref q_14, .int 0, .int 0, .int 0])), (q_1, .inr (2, [.ref ld_3, .ref lz_5])), (ld_3, .inr (4, [.ref ldA_4, .int 0])), (ldA_4, .inl (K_7, 9, .inl (fun _ => 0))), (lz_5, .inr (4, [.ref lzA_6, .int 0])), (lzA_6, .inl (K_7, 41, .inl (fun _ => 0))), (q_9, .inr (4, [.ref a_11, .int 0])), (a_11, .inl (K_7, 41, .inl (fun _ => 0))), (q_14, .inr (0, [.ref ln_16, .ref ll_18, .ref lc_20])), (ln_16, .inr (4, [.ref lnA_17, .int 0])), (lnA_17, .inl (K_7, 10, .inl (fun _ => 0))), (ll_18, .inr (4, [.ref llA_19, .int 0])), (llA_19, .inl (K_7, 10, .inl (fun _ => 0))), (lc_20, .inr (4, [.ref lcA_21, .int 0])), (lcA_21, .inl (K_7, 10, .inl (fun _ => 0)))] H := hP
  have hD : va_D A [(st, .inr (6, [.ref q_1, .ref q_9, .ref q_14, .int 0, .int 0, .int 0])), (q_1, .inr (2, [.ref ld_3, .ref lz_5])), (ld_3, .inr (4, [.ref ldA_4, .int 0])), (ldA_4, .inl (K_7, 9, .inl (fun _ => 0))), (lz_5, .inr (4, [.ref lzA_6, .int 0])), (lzA_6, .inl (K_7, 41, .inl (fun _ => 0))), (q_9, .inr (4, [.ref a_11, .int 0])), (a_11, .inl (K_7, 41, .inl (fun _ => 0))), (q_14, .inr (0, [.ref ln_16, .ref ll_18, .ref lc_20])), (ln_16, .inr (4, [.ref lnA_17, .int 0])), (lnA_17, .inl (K_7, 10, .inl (fun _ => 0))), (ll_18, .inr (4, [.ref llA_19, .int 0])), (llA_19, .inl (K_7, 10, .inl (fun _ => 0))), (lc_20, .inr (4, [.ref lcA_21, .int 0])), (lcA_21, .inl (K_7, 10, .inl (fun _ => 0)))] := hD
  refine lv_aload_n hx hb dX6_init_39 rfl (lv_at hl 0 rfl) ?_
  refine lv_iconst (v := 4) hx hb dX6_init_40 (by decide) ?_
  refine va_put (D := D) (ci := 6) (v := .int 4) (ty := .int) (C := RX6) (T := TX6) (N := 6) hx hb ht inA_X6 tyX6 tyX6_ok nmX6 hown hK hP hD hS 0 rfl rfl 3 (by decide) (ht _ lf_X6_34) (fun _ h9 => h9) rfl (tyX6_ok 3 (by decide)) rfl rfl (Nat.le_of_ble_eq_true rfl) dX6_init_41 (fun H locs hP hD hS => ?_)
  have hP : va_P D vwCl [(st, .inr (6, [.ref q_1, .ref q_9, .ref q_14, .int 4, .int 0, .int 0])), (q_1, .inr (2, [.ref ld_3, .ref lz_5])), (ld_3, .inr (4, [.ref ldA_4, .int 0])), (ldA_4, .inl (K_7, 9, .inl (fun _ => 0))), (lz_5, .inr (4, [.ref lzA_6, .int 0])), (lzA_6, .inl (K_7, 41, .inl (fun _ => 0))), (q_9, .inr (4, [.ref a_11, .int 0])), (a_11, .inl (K_7, 41, .inl (fun _ => 0))), (q_14, .inr (0, [.ref ln_16, .ref ll_18, .ref lc_20])), (ln_16, .inr (4, [.ref lnA_17, .int 0])), (lnA_17, .inl (K_7, 10, .inl (fun _ => 0))), (ll_18, .inr (4, [.ref llA_19, .int 0])), (llA_19, .inl (K_7, 10, .inl (fun _ => 0))), (lc_20, .inr (4, [.ref lcA_21, .int 0])), (lcA_21, .inl (K_7, 10, .inl (fun _ => 0)))] H := hP
  have hD : va_D A [(st, .inr (6, [.ref q_1, .ref q_9, .ref q_14, .int 4, .int 0, .int 0])), (q_1, .inr (2, [.ref ld_3, .ref lz_5])), (ld_3, .inr (4, [.ref ldA_4, .int 0])), (ldA_4, .inl (K_7, 9, .inl (fun _ => 0))), (lz_5, .inr (4, [.ref lzA_6, .int 0])), (lzA_6, .inl (K_7, 41, .inl (fun _ => 0))), (q_9, .inr (4, [.ref a_11, .int 0])), (a_11, .inl (K_7, 41, .inl (fun _ => 0))), (q_14, .inr (0, [.ref ln_16, .ref ll_18, .ref lc_20])), (ln_16, .inr (4, [.ref lnA_17, .int 0])), (lnA_17, .inl (K_7, 10, .inl (fun _ => 0))), (ll_18, .inr (4, [.ref llA_19, .int 0])), (llA_19, .inl (K_7, 10, .inl (fun _ => 0))), (lc_20, .inr (4, [.ref lcA_21, .int 0])), (lcA_21, .inl (K_7, 10, .inl (fun _ => 0)))] := hD
  have hP9 : va_P D vwCl [(st, .inr (6, [.ref q_1, .ref q_9, .ref q_14, .int 4, .int 0, .int 0])), (q_1, .inr (2, [.ref ld_3, .ref lz_5])), (ld_3, .inr (4, [.ref ldA_4, .int 0])), (ldA_4, .inl (K_7, 9, .inl (fun _ => 0))), (lz_5, .inr (4, [.ref lzA_6, .int 0])), (lzA_6, .inl (K_7, 41, .inl (fun _ => 0))), (q_9, .inr (4, [.ref a_11, .int 0])), (a_11, .inl (K_7, 41, .inl (fun _ => 0))), (q_14, .inr (0, [.ref ln_16, .ref ll_18, .ref lc_20])), (ln_16, .inr (4, [.ref lnA_17, .int 0])), (lnA_17, .inl (K_7, 10, .inl (fun _ => 0))), (ll_18, .inr (4, [.ref llA_19, .int 0])), (llA_19, .inl (K_7, 10, .inl (fun _ => 0))), (lc_20, .inr (4, [.ref lcA_21, .int 0])), (lcA_21, .inl (K_7, 10, .inl (fun _ => 0)))] H := hP.sub [0, 1, 2, 3, 4, 5, 6, 7, 8, 9, 10, 11, 12, 13, 14] rfl
  have hD9 : va_D A [(st, .inr (6, [.ref q_1, .ref q_9, .ref q_14, .int 4, .int 0, .int 0])), (q_1, .inr (2, [.ref ld_3, .ref lz_5])), (ld_3, .inr (4, [.ref ldA_4, .int 0])), (ldA_4, .inl (K_7, 9, .inl (fun _ => 0))), (lz_5, .inr (4, [.ref lzA_6, .int 0])), (lzA_6, .inl (K_7, 41, .inl (fun _ => 0))), (q_9, .inr (4, [.ref a_11, .int 0])), (a_11, .inl (K_7, 41, .inl (fun _ => 0))), (q_14, .inr (0, [.ref ln_16, .ref ll_18, .ref lc_20])), (ln_16, .inr (4, [.ref lnA_17, .int 0])), (lnA_17, .inl (K_7, 10, .inl (fun _ => 0))), (ll_18, .inr (4, [.ref llA_19, .int 0])), (llA_19, .inl (K_7, 10, .inl (fun _ => 0))), (lc_20, .inr (4, [.ref lcA_21, .int 0])), (lcA_21, .inl (K_7, 10, .inl (fun _ => 0)))] := hD.sub [0, 1, 2, 3, 4, 5, 6, 7, 8, 9, 10, 11, 12, 13, 14] (by decide) rfl
  have hK9 : va_K D vwCl [(K_7, .int)] s := hK.sub [0] rfl
  exact W.vret hx hb hr (fun t ht9 hW9 => ⟨⟨(q_1, ld_3, ldA_4, lz_5, lzA_6, q_9, a_11, q_14, ln_16, lnA_17, ll_18, llA_19, lc_20, lcA_21, K_7), rfl, by first | rfl | trivial | (simp only [if_true, if_false, reduceIte, and_self]; done) | simp_all, ⟨by rw [ht9]; exact hP9, va_K.moved hW9.alike hK9, hD9⟩⟩, hS.F ht9⟩) hS.2.2 dX6_init_44
end
section
theorem lo_X5_3 : Cond.methodLink RX5 3 objectInit ∈ wsA := mA 116 rfl rfl
theorem lc_X5_9 : Cond.classLink RX5 9 "BarcodeWand$State" ∈ wsA := mA 117 rfl rfl
theorem inA_X5 : ∀ w ∈ u_ws RX5 TX5 3, w ∈ wsA := by
  show ∀ w ∈ ([u_lay RX5 TX5 0, u_lay RX5 TX5 1, u_lay RX5 TX5 2] : List Cond), w ∈ wsA
  exact List.forall_mem_cons.mpr ⟨mA 123 rfl rfl, List.forall_mem_cons.mpr ⟨mA 125 rfl rfl, List.forall_mem_cons.mpr ⟨mA 127 rfl rfl, fun _ h => absurd h List.not_mem_nil⟩⟩⟩
theorem lf_X5_11 : Cond.fieldLink RX5 11 "BarcodeWand$SavedStates" "ring" "[LBarcodeWand$State;" ∈ wsA := mA 120 rfl rfl
theorem lt_BarcodeWand_State : Cond.instantiable "BarcodeWand$State" 6 ∈ wsA := mA 26 rfl rfl
theorem li_BarcodeWand_State : Cond.initialized "BarcodeWand$State" ∈ wsA := mA 2 rfl rfl
theorem lk_X6_init : Cond.code yX6_init cX6_init 1 none ∈ wsA := mA 29 rfl rfl
theorem ly_X6_init : k_y yX6_init 0 := ⟨by decide +kernel, by decide +kernel, by decide +kernel⟩
theorem lm_X6_init : Cond.instanceMethod yX6_init ∈ wsA := mA 28 rfl rfl
theorem Li_X5_17 : k_LIN RX5 17 "BarcodeWand" yX6_init cX6_init 1 0 := ⟨List.mem_of_getElem? (i := 119) rfl, lm_X6_init, li_BarcodeWand_State, lk_X6_init, rfl, ly_X6_init⟩
theorem lo_X3_3 : Cond.methodLink RX3 3 objectInit ∈ wsA := mA 135 rfl rfl
theorem lc_X3_9 : Cond.classLink RX3 9 "BarcodeWand$Row" ∈ wsA := mA 136 rfl rfl
theorem Li_X3_11 : k_LI RX3 11 yX4_init cX4_init 2 1 := ⟨mA 137 rfl rfl, lm_X4_init, li_BarcodeWand_Row, lk_X4_init, rfl, ly_X4_init⟩
theorem inA_X3 : ∀ w ∈ u_ws RX3 TX3 8, w ∈ wsA := by
  show ∀ w ∈ ([u_lay RX3 TX3 0, u_lay RX3 TX3 1, u_lay RX3 TX3 2, u_lay RX3 TX3 3, u_lay RX3 TX3 4, u_lay RX3 TX3 5, u_lay RX3 TX3 6, u_lay RX3 TX3 7] : List Cond), w ∈ wsA
  exact List.forall_mem_cons.mpr ⟨mA 148 rfl rfl, List.forall_mem_cons.mpr ⟨mA 150 rfl rfl, List.forall_mem_cons.mpr ⟨mA 152 rfl rfl, List.forall_mem_cons.mpr ⟨mA 154 rfl rfl, List.forall_mem_cons.mpr ⟨mA 156 rfl rfl, List.forall_mem_cons.mpr ⟨mA 158 rfl rfl, List.forall_mem_cons.mpr ⟨mA 160 rfl rfl, List.forall_mem_cons.mpr ⟨mA 162 rfl rfl, fun _ h => absurd h List.not_mem_nil⟩⟩⟩⟩⟩⟩⟩⟩
theorem lf_X3_14 : Cond.fieldLink RX3 14 "BarcodeWand$Reader" "digits" "LBarcodeWand$Row;" ∈ wsA := mA 138 rfl rfl
theorem lf_X3_20 : Cond.fieldLink RX3 20 "BarcodeWand$Reader" "line" "LBarcodeWand$Row;" ∈ wsA := mA 142 rfl rfl
theorem lo_X1_3 : Cond.methodLink RX1 3 objectInit ∈ wsA := mA 172 rfl rfl
theorem dX5_init_0 : decode cX5_init 0 = .ok (.aload_n 0, 1) := by decide +kernel
theorem dX5_init_1 : decode cX5_init 1 = .ok (.invokespecial 3, 3) := by decide +kernel
theorem dX5_init_4 : decode cX5_init 4 = .ok (.aload_n 0, 1) := by decide +kernel
theorem dX5_init_5 : decode cX5_init 5 = .ok (.bipush 6, 2) := by decide +kernel
theorem dX5_init_7 : decode cX5_init 7 = .ok (.anewarray 9, 3) := by decide +kernel
theorem dX5_init_10 : decode cX5_init 10 = .ok (.putfield 11, 3) := by decide +kernel
theorem dX5_init_13 : decode cX5_init 13 = .ok (.iconst 0, 1) := by decide +kernel
theorem dX5_init_14 : decode cX5_init 14 = .ok (.istore_n 1, 1) := by decide +kernel
theorem dX5_init_15 : decode cX5_init 15 = .ok (.iload_n 1, 1) := by decide +kernel
theorem dX5_init_16 : decode cX5_init 16 = .ok (.aload_n 0, 1) := by decide +kernel
theorem dX5_init_17 : decode cX5_init 17 = .ok (.getfield 11, 3) := by decide +kernel
theorem dX5_init_20 : decode cX5_init 20 = .ok (.arraylength, 1) := by decide +kernel
theorem dX5_init_21 : decode cX5_init 21 = .ok (.if_icmp .ge 22, 3) := by decide +kernel
theorem dX5_init_24 : decode cX5_init 24 = .ok (.aload_n 0, 1) := by decide +kernel
theorem dX5_init_25 : decode cX5_init 25 = .ok (.getfield 11, 3) := by decide +kernel
theorem dX5_init_28 : decode cX5_init 28 = .ok (.iload_n 1, 1) := by decide +kernel
theorem dX5_init_29 : decode cX5_init 29 = .ok (.new 9, 3) := by decide +kernel
theorem dX5_init_32 : decode cX5_init 32 = .ok (.dup, 1) := by decide +kernel
theorem dX5_init_33 : decode cX5_init 33 = .ok (.invokespecial 17, 3) := by decide +kernel
theorem dX5_init_36 : decode cX5_init 36 = .ok (.aastore, 1) := by decide +kernel
theorem dX5_init_37 : decode cX5_init 37 = .ok (.iinc 1 1, 3) := by decide +kernel
theorem dX5_init_40 : decode cX5_init 40 = .ok (.goto (-25), 3) := by decide +kernel
theorem dX5_init_43 : decode cX5_init 43 = .ok (.return_, 1) := by decide +kernel
theorem dX3_init_0 : decode cX3_init 0 = .ok (.aload_n 0, 1) := by decide +kernel
theorem dX3_init_1 : decode cX3_init 1 = .ok (.invokespecial 3, 3) := by decide +kernel
theorem dX3_init_4 : decode cX3_init 4 = .ok (.aload_n 0, 1) := by decide +kernel
theorem dX3_init_5 : decode cX3_init 5 = .ok (.new 9, 3) := by decide +kernel
theorem dX3_init_8 : decode cX3_init 8 = .ok (.dup, 1) := by decide +kernel
theorem dX3_init_9 : decode cX3_init 9 = .ok (.bipush 9, 2) := by decide +kernel
theorem dX3_init_11 : decode cX3_init 11 = .ok (.invokespecial 11, 3) := by decide +kernel
theorem dX3_init_14 : decode cX3_init 14 = .ok (.putfield 14, 3) := by decide +kernel
theorem dX3_init_17 : decode cX3_init 17 = .ok (.aload_n 0, 1) := by decide +kernel
theorem dX3_init_18 : decode cX3_init 18 = .ok (.new 9, 3) := by decide +kernel
theorem dX3_init_21 : decode cX3_init 21 = .ok (.dup, 1) := by decide +kernel
theorem dX3_init_22 : decode cX3_init 22 = .ok (.bipush 41, 2) := by decide +kernel
theorem dX3_init_24 : decode cX3_init 24 = .ok (.invokespecial 11, 3) := by decide +kernel
theorem dX3_init_27 : decode cX3_init 27 = .ok (.putfield 20, 3) := by decide +kernel
theorem dX3_init_30 : decode cX3_init 30 = .ok (.return_, 1) := by decide +kernel
theorem dX1_init_0 : decode cX1_init 0 = .ok (.aload_n 0, 1) := by decide +kernel
theorem dX1_init_1 : decode cX1_init 1 = .ok (.invokespecial 3, 3) := by decide +kernel
theorem dX1_init_4 : decode cX1_init 4 = .ok (.return_, 1) := by decide +kernel
set_option maxHeartbeats 4000000 in
set_option maxRecDepth 100000 in
theorem c_Saved_init (l : Launch) (D : va_G) (h : Nat) (sz : Nat) : k_Mv (S := Nat × (Nat → Option Nat) × ClassId × Nat × Nat × Nat × Nat × Nat × Nat × Nat × Nat × Nat × Nat × Nat × Nat × Nat × Nat × Nat × ClassId) l D yX5_init cX5_init 2 none 4 91 870 75 [.ref h] [(h, .inr (5, [.null, .int 0, .int 0]))] [] (fun (u : Nat × (Nat → Option Nat) × ClassId × Nat × Nat × Nat × Nat × Nat × Nat × Nat × Nat × Nat × Nat × Nat × Nat × Nat × Nat × Nat × ClassId) => match u with | (ri, rf, KS, zst, zla, zld, zldA, zlz, zlzA, zme, zmeA, zli, zln, zlnA, zll, zllA, zlc, zlcA, K) => rf 0 = some zst) (fun u => match u with | (ri, rf, KS, zst, zla, zld, zldA, zlz, zlzA, zme, zmeA, zli, zln, zlnA, zll, zllA, zlc, zlcA, K) => [(h, .inr (5, [.ref ri, .int 0, .int 0])), (ri, .inl (KS, 6, .inr (.inr (.inr (.inr rf))))), (zst, .inr (6, [.ref zla, .ref zme, .ref zli, .int 4, .int 0, .int 0])), (zla, .inr (2, [.ref zld, .ref zlz])), (zld, .inr (4, [.ref zldA, .int 0])), (zldA, .inl (K, 9, .inl (fun _ => 0))), (zlz, .inr (4, [.ref zlzA, .int 0])), (zlzA, .inl (K, 41, .inl (fun _ => 0))), (zme, .inr (4, [.ref zmeA, .int 0])), (zmeA, .inl (K, 41, .inl (fun _ => 0))), (zli, .inr (0, [.ref zln, .ref zll, .ref zlc])), (zln, .inr (4, [.ref zlnA, .int 0])), (zlnA, .inl (K, 10, .inl (fun _ => 0))), (zll, .inr (4, [.ref zllA, .int 0])), (zllA, .inl (K, 10, .inl (fun _ => 0))), (zlc, .inr (4, [.ref zlcA, .int 0])), (zlcA, .inl (K, 10, .inl (fun _ => 0)))]) (fun u => match u with | (ri, rf, KS, zst, zla, zld, zldA, zlz, zlzA, zme, zmeA, zli, zln, zlnA, zll, zllA, zlc, zlcA, K) => [(KS, .object "BarcodeWand$State"), (K, .int)]) sz := by
  refine Met.ofW (cc := cX5_init) (maxL := 2) (ret := none) (by decide) rfl ?_
  intro p e s m args below meth c s₁ B hml hv
  obtain ⟨rfl, hsz, hP, hK, hD0, hG⟩ := hv
  have hx := B.exec
  have hb := B.bytes
  have hr := B.returns
  have ht : ∀ v9 ∈ wsA, v9.before ([.ref h] : List Value).toArray s = true := fun v9 h9 => atoms_spec (ws := k_ws yX5_init cX5_init 2 none) B.pre v9 (List.mem_cons_of_mem _ h9)
  have hown : s.vm.findClass RX5 = some m.cls := findClass_of_methodNamed B.named
  have S0 : k_C p s m ([.ref h] : List Value).toArray c cX5_init 2 RX5 := ⟨hx, hb, hml, hown, ht⟩
  have hlocks := B.notSynchronized
  have hin : meth.name = "<init>" := (name_of_methodNamed B.named B.method).1
  subst hsz
  have hD := hD0.self (sz := s.heap.size)
  generalize hAe : va_A [(h, .inr (5, [.null, .int 0, .int 0]))] s.heap.size = A at hD hG ⊢
  have hA : ∀ q : Nat, s.heap.size ≤ q → A q := fun q h => by rw [← hAe]; exact Or.inr h
  have hS : va_S A s.heap s.heap [] := va_S.rf
  have hl := lv_entry ([.ref h]) (n := 2) (Nat.le_of_ble_eq_true rfl)
  rw [lg_entry_eq]
  generalize (lg_sl ([.ref h]) ++ List.replicate (2 - (lg_sl ([.ref h])).length) Slot.unset).toArray = ls at hl ⊢
  have hl : lv_has ls 2 [(0, .ref h)] := hl
  have hP : va_P D vwCl [(h, .inr (5, [.null, .int 0, .int 0]))] s.heap := hP
  refine lv_aload_n hx hb dX5_init_0 rfl (lv_at hl 0 rfl) ?_
  refine W.objInit hx hb hown (ht _ lo_X5_3) (ht _ lo_inst) (ht _ lo_code) rfl (by rw [hml]; exact hl.1) rfl dX5_init_1 (Nat.le_of_ble_eq_true rfl) (Nat.le_of_ble_eq_true rfl) ?_
  refine W.eq (g2 := F0 m 4 ls []) rfl ?_
  refine lv_aload_n hx hb dX5_init_4 rfl (lv_at hl 0 rfl) ?_
  refine lv_bipush (v := 6) hx hb dX5_init_5 (by decide) ?_
  refine va_newq hx hb hown (ht _ lc_X5_9) hG.2.2.2.2.2 hK hP hD hS hA (n := 6) (N' := 6) (by decide) (by decide) (Nat.le_of_ble_eq_true rfl) (Nat.le_of_ble_eq_true rfl) (Nat.le_of_ble_eq_true rfl) dX5_init_7 (fun q_1 K_2 H hK hP hD hS => ?_)
  have hK : va_K D vwCl [(K_2, .object "BarcodeWand$State")] s := hK
  have hP : va_P D vwCl [(h, .inr (5, [.null, .int 0, .int 0])), (q_1, .inl (K_2, 6, .inr (.inr (.inr (.inr (fun _ => none))))))] H := hP
  have hD : va_D A [(h, .inr (5, [.null, .int 0, .int 0])), (q_1, .inl (K_2, 6, .inr (.inr (.inr (.inr (fun _ => none))))))] := hD
  refine W.widen (k := 1) (n := 6) (Nat.le_of_ble_eq_true rfl) (Nat.le_of_ble_eq_true rfl) ?_
  refine va_putF (D := D) (ci := 5) (v := .ref q_1) (ty := tyX5 0) (C := RX5) (T := TX5) (N := 3) hx hb ht inA_X5 tyX5 tyX5_ok nmX5 hown hK hP hD hS 0 rfl rfl 0 (by decide) (ht _ lf_X5_11) (fun _ h9 => h9) rfl hin rfl (tyX5_ok 0 (by decide)) rfl rfl (Nat.le_of_ble_eq_true rfl) dX5_init_10 (fun H locs hP hD hS => ?_)
  have hP : va_P D vwCl [(h, .inr (5, [.ref q_1, .int 0, .int 0])), (q_1, .inl (K_2, 6, .inr (.inr (.inr (.inr (fun _ => none))))))] H := hP
  have hD : va_D A [(h, .inr (5, [.ref q_1, .int 0, .int 0])), (q_1, .inl (K_2, 6, .inr (.inr (.inr (.inr (fun _ => none))))))] := hD
  refine lv_iconst (v := 0) hx hb dX5_init_13 (by decide) ?_
  refine lv_istore_n (lv' := [(1, .int 0), (0, .ref h)]) hx hb dX5_init_14 rfl hl (by decide) rfl (fun ls hl => ?_)
  refine lv_iload_n hx hb dX5_init_15 rfl (lv_at hl 0 rfl) ?_
  refine lv_aload_n hx hb dX5_init_16 rfl (lv_at hl 1 rfl) ?_
  refine va_get (D := D) (ci := 5) (v := .ref q_1) (C := RX5) (T := TX5) (N := 3) hx hb ht inA_X5 hown hK hP 0 rfl rfl 0 (by decide) (ht _ lf_X5_11) (fun _ h9 => h9) rfl dX5_init_17 ?_
  refine va_alen (v := 6) hx hb hK hP 1 0 rfl rfl rfl dX5_init_20 ?_
  refine lv_icmp_ge (tgt := 43) hx hb dX5_init_21 (by decide) (fun c9 => absurd c9 (by decide)) (fun _ => ?_)
  refine lv_aload_n hx hb dX5_init_24 rfl (lv_at hl 1 rfl) ?_
  refine va_get (D := D) (ci := 5) (v := .ref q_1) (C := RX5) (T := TX5) (N := 3) hx hb ht inA_X5 hown hK hP 0 rfl rfl 0 (by decide) (ht _ lf_X5_11) (fun _ h9 => h9) rfl dX5_init_25 ?_
  refine lv_iload_n hx hb dX5_init_28 rfl (lv_at hl 0 rfl) ?_
  refine va_new (ci := 6) (fs := [.null, .null, .null, .int 0, .int 0, .int 0]) (C := RX6) (T := TX6) (N := 6) hx hb ht inA_X6 tyX6 tyX6_ok hown (ht _ lc_X5_9) (ht _ lt_BarcodeWand_State) (ht _ li_BarcodeWand_State) hK hP hD hS hA rfl (fun j hj => by rcases (show j = 0 ∨ j = 1 ∨ j = 2 ∨ j = 3 ∨ j = 4 ∨ j = 5 by omega) with rfl | rfl | rfl | rfl | rfl | rfl <;> rfl) (Nat.le_of_ble_eq_true rfl) (Nat.le_of_ble_eq_true rfl) dX5_init_29 (fun q_3 H hP hD hS => ?_)
  have hP : va_P D vwCl [(h, .inr (5, [.ref q_1, .int 0, .int 0])), (q_1, .inl (K_2, 6, .inr (.inr (.inr (.inr (fun _ => none)))))), (q_3, .inr (6, [.null, .null, .null, .int 0, .int 0, .int 0]))] H := hP
  have hD : va_D A [(h, .inr (5, [.ref q_1, .int 0, .int 0])), (q_1, .inl (K_2, 6, .inr (.inr (.inr (.inr (fun _ => none)))))), (q_3, .inr (6, [.null, .null, .null, .int 0, .int 0, .int 0]))] := hD
  refine W.widen (k := 2) (n := 12) (Nat.le_of_ble_eq_true rfl) (Nat.le_of_ble_eq_true rfl) ?_
  refine lv_dup hx hb dX5_init_32 rfl ?_
  have ct := k_cut_of (wc := [(q_3, .inr (6, [.null, .null, .null, .int 0, .int 0, .int 0]))]) (wr := [(h, .inr (5, [.ref q_1, .int 0, .int 0])), (q_1, .inl (K_2, 6, .inr (.inr (.inr (.inr (fun _ => none))))))]) (tc := []) hG hS hA hK hP hD [2] [0, 1] [] rfl rfl (by decide) (by decide) (by decide) rfl
  refine k_endv (As := [.ref q_3]) ct (k_runIN (As := []) (rest := [.ref q_3, .int 0, .ref q_1]) S0 Li_X5_17 ct (c_State_init l D q_3 H.size) hl.1 rfl (Nat.le_of_ble_eq_true rfl) rfl dX5_init_33 ⟨⟨Nat.le_of_ble_eq_true rfl, Nat.le_of_ble_eq_true rfl⟩, Nat.le_of_ble_eq_true rfl, Nat.le_of_ble_eq_true rfl⟩) rfl rfl (fun _ u H locs hw_20 hP hD hK hS => ?_)
  obtain ⟨la_5, ld_6, ldA_7, lz_8, lzA_9, me_10, meA_11, li_12, ln_13, lnA_14, ll_15, llA_16, lc_17, lcA_18, K_19⟩ := u
  have hK : va_K D vwCl [(K_2, .object "BarcodeWand$State"), (K_19, .int)] s := hK
  have hP : va_P D vwCl [(h, .inr (5, [.ref q_1, .int 0, .int 0])), (q_1, .inl (K_2, 6, .inr (.inr (.inr (.inr (fun _ => none)))))), (q_3, .inr (6, [.ref la_5, .ref me_10, .ref li_12, .int 4, .int 0, .int 0])), (la_5, .inr (2, [.ref ld_6, .ref lz_8])), (ld_6, .inr (4, [.ref ldA_7, .int 0])), (ldA_7, .inl (K_19, 9, .inl (fun _ => 0))), (lz_8, .inr (4, [.ref lzA_9, .int 0])), (lzA_9, .inl (K_19, 41, .inl (fun _ => 0))), (me_10, .inr (4, [.ref meA_11, .int 0])), (meA_11, .inl (K_19, 41, .inl (fun _ => 0))), (li_12, .inr (0, [.ref ln_13, .ref ll_15, .ref lc_17])), (ln_13, .inr (4, [.ref lnA_14, .int 0])), (lnA_14, .inl (K_19, 10, .inl (fun _ => 0))), (ll_15, .inr (4, [.ref llA_16, .int 0])), (llA_16, .inl (K_19, 10, .inl (fun _ => 0))), (lc_17, .inr (4, [.ref lcA_18, .int 0])), (lcA_18, .inl (K_19, 10, .inl (fun _ => 0)))] H := hP
  have hD : va_D A [(h, .inr (5, [.ref q_1, .int 0, .int 0])), (q_1, .inl (K_2, 6, .inr (.inr (.inr (.inr (fun _ => none)))))), (q_3, .inr (6, [.ref la_5, .ref me_10, .ref li_12, .int 4, .int 0, .int 0])), (la_5, .inr (2, [.ref ld_6, .ref lz_8])), (ld_6, .inr (4, [.ref ldA_7, .int 0])), (ldA_7, .inl (K_19, 9, .inl (fun _ => 0))), (lz_8, .inr (4, [.ref lzA_9, .int 0])), (lzA_9, .inl (K_19, 41, .inl (fun _ => 0))), (me_10, .inr (4, [.ref meA_11, .int 0])), (meA_11, .inl (K_19, 41, .inl (fun _ => 0))), (li_12, .inr (0, [.ref ln_13, .ref ll_15, .ref lc_17])), (ln_13, .inr (4, [.ref lnA_14, .int 0])), (lnA_14, .inl (K_19, 10, .inl (fun _ => 0))), (ll_15, .inr (4, [.ref llA_16, .int 0])), (llA_16, .inl (K_19, 10, .inl (fun _ => 0))), (lc_17, .inr (4, [.ref lcA_18, .int 0])), (lcA_18, .inl (K_19, 10, .inl (fun _ => 0)))] := hD
  refine va_astq hx hb hK hP hD hS 1 0 2 6 rfl rfl rfl rfl (by unfold vp_in; decide) dX5_init_36 (fun H locs hP hD hS => ?_)
  have hP : va_P D vwCl [(h, .inr (5, [.ref q_1, .int 0, .int 0])), (q_1, .inl (K_2, 6, .inr (.inr (.inr (.inr (va_up (fun _ => none) ((0 : Int32).toNatClampNeg) (some q_3))))))), (q_3, .inr (6, [.ref la_5, .ref me_10, .ref li_12, .int 4, .int 0, .int 0])), (la_5, .inr (2, [.ref ld_6, .ref lz_8])), (ld_6, .inr (4, [.ref ldA_7, .int 0])), (ldA_7, .inl (K_19, 9, .inl (fun _ => 0))), (lz_8, .inr (4, [.ref lzA_9, .int 0])), (lzA_9, .inl (K_19, 41, .inl (fun _ => 0))), (me_10, .inr (4, [.ref meA_11, .int 0])), (meA_11, .inl (K_19, 41, .inl (fun _ => 0))), (li_12, .inr (0, [.ref ln_13, .ref ll_15, .ref lc_17])), (ln_13, .inr (4, [.ref lnA_14, .int 0])), (lnA_14, .inl (K_19, 10, .inl (fun _ => 0))), (ll_15, .inr (4, [.ref llA_16, .int 0])), (llA_16, .inl (K_19, 10, .inl (fun _ => 0))), (lc_17, .inr (4, [.ref lcA_18, .int 0])), (lcA_18, .inl (K_19, 10, .inl (fun _ => 0)))] H := hP
  have hD : va_D A [(h, .inr (5, [.ref q_1, .int 0, .int 0])), (q_1, .inl (K_2, 6, .inr (.inr (.inr (.inr (va_up (fun _ => none) ((0 : Int32).toNatClampNeg) (some q_3))))))), (q_3, .inr (6, [.ref la_5, .ref me_10, .ref li_12, .int 4, .int 0, .int 0])), (la_5, .inr (2, [.ref ld_6, .ref lz_8])), (ld_6, .inr (4, [.ref ldA_7, .int 0])), (ldA_7, .inl (K_19, 9, .inl (fun _ => 0))), (lz_8, .inr (4, [.ref lzA_9, .int 0])), (lzA_9, .inl (K_19, 41, .inl (fun _ => 0))), (me_10, .inr (4, [.ref meA_11, .int 0])), (meA_11, .inl (K_19, 41, .inl (fun _ => 0))), (li_12, .inr (0, [.ref ln_13, .ref ll_15, .ref lc_17])), (ln_13, .inr (4, [.ref lnA_14, .int 0])), (lnA_14, .inl (K_19, 10, .inl (fun _ => 0))), (ll_15, .inr (4, [.ref llA_16, .int 0])), (llA_16, .inl (K_19, 10, .inl (fun _ => 0))), (lc_17, .inr (4, [.ref lcA_18, .int 0])), (lcA_18, .inl (K_19, 10, .inl (fun _ => 0)))] := hD
  refine lv_iinc (v := 1) (lv' := [(1, .int 1), (0, .ref h)]) hx hb dX5_init_37 hl (k := 0) rfl (by decide) (by decide) rfl (fun ls hl => ?_)
  refine lv_goto (tgt := 15) hx hb dX5_init_40 (by decide) ?_
  refine lv_iload_n hx hb dX5_init_15 rfl (lv_at hl 0 rfl) ?_
  refine lv_aload_n hx hb dX5_init_16 rfl (lv_at hl 1 rfl) ?_
  refine va_get (D := D) (ci := 5) (v := .ref q_1) (C := RX5) (T := TX5) (N := 3) hx hb ht inA_X5 hown hK hP 0 rfl rfl 0 (by decide) (ht _ lf_X5_11) (fun _ h9 => h9) rfl dX5_init_17 ?_
  refine va_alen (v := 6) hx hb hK hP 1 0 rfl rfl rfl dX5_init_20 ?_
  refine lv_icmp_ge (tgt := 43) hx hb dX5_init_21 (by decide) (fun c9 => absurd c9 (by decide)) (fun _ => ?_)
  refine lv_aload_n hx hb dX5_init_24 rfl (lv_at hl 1 rfl) ?_
  refine va_get (D := D) (ci := 5) (v := .ref q_1) (C := RX5) (T := TX5) (N := 3) hx hb ht inA_X5 hown hK hP 0 rfl rfl 0 (by decide) (ht _ lf_X5_11) (fun _ h9 => h9) rfl dX5_init_25 ?_
  refine lv_iload_n hx hb dX5_init_28 rfl (lv_at hl 0 rfl) ?_
  refine va_new (ci := 6) (fs := [.null, .null, .null, .int 0, .int 0, .int 0]) (C := RX6) (T := TX6) (N := 6) hx hb ht inA_X6 tyX6 tyX6_ok hown (ht _ lc_X5_9) (ht _ lt_BarcodeWand_State) (ht _ li_BarcodeWand_State) hK hP hD hS hA rfl (fun j hj => by rcases (show j = 0 ∨ j = 1 ∨ j = 2 ∨ j = 3 ∨ j = 4 ∨ j = 5 by omega) with rfl | rfl | rfl | rfl | rfl | rfl <;> rfl) (Nat.le_of_ble_eq_true rfl) (Nat.le_of_ble_eq_true rfl) dX5_init_29 (fun q_21 H hP hD hS => ?_)
  have hP : va_P D vwCl [(h, .inr (5, [.ref q_1, .int 0, .int 0])), (q_1, .inl (K_2, 6, .inr (.inr (.inr (.inr (va_up (fun _ => none) ((0 : Int32).toNatClampNeg) (some q_3))))))), (q_3, .inr (6, [.ref la_5, .ref me_10, .ref li_12, .int 4, .int 0, .int 0])), (la_5, .inr (2, [.ref ld_6, .ref lz_8])), (ld_6, .inr (4, [.ref ldA_7, .int 0])), (ldA_7, .inl (K_19, 9, .inl (fun _ => 0))), (lz_8, .inr (4, [.ref lzA_9, .int 0])), (lzA_9, .inl (K_19, 41, .inl (fun _ => 0))), (me_10, .inr (4, [.ref meA_11, .int 0])), (meA_11, .inl (K_19, 41, .inl (fun _ => 0))), (li_12, .inr (0, [.ref ln_13, .ref ll_15, .ref lc_17])), (ln_13, .inr (4, [.ref lnA_14, .int 0])), (lnA_14, .inl (K_19, 10, .inl (fun _ => 0))), (ll_15, .inr (4, [.ref llA_16, .int 0])), (llA_16, .inl (K_19, 10, .inl (fun _ => 0))), (lc_17, .inr (4, [.ref lcA_18, .int 0])), (lcA_18, .inl (K_19, 10, .inl (fun _ => 0))), (q_21, .inr (6, [.null, .null, .null, .int 0, .int 0, .int 0]))] H := hP
  have hD : va_D A [(h, .inr (5, [.ref q_1, .int 0, .int 0])), (q_1, .inl (K_2, 6, .inr (.inr (.inr (.inr (va_up (fun _ => none) ((0 : Int32).toNatClampNeg) (some q_3))))))), (q_3, .inr (6, [.ref la_5, .ref me_10, .ref li_12, .int 4, .int 0, .int 0])), (la_5, .inr (2, [.ref ld_6, .ref lz_8])), (ld_6, .inr (4, [.ref ldA_7, .int 0])), (ldA_7, .inl (K_19, 9, .inl (fun _ => 0))), (lz_8, .inr (4, [.ref lzA_9, .int 0])), (lzA_9, .inl (K_19, 41, .inl (fun _ => 0))), (me_10, .inr (4, [.ref meA_11, .int 0])), (meA_11, .inl (K_19, 41, .inl (fun _ => 0))), (li_12, .inr (0, [.ref ln_13, .ref ll_15, .ref lc_17])), (ln_13, .inr (4, [.ref lnA_14, .int 0])), (lnA_14, .inl (K_19, 10, .inl (fun _ => 0))), (ll_15, .inr (4, [.ref llA_16, .int 0])), (llA_16, .inl (K_19, 10, .inl (fun _ => 0))), (lc_17, .inr (4, [.ref lcA_18, .int 0])), (lcA_18, .inl (K_19, 10, .inl (fun _ => 0))), (q_21, .inr (6, [.null, .null, .null, .int 0, .int 0, .int 0]))] := hD
  refine W.widen (k := 17) (n := 156) (Nat.le_of_ble_eq_true rfl) (Nat.le_of_ble_eq_true rfl) ?_
  refine lv_dup hx hb dX5_init_32 rfl ?_
  have ct := k_cut_of (wc := [(q_21, .inr (6, [.null, .null, .null, .int 0, .int 0, .int 0]))]) (wr := [(h, .inr (5, [.ref q_1, .int 0, .int 0])), (q_1, .inl (K_2, 6, .inr (.inr (.inr (.inr (va_up (fun _ => none) ((0 : Int32).toNatClampNeg) (some q_3))))))), (q_3, .inr (6, [.ref la_5, .ref me_10, .ref li_12, .int 4, .int 0, .int 0])), (la_5, .inr (2, [.ref ld_6, .ref lz_8])), (ld_6, .inr (4, [.ref ldA_7, .int 0])), (ldA_7, .inl (K_19, 9, .inl (fun _ => 0))), (lz_8, .inr (4, [.ref lzA_9, .int 0])), (lzA_9, .inl (K_19, 41, .inl (fun _ => 0))), (me_10, .inr (4, [.ref meA_11, .int 0])), (meA_11, .inl (K_19, 41, .inl (fun _ => 0))), (li_12, .inr (0, [.ref ln_13, .ref ll_15, .ref lc_17])), (ln_13, .inr (4, [.ref lnA_14, .int 0])), (lnA_14, .inl (K_19, 10, .inl (fun _ => 0))), (ll_15, .inr (4, [.ref llA_16, .int 0])), (llA_16, .inl (K_19, 10, .inl (fun _ => 0))), (lc_17, .inr (4, [.ref lcA_18, .int 0])), (lcA_18, .inl (K_19, 10, .inl (fun _ => 0)))]) (tc := []) hG hS hA hK hP hD [17] [0, 1, 2, 3, 4, 5, 6, 7, 8, 9, 10, 11, 12, 13, 14, 15, 16] [] rfl rfl (by decide) (by decide) (by decide) rfl
  refine k_endv (As := [.ref q_21]) ct (k_runIN (As := []) (rest := [.ref q_21, .int 1, .ref q_1]) S0 Li_X5_17 ct (c_State_init l D q_21 H.size) hl.1 rfl (Nat.le_of_ble_eq_true rfl) rfl dX5_init_33 ⟨⟨Nat.le_of_ble_eq_true rfl, Nat.le_of_ble_eq_true rfl⟩, Nat.le_of_ble_eq_true rfl, Nat.le_of_ble_eq_true rfl⟩) rfl rfl (fun _ u H locs hw_38 hP hD hK hS => ?_)
  obtain ⟨la_23, ld_24, ldA_25, lz_26, lzA_27, me_28, meA_29, li_30, ln_31, lnA_32, ll_33, llA_34, lc_35, lcA_36, K_37⟩ := u
  have hK : va_K D vwCl [(K_2, .object "BarcodeWand$State"), (K_19, .int), (K_37, .int)] s := hK
  have hP : va_P D vwCl [(h, .inr (5, [.ref q_1, .int 0, .int 0])), (q_1, .inl (K_2, 6, .inr (.inr (.inr (.inr (va_up (fun _ => none) ((0 : Int32).toNatClampNeg) (some q_3))))))), (q_3, .inr (6, [.ref la_5, .ref me_10, .ref li_12, .int 4, .int 0, .int 0])), (la_5, .inr (2, [.ref ld_6, .ref lz_8])), (ld_6, .inr (4, [.ref ldA_7, .int 0])), (ldA_7, .inl (K_19, 9, .inl (fun _ => 0))), (lz_8, .inr (4, [.ref lzA_9, .int 0])), (lzA_9, .inl (K_19, 41, .inl (fun _ => 0))), (me_10, .inr (4, [.ref meA_11, .int 0])), (meA_11, .inl (K_19, 41, .inl (fun _ => 0))), (li_12, .inr (0, [.ref ln_13, .ref ll_15, .ref lc_17])), (ln_13, .inr (4, [.ref lnA_14, .int 0])), (lnA_14, .inl (K_19, 10, .inl (fun _ => 0))), (ll_15, .inr (4, [.ref llA_16, .int 0])), (llA_16, .inl (K_19, 10, .inl (fun _ => 0))), (lc_17, .inr (4, [.ref lcA_18, .int 0])), (lcA_18, .inl (K_19, 10, .inl (fun _ => 0))), (q_21, .inr (6, [.ref la_23, .ref me_28, .ref li_30, .int 4, .int 0, .int 0])), (la_23, .inr (2, [.ref ld_24, .ref lz_26])), (ld_24, .inr (4, [.ref ldA_25, .int 0])), (ldA_25, .inl (K_37, 9, .inl (fun _ => 0))), (lz_26, .inr (4, [.ref lzA_27, .int 0])), (lzA_27, .inl (K_37, 41, .inl (fun _ => 0))), (me_28, .inr (4, [.ref meA_29, .int 0])), (meA_29, .inl (K_37, 41, .inl (fun _ => 0))), (li_30, .inr (0, [.ref ln_31, .ref ll_33, .ref lc_35])), (ln_31, .inr (4, [.ref lnA_32, .int 0])), (lnA_32, .inl (K_37, 10, .inl (fun _ => 0))), (ll_33, .inr (4, [.ref llA_34, .int 0])), (llA_34, .inl (K_37, 10, .inl (fun _ => 0))), (lc_35, .inr (4, [.ref lcA_36, .int 0])), (lcA_36, .inl (K_37, 10, .inl (fun _ => 0)))] H := hP
  have hD : va_D A [(h, .inr (5, [.ref q_1, .int 0, .int 0])), (q_1, .inl (K_2, 6, .inr (.inr (.inr (.inr (va_up (fun _ => none) ((0 : Int32).toNatClampNeg) (some q_3))))))), (q_3, .inr (6, [.ref la_5, .ref me_10, .ref li_12, .int 4, .int 0, .int 0])), (la_5, .inr (2, [.ref ld_6, .ref lz_8])), (ld_6, .inr (4, [.ref ldA_7, .int 0])), (ldA_7, .inl (K_19, 9, .inl (fun _ => 0))), (lz_8, .inr (4, [.ref lzA_9, .int 0])), (lzA_9, .inl (K_19, 41, .inl (fun _ => 0))), (me_10, .inr (4, [.ref meA_11, .int 0])), (meA_11, .inl (K_19, 41, .inl (fun _ => 0))), (li_12, .inr (0, [.ref ln_13, .ref ll_15, .ref lc_17])), (ln_13, .inr (4, [.ref lnA_14, .int 0])), (lnA_14, .inl (K_19, 10, .inl (fun _ => 0))), (ll_15, .inr (4, [.ref llA_16, .int 0])), (llA_16, .inl (K_19, 10, .inl (fun _ => 0))), (lc_17, .inr (4, [.ref lcA_18, .int 0])), (lcA_18, .inl (K_19, 10, .inl (fun _ => 0))), (q_21, .inr (6, [.ref la_23, .ref me_28, .ref li_30, .int 4, .int 0, .int 0])), (la_23, .inr (2, [.ref ld_24, .ref lz_26])), (ld_24, .inr (4, [.ref ldA_25, .int 0])), (ldA_25, .inl (K_37, 9, .inl (fun _ => 0))), (lz_26, .inr (4, [.ref lzA_27, .int 0])), (lzA_27, .inl (K_37, 41, .inl (fun _ => 0))), (me_28, .inr (4, [.ref meA_29, .int 0])), (meA_29, .inl (K_37, 41, .inl (fun _ => 0))), (li_30, .inr (0, [.ref ln_31, .ref ll_33, .ref lc_35])), (ln_31, .inr (4, [.ref lnA_32, .int 0])), (lnA_32, .inl (K_37, 10, .inl (fun _ => 0))), (ll_33, .inr (4, [.ref llA_34, .int 0])), (llA_34, .inl (K_37, 10, .inl (fun _ => 0))), (lc_35, .inr (4, [.ref lcA_36, .int 0])), (lcA_36, .inl (K_37, 10, .inl (fun _ => 0)))] := hD
  obtain rfl : K_19 = K_37 := k_one hK (i := 1) (j := 2) rfl rfl
  have hK : va_K D vwCl [(K_2, .object "BarcodeWand$State"), (K_19, .int)] s := hK.sub [0, 1] rfl
  refine va_astq hx hb hK hP hD hS 1 0 17 6 rfl rfl rfl rfl (by unfold vp_in; decide) dX5_init_36 (fun H locs hP hD hS => ?_)
  have hP : va_P D vwCl [(h, .inr (5, [.ref q_1, .int 0, .int 0])), (q_1, .inl (K_2, 6, .inr (.inr (.inr (.inr (va_up (va_up (fun _ => none) ((0 : Int32).toNatClampNeg) (some q_3)) ((1 : Int32).toNatClampNeg) (some q_21))))))), (q_3, .inr (6, [.ref la_5, .ref me_10, .ref li_12, .int 4, .int 0, .int 0])), (la_5, .inr (2, [.ref ld_6, .ref lz_8])), (ld_6, .inr (4, [.ref ldA_7, .int 0])), (ldA_7, .inl (K_19, 9, .inl (fun _ => 0))), (lz_8, .inr (4, [.ref lzA_9, .int 0])), (lzA_9, .inl (K_19, 41, .inl (fun _ => 0))), (me_10, .inr (4, [.ref meA_11, .int 0])), (meA_11, .inl (K_19, 41, .inl (fun _ => 0))), (li_12, .inr (0, [.ref ln_13, .ref ll_15, .ref lc_17])), (ln_13, .inr (4, [.ref lnA_14, .int 0])), (lnA_14, .inl (K_19, 10, .inl (fun _ => 0))), (ll_15, .inr (4, [.ref llA_16, .int 0])), (llA_16, .inl (K_19, 10, .inl (fun _ => 0))), (lc_17, .inr (4, [.ref lcA_18, .int 0])), (lcA_18, .inl (K_19, 10, .inl (fun _ => 0))), (q_21, .inr (6, [.ref la_23, .ref me_28, .ref li_30, .int 4, .int 0, .int 0])), (la_23, .inr (2, [.ref ld_24, .ref lz_26])), (ld_24, .inr (4, [.ref ldA_25, .int 0])), (ldA_25, .inl (K_19, 9, .inl (fun _ => 0))), (lz_26, .inr (4, [.ref lzA_27, .int 0])), (lzA_27, .inl (K_19, 41, .inl (fun _ => 0))), (me_28, .inr (4, [.ref meA_29, .int 0])), (meA_29, .inl (K_19, 41, .inl (fun _ => 0))), (li_30, .inr (0, [.ref ln_31, .ref ll_33, .ref lc_35])), (ln_31, .inr (4, [.ref lnA_32, .int 0])), (lnA_32, .inl (K_19, 10, .inl (fun _ => 0))), (ll_33, .inr (4, [.ref llA_34, .int 0])), (llA_34, .inl (K_19, 10, .inl (fun _ => 0))), (lc_35, .inr (4, [.ref lcA_36, .int 0])), (lcA_36, .inl (K_19, 10, .inl (fun _ => 0)))] H := hP
  have hD : va_D A [(h, .inr (5, [.ref q_1, .int 0, .int 0])), (q_1, .inl (K_2, 6, .inr (.inr (.inr (.inr (va_up (va_up (fun _ => none) ((0 : Int32).toNatClampNeg) (some q_3)) ((1 : Int32).toNatClampNeg) (some q_21))))))), (q_3, .inr (6, [.ref la_5, .ref me_10, .ref li_12, .int 4, .int 0, .int 0])), (la_5, .inr (2, [.ref ld_6, .ref lz_8])), (ld_6, .inr (4, [.ref ldA_7, .int 0])), (ldA_7, .inl (K_19, 9, .inl (fun _ => 0))), (lz_8, .inr (4, [.ref lzA_9, .int 0])), (lzA_9, .inl (K_19, 41, .inl (fun _ => 0))), (me_10, .inr (4, [.ref meA_11, .int 0])), (meA_11, .inl (K_19, 41, .inl (fun _ => 0))), (li_12, .inr (0, [.ref ln_13, .ref ll_15, .ref lc_17])), (ln_13, .inr (4, [.ref lnA_14, .int 0])), (lnA_14, .inl (K_19, 10, .inl (fun _ => 0))), (ll_15, .inr (4, [.ref llA_16, .int 0])), (llA_16, .inl (K_19, 10, .inl (fun _ => 0))), (lc_17, .inr (4, [.ref lcA_18, .int 0])), (lcA_18, .inl (K_19, 10, .inl (fun _ => 0))), (q_21, .inr (6, [.ref la_23, .ref me_28, .ref li_30, .int 4, .int 0, .int 0])), (la_23, .inr (2, [.ref ld_24, .ref lz_26])), (ld_24, .inr (4, [.ref ldA_25, .int 0])), (ldA_25, .inl (K_19, 9, .inl (fun _ => 0))), (lz_26, .inr (4, [.ref lzA_27, .int 0])), (lzA_27, .inl (K_19, 41, .inl (fun _ => 0))), (me_28, .inr (4, [.ref meA_29, .int 0])), (meA_29, .inl (K_19, 41, .inl (fun _ => 0))), (li_30, .inr (0, [.ref ln_31, .ref ll_33, .ref lc_35])), (ln_31, .inr (4, [.ref lnA_32, .int 0])), (lnA_32, .inl (K_19, 10, .inl (fun _ => 0))), (ll_33, .inr (4, [.ref llA_34, .int 0])), (llA_34, .inl (K_19, 10, .inl (fun _ => 0))), (lc_35, .inr (4, [.ref lcA_36, .int 0])), (lcA_36, .inl (K_19, 10, .inl (fun _ => 0)))] := hD
  have hP : va_P D vwCl [(h, .inr (5, [.ref q_1, .int 0, .int 0])), (q_1, .inl (K_2, 6, .inr (.inr (.inr (.inr (va_up (va_up (fun _ => none) ((0 : Int32).toNatClampNeg) (some q_3)) ((1 : Int32).toNatClampNeg) (some q_21))))))), (q_3, .inr (6, [.ref la_5, .ref me_10, .ref li_12, .int 4, .int 0, .int 0])), (la_5, .inr (2, [.ref ld_6, .ref lz_8])), (ld_6, .inr (4, [.ref ldA_7, .int 0])), (ldA_7, .inl (K_19, 9, .inl (fun _ => 0))), (lz_8, .inr (4, [.ref lzA_9, .int 0])), (lzA_9, .inl (K_19, 41, .inl (fun _ => 0))), (me_10, .inr (4, [.ref meA_11, .int 0])), (meA_11, .inl (K_19, 41, .inl (fun _ => 0))), (li_12, .inr (0, [.ref ln_13, .ref ll_15, .ref lc_17])), (ln_13, .inr (4, [.ref lnA_14, .int 0])), (lnA_14, .inl (K_19, 10, .inl (fun _ => 0))), (ll_15, .inr (4, [.ref llA_16, .int 0])), (llA_16, .inl (K_19, 10, .inl (fun _ => 0))), (lc_17, .inr (4, [.ref lcA_18, .int 0])), (lcA_18, .inl (K_19, 10, .inl (fun _ => 0)))] H := hP.sub [0, 1, 2, 3, 4, 5, 6, 7, 8, 9, 10, 11, 12, 13, 14, 15, 16] rfl
  have hD : va_D A [(h, .inr (5, [.ref q_1, .int 0, .int 0])), (q_1, .inl (K_2, 6, .inr (.inr (.inr (.inr (va_up (va_up (fun _ => none) ((0 : Int32).toNatClampNeg) (some q_3)) ((1 : Int32).toNatClampNeg) (some q_21))))))), (q_3, .inr (6, [.ref la_5, .ref me_10, .ref li_12, .int 4, .int 0, .int 0])), (la_5, .inr (2, [.ref ld_6, .ref lz_8])), (ld_6, .inr (4, [.ref ldA_7, .int 0])), (ldA_7, .inl (K_19, 9, .inl (fun _ => 0))), (lz_8, .inr (4, [.ref lzA_9, .int 0])), (lzA_9, .inl (K_19, 41, .inl (fun _ => 0))), (me_10, .inr (4, [.ref meA_11, .int 0])), (meA_11, .inl (K_19, 41, .inl (fun _ => 0))), (li_12, .inr (0, [.ref ln_13, .ref ll_15, .ref lc_17])), (ln_13, .inr (4, [.ref lnA_14, .int 0])), (lnA_14, .inl (K_19, 10, .inl (fun _ => 0))), (ll_15, .inr (4, [.ref llA_16, .int 0])), (llA_16, .inl (K_19, 10, .inl (fun _ => 0))), (lc_17, .inr (4, [.ref lcA_18, .int 0])), (lcA_18, .inl (K_19, 10, .inl (fun _ => 0)))] := hD.sub [0, 1, 2, 3, 4, 5, 6, 7, 8, 9, 10, 11, 12, 13, 14, 15, 16] (by decide) rfl
  refine lv_iinc (v := 2) (lv' := [(1, .int 2), (0, .ref h)]) hx hb dX5_init_37 hl (k := 0) rfl (by decide) (by decide) rfl (fun ls hl => ?_)
  refine lv_goto (tgt := 15) hx hb dX5_init_40 (by decide) ?_
  refine lv_iload_n hx hb dX5_init_15 rfl (lv_at hl 0 rfl) ?_
  refine lv_aload_n hx hb dX5_init_16 rfl (lv_at hl 1 rfl) ?_
  refine va_get (D := D) (ci := 5) (v := .ref q_1) (C := RX5) (T := TX5) (N := 3) hx hb ht inA_X5 hown hK hP 0 rfl rfl 0 (by decide) (ht _ lf_X5_11) (fun _ h9 => h9) rfl dX5_init_17 ?_
  refine va_alen (v := 6) hx hb hK hP 1 0 rfl rfl rfl dX5_init_20 ?_
  refine lv_icmp_ge (tgt := 43) hx hb dX5_init_21 (by decide) (fun c9 => absurd c9 (by decide)) (fun _ => ?_)
  refine lv_aload_n hx hb dX5_init_24 rfl (lv_at hl 1 rfl) ?_
  refine va_get (D := D) (ci := 5) (v := .ref q_1) (C := RX5) (T := TX5) (N := 3) hx hb ht inA_X5 hown hK hP 0 rfl rfl 0 (by decide) (ht _ lf_X5_11) (fun _ h9 => h9) rfl dX5_init_25 ?_
  refine lv_iload_n hx hb dX5_init_28 rfl (lv_at hl 0 rfl) ?_
  refine va_new (ci := 6) (fs := [.null, .null, .null, .int 0, .int 0, .int 0]) (C := RX6) (T := TX6) (N := 6) hx hb ht inA_X6 tyX6 tyX6_ok hown (ht _ lc_X5_9) (ht _ lt_BarcodeWand_State) (ht _ li_BarcodeWand_State) hK hP hD hS hA rfl (fun j hj => by rcases (show j = 0 ∨ j = 1 ∨ j = 2 ∨ j = 3 ∨ j = 4 ∨ j = 5 by omega) with rfl | rfl | rfl | rfl | rfl | rfl <;> rfl) (Nat.le_of_ble_eq_true rfl) (Nat.le_of_ble_eq_true rfl) dX5_init_29 (fun q_39 H hP hD hS => ?_)
  have hP : va_P D vwCl [(h, .inr (5, [.ref q_1, .int 0, .int 0])), (q_1, .inl (K_2, 6, .inr (.inr (.inr (.inr (va_up (va_up (fun _ => none) ((0 : Int32).toNatClampNeg) (some q_3)) ((1 : Int32).toNatClampNeg) (some q_21))))))), (q_3, .inr (6, [.ref la_5, .ref me_10, .ref li_12, .int 4, .int 0, .int 0])), (la_5, .inr (2, [.ref ld_6, .ref lz_8])), (ld_6, .inr (4, [.ref ldA_7, .int 0])), (ldA_7, .inl (K_19, 9, .inl (fun _ => 0))), (lz_8, .inr (4, [.ref lzA_9, .int 0])), (lzA_9, .inl (K_19, 41, .inl (fun _ => 0))), (me_10, .inr (4, [.ref meA_11, .int 0])), (meA_11, .inl (K_19, 41, .inl (fun _ => 0))), (li_12, .inr (0, [.ref ln_13, .ref ll_15, .ref lc_17])), (ln_13, .inr (4, [.ref lnA_14, .int 0])), (lnA_14, .inl (K_19, 10, .inl (fun _ => 0))), (ll_15, .inr (4, [.ref llA_16, .int 0])), (llA_16, .inl (K_19, 10, .inl (fun _ => 0))), (lc_17, .inr (4, [.ref lcA_18, .int 0])), (lcA_18, .inl (K_19, 10, .inl (fun _ => 0))), (q_39, .inr (6, [.null, .null, .null, .int 0, .int 0, .int 0]))] H := hP
  have hD : va_D A [(h, .inr (5, [.ref q_1, .int 0, .int 0])), (q_1, .inl (K_2, 6, .inr (.inr (.inr (.inr (va_up (va_up (fun _ => none) ((0 : Int32).toNatClampNeg) (some q_3)) ((1 : Int32).toNatClampNeg) (some q_21))))))), (q_3, .inr (6, [.ref la_5, .ref me_10, .ref li_12, .int 4, .int 0, .int 0])), (la_5, .inr (2, [.ref ld_6, .ref lz_8])), (ld_6, .inr (4, [.ref ldA_7, .int 0])), (ldA_7, .inl (K_19, 9, .inl (fun _ => 0))), (lz_8, .inr (4, [.ref lzA_9, .int 0])), (lzA_9, .inl (K_19, 41, .inl (fun _ => 0))), (me_10, .inr (4, [.ref meA_11, .int 0])), (meA_11, .inl (K_19, 41, .inl (fun _ => 0))), (li_12, .inr (0, [.ref ln_13, .ref ll_15, .ref lc_17])), (ln_13, .inr (4, [.ref lnA_14, .int 0])), (lnA_14, .inl (K_19, 10, .inl (fun _ => 0))), (ll_15, .inr (4, [.ref llA_16, .int 0])), (llA_16, .inl (K_19, 10, .inl (fun _ => 0))), (lc_17, .inr (4, [.ref lcA_18, .int 0])), (lcA_18, .inl (K_19, 10, .inl (fun _ => 0))), (q_39, .inr (6, [.null, .null, .null, .int 0, .int 0, .int 0]))] := hD
  refine W.widen (k := 32) (n := 300) (Nat.le_of_ble_eq_true rfl) (Nat.le_of_ble_eq_true rfl) ?_
  refine lv_dup hx hb dX5_init_32 rfl ?_
  have ct := k_cut_of (wc := [(q_39, .inr (6, [.null, .null, .null, .int 0, .int 0, .int 0]))]) (wr := [(h, .inr (5, [.ref q_1, .int 0, .int 0])), (q_1, .inl (K_2, 6, .inr (.inr (.inr (.inr (va_up (va_up (fun _ => none) ((0 : Int32).toNatClampNeg) (some q_3)) ((1 : Int32).toNatClampNeg) (some q_21))))))), (q_3, .inr (6, [.ref la_5, .ref me_10, .ref li_12, .int 4, .int 0, .int 0])), (la_5, .inr (2, [.ref ld_6, .ref lz_8])), (ld_6, .inr (4, [.ref ldA_7, .int 0])), (ldA_7, .inl (K_19, 9, .inl (fun _ => 0))), (lz_8, .inr (4, [.ref lzA_9, .int 0])), (lzA_9, .inl (K_19, 41, .inl (fun _ => 0))), (me_10, .inr (4, [.ref meA_11, .int 0])), (meA_11, .inl (K_19, 41, .inl (fun _ => 0))), (li_12, .inr (0, [.ref ln_13, .ref ll_15, .ref lc_17])), (ln_13, .inr (4, [.ref lnA_14, .int 0])), (lnA_14, .inl (K_19, 10, .inl (fun _ => 0))), (ll_15, .inr (4, [.ref llA_16, .int 0])), (llA_16, .inl (K_19, 10, .inl (fun _ => 0))), (lc_17, .inr (4, [.ref lcA_18, .int 0])), (lcA_18, .inl (K_19, 10, .inl (fun _ => 0)))]) (tc := []) hG hS hA hK hP hD [17] [0, 1, 2, 3, 4, 5, 6, 7, 8, 9, 10, 11, 12, 13, 14, 15, 16] [] rfl rfl (by decide) (by decide) (by decide) rfl
  refine k_endv (As := [.ref q_39]) ct (k_runIN (As := []) (rest := [.ref q_39, .int 2, .ref q_1]) S0 Li_X5_17 ct (c_State_init l D q_39 H.size) hl.1 rfl (Nat.le_of_ble_eq_true rfl) rfl dX5_init_33 ⟨⟨Nat.le_of_ble_eq_true rfl, Nat.le_of_ble_eq_true rfl⟩, Nat.le_of_ble_eq_true rfl, Nat.le_of_ble_eq_true rfl⟩) rfl rfl (fun _ u H locs hw_56 hP hD hK hS => ?_)
  obtain ⟨la_41, ld_42, ldA_43, lz_44, lzA_45, me_46, meA_47, li_48, ln_49, lnA_50, ll_51, llA_52, lc_53, lcA_54, K_55⟩ := u
  have hK : va_K D vwCl [(K_2, .object "BarcodeWand$State"), (K_19, .int), (K_55, .int)] s := hK
  have hP : va_P D vwCl [(h, .inr (5, [.ref q_1, .int 0, .int 0])), (q_1, .inl (K_2, 6, .inr (.inr (.inr (.inr (va_up (va_up (fun _ => none) ((0 : Int32).toNatClampNeg) (some q_3)) ((1 : Int32).toNatClampNeg) (some q_21))))))), (q_3, .inr (6, [.ref la_5, .ref me_10, .ref li_12, .int 4, .int 0, .int 0])), (la_5, .inr (2, [.ref ld_6, .ref lz_8])), (ld_6, .inr (4, [.ref ldA_7, .int 0])), (ldA_7, .inl (K_19, 9, .inl (fun _ => 0))), (lz_8, .inr (4, [.ref lzA_9, .int 0])), (lzA_9, .inl (K_19, 41, .inl (fun _ => 0))), (me_10, .inr (4, [.ref meA_11, .int 0])), (meA_11, .inl (K_19, 41, .inl (fun _ => 0))), (li_12, .inr (0, [.ref ln_13, .ref ll_15, .ref lc_17])), (ln_13, .inr (4, [.ref lnA_14, .int 0])), (lnA_14, .inl (K_19, 10, .inl (fun _ => 0))), (ll_15, .inr (4, [.ref llA_16, .int 0])), (llA_16, .inl (K_19, 10, .inl (fun _ => 0))), (lc_17, .inr (4, [.ref lcA_18, .int 0])), (lcA_18, .inl (K_19, 10, .inl (fun _ => 0))), (q_39, .inr (6, [.ref la_41, .ref me_46, .ref li_48, .int 4, .int 0, .int 0])), (la_41, .inr (2, [.ref ld_42, .ref lz_44])), (ld_42, .inr (4, [.ref ldA_43, .int 0])), (ldA_43, .inl (K_55, 9, .inl (fun _ => 0))), (lz_44, .inr (4, [.ref lzA_45, .int 0])), (lzA_45, .inl (K_55, 41, .inl (fun _ => 0))), (me_46, .inr (4, [.ref meA_47, .int 0])), (meA_47, .inl (K_55, 41, .inl (fun _ => 0))), (li_48, .inr (0, [.ref ln_49, .ref ll_51, .ref lc_53])), (ln_49, .inr (4, [.ref lnA_50, .int 0])), (lnA_50, .inl (K_55, 10, .inl (fun _ => 0))), (ll_51, .inr (4, [.ref llA_52, .int 0])), (llA_52, .inl (K_55, 10, .inl (fun _ => 0))), (lc_53, .inr (4, [.ref lcA_54, .int 0])), (lcA_54, .inl (K_55, 10, .inl (fun _ => 0)))] H := hP
  have hD : va_D A [(h, .inr (5, [.ref q_1, .int 0, .int 0])), (q_1, .inl (K_2, 6, .inr (.inr (.inr (.inr (va_up (va_up (fun _ => none) ((0 : Int32).toNatClampNeg) (some q_3)) ((1 : Int32).toNatClampNeg) (some q_21))))))), (q_3, .inr (6, [.ref la_5, .ref me_10, .ref li_12, .int 4, .int 0, .int 0])), (la_5, .inr (2, [.ref ld_6, .ref lz_8])), (ld_6, .inr (4, [.ref ldA_7, .int 0])), (ldA_7, .inl (K_19, 9, .inl (fun _ => 0))), (lz_8, .inr (4, [.ref lzA_9, .int 0])), (lzA_9, .inl (K_19, 41, .inl (fun _ => 0))), (me_10, .inr (4, [.ref meA_11, .int 0])), (meA_11, .inl (K_19, 41, .inl (fun _ => 0))), (li_12, .inr (0, [.ref ln_13, .ref ll_15, .ref lc_17])), (ln_13, .inr (4, [.ref lnA_14, .int 0])), (lnA_14, .inl (K_19, 10, .inl (fun _ => 0))), (ll_15, .inr (4, [.ref llA_16, .int 0])), (llA_16, .inl (K_19, 10, .inl (fun _ => 0))), (lc_17, .inr (4, [.ref lcA_18, .int 0])), (lcA_18, .inl (K_19, 10, .inl (fun _ => 0))), (q_39, .inr (6, [.ref la_41, .ref me_46, .ref li_48, .int 4, .int 0, .int 0])), (la_41, .inr (2, [.ref ld_42, .ref lz_44])), (ld_42, .inr (4, [.ref ldA_43, .int 0])), (ldA_43, .inl (K_55, 9, .inl (fun _ => 0))), (lz_44, .inr (4, [.ref lzA_45, .int 0])), (lzA_45, .inl (K_55, 41, .inl (fun _ => 0))), (me_46, .inr (4, [.ref meA_47, .int 0])), (meA_47, .inl (K_55, 41, .inl (fun _ => 0))), (li_48, .inr (0, [.ref ln_49, .ref ll_51, .ref lc_53])), (ln_49, .inr (4, [.ref lnA_50, .int 0])), (lnA_50, .inl (K_55, 10, .inl (fun _ => 0))), (ll_51, .inr (4, [.ref llA_52, .int 0])), (llA_52, .inl (K_55, 10, .inl (fun _ => 0))), (lc_53, .inr (4, [.ref lcA_54, .int 0])), (lcA_54, .inl (K_55, 10, .inl (fun _ => 0)))] := hD
  obtain rfl : K_19 = K_55 := k_one hK (i := 1) (j := 2) rfl rfl
  have hK : va_K D vwCl [(K_2, .object "BarcodeWand$State"), (K_19, .int)] s := hK.sub [0, 1] rfl
  refine va_astq hx hb hK hP hD hS 1 0 17 6 rfl rfl rfl rfl (by unfold vp_in; decide) dX5_init_36 (fun H locs hP hD hS => ?_)
  have hP : va_P D vwCl [(h, .inr (5, [.ref q_1, .int 0, .int 0])), (q_1, .inl (K_2, 6, .inr (.inr (.inr (.inr (va_up (va_up (va_up (fun _ => none) ((0 : Int32).toNatClampNeg) (some q_3)) ((1 : Int32).toNatClampNeg) (some q_21)) ((2 : Int32).toNatClampNeg) (some q_39))))))), (q_3, .inr (6, [.ref la_5, .ref me_10, .ref li_12, .int 4, .int 0, .int 0])), (la_5, .inr (2, [.ref ld_6, .ref lz_8])), (ld_6, .inr (4, [.ref ldA_7, .int 0])), (ldA_7, .inl (K_19, 9, .inl (fun _ => 0))), (lz_8, .inr (4, [.ref lzA_9, .int 0])), (lzA_9, .inl (K_19, 41, .inl (fun _ => 0))), (me_10, .inr (4, [.ref meA_11, .int 0])), (meA_11, .inl (K_19, 41, .inl (fun _ => 0))), (li_12, .inr (0, [.ref ln_13, .ref ll_15, .ref lc_17])), (ln_13, .inr (4, [.ref lnA_14, .int 0])), (lnA_14, .inl (K_19, 10, .inl (fun _ => 0))), (ll_15, .inr (4, [.ref llA_16, .int 0])), (llA_16, .inl (K_19, 10, .inl (fun _ => 0))), (lc_17, .inr (4, [.ref lcA_18, .int 0])), (lcA_18, .inl (K_19, 10, .inl (fun _ => 0))), (q_39, .inr (6, [.ref la_41, .ref me_46, .ref li_48, .int 4, .int 0, .int 0])), (la_41, .inr (2, [.ref ld_42, .ref lz_44])), (ld_42, .inr (4, [.ref ldA_43, .int 0])), (ldA_43, .inl (K_19, 9, .inl (fun _ => 0))), (lz_44, .inr (4, [.ref lzA_45, .int 0])), (lzA_45, .inl (K_19, 41, .inl (fun _ => 0))), (me_46, .inr (4, [.ref meA_47, .int 0])), (meA_47, .inl (K_19, 41, .inl (fun _ => 0))), (li_48, .inr (0, [.ref ln_49, .ref ll_51, .ref lc_53])), (ln_49, .inr (4, [.ref lnA_50, .int 0])), (lnA_50, .inl (K_19, 10, .inl (fun _ => 0))), (ll_51, .inr (4, [.ref llA_52, .int 0])), (llA_52, .inl (K_19, 10, .inl (fun _ => 0))), (lc_53, .inr (4, [.ref lcA_54, .int 0])), (lcA_54, .inl (K_19, 10, .inl (fun _ => 0)))] H := hP
  have hD : va_D A [(h, .inr (5, [.ref q_1, .int 0, .int 0])), (q_1, .inl (K_2, 6, .inr (.inr (.inr (.inr (va_up (va_up (va_up (fun _ => none) ((0 : Int32).toNatClampNeg) (some q_3)) ((1 : Int32).toNatClampNeg) (some q_21)) ((2 : Int32).toNatClampNeg) (some q_39))))))), (q_3, .inr (6, [.ref la_5, .ref me_10, .ref li_12, .int 4, .int 0, .int 0])), (la_5, .inr (2, [.ref ld_6, .ref lz_8])), (ld_6, .inr (4, [.ref ldA_7, .int 0])), (ldA_7, .inl (K_19, 9, .inl (fun _ => 0))), (lz_8, .inr (4, [.ref lzA_9, .int 0])), (lzA_9, .inl (K_19, 41, .inl (fun _ => 0))), (me_10, .inr (4, [.ref meA_11, .int 0])), (meA_11, .inl (K_19, 41, .inl (fun _ => 0))), (li_12, .inr (0, [.ref ln_13, .ref ll_15, .ref lc_17])), (ln_13, .inr (4, [.ref lnA_14, .int 0])), (lnA_14, .inl (K_19, 10, .inl (fun _ => 0))), (ll_15, .inr (4, [.ref llA_16, .int 0])), (llA_16, .inl (K_19, 10, .inl (fun _ => 0))), (lc_17, .inr (4, [.ref lcA_18, .int 0])), (lcA_18, .inl (K_19, 10, .inl (fun _ => 0))), (q_39, .inr (6, [.ref la_41, .ref me_46, .ref li_48, .int 4, .int 0, .int 0])), (la_41, .inr (2, [.ref ld_42, .ref lz_44])), (ld_42, .inr (4, [.ref ldA_43, .int 0])), (ldA_43, .inl (K_19, 9, .inl (fun _ => 0))), (lz_44, .inr (4, [.ref lzA_45, .int 0])), (lzA_45, .inl (K_19, 41, .inl (fun _ => 0))), (me_46, .inr (4, [.ref meA_47, .int 0])), (meA_47, .inl (K_19, 41, .inl (fun _ => 0))), (li_48, .inr (0, [.ref ln_49, .ref ll_51, .ref lc_53])), (ln_49, .inr (4, [.ref lnA_50, .int 0])), (lnA_50, .inl (K_19, 10, .inl (fun _ => 0))), (ll_51, .inr (4, [.ref llA_52, .int 0])), (llA_52, .inl (K_19, 10, .inl (fun _ => 0))), (lc_53, .inr (4, [.ref lcA_54, .int 0])), (lcA_54, .inl (K_19, 10, .inl (fun _ => 0)))] := hD
  have hP : va_P D vwCl [(h, .inr (5, [.ref q_1, .int 0, .int 0])), (q_1, .inl (K_2, 6, .inr (.inr (.inr (.inr (va_up (va_up (va_up (fun _ => none) ((0 : Int32).toNatClampNeg) (some q_3)) ((1 : Int32).toNatClampNeg) (some q_21)) ((2 : Int32).toNatClampNeg) (some q_39))))))), (q_3, .inr (6, [.ref la_5, .ref me_10, .ref li_12, .int 4, .int 0, .int 0])), (la_5, .inr (2, [.ref ld_6, .ref lz_8])), (ld_6, .inr (4, [.ref ldA_7, .int 0])), (ldA_7, .inl (K_19, 9, .inl (fun _ => 0))), (lz_8, .inr (4, [.ref lzA_9, .int 0])), (lzA_9, .inl (K_19, 41, .inl (fun _ => 0))), (me_10, .inr (4, [.ref meA_11, .int 0])), (meA_11, .inl (K_19, 41, .inl (fun _ => 0))), (li_12, .inr (0, [.ref ln_13, .ref ll_15, .ref lc_17])), (ln_13, .inr (4, [.ref lnA_14, .int 0])), (lnA_14, .inl (K_19, 10, .inl (fun _ => 0))), (ll_15, .inr (4, [.ref llA_16, .int 0])), (llA_16, .inl (K_19, 10, .inl (fun _ => 0))), (lc_17, .inr (4, [.ref lcA_18, .int 0])), (lcA_18, .inl (K_19, 10, .inl (fun _ => 0)))] H := hP.sub [0, 1, 2, 3, 4, 5, 6, 7, 8, 9, 10, 11, 12, 13, 14, 15, 16] rfl
  have hD : va_D A [(h, .inr (5, [.ref q_1, .int 0, .int 0])), (q_1, .inl (K_2, 6, .inr (.inr (.inr (.inr (va_up (va_up (va_up (fun _ => none) ((0 : Int32).toNatClampNeg) (some q_3)) ((1 : Int32).toNatClampNeg) (some q_21)) ((2 : Int32).toNatClampNeg) (some q_39))))))), (q_3, .inr (6, [.ref la_5, .ref me_10, .ref li_12, .int 4, .int 0, .int 0])), (la_5, .inr (2, [.ref ld_6, .ref lz_8])), (ld_6, .inr (4, [.ref ldA_7, .int 0])), (ldA_7, .inl (K_19, 9, .inl (fun _ => 0))), (lz_8, .inr (4, [.ref lzA_9, .int 0])), (lzA_9, .inl (K_19, 41, .inl (fun _ => 0))), (me_10, .inr (4, [.ref meA_11, .int 0])), (meA_11, .inl (K_19, 41, .inl (fun _ => 0))), (li_12, .inr (0, [.ref ln_13, .ref ll_15, .ref lc_17])), (ln_13, .inr (4, [.ref lnA_14, .int 0])), (lnA_14, .inl (K_19, 10, .inl (fun _ => 0))), (ll_15, .inr (4, [.ref llA_16, .int 0])), (llA_16, .inl (K_19, 10, .inl (fun _ => 0))), (lc_17, .inr (4, [.ref lcA_18, .int 0])), (lcA_18, .inl (K_19, 10, .inl (fun _ => 0)))] := hD.sub [0, 1, 2, 3, 4, 5, 6, 7, 8, 9, 10, 11, 12, 13, 14, 15, 16] (by decide) rfl
  refine lv_iinc (v := 3) (lv' := [(1, .int 3), (0, .ref h)]) hx hb dX5_init_37 hl (k := 0) rfl (by decide) (by decide) rfl (fun ls hl => ?_)
  refine lv_goto (tgt := 15) hx hb dX5_init_40 (by decide) ?_
  refine lv_iload_n hx hb dX5_init_15 rfl (lv_at hl 0 rfl) ?_
  refine lv_aload_n hx hb dX5_init_16 rfl (lv_at hl 1 rfl) ?_
  refine va_get (D := D) (ci := 5) (v := .ref q_1) (C := RX5) (T := TX5) (N := 3) hx hb ht inA_X5 hown hK hP 0 rfl rfl 0 (by decide) (ht _ lf_X5_11) (fun _ h9 => h9) rfl dX5_init_17 ?_
  refine va_alen (v := 6) hx hb hK hP 1 0 rfl rfl rfl dX5_init_20 ?_
  refine lv_icmp_ge (tgt := 43) hx hb dX5_init_21 (by decide) (fun c9 => absurd c9 (by decide)) (fun _ => ?_)
  refine lv_aload_n hx hb dX5_init_24 rfl (lv_at hl 1 rfl) ?_
  refine va_get (D := D) (ci := 5) (v := .ref q_1) (C := RX5) (T := TX5) (N := 3) hx hb ht inA_X5 hown hK hP 0 rfl rfl 0 (by decide) (ht _ lf_X5_11) (fun _ h9 => h9) rfl dX5_init_25 ?_
  refine lv_iload_n hx hb dX5_init_28 rfl (lv_at hl 0 rfl) ?_
  refine va_new (ci := 6) (fs := [.null, .null, .null, .int 0, .int 0, .int 0]) (C := RX6) (T := TX6) (N := 6) hx hb ht inA_X6 tyX6 tyX6_ok hown (ht _ lc_X5_9) (ht _ lt_BarcodeWand_State) (ht _ li_BarcodeWand_State) hK hP hD hS hA rfl (fun j hj => by rcases (show j = 0 ∨ j = 1 ∨ j = 2 ∨ j = 3 ∨ j = 4 ∨ j = 5 by omega) with rfl | rfl | rfl | rfl | rfl | rfl <;> rfl) (Nat.le_of_ble_eq_true rfl) (Nat.le_of_ble_eq_true rfl) dX5_init_29 (fun q_57 H hP hD hS => ?_)
  have hP : va_P D vwCl [(h, .inr (5, [.ref q_1, .int 0, .int 0])), (q_1, .inl (K_2, 6, .inr (.inr (.inr (.inr (va_up (va_up (va_up (fun _ => none) ((0 : Int32).toNatClampNeg) (some q_3)) ((1 : Int32).toNatClampNeg) (some q_21)) ((2 : Int32).toNatClampNeg) (some q_39))))))), (q_3, .inr (6, [.ref la_5, .ref me_10, .ref li_12, .int 4, .int 0, .int 0])), (la_5, .inr (2, [.ref ld_6, .ref lz_8])), (ld_6, .inr (4, [.ref ldA_7, .int 0])), (ldA_7, .inl (K_19, 9, .inl (fun _ => 0))), (lz_8, .inr (4, [.ref lzA_9, .int 0])), (lzA_9, .inl (K_19, 41, .inl (fun _ => 0))), (me_10, .inr (4, [.ref meA_11, .int 0])), (meA_11, .inl (K_19, 41, .inl (fun _ => 0))), (li_12, .inr (0, [.ref ln_13, .ref ll_15, .ref lc_17])), (ln_13, .inr (4, [.ref lnA_14, .int 0])), (lnA_14, .inl (K_19, 10, .inl (fun _ => 0))), (ll_15, .inr (4, [.ref llA_16, .int 0])), (llA_16, .inl (K_19, 10, .inl (fun _ => 0))), (lc_17, .inr (4, [.ref lcA_18, .int 0])), (lcA_18, .inl (K_19, 10, .inl (fun _ => 0))), (q_57, .inr (6, [.null, .null, .null, .int 0, .int 0, .int 0]))] H := hP
  have hD : va_D A [(h, .inr (5, [.ref q_1, .int 0, .int 0])), (q_1, .inl (K_2, 6, .inr (.inr (.inr (.inr (va_up (va_up (va_up (fun _ => none) ((0 : Int32).toNatClampNeg) (some q_3)) ((1 : Int32).toNatClampNeg) (some q_21)) ((2 : Int32).toNatClampNeg) (some q_39))))))), (q_3, .inr (6, [.ref la_5, .ref me_10, .ref li_12, .int 4, .int 0, .int 0])), (la_5, .inr (2, [.ref ld_6, .ref lz_8])), (ld_6, .inr (4, [.ref ldA_7, .int 0])), (ldA_7, .inl (K_19, 9, .inl (fun _ => 0))), (lz_8, .inr (4, [.ref lzA_9, .int 0])), (lzA_9, .inl (K_19, 41, .inl (fun _ => 0))), (me_10, .inr (4, [.ref meA_11, .int 0])), (meA_11, .inl (K_19, 41, .inl (fun _ => 0))), (li_12, .inr (0, [.ref ln_13, .ref ll_15, .ref lc_17])), (ln_13, .inr (4, [.ref lnA_14, .int 0])), (lnA_14, .inl (K_19, 10, .inl (fun _ => 0))), (ll_15, .inr (4, [.ref llA_16, .int 0])), (llA_16, .inl (K_19, 10, .inl (fun _ => 0))), (lc_17, .inr (4, [.ref lcA_18, .int 0])), (lcA_18, .inl (K_19, 10, .inl (fun _ => 0))), (q_57, .inr (6, [.null, .null, .null, .int 0, .int 0, .int 0]))] := hD
  refine W.widen (k := 47) (n := 444) (Nat.le_of_ble_eq_true rfl) (Nat.le_of_ble_eq_true rfl) ?_
  refine lv_dup hx hb dX5_init_32 rfl ?_
  have ct := k_cut_of (wc := [(q_57, .inr (6, [.null, .null, .null, .int 0, .int 0, .int 0]))]) (wr := [(h, .inr (5, [.ref q_1, .int 0, .int 0])), (q_1, .inl (K_2, 6, .inr (.inr (.inr (.inr (va_up (va_up (va_up (fun _ => none) ((0 : Int32).toNatClampNeg) (some q_3)) ((1 : Int32).toNatClampNeg) (some q_21)) ((2 : Int32).toNatClampNeg) (some q_39))))))), (q_3, .inr (6, [.ref la_5, .ref me_10, .ref li_12, .int 4, .int 0, .int 0])), (la_5, .inr (2, [.ref ld_6, .ref lz_8])), (ld_6, .inr (4, [.ref ldA_7, .int 0])), (ldA_7, .inl (K_19, 9, .inl (fun _ => 0))), (lz_8, .inr (4, [.ref lzA_9, .int 0])), (lzA_9, .inl (K_19, 41, .inl (fun _ => 0))), (me_10, .inr (4, [.ref meA_11, .int 0])), (meA_11, .inl (K_19, 41, .inl (fun _ => 0))), (li_12, .inr (0, [.ref ln_13, .ref ll_15, .ref lc_17])), (ln_13, .inr (4, [.ref lnA_14, .int 0])), (lnA_14, .inl (K_19, 10, .inl (fun _ => 0))), (ll_15, .inr (4, [.ref llA_16, .int 0])), (llA_16, .inl (K_19, 10, .inl (fun _ => 0))), (lc_17, .inr (4, [.ref lcA_18, .int 0])), (lcA_18, .inl (K_19, 10, .inl (fun _ => 0)))]) (tc := []) hG hS hA hK hP hD [17] [0, 1, 2, 3, 4, 5, 6, 7, 8, 9, 10, 11, 12, 13, 14, 15, 16] [] rfl rfl (by decide) (by decide) (by decide) rfl
  refine k_endv (As := [.ref q_57]) ct (k_runIN (As := []) (rest := [.ref q_57, .int 3, .ref q_1]) S0 Li_X5_17 ct (c_State_init l D q_57 H.size) hl.1 rfl (Nat.le_of_ble_eq_true rfl) rfl dX5_init_33 ⟨⟨Nat.le_of_ble_eq_true rfl, Nat.le_of_ble_eq_true rfl⟩, Nat.le_of_ble_eq_true rfl, Nat.le_of_ble_eq_true rfl⟩) rfl rfl (fun _ u H locs hw_74 hP hD hK hS => ?_)
  obtain ⟨la_59, ld_60, ldA_61, lz_62, lzA_63, me_64, meA_65, li_66, ln_67, lnA_68, ll_69, llA_70, lc_71, lcA_72, K_73⟩ := u
  have hK : va_K D vwCl [(K_2, .object "BarcodeWand$State"), (K_19, .int), (K_73, .int)] s := hK
  have hP : va_P D vwCl [(h, .inr (5, [.ref q_1, .int 0, .int 0])), (q_1, .inl (K_2, 6, .inr (.inr (.inr (.inr (va_up (va_up (va_up (fun _ => none) ((0 : Int32).toNatClampNeg) (some q_3)) ((1 : Int32).toNatClampNeg) (some q_21)) ((2 : Int32).toNatClampNeg) (some q_39))))))), (q_3, .inr (6, [.ref la_5, .ref me_10, .ref li_12, .int 4, .int 0, .int 0])), (la_5, .inr (2, [.ref ld_6, .ref lz_8])), (ld_6, .inr (4, [.ref ldA_7, .int 0])), (ldA_7, .inl (K_19, 9, .inl (fun _ => 0))), (lz_8, .inr (4, [.ref lzA_9, .int 0])), (lzA_9, .inl (K_19, 41, .inl (fun _ => 0))), (me_10, .inr (4, [.ref meA_11, .int 0])), (meA_11, .inl (K_19, 41, .inl (fun _ => 0))), (li_12, .inr (0, [.ref ln_13, .ref ll_15, .ref lc_17])), (ln_13, .inr (4, [.ref lnA_14, .int 0])), (lnA_14, .inl (K_19, 10, .inl (fun _ => 0))), (ll_15, .inr (4, [.ref llA_16, .int 0])), (llA_16, .inl (K_19, 10, .inl (fun _ => 0))), (lc_17, .inr (4, [.ref lcA_18, .int 0])), (lcA_18, .inl (K_19, 10, .inl (fun _ => 0))), (q_57, .inr (6, [.ref la_59, .ref me_64, .ref li_66, .int 4, .int 0, .int 0])), (la_59, .inr (2, [.ref ld_60, .ref lz_62])), (ld_60, .inr (4, [.ref ldA_61, .int 0])), (ldA_61, .inl (K_73, 9, .inl (fun _ => 0))), (lz_62, .inr (4, [.ref lzA_63, .int 0])), (lzA_63, .inl (K_73, 41, .inl (fun _ => 0))), (me_64, .inr (4, [.ref meA_65, .int 0])), (meA_65, .inl (K_73, 41, .inl (fun _ => 0))), (li_66, .inr (0, [.ref ln_67, .ref ll_69, .ref lc_71])), (ln_67, .inr (4, [.ref lnA_68, .int 0])), (lnA_68, .inl (K_73, 10, .inl (fun _ => 0))), (ll_69, .inr (4, [.ref llA_70, .int 0])), (llA_70, .inl (K_73, 10, .inl (fun _ => 0))), (lc_71, .inr (4, [.ref lcA_72, .int 0])), (lcA_72, .inl (K_73, 10, .inl (fun _ => 0)))] H := hP
  have hD : va_D A [(h, .inr (5, [.ref q_1, .int 0, .int 0])), (q_1, .inl (K_2, 6, .inr (.inr (.inr (.inr (va_up (va_up (va_up (fun _ => none) ((0 : Int32).toNatClampNeg) (some q_3)) ((1 : Int32).toNatClampNeg) (some q_21)) ((2 : Int32).toNatClampNeg) (some q_39))))))), (q_3, .inr (6, [.ref la_5, .ref me_10, .ref li_12, .int 4, .int 0, .int 0])), (la_5, .inr (2, [.ref ld_6, .ref lz_8])), (ld_6, .inr (4, [.ref ldA_7, .int 0])), (ldA_7, .inl (K_19, 9, .inl (fun _ => 0))), (lz_8, .inr (4, [.ref lzA_9, .int 0])), (lzA_9, .inl (K_19, 41, .inl (fun _ => 0))), (me_10, .inr (4, [.ref meA_11, .int 0])), (meA_11, .inl (K_19, 41, .inl (fun _ => 0))), (li_12, .inr (0, [.ref ln_13, .ref ll_15, .ref lc_17])), (ln_13, .inr (4, [.ref lnA_14, .int 0])), (lnA_14, .inl (K_19, 10, .inl (fun _ => 0))), (ll_15, .inr (4, [.ref llA_16, .int 0])), (llA_16, .inl (K_19, 10, .inl (fun _ => 0))), (lc_17, .inr (4, [.ref lcA_18, .int 0])), (lcA_18, .inl (K_19, 10, .inl (fun _ => 0))), (q_57, .inr (6, [.ref la_59, .ref me_64, .ref li_66, .int 4, .int 0, .int 0])), (la_59, .inr (2, [.ref ld_60, .ref lz_62])), (ld_60, .inr (4, [.ref ldA_61, .int 0])), (ldA_61, .inl (K_73, 9, .inl (fun _ => 0))), (lz_62, .inr (4, [.ref lzA_63, .int 0])), (lzA_63, .inl (K_73, 41, .inl (fun _ => 0))), (me_64, .inr (4, [.ref meA_65, .int 0])), (meA_65, .inl (K_73, 41, .inl (fun _ => 0))), (li_66, .inr (0, [.ref ln_67, .ref ll_69, .ref lc_71])), (ln_67, .inr (4, [.ref lnA_68, .int 0])), (lnA_68, .inl (K_73, 10, .inl (fun _ => 0))), (ll_69, .inr (4, [.ref llA_70, .int 0])), (llA_70, .inl (K_73, 10, .inl (fun _ => 0))), (lc_71, .inr (4, [.ref lcA_72, .int 0])), (lcA_72, .inl (K_73, 10, .inl (fun _ => 0)))] := hD
  obtain rfl : K_19 = K_73 := k_one hK (i := 1) (j := 2) rfl rfl
  have hK : va_K D vwCl [(K_2, .object "BarcodeWand$State"), (K_19, .int)] s := hK.sub [0, 1] rfl
  refine va_astq hx hb hK hP hD hS 1 0 17 6 rfl rfl rfl rfl (by unfold vp_in; decide) dX5_init_36 (fun H locs hP hD hS => ?_)
  have hP : va_P D vwCl [(h, .inr (5, [.ref q_1, .int 0, .int 0])), (q_1, .inl (K_2, 6, .inr (.inr (.inr (.inr (va_up (va_up (va_up (va_up (fun _ => none) ((0 : Int32).toNatClampNeg) (some q_3)) ((1 : Int32).toNatClampNeg) (some q_21)) ((2 : Int32).toNatClampNeg) (some q_39)) ((3 : Int32).toNatClampNeg) (some q_57))))))), (q_3, .inr (6, [.ref la_5, .ref me_10, .ref li_12, .int 4, .int 0, .int 0])), (la_5, .inr (2, [.ref ld_6, .ref lz_8])), (ld_6, .inr (4, [.ref ldA_7, .int 0])), (ldA_7, .inl (K_19, 9, .inl (fun _ => 0))), (lz_8, .inr (4, [.ref lzA_9, .int 0])), (lzA_9, .inl (K_19, 41, .inl (fun _ => 0))), (me_10, .inr (4, [.ref meA_11, .int 0])), (meA_11, .inl (K_19, 41, .inl (fun _ => 0))), (li_12, .inr (0, [.ref ln_13, .ref ll_15, .ref lc_17])), (ln_13, .inr (4, [.ref lnA_14, .int 0])), (lnA_14, .inl (K_19, 10, .inl (fun _ => 0))), (ll_15, .inr (4, [.ref llA_16, .int 0])), (llA_16, .inl (K_19, 10, .inl (fun _ => 0))), (lc_17, .inr (4, [.ref lcA_18, .int 0])), (lcA_18, .inl (K_19, 10, .inl (fun _ => 0))), (q_57, .inr (6, [.ref la_59, .ref me_64, .ref li_66, .int 4, .int 0, .int 0])), (la_59, .inr (2, [.ref ld_60, .ref lz_62])), (ld_60, .inr (4, [.ref ldA_61, .int 0])), (ldA_61, .inl (K_19, 9, .inl (fun _ => 0))), (lz_62, .inr (4, [.ref lzA_63, .int 0])), (lzA_63, .inl (K_19, 41, .inl (fun _ => 0))), (me_64, .inr (4, [.ref meA_65, .int 0])), (meA_65, .inl (K_19, 41, .inl (fun _ => 0))), (li_66, .inr (0, [.ref ln_67, .ref ll_69, .ref lc_71])), (ln_67, .inr (4, [.ref lnA_68, .int 0])), (lnA_68, .inl (K_19, 10, .inl (fun _ => 0))), (ll_69, .inr (4, [.ref llA_70, .int 0])), (llA_70, .inl (K_19, 10, .inl (fun _ => 0))), (lc_71, .inr (4, [.ref lcA_72, .int 0])), (lcA_72, .inl (K_19, 10, .inl (fun _ => 0)))] H := hP
  have hD : va_D A [(h, .inr (5, [.ref q_1, .int 0, .int 0])), (q_1, .inl (K_2, 6, .inr (.inr (.inr (.inr (va_up (va_up (va_up (va_up (fun _ => none) ((0 : Int32).toNatClampNeg) (some q_3)) ((1 : Int32).toNatClampNeg) (some q_21)) ((2 : Int32).toNatClampNeg) (some q_39)) ((3 : Int32).toNatClampNeg) (some q_57))))))), (q_3, .inr (6, [.ref la_5, .ref me_10, .ref li_12, .int 4, .int 0, .int 0])), (la_5, .inr (2, [.ref ld_6, .ref lz_8])), (ld_6, .inr (4, [.ref ldA_7, .int 0])), (ldA_7, .inl (K_19, 9, .inl (fun _ => 0))), (lz_8, .inr (4, [.ref lzA_9, .int 0])), (lzA_9, .inl (K_19, 41, .inl (fun _ => 0))), (me_10, .inr (4, [.ref meA_11, .int 0])), (meA_11, .inl (K_19, 41, .inl (fun _ => 0))), (li_12, .inr (0, [.ref ln_13, .ref ll_15, .ref lc_17])), (ln_13, .inr (4, [.ref lnA_14, .int 0])), (lnA_14, .inl (K_19, 10, .inl (fun _ => 0))), (ll_15, .inr (4, [.ref llA_16, .int 0])), (llA_16, .inl (K_19, 10, .inl (fun _ => 0))), (lc_17, .inr (4, [.ref lcA_18, .int 0])), (lcA_18, .inl (K_19, 10, .inl (fun _ => 0))), (q_57, .inr (6, [.ref la_59, .ref me_64, .ref li_66, .int 4, .int 0, .int 0])), (la_59, .inr (2, [.ref ld_60, .ref lz_62])), (ld_60, .inr (4, [.ref ldA_61, .int 0])), (ldA_61, .inl (K_19, 9, .inl (fun _ => 0))), (lz_62, .inr (4, [.ref lzA_63, .int 0])), (lzA_63, .inl (K_19, 41, .inl (fun _ => 0))), (me_64, .inr (4, [.ref meA_65, .int 0])), (meA_65, .inl (K_19, 41, .inl (fun _ => 0))), (li_66, .inr (0, [.ref ln_67, .ref ll_69, .ref lc_71])), (ln_67, .inr (4, [.ref lnA_68, .int 0])), (lnA_68, .inl (K_19, 10, .inl (fun _ => 0))), (ll_69, .inr (4, [.ref llA_70, .int 0])), (llA_70, .inl (K_19, 10, .inl (fun _ => 0))), (lc_71, .inr (4, [.ref lcA_72, .int 0])), (lcA_72, .inl (K_19, 10, .inl (fun _ => 0)))] := hD
  have hP : va_P D vwCl [(h, .inr (5, [.ref q_1, .int 0, .int 0])), (q_1, .inl (K_2, 6, .inr (.inr (.inr (.inr (va_up (va_up (va_up (va_up (fun _ => none) ((0 : Int32).toNatClampNeg) (some q_3)) ((1 : Int32).toNatClampNeg) (some q_21)) ((2 : Int32).toNatClampNeg) (some q_39)) ((3 : Int32).toNatClampNeg) (some q_57))))))), (q_3, .inr (6, [.ref la_5, .ref me_10, .ref li_12, .int 4, .int 0, .int 0])), (la_5, .inr (2, [.ref ld_6, .ref lz_8])), (ld_6, .inr (4, [.ref ldA_7, .int 0])), (ldA_7, .inl (K_19, 9, .inl (fun _ => 0))), (lz_8, .inr (4, [.ref lzA_9, .int 0])), (lzA_9, .inl (K_19, 41, .inl (fun _ => 0))), (me_10, .inr (4, [.ref meA_11, .int 0])), (meA_11, .inl (K_19, 41, .inl (fun _ => 0))), (li_12, .inr (0, [.ref ln_13, .ref ll_15, .ref lc_17])), (ln_13, .inr (4, [.ref lnA_14, .int 0])), (lnA_14, .inl (K_19, 10, .inl (fun _ => 0))), (ll_15, .inr (4, [.ref llA_16, .int 0])), (llA_16, .inl (K_19, 10, .inl (fun _ => 0))), (lc_17, .inr (4, [.ref lcA_18, .int 0])), (lcA_18, .inl (K_19, 10, .inl (fun _ => 0)))] H := hP.sub [0, 1, 2, 3, 4, 5, 6, 7, 8, 9, 10, 11, 12, 13, 14, 15, 16] rfl
  have hD : va_D A [(h, .inr (5, [.ref q_1, .int 0, .int 0])), (q_1, .inl (K_2, 6, .inr (.inr (.inr (.inr (va_up (va_up (va_up (va_up (fun _ => none) ((0 : Int32).toNatClampNeg) (some q_3)) ((1 : Int32).toNatClampNeg) (some q_21)) ((2 : Int32).toNatClampNeg) (some q_39)) ((3 : Int32).toNatClampNeg) (some q_57))))))), (q_3, .inr (6, [.ref la_5, .ref me_10, .ref li_12, .int 4, .int 0, .int 0])), (la_5, .inr (2, [.ref ld_6, .ref lz_8])), (ld_6, .inr (4, [.ref ldA_7, .int 0])), (ldA_7, .inl (K_19, 9, .inl (fun _ => 0))), (lz_8, .inr (4, [.ref lzA_9, .int 0])), (lzA_9, .inl (K_19, 41, .inl (fun _ => 0))), (me_10, .inr (4, [.ref meA_11, .int 0])), (meA_11, .inl (K_19, 41, .inl (fun _ => 0))), (li_12, .inr (0, [.ref ln_13, .ref ll_15, .ref lc_17])), (ln_13, .inr (4, [.ref lnA_14, .int 0])), (lnA_14, .inl (K_19, 10, .inl (fun _ => 0))), (ll_15, .inr (4, [.ref llA_16, .int 0])), (llA_16, .inl (K_19, 10, .inl (fun _ => 0))), (lc_17, .inr (4, [.ref lcA_18, .int 0])), (lcA_18, .inl (K_19, 10, .inl (fun _ => 0)))] := hD.sub [0, 1, 2, 3, 4, 5, 6, 7, 8, 9, 10, 11, 12, 13, 14, 15, 16] (by decide) rfl
  refine lv_iinc (v := 4) (lv' := [(1, .int 4), (0, .ref h)]) hx hb dX5_init_37 hl (k := 0) rfl (by decide) (by decide) rfl (fun ls hl => ?_)
  refine lv_goto (tgt := 15) hx hb dX5_init_40 (by decide) ?_
  refine lv_iload_n hx hb dX5_init_15 rfl (lv_at hl 0 rfl) ?_
  refine lv_aload_n hx hb dX5_init_16 rfl (lv_at hl 1 rfl) ?_
  refine va_get (D := D) (ci := 5) (v := .ref q_1) (C := RX5) (T := TX5) (N := 3) hx hb ht inA_X5 hown hK hP 0 rfl rfl 0 (by decide) (ht _ lf_X5_11) (fun _ h9 => h9) rfl dX5_init_17 ?_
  refine va_alen (v := 6) hx hb hK hP 1 0 rfl rfl rfl dX5_init_20 ?_
  refine lv_icmp_ge (tgt := 43) hx hb dX5_init_21 (by decide) (fun c9 => absurd c9 (by decide)) (fun _ => ?_)
  refine lv_aload_n hx hb dX5_init_24 rfl (lv_at hl 1 rfl) ?_
  refine va_get (D := D) (ci := 5) (v := .ref q_1) (C := RX5) (T := TX5) (N := 3) hx hb ht inA_X5 hown hK hP 0 rfl rfl 0 (by decide) (ht _ lf_X5_11) (fun _ h9 => h9) rfl dX5_init_25 ?_
  refine lv_iload_n hx hb dX5_init_28 rfl (lv_at hl 0 rfl) ?_
  refine va_new (ci := 6) (fs := [.null, .null, .null, .int 0, .int 0, .int 0]) (C := RX6) (T := TX6) (N := 6) hx hb ht inA_X6 tyX6 tyX6_ok hown (ht _ lc_X5_9) (ht _ lt_BarcodeWand_State) (ht _ li_BarcodeWand_State) hK hP hD hS hA rfl (fun j hj => by rcases (show j = 0 ∨ j = 1 ∨ j = 2 ∨ j = 3 ∨ j = 4 ∨ j = 5 by omega) with rfl | rfl | rfl | rfl | rfl | rfl <;> rfl) (Nat.le_of_ble_eq_true rfl) (Nat.le_of_ble_eq_true rfl) dX5_init_29 (fun q_75 H hP hD hS => ?_)
  have hP : va_P D vwCl [(h, .inr (5, [.ref q_1, .int 0, .int 0])), (q_1, .inl (K_2, 6, .inr (.inr (.inr (.inr (va_up (va_up (va_up (va_up (fun _ => none) ((0 : Int32).toNatClampNeg) (some q_3)) ((1 : Int32).toNatClampNeg) (some q_21)) ((2 : Int32).toNatClampNeg) (some q_39)) ((3 : Int32).toNatClampNeg) (some q_57))))))), (q_3, .inr (6, [.ref la_5, .ref me_10, .ref li_12, .int 4, .int 0, .int 0])), (la_5, .inr (2, [.ref ld_6, .ref lz_8])), (ld_6, .inr (4, [.ref ldA_7, .int 0])), (ldA_7, .inl (K_19, 9, .inl (fun _ => 0))), (lz_8, .inr (4, [.ref lzA_9, .int 0])), (lzA_9, .inl (K_19, 41, .inl (fun _ => 0))), (me_10, .inr (4, [.ref meA_11, .int 0])), (meA_11, .inl (K_19, 41, .inl (fun _ => 0))), (li_12, .inr (0, [.ref ln_13, .ref ll_15, .ref lc_17])), (ln_13, .inr (4, [.ref lnA_14, .int 0])), (lnA_14, .inl (K_19, 10, .inl (fun _ => 0))), (ll_15, .inr (4, [.ref llA_16, .int 0])), (llA_16, .inl (K_19, 10, .inl (fun _ => 0))), (lc_17, .inr (4, [.ref lcA_18, .int 0])), (lcA_18, .inl (K_19, 10, .inl (fun _ => 0))), (q_75, .inr (6, [.null, .null, .null, .int 0, .int 0, .int 0]))] H := hP
  have hD : va_D A [(h, .inr (5, [.ref q_1, .int 0, .int 0])), (q_1, .inl (K_2, 6, .inr (.inr (.inr (.inr (va_up (va_up (va_up (va_up (fun _ => none) ((0 : Int32).toNatClampNeg) (some q_3)) ((1 : Int32).toNatClampNeg) (some q_21)) ((2 : Int32).toNatClampNeg) (some q_39)) ((3 : Int32).toNatClampNeg) (some q_57))))))), (q_3, .inr (6, [.ref la_5, .ref me_10, .ref li_12, .int 4, .int 0, .int 0])), (la_5, .inr (2, [.ref ld_6, .ref lz_8])), (ld_6, .inr (4, [.ref ldA_7, .int 0])), (ldA_7, .inl (K_19, 9, .inl (fun _ => 0))), (lz_8, .inr (4, [.ref lzA_9, .int 0])), (lzA_9, .inl (K_19, 41, .inl (fun _ => 0))), (me_10, .inr (4, [.ref meA_11, .int 0])), (meA_11, .inl (K_19, 41, .inl (fun _ => 0))), (li_12, .inr (0, [.ref ln_13, .ref ll_15, .ref lc_17])), (ln_13, .inr (4, [.ref lnA_14, .int 0])), (lnA_14, .inl (K_19, 10, .inl (fun _ => 0))), (ll_15, .inr (4, [.ref llA_16, .int 0])), (llA_16, .inl (K_19, 10, .inl (fun _ => 0))), (lc_17, .inr (4, [.ref lcA_18, .int 0])), (lcA_18, .inl (K_19, 10, .inl (fun _ => 0))), (q_75, .inr (6, [.null, .null, .null, .int 0, .int 0, .int 0]))] := hD
  refine W.widen (k := 62) (n := 588) (Nat.le_of_ble_eq_true rfl) (Nat.le_of_ble_eq_true rfl) ?_
  refine lv_dup hx hb dX5_init_32 rfl ?_
  have ct := k_cut_of (wc := [(q_75, .inr (6, [.null, .null, .null, .int 0, .int 0, .int 0]))]) (wr := [(h, .inr (5, [.ref q_1, .int 0, .int 0])), (q_1, .inl (K_2, 6, .inr (.inr (.inr (.inr (va_up (va_up (va_up (va_up (fun _ => none) ((0 : Int32).toNatClampNeg) (some q_3)) ((1 : Int32).toNatClampNeg) (some q_21)) ((2 : Int32).toNatClampNeg) (some q_39)) ((3 : Int32).toNatClampNeg) (some q_57))))))), (q_3, .inr (6, [.ref la_5, .ref me_10, .ref li_12, .int 4, .int 0, .int 0])), (la_5, .inr (2, [.ref ld_6, .ref lz_8])), (ld_6, .inr (4, [.ref ldA_7, .int 0])), (ldA_7, .inl (K_19, 9, .inl (fun _ => 0))), (lz_8, .inr (4, [.ref lzA_9, .int 0])), (lzA_9, .inl (K_19, 41, .inl (fun _ => 0))), (me_10, .inr (4, [.ref meA_11, .int 0])), (meA_11, .inl (K_19, 41, .inl (fun _ => 0))), (li_12, .inr (0, [.ref ln_13, .ref ll_15, .ref lc_17])), (ln_13, .inr (4, [.ref lnA_14, .int 0])), (lnA_14, .inl (K_19, 10, .inl (fun _ => 0))), (ll_15, .inr (4, [.ref llA_16, .int 0])), (llA_16, .inl (K_19, 10, .inl (fun _ => 0))), (lc_17, .inr (4, [.ref lcA_18, .int 0])), (lcA_18, .inl (K_19, 10, .inl (fun _ => 0)))]) (tc := []) hG hS hA hK hP hD [17] [0, 1, 2, 3, 4, 5, 6, 7, 8, 9, 10, 11, 12, 13, 14, 15, 16] [] rfl rfl (by decide) (by decide) (by decide) rfl
  refine k_endv (As := [.ref q_75]) ct (k_runIN (As := []) (rest := [.ref q_75, .int 4, .ref q_1]) S0 Li_X5_17 ct (c_State_init l D q_75 H.size) hl.1 rfl (Nat.le_of_ble_eq_true rfl) rfl dX5_init_33 ⟨⟨Nat.le_of_ble_eq_true rfl, Nat.le_of_ble_eq_true rfl⟩, Nat.le_of_ble_eq_true rfl, Nat.le_of_ble_eq_true rfl⟩) rfl rfl (fun _ u H locs hw_92 hP hD hK hS => ?_)
  obtain ⟨la_77, ld_78, ldA_79, lz_80, lzA_81, me_82, meA_83, li_84, ln_85, lnA_86, ll_87, llA_88, lc_89, lcA_90, K_91⟩ := u
  have hK : va_K D vwCl [(K_2, .object "BarcodeWand$State"), (K_19, .int), (K_91, .int)] s := hK
  have hP : va_P D vwCl [(h, .inr (5, [.ref q_1, .int 0, .int 0])), (q_1, .inl (K_2, 6, .inr (.inr (.inr (.inr (va_up (va_up (va_up (va_up (fun _ => none) ((0 : Int32).toNatClampNeg) (some q_3)) ((1 : Int32).toNatClampNeg) (some q_21)) ((2 : Int32).toNatClampNeg) (some q_39)) ((3 : Int32).toNatClampNeg) (some q_57))))))), (q_3, .inr (6, [.ref la_5, .ref me_10, .ref li_12, .int 4, .int 0, .int 0])), (la_5, .inr (2, [.ref ld_6, .ref lz_8])), (ld_6, .inr (4, [.ref ldA_7, .int 0])), (ldA_7, .inl (K_19, 9, .inl (fun _ => 0))), (lz_8, .inr (4, [.ref lzA_9, .int 0])), (lzA_9, .inl (K_19, 41, .inl (fun _ => 0))), (me_10, .inr (4, [.ref meA_11, .int 0])), (meA_11, .inl (K_19, 41, .inl (fun _ => 0))), (li_12, .inr (0, [.ref ln_13, .ref ll_15, .ref lc_17])), (ln_13, .inr (4, [.ref lnA_14, .int 0])), (lnA_14, .inl (K_19, 10, .inl (fun _ => 0))), (ll_15, .inr (4, [.ref llA_16, .int 0])), (llA_16, .inl (K_19, 10, .inl (fun _ => 0))), (lc_17, .inr (4, [.ref lcA_18, .int 0])), (lcA_18, .inl (K_19, 10, .inl (fun _ => 0))), (q_75, .inr (6, [.ref la_77, .ref me_82, .ref li_84, .int 4, .int 0, .int 0])), (la_77, .inr (2, [.ref ld_78, .ref lz_80])), (ld_78, .inr (4, [.ref ldA_79, .int 0])), (ldA_79, .inl (K_91, 9, .inl (fun _ => 0))), (lz_80, .inr (4, [.ref lzA_81, .int 0])), (lzA_81, .inl (K_91, 41, .inl (fun _ => 0))), (me_82, .inr (4, [.ref meA_83, .int 0])), (meA_83, .inl (K_91, 41, .inl (fun _ => 0))), (li_84, .inr (0, [.ref ln_85, .ref ll_87, .ref lc_89])), (ln_85, .inr (4, [.ref lnA_86, .int 0])), (lnA_86, .inl (K_91, 10, .inl (fun _ => 0))), (ll_87, .inr (4, [.ref llA_88, .int 0])), (llA_88, .inl (K_91, 10, .inl (fun _ => 0))), (lc_89, .inr (4, [.ref lcA_90, .int 0])), (lcA_90, .inl (K_91, 10, .inl (fun _ => 0)))] H := hP
  have hD : va_D A [(h, .inr (5, [.ref q_1, .int 0, .int 0])), (q_1, .inl (K_2, 6, .inr (.inr (.inr (.inr (va_up (va_up (va_up (va_up (fun _ => none) ((0 : Int32).toNatClampNeg) (some q_3)) ((1 : Int32).toNatClampNeg) (some q_21)) ((2 : Int32).toNatClampNeg) (some q_39)) ((3 : Int32).toNatClampNeg) (some q_57))))))), (q_3, .inr (6, [.ref la_5, .ref me_10, .ref li_12, .int 4, .int 0, .int 0])), (la_5, .inr (2, [.ref ld_6, .ref lz_8])), (ld_6, .inr (4, [.ref ldA_7, .int 0])), (ldA_7, .inl (K_19, 9, .inl (fun _ => 0))), (lz_8, .inr (4, [.ref lzA_9, .int 0])), (lzA_9, .inl (K_19, 41, .inl (fun _ => 0))), (me_10, .inr (4, [.ref meA_11, .int 0])), (meA_11, .inl (K_19, 41, .inl (fun _ => 0))), (li_12, .inr (0, [.ref ln_13, .ref ll_15, .ref lc_17])), (ln_13, .inr (4, [.ref lnA_14, .int 0])), (lnA_14, .inl (K_19, 10, .inl (fun _ => 0))), (ll_15, .inr (4, [.ref llA_16, .int 0])), (llA_16, .inl (K_19, 10, .inl (fun _ => 0))), (lc_17, .inr (4, [.ref lcA_18, .int 0])), (lcA_18, .inl (K_19, 10, .inl (fun _ => 0))), (q_75, .inr (6, [.ref la_77, .ref me_82, .ref li_84, .int 4, .int 0, .int 0])), (la_77, .inr (2, [.ref ld_78, .ref lz_80])), (ld_78, .inr (4, [.ref ldA_79, .int 0])), (ldA_79, .inl (K_91, 9, .inl (fun _ => 0))), (lz_80, .inr (4, [.ref lzA_81, .int 0])), (lzA_81, .inl (K_91, 41, .inl (fun _ => 0))), (me_82, .inr (4, [.ref meA_83, .int 0])), (meA_83, .inl (K_91, 41, .inl (fun _ => 0))), (li_84, .inr (0, [.ref ln_85, .ref ll_87, .ref lc_89])), (ln_85, .inr (4, [.ref lnA_86, .int 0])), (lnA_86, .inl (K_91, 10, .inl (fun _ => 0))), (ll_87, .inr (4, [.ref llA_88, .int 0])), (llA_88, .inl (K_91, 10, .inl (fun _ => 0))), (lc_89, .inr (4, [.ref lcA_90, .int 0])), (lcA_90, .inl (K_91, 10, .inl (fun _ => 0)))] := hD
  obtain rfl : K_19 = K_91 := k_one hK (i := 1) (j := 2) rfl rfl
  have hK : va_K D vwCl [(K_2, .object "BarcodeWand$State"), (K_19, .int)] s := hK.sub [0, 1] rfl
  refine va_astq hx hb hK hP hD hS 1 0 17 6 rfl rfl rfl rfl (by unfold vp_in; decide) dX5_init_36 (fun H locs hP hD hS => ?_)
  have hP : va_P D vwCl [(h, .inr (5, [.ref q_1, .int 0, .int 0])), (q_1, .inl (K_2, 6, .inr (.inr (.inr (.inr (va_up (va_up (va_up (va_up (va_up (fun _ => none) ((0 : Int32).toNatClampNeg) (some q_3)) ((1 : Int32).toNatClampNeg) (some q_21)) ((2 : Int32).toNatClampNeg) (some q_39)) ((3 : Int32).toNatClampNeg) (some q_57)) ((4 : Int32).toNatClampNeg) (some q_75))))))), (q_3, .inr (6, [.ref la_5, .ref me_10, .ref li_12, .int 4, .int 0, .int 0])), (la_5, .inr (2, [.ref ld_6, .ref lz_8])), (ld_6, .inr (4, [.ref ldA_7, .int 0])), (ldA_7, .inl (K_19, 9, .inl (fun _ => 0))), (lz_8, .inr (4, [.ref lzA_9, .int 0])), (lzA_9, .inl (K_19, 41, .inl (fun _ => 0))), (me_10, .inr (4, [.ref meA_11, .int 0])), (meA_11, .inl (K_19, 41, .inl (fun _ => 0))), (li_12, .inr (0, [.ref ln_13, .ref ll_15, .ref lc_17])), (ln_13, .inr (4, [.ref lnA_14, .int 0])), (lnA_14, .inl (K_19, 10, .inl (fun _ => 0))), (ll_15, .inr (4, [.ref llA_16, .int 0])), (llA_16, .inl (K_19, 10, .inl (fun _ => 0))), (lc_17, .inr (4, [.ref lcA_18, .int 0])), (lcA_18, .inl (K_19, 10, .inl (fun _ => 0))), (q_75, .inr (6, [.ref la_77, .ref me_82, .ref li_84, .int 4, .int 0, .int 0])), (la_77, .inr (2, [.ref ld_78, .ref lz_80])), (ld_78, .inr (4, [.ref ldA_79, .int 0])), (ldA_79, .inl (K_19, 9, .inl (fun _ => 0))), (lz_80, .inr (4, [.ref lzA_81, .int 0])), (lzA_81, .inl (K_19, 41, .inl (fun _ => 0))), (me_82, .inr (4, [.ref meA_83, .int 0])), (meA_83, .inl (K_19, 41, .inl (fun _ => 0))), (li_84, .inr (0, [.ref ln_85, .ref ll_87, .ref lc_89])), (ln_85, .inr (4, [.ref lnA_86, .int 0])), (lnA_86, .inl (K_19, 10, .inl (fun _ => 0))), (ll_87, .inr (4, [.ref llA_88, .int 0])), (llA_88, .inl (K_19, 10, .inl (fun _ => 0))), (lc_89, .inr (4, [.ref lcA_90, .int 0])), (lcA_90, .inl (K_19, 10, .inl (fun _ => 0)))] H := hP
  have hD : va_D A [(h, .inr (5, [.ref q_1, .int 0, .int 0])), (q_1, .inl (K_2, 6, .inr (.inr (.inr (.inr (va_up (va_up (va_up (va_up (va_up (fun _ => none) ((0 : Int32).toNatClampNeg) (some q_3)) ((1 : Int32).toNatClampNeg) (some q_21)) ((2 : Int32).toNatClampNeg) (some q_39)) ((3 : Int32).toNatClampNeg) (some q_57)) ((4 : Int32).toNatClampNeg) (some q_75))))))), (q_3, .inr (6, [.ref la_5, .ref me_10, .ref li_12, .int 4, .int 0, .int 0])), (la_5, .inr (2, [.ref ld_6, .ref lz_8])), (ld_6, .inr (4, [.ref ldA_7, .int 0])), (ldA_7, .inl (K_19, 9, .inl (fun _ => 0))), (lz_8, .inr (4, [.ref lzA_9, .int 0])), (lzA_9, .inl (K_19, 41, .inl (fun _ => 0))), (me_10, .inr (4, [.ref meA_11, .int 0])), (meA_11, .inl (K_19, 41, .inl (fun _ => 0))), (li_12, .inr (0, [.ref ln_13, .ref ll_15, .ref lc_17])), (ln_13, .inr (4, [.ref lnA_14, .int 0])), (lnA_14, .inl (K_19, 10, .inl (fun _ => 0))), (ll_15, .inr (4, [.ref llA_16, .int 0])), (llA_16, .inl (K_19, 10, .inl (fun _ => 0))), (lc_17, .inr (4, [.ref lcA_18, .int 0])), (lcA_18, .inl (K_19, 10, .inl (fun _ => 0))), (q_75, .inr (6, [.ref la_77, .ref me_82, .ref li_84, .int 4, .int 0, .int 0])), (la_77, .inr (2, [.ref ld_78, .ref lz_80])), (ld_78, .inr (4, [.ref ldA_79, .int 0])), (ldA_79, .inl (K_19, 9, .inl (fun _ => 0))), (lz_80, .inr (4, [.ref lzA_81, .int 0])), (lzA_81, .inl (K_19, 41, .inl (fun _ => 0))), (me_82, .inr (4, [.ref meA_83, .int 0])), (meA_83, .inl (K_19, 41, .inl (fun _ => 0))), (li_84, .inr (0, [.ref ln_85, .ref ll_87, .ref lc_89])), (ln_85, .inr (4, [.ref lnA_86, .int 0])), (lnA_86, .inl (K_19, 10, .inl (fun _ => 0))), (ll_87, .inr (4, [.ref llA_88, .int 0])), (llA_88, .inl (K_19, 10, .inl (fun _ => 0))), (lc_89, .inr (4, [.ref lcA_90, .int 0])), (lcA_90, .inl (K_19, 10, .inl (fun _ => 0)))] := hD
  have hP : va_P D vwCl [(h, .inr (5, [.ref q_1, .int 0, .int 0])), (q_1, .inl (K_2, 6, .inr (.inr (.inr (.inr (va_up (va_up (va_up (va_up (va_up (fun _ => none) ((0 : Int32).toNatClampNeg) (some q_3)) ((1 : Int32).toNatClampNeg) (some q_21)) ((2 : Int32).toNatClampNeg) (some q_39)) ((3 : Int32).toNatClampNeg) (some q_57)) ((4 : Int32).toNatClampNeg) (some q_75))))))), (q_3, .inr (6, [.ref la_5, .ref me_10, .ref li_12, .int 4, .int 0, .int 0])), (la_5, .inr (2, [.ref ld_6, .ref lz_8])), (ld_6, .inr (4, [.ref ldA_7, .int 0])), (ldA_7, .inl (K_19, 9, .inl (fun _ => 0))), (lz_8, .inr (4, [.ref lzA_9, .int 0])), (lzA_9, .inl (K_19, 41, .inl (fun _ => 0))), (me_10, .inr (4, [.ref meA_11, .int 0])), (meA_11, .inl (K_19, 41, .inl (fun _ => 0))), (li_12, .inr (0, [.ref ln_13, .ref ll_15, .ref lc_17])), (ln_13, .inr (4, [.ref lnA_14, .int 0])), (lnA_14, .inl (K_19, 10, .inl (fun _ => 0))), (ll_15, .inr (4, [.ref llA_16, .int 0])), (llA_16, .inl (K_19, 10, .inl (fun _ => 0))), (lc_17, .inr (4, [.ref lcA_18, .int 0])), (lcA_18, .inl (K_19, 10, .inl (fun _ => 0)))] H := hP.sub [0, 1, 2, 3, 4, 5, 6, 7, 8, 9, 10, 11, 12, 13, 14, 15, 16] rfl
  have hD : va_D A [(h, .inr (5, [.ref q_1, .int 0, .int 0])), (q_1, .inl (K_2, 6, .inr (.inr (.inr (.inr (va_up (va_up (va_up (va_up (va_up (fun _ => none) ((0 : Int32).toNatClampNeg) (some q_3)) ((1 : Int32).toNatClampNeg) (some q_21)) ((2 : Int32).toNatClampNeg) (some q_39)) ((3 : Int32).toNatClampNeg) (some q_57)) ((4 : Int32).toNatClampNeg) (some q_75))))))), (q_3, .inr (6, [.ref la_5, .ref me_10, .ref li_12, .int 4, .int 0, .int 0])), (la_5, .inr (2, [.ref ld_6, .ref lz_8])), (ld_6, .inr (4, [.ref ldA_7, .int 0])), (ldA_7, .inl (K_19, 9, .inl (fun _ => 0))), (lz_8, .inr (4, [.ref lzA_9, .int 0])), (lzA_9, .inl (K_19, 41, .inl (fun _ => 0))), (me_10, .inr (4, [.ref meA_11, .int 0])), (meA_11, .inl (K_19, 41, .inl (fun _ => 0))), (li_12, .inr (0, [.ref ln_13, .ref ll_15, .ref lc_17])), (ln_13, .inr (4, [.ref lnA_14, .int 0])), (lnA_14, .inl (K_19, 10, .inl (fun _ => 0))), (ll_15, .inr (4, [.ref llA_16, .int 0])), (llA_16, .inl (K_19, 10, .inl (fun _ => 0))), (lc_17, .inr (4, [.ref lcA_18, .int 0])), (lcA_18, .inl (K_19, 10, .inl (fun _ => 0)))] := hD.sub [0, 1, 2, 3, 4, 5, 6, 7, 8, 9, 10, 11, 12, 13, 14, 15, 16] (by decide) rfl
  refine lv_iinc (v := 5) (lv' := [(1, .int 5), (0, .ref h)]) hx hb dX5_init_37 hl (k := 0) rfl (by decide) (by decide) rfl (fun ls hl => ?_)
  refine lv_goto (tgt := 15) hx hb dX5_init_40 (by decide) ?_
  refine lv_iload_n hx hb dX5_init_15 rfl (lv_at hl 0 rfl) ?_
  refine lv_aload_n hx hb dX5_init_16 rfl (lv_at hl 1 rfl) ?_
  refine va_get (D := D) (ci := 5) (v := .ref q_1) (C := RX5) (T := TX5) (N := 3) hx hb ht inA_X5 hown hK hP 0 rfl rfl 0 (by decide) (ht _ lf_X5_11) (fun _ h9 => h9) rfl dX5_init_17 ?_
  refine va_alen (v := 6) hx hb hK hP 1 0 rfl rfl rfl dX5_init_20 ?_
  refine lv_icmp_ge (tgt := 43) hx hb dX5_init_21 (by decide) (fun c9 => absurd c9 (by decide)) (fun _ => ?_)
  refine lv_aload_n hx hb dX5_init_24 rfl (lv_at hl 1 rfl) ?_
  refine va_get (D := D) (ci := 5) (v := .ref q_1) (C := RX5) (T := TX5) (N := 3) hx hb ht inA_X5 hown hK hP 0 rfl rfl 0 (by decide) (ht _ lf_X5_11) (fun _ h9 => h9) rfl dX5_init_25 ?_
  refine lv_iload_n hx hb dX5_init_28 rfl (lv_at hl 0 rfl) ?_
  refine va_new (ci := 6) (fs := [.null, .null, .null, .int 0, .int 0, .int 0]) (C := RX6) (T := TX6) (N := 6) hx hb ht inA_X6 tyX6 tyX6_ok hown (ht _ lc_X5_9) (ht _ lt_BarcodeWand_State) (ht _ li_BarcodeWand_State) hK hP hD hS hA rfl (fun j hj => by rcases (show j = 0 ∨ j = 1 ∨ j = 2 ∨ j = 3 ∨ j = 4 ∨ j = 5 by omega) with rfl | rfl | rfl | rfl | rfl | rfl <;> rfl) (Nat.le_of_ble_eq_true rfl) (Nat.le_of_ble_eq_true rfl) dX5_init_29 (fun q_93 H hP hD hS => ?_)
  have hP : va_P D vwCl [(h, .inr (5, [.ref q_1, .int 0, .int 0])), (q_1, .inl (K_2, 6, .inr (.inr (.inr (.inr (va_up (va_up (va_up (va_up (va_up (fun _ => none) ((0 : Int32).toNatClampNeg) (some q_3)) ((1 : Int32).toNatClampNeg) (some q_21)) ((2 : Int32).toNatClampNeg) (some q_39)) ((3 : Int32).toNatClampNeg) (some q_57)) ((4 : Int32).toNatClampNeg) (some q_75))))))), (q_3, .inr (6, [.ref la_5, .ref me_10, .ref li_12, .int 4, .int 0, .int 0])), (la_5, .inr (2, [.ref ld_6, .ref lz_8])), (ld_6, .inr (4, [.ref ldA_7, .int 0])), (ldA_7, .inl (K_19, 9, .inl (fun _ => 0))), (lz_8, .inr (4, [.ref lzA_9, .int 0])), (lzA_9, .inl (K_19, 41, .inl (fun _ => 0))), (me_10, .inr (4, [.ref meA_11, .int 0])), (meA_11, .inl (K_19, 41, .inl (fun _ => 0))), (li_12, .inr (0, [.ref ln_13, .ref ll_15, .ref lc_17])), (ln_13, .inr (4, [.ref lnA_14, .int 0])), (lnA_14, .inl (K_19, 10, .inl (fun _ => 0))), (ll_15, .inr (4, [.ref llA_16, .int 0])), (llA_16, .inl (K_19, 10, .inl (fun _ => 0))), (lc_17, .inr (4, [.ref lcA_18, .int 0])), (lcA_18, .inl (K_19, 10, .inl (fun _ => 0))), (q_93, .inr (6, [.null, .null, .null, .int 0, .int 0, .int 0]))] H := hP
  have hD : va_D A [(h, .inr (5, [.ref q_1, .int 0, .int 0])), (q_1, .inl (K_2, 6, .inr (.inr (.inr (.inr (va_up (va_up (va_up (va_up (va_up (fun _ => none) ((0 : Int32).toNatClampNeg) (some q_3)) ((1 : Int32).toNatClampNeg) (some q_21)) ((2 : Int32).toNatClampNeg) (some q_39)) ((3 : Int32).toNatClampNeg) (some q_57)) ((4 : Int32).toNatClampNeg) (some q_75))))))), (q_3, .inr (6, [.ref la_5, .ref me_10, .ref li_12, .int 4, .int 0, .int 0])), (la_5, .inr (2, [.ref ld_6, .ref lz_8])), (ld_6, .inr (4, [.ref ldA_7, .int 0])), (ldA_7, .inl (K_19, 9, .inl (fun _ => 0))), (lz_8, .inr (4, [.ref lzA_9, .int 0])), (lzA_9, .inl (K_19, 41, .inl (fun _ => 0))), (me_10, .inr (4, [.ref meA_11, .int 0])), (meA_11, .inl (K_19, 41, .inl (fun _ => 0))), (li_12, .inr (0, [.ref ln_13, .ref ll_15, .ref lc_17])), (ln_13, .inr (4, [.ref lnA_14, .int 0])), (lnA_14, .inl (K_19, 10, .inl (fun _ => 0))), (ll_15, .inr (4, [.ref llA_16, .int 0])), (llA_16, .inl (K_19, 10, .inl (fun _ => 0))), (lc_17, .inr (4, [.ref lcA_18, .int 0])), (lcA_18, .inl (K_19, 10, .inl (fun _ => 0))), (q_93, .inr (6, [.null, .null, .null, .int 0, .int 0, .int 0]))] := hD
  refine W.widen (k := 77) (n := 732) (Nat.le_of_ble_eq_true rfl) (Nat.le_of_ble_eq_true rfl) ?_
  refine lv_dup hx hb dX5_init_32 rfl ?_
  have ct := k_cut_of (wc := [(q_93, .inr (6, [.null, .null, .null, .int 0, .int 0, .int 0]))]) (wr := [(h, .inr (5, [.ref q_1, .int 0, .int 0])), (q_1, .inl (K_2, 6, .inr (.inr (.inr (.inr (va_up (va_up (va_up (va_up (va_up (fun _ => none) ((0 : Int32).toNatClampNeg) (some q_3)) ((1 : Int32).toNatClampNeg) (some q_21)) ((2 : Int32).toNatClampNeg) (some q_39)) ((3 : Int32).toNatClampNeg) (some q_57)) ((4 : Int32).toNatClampNeg) (some q_75))))))), (q_3, .inr (6, [.ref la_5, .ref me_10, .ref li_12, .int 4, .int 0, .int 0])), (la_5, .inr (2, [.ref ld_6, .ref lz_8])), (ld_6, .inr (4, [.ref ldA_7, .int 0])), (ldA_7, .inl (K_19, 9, .inl (fun _ => 0))), (lz_8, .inr (4, [.ref lzA_9, .int 0])), (lzA_9, .inl (K_19, 41, .inl (fun _ => 0))), (me_10, .inr (4, [.ref meA_11, .int 0])), (meA_11, .inl (K_19, 41, .inl (fun _ => 0))), (li_12, .inr (0, [.ref ln_13, .ref ll_15, .ref lc_17])), (ln_13, .inr (4, [.ref lnA_14, .int 0])), (lnA_14, .inl (K_19, 10, .inl (fun _ => 0))), (ll_15, .inr (4, [.ref llA_16, .int 0])), (llA_16, .inl (K_19, 10, .inl (fun _ => 0))), (lc_17, .inr (4, [.ref lcA_18, .int 0])), (lcA_18, .inl (K_19, 10, .inl (fun _ => 0)))]) (tc := []) hG hS hA hK hP hD [17] [0, 1, 2, 3, 4, 5, 6, 7, 8, 9, 10, 11, 12, 13, 14, 15, 16] [] rfl rfl (by decide) (by decide) (by decide) rfl
  refine k_endv (As := [.ref q_93]) ct (k_runIN (As := []) (rest := [.ref q_93, .int 5, .ref q_1]) S0 Li_X5_17 ct (c_State_init l D q_93 H.size) hl.1 rfl (Nat.le_of_ble_eq_true rfl) rfl dX5_init_33 ⟨⟨Nat.le_of_ble_eq_true rfl, Nat.le_of_ble_eq_true rfl⟩, Nat.le_of_ble_eq_true rfl, Nat.le_of_ble_eq_true rfl⟩) rfl rfl (fun _ u H locs hw_110 hP hD hK hS => ?_)
  obtain ⟨la_95, ld_96, ldA_97, lz_98, lzA_99, me_100, meA_101, li_102, ln_103, lnA_104, ll_105, llA_106, lc_107, lcA_108, K_109⟩ := u
  have hK : va_K D vwCl [(K_2, .object "BarcodeWand$State"), (K_19, .int), (K_109, .int)] s := hK
  have hP : va_P D vwCl [(h, .inr (5, [.ref q_1, .int 0, .int 0])), (q_1, .inl (K_2, 6, .inr (.inr (.inr (.inr (va_up (va_up (va_up (va_up (va_up (fun _ => none) ((0 : Int32).toNatClampNeg) (some q_3)) ((1 : Int32).toNatClampNeg) (some q_21)) ((2 : Int32).toNatClampNeg) (some q_39)) ((3 : Int32).toNatClampNeg) (some q_57)) ((4 : Int32).toNatClampNeg) (some q_75))))))), (q_3, .inr (6, [.ref la_5, .ref me_10, .ref li_12, .int 4, .int 0, .int 0])), (la_5, .inr (2, [.ref ld_6, .ref lz_8])), (ld_6, .inr (4, [.ref ldA_7, .int 0])), (ldA_7, .inl (K_19, 9, .inl (fun _ => 0))), (lz_8, .inr (4, [.ref lzA_9, .int 0])), (lzA_9, .inl (K_19, 41, .inl (fun _ => 0))), (me_10, .inr (4, [.ref meA_11, .int 0])), (meA_11, .inl (K_19, 41, .inl (fun _ => 0))), (li_12, .inr (0, [.ref ln_13, .ref ll_15, .ref lc_17])), (ln_13, .inr (4, [.ref lnA_14, .int 0])), (lnA_14, .inl (K_19, 10, .inl (fun _ => 0))), (ll_15, .inr (4, [.ref llA_16, .int 0])), (llA_16, .inl (K_19, 10, .inl (fun _ => 0))), (lc_17, .inr (4, [.ref lcA_18, .int 0])), (lcA_18, .inl (K_19, 10, .inl (fun _ => 0))), (q_93, .inr (6, [.ref la_95, .ref me_100, .ref li_102, .int 4, .int 0, .int 0])), (la_95, .inr (2, [.ref ld_96, .ref lz_98])), (ld_96, .inr (4, [.ref ldA_97, .int 0])), (ldA_97, .inl (K_109, 9, .inl (fun _ => 0))), (lz_98, .inr (4, [.ref lzA_99, .int 0])), (lzA_99, .inl (K_109, 41, .inl (fun _ => 0))), (me_100, .inr (4, [.ref meA_101, .int 0])), (meA_101, .inl (K_109, 41, .inl (fun _ => 0))), (li_102, .inr (0, [.ref ln_103, .ref ll_105, .ref lc_107])), (ln_103, .inr (4, [.ref lnA_104, .int 0])), (lnA_104, .inl (K_109, 10, .inl (fun _ => 0))), (ll_105, .inr (4, [.ref llA_106, .int 0])), (llA_106, .inl (K_109, 10, .inl (fun _ => 0))), (lc_107, .inr (4, [.ref lcA_108, .int 0])), (lcA_108, .inl (K_109, 10, .inl (fun _ => 0)))] H := hP
  have hD : va_D A [(h, .inr (5, [.ref q_1, .int 0, .int 0])), (q_1, .inl (K_2, 6, .inr (.inr (.inr (.inr (va_up (va_up (va_up (va_up (va_up (fun _ => none) ((0 : Int32).toNatClampNeg) (some q_3)) ((1 : Int32).toNatClampNeg) (some q_21)) ((2 : Int32).toNatClampNeg) (some q_39)) ((3 : Int32).toNatClampNeg) (some q_57)) ((4 : Int32).toNatClampNeg) (some q_75))))))), (q_3, .inr (6, [.ref la_5, .ref me_10, .ref li_12, .int 4, .int 0, .int 0])), (la_5, .inr (2, [.ref ld_6, .ref lz_8])), (ld_6, .inr (4, [.ref ldA_7, .int 0])), (ldA_7, .inl (K_19, 9, .inl (fun _ => 0))), (lz_8, .inr (4, [.ref lzA_9, .int 0])), (lzA_9, .inl (K_19, 41, .inl (fun _ => 0))), (me_10, .inr (4, [.ref meA_11, .int 0])), (meA_11, .inl (K_19, 41, .inl (fun _ => 0))), (li_12, .inr (0, [.ref ln_13, .ref ll_15, .ref lc_17])), (ln_13, .inr (4, [.ref lnA_14, .int 0])), (lnA_14, .inl (K_19, 10, .inl (fun _ => 0))), (ll_15, .inr (4, [.ref llA_16, .int 0])), (llA_16, .inl (K_19, 10, .inl (fun _ => 0))), (lc_17, .inr (4, [.ref lcA_18, .int 0])), (lcA_18, .inl (K_19, 10, .inl (fun _ => 0))), (q_93, .inr (6, [.ref la_95, .ref me_100, .ref li_102, .int 4, .int 0, .int 0])), (la_95, .inr (2, [.ref ld_96, .ref lz_98])), (ld_96, .inr (4, [.ref ldA_97, .int 0])), (ldA_97, .inl (K_109, 9, .inl (fun _ => 0))), (lz_98, .inr (4, [.ref lzA_99, .int 0])), (lzA_99, .inl (K_109, 41, .inl (fun _ => 0))), (me_100, .inr (4, [.ref meA_101, .int 0])), (meA_101, .inl (K_109, 41, .inl (fun _ => 0))), (li_102, .inr (0, [.ref ln_103, .ref ll_105, .ref lc_107])), (ln_103, .inr (4, [.ref lnA_104, .int 0])), (lnA_104, .inl (K_109, 10, .inl (fun _ => 0))), (ll_105, .inr (4, [.ref llA_106, .int 0])), (llA_106, .inl (K_109, 10, .inl (fun _ => 0))), (lc_107, .inr (4, [.ref lcA_108, .int 0])), (lcA_108, .inl (K_109, 10, .inl (fun _ => 0)))] := hD
  obtain rfl : K_19 = K_109 := k_one hK (i := 1) (j := 2) rfl rfl
  have hK : va_K D vwCl [(K_2, .object "BarcodeWand$State"), (K_19, .int)] s := hK.sub [0, 1] rfl
  refine va_astq hx hb hK hP hD hS 1 0 17 6 rfl rfl rfl rfl (by unfold vp_in; decide) dX5_init_36 (fun H locs hP hD hS => ?_)
  have hP : va_P D vwCl [(h, .inr (5, [.ref q_1, .int 0, .int 0])), (q_1, .inl (K_2, 6, .inr (.inr (.inr (.inr (va_up (va_up (va_up (va_up (va_up (va_up (fun _ => none) ((0 : Int32).toNatClampNeg) (some q_3)) ((1 : Int32).toNatClampNeg) (some q_21)) ((2 : Int32).toNatClampNeg) (some q_39)) ((3 : Int32).toNatClampNeg) (some q_57)) ((4 : Int32).toNatClampNeg) (some q_75)) ((5 : Int32).toNatClampNeg) (some q_93))))))), (q_3, .inr (6, [.ref la_5, .ref me_10, .ref li_12, .int 4, .int 0, .int 0])), (la_5, .inr (2, [.ref ld_6, .ref lz_8])), (ld_6, .inr (4, [.ref ldA_7, .int 0])), (ldA_7, .inl (K_19, 9, .inl (fun _ => 0))), (lz_8, .inr (4, [.ref lzA_9, .int 0])), (lzA_9, .inl (K_19, 41, .inl (fun _ => 0))), (me_10, .inr (4, [.ref meA_11, .int 0])), (meA_11, .inl (K_19, 41, .inl (fun _ => 0))), (li_12, .inr (0, [.ref ln_13, .ref ll_15, .ref lc_17])), (ln_13, .inr (4, [.ref lnA_14, .int 0])), (lnA_14, .inl (K_19, 10, .inl (fun _ => 0))), (ll_15, .inr (4, [.ref llA_16, .int 0])), (llA_16, .inl (K_19, 10, .inl (fun _ => 0))), (lc_17, .inr (4, [.ref lcA_18, .int 0])), (lcA_18, .inl (K_19, 10, .inl (fun _ => 0))), (q_93, .inr (6, [.ref la_95, .ref me_100, .ref li_102, .int 4, .int 0, .int 0])), (la_95, .inr (2, [.ref ld_96, .ref lz_98])), (ld_96, .inr (4, [.ref ldA_97, .int 0])), (ldA_97, .inl (K_19, 9, .inl (fun _ => 0))), (lz_98, .inr (4, [.ref lzA_99, .int 0])), (lzA_99, .inl (K_19, 41, .inl (fun _ => 0))), (me_100, .inr (4, [.ref meA_101, .int 0])), (meA_101, .inl (K_19, 41, .inl (fun _ => 0))), (li_102, .inr (0, [.ref ln_103, .ref ll_105, .ref lc_107])), (ln_103, .inr (4, [.ref lnA_104, .int 0])), (lnA_104, .inl (K_19, 10, .inl (fun _ => 0))), (ll_105, .inr (4, [.ref llA_106, .int 0])), (llA_106, .inl (K_19, 10, .inl (fun _ => 0))), (lc_107, .inr (4, [.ref lcA_108, .int 0])), (lcA_108, .inl (K_19, 10, .inl (fun _ => 0)))] H := hP
  have hD : va_D A [(h, .inr (5, [.ref q_1, .int 0, .int 0])), (q_1, .inl (K_2, 6, .inr (.inr (.inr (.inr (va_up (va_up (va_up (va_up (va_up (va_up (fun _ => none) ((0 : Int32).toNatClampNeg) (some q_3)) ((1 : Int32).toNatClampNeg) (some q_21)) ((2 : Int32).toNatClampNeg) (some q_39)) ((3 : Int32).toNatClampNeg) (some q_57)) ((4 : Int32).toNatClampNeg) (some q_75)) ((5 : Int32).toNatClampNeg) (some q_93))))))), (q_3, .inr (6, [.ref la_5, .ref me_10, .ref li_12, .int 4, .int 0, .int 0])), (la_5, .inr (2, [.ref ld_6, .ref lz_8])), (ld_6, .inr (4, [.ref ldA_7, .int 0])), (ldA_7, .inl (K_19, 9, .inl (fun _ => 0))), (lz_8, .inr (4, [.ref lzA_9, .int 0])), (lzA_9, .inl (K_19, 41, .inl (fun _ => 0))), (me_10, .inr (4, [.ref meA_11, .int 0])), (meA_11, .inl (K_19, 41, .inl (fun _ => 0))), (li_12, .inr (0, [.ref ln_13, .ref ll_15, .ref lc_17])), (ln_13, .inr (4, [.ref lnA_14, .int 0])), (lnA_14, .inl (K_19, 10, .inl (fun _ => 0))), (ll_15, .inr (4, [.ref llA_16, .int 0])), (llA_16, .inl (K_19, 10, .inl (fun _ => 0))), (lc_17, .inr (4, [.ref lcA_18, .int 0])), (lcA_18, .inl (K_19, 10, .inl (fun _ => 0))), (q_93, .inr (6, [.ref la_95, .ref me_100, .ref li_102, .int 4, .int 0, .int 0])), (la_95, .inr (2, [.ref ld_96, .ref lz_98])), (ld_96, .inr (4, [.ref ldA_97, .int 0])), (ldA_97, .inl (K_19, 9, .inl (fun _ => 0))), (lz_98, .inr (4, [.ref lzA_99, .int 0])), (lzA_99, .inl (K_19, 41, .inl (fun _ => 0))), (me_100, .inr (4, [.ref meA_101, .int 0])), (meA_101, .inl (K_19, 41, .inl (fun _ => 0))), (li_102, .inr (0, [.ref ln_103, .ref ll_105, .ref lc_107])), (ln_103, .inr (4, [.ref lnA_104, .int 0])), (lnA_104, .inl (K_19, 10, .inl (fun _ => 0))), (ll_105, .inr (4, [.ref llA_106, .int 0])), (llA_106, .inl (K_19, 10, .inl (fun _ => 0))), (lc_107, .inr (4, [.ref lcA_108, .int 0])), (lcA_108, .inl (K_19, 10, .inl (fun _ => 0)))] := hD
  have hP : va_P D vwCl [(h, .inr (5, [.ref q_1, .int 0, .int 0])), (q_1, .inl (K_2, 6, .inr (.inr (.inr (.inr (va_up (va_up (va_up (va_up (va_up (va_up (fun _ => none) ((0 : Int32).toNatClampNeg) (some q_3)) ((1 : Int32).toNatClampNeg) (some q_21)) ((2 : Int32).toNatClampNeg) (some q_39)) ((3 : Int32).toNatClampNeg) (some q_57)) ((4 : Int32).toNatClampNeg) (some q_75)) ((5 : Int32).toNatClampNeg) (some q_93))))))), (q_3, .inr (6, [.ref la_5, .ref me_10, .ref li_12, .int 4, .int 0, .int 0])), (la_5, .inr (2, [.ref ld_6, .ref lz_8])), (ld_6, .inr (4, [.ref ldA_7, .int 0])), (ldA_7, .inl (K_19, 9, .inl (fun _ => 0))), (lz_8, .inr (4, [.ref lzA_9, .int 0])), (lzA_9, .inl (K_19, 41, .inl (fun _ => 0))), (me_10, .inr (4, [.ref meA_11, .int 0])), (meA_11, .inl (K_19, 41, .inl (fun _ => 0))), (li_12, .inr (0, [.ref ln_13, .ref ll_15, .ref lc_17])), (ln_13, .inr (4, [.ref lnA_14, .int 0])), (lnA_14, .inl (K_19, 10, .inl (fun _ => 0))), (ll_15, .inr (4, [.ref llA_16, .int 0])), (llA_16, .inl (K_19, 10, .inl (fun _ => 0))), (lc_17, .inr (4, [.ref lcA_18, .int 0])), (lcA_18, .inl (K_19, 10, .inl (fun _ => 0)))] H := hP.sub [0, 1, 2, 3, 4, 5, 6, 7, 8, 9, 10, 11, 12, 13, 14, 15, 16] rfl
  have hD : va_D A [(h, .inr (5, [.ref q_1, .int 0, .int 0])), (q_1, .inl (K_2, 6, .inr (.inr (.inr (.inr (va_up (va_up (va_up (va_up (va_up (va_up (fun _ => none) ((0 : Int32).toNatClampNeg) (some q_3)) ((1 : Int32).toNatClampNeg) (some q_21)) ((2 : Int32).toNatClampNeg) (some q_39)) ((3 : Int32).toNatClampNeg) (some q_57)) ((4 : Int32).toNatClampNeg) (some q_75)) ((5 : Int32).toNatClampNeg) (some q_93))))))), (q_3, .inr (6, [.ref la_5, .ref me_10, .ref li_12, .int 4, .int 0, .int 0])), (la_5, .inr (2, [.ref ld_6, .ref lz_8])), (ld_6, .inr (4, [.ref ldA_7, .int 0])), (ldA_7, .inl (K_19, 9, .inl (fun _ => 0))), (lz_8, .inr (4, [.ref lzA_9, .int 0])), (lzA_9, .inl (K_19, 41, .inl (fun _ => 0))), (me_10, .inr (4, [.ref meA_11, .int 0])), (meA_11, .inl (K_19, 41, .inl (fun _ => 0))), (li_12, .inr (0, [.ref ln_13, .ref ll_15, .ref lc_17])), (ln_13, .inr (4, [.ref lnA_14, .int 0])), (lnA_14, .inl (K_19, 10, .inl (fun _ => 0))), (ll_15, .inr (4, [.ref llA_16, .int 0])), (llA_16, .inl (K_19, 10, .inl (fun _ => 0))), (lc_17, .inr (4, [.ref lcA_18, .int 0])), (lcA_18, .inl (K_19, 10, .inl (fun _ => 0)))] := hD.sub [0, 1, 2, 3, 4, 5, 6, 7, 8, 9, 10, 11, 12, 13, 14, 15, 16] (by decide) rfl
  refine lv_iinc (v := 6) (lv' := [(1, .int 6), (0, .ref h)]) hx hb dX5_init_37 hl (k := 0) rfl (by decide) (by decide) rfl (fun ls hl => ?_)
  refine lv_goto (tgt := 15) hx hb dX5_init_40 (by decide) ?_
  refine lv_iload_n hx hb dX5_init_15 rfl (lv_at hl 0 rfl) ?_
  refine lv_aload_n hx hb dX5_init_16 rfl (lv_at hl 1 rfl) ?_
  refine va_get (D := D) (ci := 5) (v := .ref q_1) (C := RX5) (T := TX5) (N := 3) hx hb ht inA_X5 hown hK hP 0 rfl rfl 0 (by decide) (ht _ lf_X5_11) (fun _ h9 => h9) rfl dX5_init_17 ?_
  refine va_alen (v := 6) hx hb hK hP 1 0 rfl rfl rfl dX5_init_20 ?_
  refine lv_icmp_ge (tgt := 43) hx hb dX5_init_21 (by decide) (fun _ => ?_) (fun c9 => absurd (by decide) c9)
  have hP9 : va_P D vwCl [(h, .inr (5, [.ref q_1, .int 0, .int 0])), (q_1, .inl (K_2, 6, .inr (.inr (.inr (.inr (va_up (va_up (va_up (va_up (va_up (va_up (fun _ => none) ((0 : Int32).toNatClampNeg) (some q_3)) ((1 : Int32).toNatClampNeg) (some q_21)) ((2 : Int32).toNatClampNeg) (some q_39)) ((3 : Int32).toNatClampNeg) (some q_57)) ((4 : Int32).toNatClampNeg) (some q_75)) ((5 : Int32).toNatClampNeg) (some q_93))))))), (q_3, .inr (6, [.ref la_5, .ref me_10, .ref li_12, .int 4, .int 0, .int 0])), (la_5, .inr (2, [.ref ld_6, .ref lz_8])), (ld_6, .inr (4, [.ref ldA_7, .int 0])), (ldA_7, .inl (K_19, 9, .inl (fun _ => 0))), (lz_8, .inr (4, [.ref lzA_9, .int 0])), (lzA_9, .inl (K_19, 41, .inl (fun _ => 0))), (me_10, .inr (4, [.ref meA_11, .int 0])), (meA_11, .inl (K_19, 41, .inl (fun _ => 0))), (li_12, .inr (0, [.ref ln_13, .ref ll_15, .ref lc_17])), (ln_13, .inr (4, [.ref lnA_14, .int 0])), (lnA_14, .inl (K_19, 10, .inl (fun _ => 0))), (ll_15, .inr (4, [.ref llA_16, .int 0])), (llA_16, .inl (K_19, 10, .inl (fun _ => 0))), (lc_17, .inr (4, [.ref lcA_18, .int 0])), (lcA_18, .inl (K_19, 10, .inl (fun _ => 0)))] H := hP.sub [0, 1, 2, 3, 4, 5, 6, 7, 8, 9, 10, 11, 12, 13, 14, 15, 16] rfl
  have hD9 : va_D A [(h, .inr (5, [.ref q_1, .int 0, .int 0])), (q_1, .inl (K_2, 6, .inr (.inr (.inr (.inr (va_up (va_up (va_up (va_up (va_up (va_up (fun _ => none) ((0 : Int32).toNatClampNeg) (some q_3)) ((1 : Int32).toNatClampNeg) (some q_21)) ((2 : Int32).toNatClampNeg) (some q_39)) ((3 : Int32).toNatClampNeg) (some q_57)) ((4 : Int32).toNatClampNeg) (some q_75)) ((5 : Int32).toNatClampNeg) (some q_93))))))), (q_3, .inr (6, [.ref la_5, .ref me_10, .ref li_12, .int 4, .int 0, .int 0])), (la_5, .inr (2, [.ref ld_6, .ref lz_8])), (ld_6, .inr (4, [.ref ldA_7, .int 0])), (ldA_7, .inl (K_19, 9, .inl (fun _ => 0))), (lz_8, .inr (4, [.ref lzA_9, .int 0])), (lzA_9, .inl (K_19, 41, .inl (fun _ => 0))), (me_10, .inr (4, [.ref meA_11, .int 0])), (meA_11, .inl (K_19, 41, .inl (fun _ => 0))), (li_12, .inr (0, [.ref ln_13, .ref ll_15, .ref lc_17])), (ln_13, .inr (4, [.ref lnA_14, .int 0])), (lnA_14, .inl (K_19, 10, .inl (fun _ => 0))), (ll_15, .inr (4, [.ref llA_16, .int 0])), (llA_16, .inl (K_19, 10, .inl (fun _ => 0))), (lc_17, .inr (4, [.ref lcA_18, .int 0])), (lcA_18, .inl (K_19, 10, .inl (fun _ => 0)))] := hD.sub [0, 1, 2, 3, 4, 5, 6, 7, 8, 9, 10, 11, 12, 13, 14, 15, 16] (by decide) rfl
  have hK9 : va_K D vwCl [(K_2, .object "BarcodeWand$State"), (K_19, .int)] s := hK.sub [0, 1] rfl
  exact W.vret hx hb hr (fun t ht9 hW9 => ⟨⟨(q_1, (va_up (va_up (va_up (va_up (va_up (va_up (fun _ => none) ((0 : Int32).toNatClampNeg) (some q_3)) ((1 : Int32).toNatClampNeg) (some q_21)) ((2 : Int32).toNatClampNeg) (some q_39)) ((3 : Int32).toNatClampNeg) (some q_57)) ((4 : Int32).toNatClampNeg) (some q_75)) ((5 : Int32).toNatClampNeg) (some q_93)), K_2, q_3, la_5, ld_6, ldA_7, lz_8, lzA_9, me_10, meA_11, li_12, ln_13, lnA_14, ll_15, llA_16, lc_17, lcA_18, K_19), rfl, by rfl, ⟨by rw [ht9]; exact hP9, va_K.moved hW9.alike hK9, hD9⟩⟩, hS.F ht9⟩) hS.2.2 dX5_init_43
set_option maxHeartbeats 4000000 in
set_option maxRecDepth 100000 in
theorem c_Reader_init (l : Launch) (D : va_G) (h : Nat) (sz : Nat) : k_Mv (S := Nat × Nat × Nat × Nat × ClassId) l D yX3_init cX3_init 1 none 2 4 54 35 [.ref h] [(h, .inr (3, [.null, .int 0, .null, .int 0, .int 0, .int 0, .int 0, .int 0]))] [] (fun (u : Nat × Nat × Nat × Nat × ClassId) => match u with | (rd, rdA, rl, rlA, K) => True) (fun u => match u with | (rd, rdA, rl, rlA, K) => [(h, .inr (3, [.ref rd, .int 0, .ref rl, .int 0, .int 0, .int 0, .int 0, .int 0])), (rd, .inr (4, [.ref rdA, .int 0])), (rdA, .inl (K, 9, .inl (fun _ => 0))), (rl, .inr (4, [.ref rlA, .int 0])), (rlA, .inl (K, 41, .inl (fun _ => 0)))]) (fun u => match u with | (rd, rdA, rl, rlA, K) => [(K, .int)]) sz := by
  refine Met.ofW (cc := cX3_init) (maxL := 1) (ret := none) (by decide) rfl ?_
  intro p e s m args below meth c s₁ B hml hv
  obtain ⟨rfl, hsz, hP, hK, hD0, hG⟩ := hv
  have hx := B.exec
  have hb := B.bytes
  have hr := B.returns
  have ht : ∀ v9 ∈ wsA, v9.before ([.ref h] : List Value).toArray s = true := fun v9 h9 => atoms_spec (ws := k_ws yX3_init cX3_init 1 none) B.pre v9 (List.mem_cons_of_mem _ h9)
  have hown : s.vm.findClass RX3 = some m.cls := findClass_of_methodNamed B.named
  have S0 : k_C p s m ([.ref h] : List Value).toArray c cX3_init 1 RX3 := ⟨hx, hb, hml, hown, ht⟩
  have hlocks := B.notSynchronized
  have hin : meth.name = "<init>" := (name_of_methodNamed B.named B.method).1
  subst hsz
  have hD := hD0.self (sz := s.heap.size)
  generalize hAe : va_A [(h, .inr (3, [.null, .int 0, .null, .int 0, .int 0, .int 0, .int 0, .int 0]))] s.heap.size = A at hD hG ⊢
  have hA : ∀ q : Nat, s.heap.size ≤ q → A q := fun q h => by rw [← hAe]; exact Or.inr h
  have hS : va_S A s.heap s.heap [] := va_S.rf
  have hl := lv_entry ([.ref h]) (n := 1) (Nat.le_of_ble_eq_true rfl)
  rw [lg_entry_eq]
  generalize (lg_sl ([.ref h]) ++ List.replicate (1 - (lg_sl ([.ref h])).length) Slot.unset).toArray = ls at hl ⊢
  have hl : lv_has ls 1 [(0, .ref h)] := hl
  have hP : va_P D vwCl [(h, .inr (3, [.null, .int 0, .null, .int 0, .int 0, .int 0, .int 0, .int 0]))] s.heap := hP
  refine lv_aload_n hx hb dX3_init_0 rfl (lv_at hl 0 rfl) ?_
  refine W.objInit hx hb hown (ht _ lo_X3_3) (ht _ lo_inst) (ht _ lo_code) rfl (by rw [hml]; exact hl.1) rfl dX3_init_1 (Nat.le_of_ble_eq_true rfl) (Nat.le_of_ble_eq_true rfl) ?_
  refine W.eq (g2 := F0 m 4 ls []) rfl ?_
  refine lv_aload_n hx hb dX3_init_4 rfl (lv_at hl 0 rfl) ?_
  refine va_new (ci := 4) (fs := [.null, .int 0]) (C := RX4) (T := TX4) (N := 2) hx hb ht inA_X4 tyX4 tyX4_ok hown (ht _ lc_X3_9) (ht _ lt_BarcodeWand_Row) (ht _ li_BarcodeWand_Row) hK hP hD hS hA rfl (fun j hj => by rcases (show j = 0 ∨ j = 1 by omega) with rfl | rfl <;> rfl) (Nat.le_of_ble_eq_true rfl) (Nat.le_of_ble_eq_true rfl) dX3_init_5 (fun q_1 H hP hD hS => ?_)
  have hP : va_P D vwCl [(h, .inr (3, [.null, .int 0, .null, .int 0, .int 0, .int 0, .int 0, .int 0])), (q_1, .inr (4, [.null, .int 0]))] H := hP
  have hD : va_D A [(h, .inr (3, [.null, .int 0, .null, .int 0, .int 0, .int 0, .int 0, .int 0])), (q_1, .inr (4, [.null, .int 0]))] := hD
  refine W.widen (k := 1) (n := 2) (Nat.le_of_ble_eq_true rfl) (Nat.le_of_ble_eq_true rfl) ?_
  refine lv_dup hx hb dX3_init_8 rfl ?_
  refine lv_bipush (v := 9) hx hb dX3_init_9 (by decide) ?_
  have ct := k_cut_of (wc := [(q_1, .inr (4, [.null, .int 0]))]) (wr := [(h, .inr (3, [.null, .int 0, .null, .int 0, .int 0, .int 0, .int 0, .int 0]))]) (tc := []) hG hS hA hK hP hD [1] [0] [] rfl rfl (by decide) (by decide) (by decide) rfl
  refine k_endv (As := [.ref q_1, .int 9]) ct (k_runI (As := [.int 9]) (rest := [.ref q_1, .ref h]) S0 Li_X3_11 ct (c_Row_init_9 l D q_1 H.size) hl.1 rfl (Nat.le_of_ble_eq_true rfl) rfl dX3_init_11 ⟨⟨Nat.le_of_ble_eq_true rfl, Nat.le_of_ble_eq_true rfl⟩, Nat.le_of_ble_eq_true rfl, Nat.le_of_ble_eq_true rfl⟩) rfl rfl (fun _ u H locs hw_5 hP hD hK hS => ?_)
  obtain ⟨a_3, K_4⟩ := u
  have hK : va_K D vwCl [(K_4, .int)] s := hK
  have hP : va_P D vwCl [(h, .inr (3, [.null, .int 0, .null, .int 0, .int 0, .int 0, .int 0, .int 0])), (q_1, .inr (4, [.ref a_3, .int 0])), (a_3, .inl (K_4, 9, .inl (fun _ => 0)))] H := hP
  have hD : va_D A [(h, .inr (3, [.null, .int 0, .null, .int 0, .int 0, .int 0, .int 0, .int 0])), (q_1, .inr (4, [.ref a_3, .int 0])), (a_3, .inl (K_4, 9, .inl (fun _ => 0)))] := hD
  refine va_putF (D := D) (ci := 3) (v := .ref q_1) (ty := tyX3 0) (C := RX3) (T := TX3) (N := 8) hx hb ht inA_X3 tyX3 tyX3_ok nmX3 hown hK hP hD hS 0 rfl rfl 0 (by decide) (ht _ lf_X3_14) (fun _ h9 => h9) rfl hin rfl (tyX3_ok 0 (by decide)) rfl rfl (Nat.le_of_ble_eq_true rfl) dX3_init_14 (fun H locs hP hD hS => ?_)
  have hP : va_P D vwCl [(h, .inr (3, [.ref q_1, .int 0, .null, .int 0, .int 0, .int 0, .int 0, .int 0])), (q_1, .inr (4, [.ref a_3, .int 0])), (a_3, .inl (K_4, 9, .inl (fun _ => 0)))] H := hP
  have hD : va_D A [(h, .inr (3, [.ref q_1, .int 0, .null, .int 0, .int 0, .int 0, .int 0, .int 0])), (q_1, .inr (4, [.ref a_3, .int 0])), (a_3, .inl (K_4, 9, .inl (fun _ => 0)))] := hD
  refine lv_aload_n hx hb dX3_init_17 rfl (lv_at hl 0 rfl) ?_
  refine va_new (ci := 4) (fs := [.null, .int 0]) (C := RX4) (T := TX4) (N := 2) hx hb ht inA_X4 tyX4 tyX4_ok hown (ht _ lc_X3_9) (ht _ lt_BarcodeWand_Row) (ht _ li_BarcodeWand_Row) hK hP hD hS hA rfl (fun j hj => by rcases (show j = 0 ∨ j = 1 by omega) with rfl | rfl <;> rfl) (Nat.le_of_ble_eq_true rfl) (Nat.le_of_ble_eq_true rfl) dX3_init_18 (fun q_6 H hP hD hS => ?_)
  have hP : va_P D vwCl [(h, .inr (3, [.ref q_1, .int 0, .null, .int 0, .int 0, .int 0, .int 0, .int 0])), (q_1, .inr (4, [.ref a_3, .int 0])), (a_3, .inl (K_4, 9, .inl (fun _ => 0))), (q_6, .inr (4, [.null, .int 0]))] H := hP
  have hD : va_D A [(h, .inr (3, [.ref q_1, .int 0, .null, .int 0, .int 0, .int 0, .int 0, .int 0])), (q_1, .inr (4, [.ref a_3, .int 0])), (a_3, .inl (K_4, 9, .inl (fun _ => 0))), (q_6, .inr (4, [.null, .int 0]))] := hD
  refine W.widen (k := 3) (n := 13) (Nat.le_of_ble_eq_true rfl) (Nat.le_of_ble_eq_true rfl) ?_
  refine lv_dup hx hb dX3_init_21 rfl ?_
  refine lv_bipush (v := 41) hx hb dX3_init_22 (by decide) ?_
  have ct := k_cut_of (wc := [(q_6, .inr (4, [.null, .int 0]))]) (wr := [(h, .inr (3, [.ref q_1, .int 0, .null, .int 0, .int 0, .int 0, .int 0, .int 0])), (q_1, .inr (4, [.ref a_3, .int 0])), (a_3, .inl (K_4, 9, .inl (fun _ => 0)))]) (tc := []) hG hS hA hK hP hD [3] [0, 1, 2] [] rfl rfl (by decide) (by decide) (by decide) rfl
  refine k_endv (As := [.ref q_6, .int 41]) ct (k_runI (As := [.int 41]) (rest := [.ref q_6, .ref h]) S0 Li_X3_11 ct (c_Row_init_41 l D q_6 H.size) hl.1 rfl (Nat.le_of_ble_eq_true rfl) rfl dX3_init_24 ⟨⟨Nat.le_of_ble_eq_true rfl, Nat.le_of_ble_eq_true rfl⟩, Nat.le_of_ble_eq_true rfl, Nat.le_of_ble_eq_true rfl⟩) rfl rfl (fun _ u H locs hw_10 hP hD hK hS => ?_)
  obtain ⟨a_8, K_9⟩ := u
  have hK : va_K D vwCl [(K_4, .int), (K_9, .int)] s := hK
  have hP : va_P D vwCl [(h, .inr (3, [.ref q_1, .int 0, .null, .int 0, .int 0, .int 0, .int 0, .int 0])), (q_1, .inr (4, [.ref a_3, .int 0])), (a_3, .inl (K_4, 9, .inl (fun _ => 0))), (q_6, .inr (4, [.ref a_8, .int 0])), (a_8, .inl (K_9, 41, .inl (fun _ => 0)))] H := hP
  have hD : va_D A [(h, .inr (3, [.ref q_1, .int 0, .null, .int 0, .int 0, .int 0, .int 0, .int 0])), (q_1, .inr (4, [.ref a_3, .int 0])), (a_3, .inl (K_4, 9, .inl (fun _ => 0))), (q_6, .inr (4, [.ref a_8, .int 0])), (a_8, .inl (K_9, 41, .inl (fun _ => 0)))] := hD
  obtain rfl : K_4 = K_9 := k_one hK (i := 0) (j := 1) rfl rfl
  have hK : va_K D vwCl [(K_4, .int)] s := hK.sub [0] rfl
  refine va_putF (D := D) (ci := 3) (v := .ref q_6) (ty := tyX3 2) (C := RX3) (T := TX3) (N := 8) hx hb ht inA_X3 tyX3 tyX3_ok nmX3 hown hK hP hD hS 0 rfl rfl 2 (by decide) (ht _ lf_X3_20) (fun _ h9 => h9) rfl hin rfl (tyX3_ok 2 (by decide)) rfl rfl (Nat.le_of_ble_eq_true rfl) dX3_init_27 (fun H locs hP hD hS => ?_)
  have hP : va_P D vwCl [(h, .inr (3, [.ref q_1, .int 0, .ref q_6, .int 0, .int 0, .int 0, .int 0, .int 0])), (q_1, .inr (4, [.ref a_3, .int 0])), (a_3, .inl (K_4, 9, .inl (fun _ => 0))), (q_6, .inr (4, [.ref a_8, .int 0])), (a_8, .inl (K_4, 41, .inl (fun _ => 0)))] H := hP
  have hD : va_D A [(h, .inr (3, [.ref q_1, .int 0, .ref q_6, .int 0, .int 0, .int 0, .int 0, .int 0])), (q_1, .inr (4, [.ref a_3, .int 0])), (a_3, .inl (K_4, 9, .inl (fun _ => 0))), (q_6, .inr (4, [.ref a_8, .int 0])), (a_8, .inl (K_4, 41, .inl (fun _ => 0)))] := hD
  have hP9 : va_P D vwCl [(h, .inr (3, [.ref q_1, .int 0, .ref q_6, .int 0, .int 0, .int 0, .int 0, .int 0])), (q_1, .inr (4, [.ref a_3, .int 0])), (a_3, .inl (K_4, 9, .inl (fun _ => 0))), (q_6, .inr (4, [.ref a_8, .int 0])), (a_8, .inl (K_4, 41, .inl (fun _ => 0)))] H := hP.sub [0, 1, 2, 3, 4] rfl
  have hD9 : va_D A [(h, .inr (3, [.ref q_1, .int 0, .ref q_6, .int 0, .int 0, .int 0, .int 0, .int 0])), (q_1, .inr (4, [.ref a_3, .int 0])), (a_3, .inl (K_4, 9, .inl (fun _ => 0))), (q_6, .inr (4, [.ref a_8, .int 0])), (a_8, .inl (K_4, 41, .inl (fun _ => 0)))] := hD.sub [0, 1, 2, 3, 4] (by decide) rfl
  have hK9 : va_K D vwCl [(K_4, .int)] s := hK.sub [0] rfl
  exact W.vret hx hb hr (fun t ht9 hW9 => ⟨⟨(q_1, a_3, q_6, a_8, K_4), rfl, by first | rfl | trivial | (simp only [if_true, if_false, reduceIte, and_self]; done) | simp_all, ⟨by rw [ht9]; exact hP9, va_K.moved hW9.alike hK9, hD9⟩⟩, hS.F ht9⟩) hS.2.2 dX3_init_30
set_option maxHeartbeats 4000000 in
set_option maxRecDepth 100000 in
theorem c_Parser_init (l : Launch) (D : va_G) (h : Nat) (sz : Nat) : k_Mv (S := Unit) l D yX1_init cX1_init 1 none 1 0 0 12 [.ref h] [(h, .inr (1, [.int 0, .int 0, .int 0, .int 0, .int 0, .int 0]))] [] (fun (_ : Unit) => True) (fun _ => [(h, .inr (1, [.int 0, .int 0, .int 0, .int 0, .int 0, .int 0]))]) (fun _ => []) sz := by
  refine Met.ofW (cc := cX1_init) (maxL := 1) (ret := none) (by decide) rfl ?_
  intro p e s m args below meth c s₁ B hml hv
  obtain ⟨rfl, hsz, hP, hK, hD0, hG⟩ := hv
  have hx := B.exec
  have hb := B.bytes
  have hr := B.returns
  have ht : ∀ v9 ∈ wsA, v9.before ([.ref h] : List Value).toArray s = true := fun v9 h9 => atoms_spec (ws := k_ws yX1_init cX1_init 1 none) B.pre v9 (List.mem_cons_of_mem _ h9)
  have hown : s.vm.findClass RX1 = some m.cls := findClass_of_methodNamed B.named
  have S0 : k_C p s m ([.ref h] : List Value).toArray c cX1_init 1 RX1 := ⟨hx, hb, hml, hown, ht⟩
  have hlocks := B.notSynchronized
  have hin : meth.name = "<init>" := (name_of_methodNamed B.named B.method).1
  subst hsz
  have hD := hD0.self (sz := s.heap.size)
  generalize hAe : va_A [(h, .inr (1, [.int 0, .int 0, .int 0, .int 0, .int 0, .int 0]))] s.heap.size = A at hD hG ⊢
  have hA : ∀ q : Nat, s.heap.size ≤ q → A q := fun q h => by rw [← hAe]; exact Or.inr h
  have hS : va_S A s.heap s.heap [] := va_S.rf
  have hl := lv_entry ([.ref h]) (n := 1) (Nat.le_of_ble_eq_true rfl)
  rw [lg_entry_eq]
  generalize (lg_sl ([.ref h]) ++ List.replicate (1 - (lg_sl ([.ref h])).length) Slot.unset).toArray = ls at hl ⊢
  have hl : lv_has ls 1 [(0, .ref h)] := hl
  have hP : va_P D vwCl [(h, .inr (1, [.int 0, .int 0, .int 0, .int 0, .int 0, .int 0]))] s.heap := hP
  refine lv_aload_n hx hb dX1_init_0 rfl (lv_at hl 0 rfl) ?_
  refine W.objInit hx hb hown (ht _ lo_X1_3) (ht _ lo_inst) (ht _ lo_code) rfl (by rw [hml]; exact hl.1) rfl dX1_init_1 (Nat.le_of_ble_eq_true rfl) (Nat.le_of_ble_eq_true rfl) ?_
  refine W.eq (g2 := F0 m 4 ls []) rfl ?_
  have hP9 : va_P D vwCl [(h, .inr (1, [.int 0, .int 0, .int 0, .int 0, .int 0, .int 0]))] s.heap := hP.sub [0] rfl
  have hD9 : va_D A [(h, .inr (1, [.int 0, .int 0, .int 0, .int 0, .int 0, .int 0]))] := hD.sub [0] (by decide) rfl
  have hK9 : va_K D vwCl [] s := hK.sub [] rfl
  exact W.vret hx hb hr (fun t ht9 hW9 => ⟨⟨(), rfl, by first | rfl | trivial | (simp only [if_true, if_false, reduceIte, and_self]; done) | simp_all, ⟨by rw [ht9]; exact hP9, va_K.moved hW9.alike hK9, hD9⟩⟩, hS.F ht9⟩) hS.2.2 dX1_init_4
end
section
theorem lk_X4_copyFrom : Cond.code yX4_copyFrom cX4_copyFrom 3 none ∈ wsA := mA 253 rfl rfl
theorem ly_X4_copyFrom : k_y yX4_copyFrom 1 := ⟨by decide +kernel, by decide +kernel, by decide +kernel⟩
theorem lm_X4_copyFrom : Cond.instanceMethod yX4_copyFrom ∈ wsA := mA 251 rfl rfl
theorem le_X4_copyFrom : Cond.selects (yX4_copyFrom).cls yX4_copyFrom yX4_copyFrom ∈ wsA := mA 252 rfl rfl
theorem Lv_X2_66 : k_LV RX2 66 yX4_copyFrom cX4_copyFrom 3 none 1 := ⟨mA 250 rfl rfl, lm_X4_copyFrom, le_X4_copyFrom, li_BarcodeWand_Row, lk_X4_copyFrom, ly_X4_copyFrom⟩
theorem Lv_X0_48 : k_LV RX0 48 yX4_copyFrom cX4_copyFrom 3 none 1 := ⟨mA 271 rfl rfl, lm_X4_copyFrom, le_X4_copyFrom, li_BarcodeWand_Row, lk_X4_copyFrom, ly_X4_copyFrom⟩
theorem lk_X2_copyFrom : Cond.code yX2_copyFrom cX2_copyFrom 2 none ∈ wsA := mA 249 rfl rfl
theorem ly_X2_copyFrom : k_y yX2_copyFrom 1 := ⟨by decide +kernel, by decide +kernel, by decide +kernel⟩
theorem lm_X2_copyFrom : Cond.instanceMethod yX2_copyFrom ∈ wsA := mA 247 rfl rfl
theorem le_X2_copyFrom : Cond.selects (yX2_copyFrom).cls yX2_copyFrom yX2_copyFrom ∈ wsA := mA 248 rfl rfl
theorem Lv_X6_38 : k_LV RX6 38 yX2_copyFrom cX2_copyFrom 2 none 1 := ⟨mA 246 rfl rfl, lm_X2_copyFrom, le_X2_copyFrom, li_BarcodeWand_Label, lk_X2_copyFrom, ly_X2_copyFrom⟩
theorem Lv_X6_42 : k_LV RX6 42 yX4_copyFrom cX4_copyFrom 3 none 1 := ⟨mA 266 rfl rfl, lm_X4_copyFrom, le_X4_copyFrom, li_BarcodeWand_Row, lk_X4_copyFrom, ly_X4_copyFrom⟩
theorem lk_X0_copyFrom : Cond.code yX0_copyFrom cX0_copyFrom 2 none ∈ wsA := mA 270 rfl rfl
theorem ly_X0_copyFrom : k_y yX0_copyFrom 1 := ⟨by decide +kernel, by decide +kernel, by decide +kernel⟩
theorem lm_X0_copyFrom : Cond.instanceMethod yX0_copyFrom ∈ wsA := mA 268 rfl rfl
theorem le_X0_copyFrom : Cond.selects (yX0_copyFrom).cls yX0_copyFrom yX0_copyFrom ∈ wsA := mA 269 rfl rfl
theorem Lv_X6_45 : k_LV RX6 45 yX0_copyFrom cX0_copyFrom 2 none 1 := ⟨mA 267 rfl rfl, lm_X0_copyFrom, le_X0_copyFrom, li_BarcodeWand_CodeList, lk_X0_copyFrom, ly_X0_copyFrom⟩
theorem lf_X6_48 : Cond.fieldLink RX6 48 "BarcodeWand$State" "successes" "I" ∈ wsA := mA 94 rfl rfl
theorem lf_X6_51 : Cond.fieldLink RX6 51 "BarcodeWand$State" "failures" "I" ∈ wsA := mA 96 rfl rfl
theorem lk_X6_copyFrom : Cond.code yX6_copyFrom cX6_copyFrom 2 none ∈ wsA := mA 245 rfl rfl
theorem ly_X6_copyFrom : k_y yX6_copyFrom 1 := ⟨by decide +kernel, by decide +kernel, by decide +kernel⟩
theorem lm_X6_copyFrom : Cond.instanceMethod yX6_copyFrom ∈ wsA := mA 243 rfl rfl
theorem le_X6_copyFrom : Cond.selects (yX6_copyFrom).cls yX6_copyFrom yX6_copyFrom ∈ wsA := mA 244 rfl rfl
theorem Lv_X5_42 : k_LV RX5 42 yX6_copyFrom cX6_copyFrom 2 none 1 := ⟨mA 242 rfl rfl, lm_X6_copyFrom, le_X6_copyFrom, li_BarcodeWand_State, lk_X6_copyFrom, ly_X6_copyFrom⟩
theorem lf_X5_22 : Cond.fieldLink RX5 22 "BarcodeWand$SavedStates" "next" "I" ∈ wsA := mA 121 rfl rfl
theorem li_BarcodeWand_SavedStates : Cond.initialized "BarcodeWand$SavedStates" ∈ wsA := mA 7 rfl rfl
theorem lk_X5_stateAt : Cond.code yX5_stateAt cX5_stateAt 2 (some (.object "BarcodeWand$State")) ∈ wsA := mA 238 rfl rfl
theorem ly_X5_stateAt : k_y yX5_stateAt 1 := ⟨by decide +kernel, by decide +kernel, by decide +kernel⟩
theorem lm_X5_stateAt : Cond.instanceMethod yX5_stateAt ∈ wsA := mA 237 rfl rfl
theorem le_X5_stateAt : Cond.selects (yX5_stateAt).cls yX5_stateAt yX5_stateAt ∈ wsA := mS 0 rfl rfl
theorem Lv_X5_25 : k_LV RX5 25 yX5_stateAt cX5_stateAt 2 (some (.object "BarcodeWand$State")) 1 := ⟨mA 235 rfl rfl, lm_X5_stateAt, le_X5_stateAt, li_BarcodeWand_SavedStates, lk_X5_stateAt, ly_X5_stateAt⟩
theorem lk_X5_copy : Cond.code yX5_copy cX5_copy 2 none ∈ wsA := mA 241 rfl rfl
theorem ly_X5_copy : k_y yX5_copy 2 := ⟨by decide +kernel, by decide +kernel, by decide +kernel⟩
theorem ls_X5_copy : Cond.static yX5_copy ∈ wsA := mA 240 rfl rfl
theorem Ls_X5_29 : k_LS RX5 29 yX5_copy cX5_copy 2 none 2 := ⟨mA 239 rfl rfl, ls_X5_copy, li_BarcodeWand_SavedStates, lk_X5_copy, ly_X5_copy⟩
theorem lf_X5_18 : Cond.fieldLink RX5 18 "BarcodeWand$SavedStates" "kept" "I" ∈ wsA := mA 122 rfl rfl
theorem lM_X5_33 : Cond.methodLink RX5 33 Lib.Math.min.name ∈ wsA := mA 272 rfl rfl
theorem lM_st_min : Cond.static Lib.Math.min.name ∈ wsA := mA 273 rfl rfl
theorem lM_code_min : Cond.code Lib.Math.min.name Lib.Math.min.code 2 (some .int) ∈ wsA := mA 274 rfl rfl
theorem dX2_copyFrom_0 : decode cX2_copyFrom 0 = .ok (.aload_n 0, 1) := by decide +kernel
theorem dX2_copyFrom_1 : decode cX2_copyFrom 1 = .ok (.getfield 14, 3) := by decide +kernel
theorem dX2_copyFrom_4 : decode cX2_copyFrom 4 = .ok (.aload_n 1, 1) := by decide +kernel
theorem dX2_copyFrom_5 : decode cX2_copyFrom 5 = .ok (.getfield 14, 3) := by decide +kernel
theorem dX2_copyFrom_8 : decode cX2_copyFrom 8 = .ok (.invokevirtual 66, 3) := by decide +kernel
theorem dX2_copyFrom_11 : decode cX2_copyFrom 11 = .ok (.aload_n 0, 1) := by decide +kernel
theorem dX2_copyFrom_12 : decode cX2_copyFrom 12 = .ok (.getfield 20, 3) := by decide +kernel
theorem dX2_copyFrom_15 : decode cX2_copyFrom 15 = .ok (.aload_n 1, 1) := by decide +kernel
theorem dX2_copyFrom_16 : decode cX2_copyFrom 16 = .ok (.getfield 20, 3) := by decide +kernel
theorem dX2_copyFrom_19 : decode cX2_copyFrom 19 = .ok (.invokevirtual 66, 3) := by decide +kernel
theorem dX2_copyFrom_22 : decode cX2_copyFrom 22 = .ok (.return_, 1) := by decide +kernel
theorem dX0_copyFrom_0 : decode cX0_copyFrom 0 = .ok (.aload_n 0, 1) := by decide +kernel
theorem dX0_copyFrom_1 : decode cX0_copyFrom 1 = .ok (.getfield 14, 3) := by decide +kernel
theorem dX0_copyFrom_4 : decode cX0_copyFrom 4 = .ok (.aload_n 1, 1) := by decide +kernel
theorem dX0_copyFrom_5 : decode cX0_copyFrom 5 = .ok (.getfield 14, 3) := by decide +kernel
theorem dX0_copyFrom_8 : decode cX0_copyFrom 8 = .ok (.invokevirtual 48, 3) := by decide +kernel
theorem dX0_copyFrom_11 : decode cX0_copyFrom 11 = .ok (.aload_n 0, 1) := by decide +kernel
theorem dX0_copyFrom_12 : decode cX0_copyFrom 12 = .ok (.getfield 20, 3) := by decide +kernel
theorem dX0_copyFrom_15 : decode cX0_copyFrom 15 = .ok (.aload_n 1, 1) := by decide +kernel
theorem dX0_copyFrom_16 : decode cX0_copyFrom 16 = .ok (.getfield 20, 3) := by decide +kernel
theorem dX0_copyFrom_19 : decode cX0_copyFrom 19 = .ok (.invokevirtual 48, 3) := by decide +kernel
theorem dX0_copyFrom_22 : decode cX0_copyFrom 22 = .ok (.aload_n 0, 1) := by decide +kernel
theorem dX0_copyFrom_23 : decode cX0_copyFrom 23 = .ok (.getfield 23, 3) := by decide +kernel
theorem dX0_copyFrom_26 : decode cX0_copyFrom 26 = .ok (.aload_n 1, 1) := by decide +kernel
theorem dX0_copyFrom_27 : decode cX0_copyFrom 27 = .ok (.getfield 23, 3) := by decide +kernel
theorem dX0_copyFrom_30 : decode cX0_copyFrom 30 = .ok (.invokevirtual 48, 3) := by decide +kernel
theorem dX0_copyFrom_33 : decode cX0_copyFrom 33 = .ok (.return_, 1) := by decide +kernel
theorem dX6_copyFrom_0 : decode cX6_copyFrom 0 = .ok (.aload_n 0, 1) := by decide +kernel
theorem dX6_copyFrom_1 : decode cX6_copyFrom 1 = .ok (.getfield 12, 3) := by decide +kernel
theorem dX6_copyFrom_4 : decode cX6_copyFrom 4 = .ok (.aload_n 1, 1) := by decide +kernel
theorem dX6_copyFrom_5 : decode cX6_copyFrom 5 = .ok (.getfield 12, 3) := by decide +kernel
theorem dX6_copyFrom_8 : decode cX6_copyFrom 8 = .ok (.invokevirtual 38, 3) := by decide +kernel
theorem dX6_copyFrom_11 : decode cX6_copyFrom 11 = .ok (.aload_n 0, 1) := by decide +kernel
theorem dX6_copyFrom_12 : decode cX6_copyFrom 12 = .ok (.getfield 23, 3) := by decide +kernel
theorem dX6_copyFrom_15 : decode cX6_copyFrom 15 = .ok (.aload_n 1, 1) := by decide +kernel
theorem dX6_copyFrom_16 : decode cX6_copyFrom 16 = .ok (.getfield 23, 3) := by decide +kernel
theorem dX6_copyFrom_19 : decode cX6_copyFrom 19 = .ok (.invokevirtual 42, 3) := by decide +kernel
theorem dX6_copyFrom_22 : decode cX6_copyFrom 22 = .ok (.aload_n 0, 1) := by decide +kernel
theorem dX6_copyFrom_23 : decode cX6_copyFrom 23 = .ok (.getfield 30, 3) := by decide +kernel
theorem dX6_copyFrom_26 : decode cX6_copyFrom 26 = .ok (.aload_n 1, 1) := by decide +kernel
theorem dX6_copyFrom_27 : decode cX6_copyFrom 27 = .ok (.getfield 30, 3) := by decide +kernel
theorem dX6_copyFrom_30 : decode cX6_copyFrom 30 = .ok (.invokevirtual 45, 3) := by decide +kernel
theorem dX6_copyFrom_33 : decode cX6_copyFrom 33 = .ok (.aload_n 0, 1) := by decide +kernel
theorem dX6_copyFrom_34 : decode cX6_copyFrom 34 = .ok (.aload_n 1, 1) := by decide +kernel
theorem dX6_copyFrom_35 : decode cX6_copyFrom 35 = .ok (.getfield 34, 3) := by decide +kernel
theorem dX6_copyFrom_38 : decode cX6_copyFrom 38 = .ok (.putfield 34, 3) := by decide +kernel
theorem dX6_copyFrom_41 : decode cX6_copyFrom 41 = .ok (.aload_n 0, 1) := by decide +kernel
theorem dX6_copyFrom_42 : decode cX6_copyFrom 42 = .ok (.aload_n 1, 1) := by decide +kernel
theorem dX6_copyFrom_43 : decode cX6_copyFrom 43 = .ok (.getfield 48, 3) := by decide +kernel
theorem dX6_copyFrom_46 : decode cX6_copyFrom 46 = .ok (.putfield 48, 3) := by decide +kernel
theorem dX6_copyFrom_49 : decode cX6_copyFrom 49 = .ok (.aload_n 0, 1) := by decide +kernel
theorem dX6_copyFrom_50 : decode cX6_copyFrom 50 = .ok (.aload_n 1, 1) := by decide +kernel
theorem dX6_copyFrom_51 : decode cX6_copyFrom 51 = .ok (.getfield 51, 3) := by decide +kernel
theorem dX6_copyFrom_54 : decode cX6_copyFrom 54 = .ok (.putfield 51, 3) := by decide +kernel
theorem dX6_copyFrom_57 : decode cX6_copyFrom 57 = .ok (.return_, 1) := by decide +kernel
theorem dX5_copy_0 : decode cX5_copy 0 = .ok (.aload_n 0, 1) := by decide +kernel
theorem dX5_copy_1 : decode cX5_copy 1 = .ok (.ifnull 12, 3) := by decide +kernel
theorem dX5_copy_4 : decode cX5_copy 4 = .ok (.aload_n 1, 1) := by decide +kernel
theorem dX5_copy_5 : decode cX5_copy 5 = .ok (.ifnull 8, 3) := by decide +kernel
theorem dX5_copy_8 : decode cX5_copy 8 = .ok (.aload_n 1, 1) := by decide +kernel
theorem dX5_copy_9 : decode cX5_copy 9 = .ok (.aload_n 0, 1) := by decide +kernel
theorem dX5_copy_10 : decode cX5_copy 10 = .ok (.invokevirtual 42, 3) := by decide +kernel
theorem dX5_copy_13 : decode cX5_copy 13 = .ok (.return_, 1) := by decide +kernel
theorem dX5_stateAt_0 : decode cX5_stateAt 0 = .ok (.iload_n 1, 1) := by decide +kernel
theorem dX5_stateAt_1 : decode cX5_stateAt 1 = .ok (.ifCond .lt 21, 3) := by decide +kernel
theorem dX5_stateAt_4 : decode cX5_stateAt 4 = .ok (.iload_n 1, 1) := by decide +kernel
theorem dX5_stateAt_5 : decode cX5_stateAt 5 = .ok (.aload_n 0, 1) := by decide +kernel
theorem dX5_stateAt_6 : decode cX5_stateAt 6 = .ok (.getfield 11, 3) := by decide +kernel
theorem dX5_stateAt_9 : decode cX5_stateAt 9 = .ok (.arraylength, 1) := by decide +kernel
theorem dX5_stateAt_10 : decode cX5_stateAt 10 = .ok (.if_icmp .ge 12, 3) := by decide +kernel
theorem dX5_stateAt_13 : decode cX5_stateAt 13 = .ok (.aload_n 0, 1) := by decide +kernel
theorem dX5_stateAt_14 : decode cX5_stateAt 14 = .ok (.getfield 11, 3) := by decide +kernel
theorem dX5_stateAt_17 : decode cX5_stateAt 17 = .ok (.iload_n 1, 1) := by decide +kernel
theorem dX5_stateAt_18 : decode cX5_stateAt 18 = .ok (.aaload, 1) := by decide +kernel
theorem dX5_stateAt_19 : decode cX5_stateAt 19 = .ok (.goto 4, 3) := by decide +kernel
theorem dX5_stateAt_22 : decode cX5_stateAt 22 = .ok (.aconst_null, 1) := by decide +kernel
theorem dX5_stateAt_23 : decode cX5_stateAt 23 = .ok (.areturn, 1) := by decide +kernel
theorem dX5_save_0 : decode cX5_save 0 = .ok (.aload_n 1, 1) := by decide +kernel
theorem dX5_save_1 : decode cX5_save 1 = .ok (.aload_n 0, 1) := by decide +kernel
theorem dX5_save_2 : decode cX5_save 2 = .ok (.aload_n 0, 1) := by decide +kernel
theorem dX5_save_3 : decode cX5_save 3 = .ok (.getfield 22, 3) := by decide +kernel
theorem dX5_save_6 : decode cX5_save 6 = .ok (.invokevirtual 25, 3) := by decide +kernel
theorem dX5_save_9 : decode cX5_save 9 = .ok (.invokestatic 29, 3) := by decide +kernel
theorem dX5_save_12 : decode cX5_save 12 = .ok (.aload_n 0, 1) := by decide +kernel
theorem dX5_save_13 : decode cX5_save 13 = .ok (.aload_n 0, 1) := by decide +kernel
theorem dX5_save_14 : decode cX5_save 14 = .ok (.getfield 22, 3) := by decide +kernel
theorem dX5_save_17 : decode cX5_save 17 = .ok (.iconst 1, 1) := by decide +kernel
theorem dX5_save_18 : decode cX5_save 18 = .ok (.iadd, 1) := by decide +kernel
theorem dX5_save_19 : decode cX5_save 19 = .ok (.bipush 6, 2) := by decide +kernel
theorem dX5_save_21 : decode cX5_save 21 = .ok (.irem, 1) := by decide +kernel
theorem dX5_save_22 : decode cX5_save 22 = .ok (.putfield 22, 3) := by decide +kernel
theorem dX5_save_25 : decode cX5_save 25 = .ok (.aload_n 0, 1) := by decide +kernel
theorem dX5_save_26 : decode cX5_save 26 = .ok (.aload_n 0, 1) := by decide +kernel
theorem dX5_save_27 : decode cX5_save 27 = .ok (.getfield 18, 3) := by decide +kernel
theorem dX5_save_30 : decode cX5_save 30 = .ok (.iconst 1, 1) := by decide +kernel
theorem dX5_save_31 : decode cX5_save 31 = .ok (.iadd, 1) := by decide +kernel
theorem dX5_save_32 : decode cX5_save 32 = .ok (.bipush 6, 2) := by decide +kernel
theorem dX5_save_34 : decode cX5_save 34 = .ok (.invokestatic 33, 3) := by decide +kernel
theorem dX5_save_37 : decode cX5_save 37 = .ok (.putfield 18, 3) := by decide +kernel
theorem dX5_save_40 : decode cX5_save 40 = .ok (.return_, 1) := by decide +kernel
theorem dX5_size_0 : decode cX5_size 0 = .ok (.aload_n 0, 1) := by decide +kernel
theorem dX5_size_1 : decode cX5_size 1 = .ok (.getfield 18, 3) := by decide +kernel
theorem dX5_size_4 : decode cX5_size 4 = .ok (.ireturn, 1) := by decide +kernel
set_option maxHeartbeats 4000000 in
set_option maxRecDepth 100000 in
theorem c_Label_copy0 (l : Launch) (D : va_G) (zla : Nat) (zld : Nat) (zlz : Nat) (zldA : Nat) (zldN : Int32) (zlzA : Nat) (zlzN : Int32) (la : Nat) (ld : Nat) (lz : Nat) (ldA : Nat) (lzA : Nat) (sz : Nat) : k_Mv (S := Unit) l D yX2_copyFrom cX2_copyFrom 2 none 2 0 0 42 [.ref zla, .ref la] [(zla, .inr (2, [.ref zld, .ref zlz])), (zld, .inr (4, [.ref zldA, .int zldN])), (zlz, .inr (4, [.ref zlzA, .int zlzN])), (la, .inr (2, [.ref ld, .ref lz])), (ld, .inr (4, [.ref ldA, .int 0])), (lz, .inr (4, [.ref lzA, .int 0]))] [] (fun (_ : Unit) => True) (fun _ => [(zla, .inr (2, [.ref zld, .ref zlz])), (zld, .inr (4, [.ref zldA, .int 0])), (zlz, .inr (4, [.ref zlzA, .int 0])), (la, .inr (2, [.ref ld, .ref lz])), (ld, .inr (4, [.ref ldA, .int 0])), (lz, .inr (4, [.ref lzA, .int 0]))]) (fun _ => []) sz := by
  refine Met.ofW (cc := cX2_copyFrom) (maxL := 2) (ret := none) (by decide) rfl ?_
  intro p e s m args below meth c s₁ B hml hv
  obtain ⟨rfl, hsz, hP, hK, hD0, hG⟩ := hv
  have hx := B.exec
  have hb := B.bytes
  have hr := B.returns
  have ht : ∀ v9 ∈ wsA, v9.before ([.ref zla, .ref la] : List Value).toArray s = true := fun v9 h9 => atoms_spec (ws := k_ws yX2_copyFrom cX2_copyFrom 2 none) B.pre v9 (List.mem_cons_of_mem _ h9)
  have hown : s.vm.findClass RX2 = some m.cls := findClass_of_methodNamed B.named
  have S0 : k_C p s m ([.ref zla, .ref la] : List Value).toArray c cX2_copyFrom 2 RX2 := ⟨hx, hb, hml, hown, ht⟩
  have hlocks := B.notSynchronized
  subst hsz
  have hD := hD0.self (sz := s.heap.size)
  generalize hAe : va_A [(zla, .inr (2, [.ref zld, .ref zlz])), (zld, .inr (4, [.ref zldA, .int zldN])), (zlz, .inr (4, [.ref zlzA, .int zlzN])), (la, .inr (2, [.ref ld, .ref lz])), (ld, .inr (4, [.ref ldA, .int 0])), (lz, .inr (4, [.ref lzA, .int 0]))] s.heap.size = A at hD hG ⊢
  have hA : ∀ q : Nat, s.heap.size ≤ q → A q := fun q h => by rw [← hAe]; exact Or.inr h
  have hS : va_S A s.heap s.heap [] := va_S.rf
  have hl := lv_entry ([.ref zla, .ref la]) (n := 2) (Nat.le_of_ble_eq_true rfl)
  rw [lg_entry_eq]
  generalize (lg_sl ([.ref zla, .ref la]) ++ List.replicate (2 - (lg_sl ([.ref zla, .ref la])).length) Slot.unset).toArray = ls at hl ⊢
  have hl : lv_has ls 2 [(0, .ref zla), (1, .ref la)] := hl
  have hP : va_P D vwCl [(zla, .inr (2, [.ref zld, .ref zlz])), (zld, .inr (4, [.ref zldA, .int zldN])), (zlz, .inr (4, [.ref zlzA, .int zlzN])), (la, .inr (2, [.ref ld, .ref lz])), (ld, .inr (4, [.ref ldA, .int 0])), (lz, .inr (4, [.ref lzA, .int 0]))] s.heap := hP
  refine lv_aload_n hx hb dX2_copyFrom_0 rfl (lv_at hl 0 rfl) ?_
  refine va_get (D := D) (ci := 2) (v := .ref zld) (C := RX2) (T := TX2) (N := 2) hx hb ht inA_X2 hown hK hP 0 rfl rfl 0 (by decide) (ht _ lf_X2_14) (fun _ h9 => h9) rfl dX2_copyFrom_1 ?_
  refine lv_aload_n hx hb dX2_copyFrom_4 rfl (lv_at hl 1 rfl) ?_
  refine va_get (D := D) (ci := 2) (v := .ref ld) (C := RX2) (T := TX2) (N := 2) hx hb ht inA_X2 hown hK hP 3 rfl rfl 0 (by decide) (ht _ lf_X2_14) (fun _ h9 => h9) rfl dX2_copyFrom_5 ?_
  have ct := k_cut_of (wc := [(zld, .inr (4, [.ref zldA, .int zldN])), (ld, .inr (4, [.ref ldA, .int 0]))]) (wr := [(zla, .inr (2, [.ref zld, .ref zlz])), (zlz, .inr (4, [.ref zlzA, .int zlzN])), (la, .inr (2, [.ref ld, .ref lz])), (lz, .inr (4, [.ref lzA, .int 0]))]) (tc := []) hG hS hA hK hP hD [1, 4] [0, 2, 3, 5] [] rfl rfl (by decide) (by decide) (by decide) rfl
  refine k_endv (As := [.ref zld, .ref ld]) ct (k_runV (As := [.ref ld]) (rest := []) S0 Lv_X2_66 rfl (ci := 4) (q0 := 0) rfl rfl ct (c_Row_copy0 l D zld zldA zldN ld ldA s.heap.size) hl.1 rfl (Nat.le_of_ble_eq_true rfl) rfl dX2_copyFrom_8 ⟨⟨Nat.le_of_ble_eq_true rfl, Nat.le_of_ble_eq_true rfl⟩, Nat.le_of_ble_eq_true rfl, Nat.le_of_ble_eq_true rfl⟩) rfl rfl (fun _ _ H locs hw_2 hP hD hK hS => ?_)
  have hK : va_K D vwCl [] s := hK
  have hP : va_P D vwCl [(zla, .inr (2, [.ref zld, .ref zlz])), (zlz, .inr (4, [.ref zlzA, .int zlzN])), (la, .inr (2, [.ref ld, .ref lz])), (lz, .inr (4, [.ref lzA, .int 0])), (zld, .inr (4, [.ref zldA, .int 0])), (ld, .inr (4, [.ref ldA, .int 0]))] H := hP
  have hD : va_D A [(zla, .inr (2, [.ref zld, .ref zlz])), (zlz, .inr (4, [.ref zlzA, .int zlzN])), (la, .inr (2, [.ref ld, .ref lz])), (lz, .inr (4, [.ref lzA, .int 0])), (zld, .inr (4, [.ref zldA, .int 0])), (ld, .inr (4, [.ref ldA, .int 0]))] := hD
  refine lv_aload_n hx hb dX2_copyFrom_11 rfl (lv_at hl 0 rfl) ?_
  refine va_get (D := D) (ci := 2) (v := .ref zlz) (C := RX2) (T := TX2) (N := 2) hx hb ht inA_X2 hown hK hP 0 rfl rfl 1 (by decide) (ht _ lf_X2_20) (fun _ h9 => h9) rfl dX2_copyFrom_12 ?_
  refine lv_aload_n hx hb dX2_copyFrom_15 rfl (lv_at hl 1 rfl) ?_
  refine va_get (D := D) (ci := 2) (v := .ref lz) (C := RX2) (T := TX2) (N := 2) hx hb ht inA_X2 hown hK hP 2 rfl rfl 1 (by decide) (ht _ lf_X2_20) (fun _ h9 => h9) rfl dX2_copyFrom_16 ?_
  have ct := k_cut_of (wc := [(zlz, .inr (4, [.ref zlzA, .int zlzN])), (lz, .inr (4, [.ref lzA, .int 0]))]) (wr := [(zla, .inr (2, [.ref zld, .ref zlz])), (la, .inr (2, [.ref ld, .ref lz])), (zld, .inr (4, [.ref zldA, .int 0])), (ld, .inr (4, [.ref ldA, .int 0]))]) (tc := []) hG hS hA hK hP hD [1, 3] [0, 2, 4, 5] [] rfl rfl (by decide) (by decide) (by decide) rfl
  refine k_endv (As := [.ref zlz, .ref lz]) ct (k_runV (As := [.ref lz]) (rest := []) S0 Lv_X2_66 rfl (ci := 4) (q0 := 0) rfl rfl ct (c_Row_copy0 l D zlz zlzA zlzN lz lzA H.size) hl.1 rfl (Nat.le_of_ble_eq_true rfl) rfl dX2_copyFrom_19 ⟨⟨Nat.le_of_ble_eq_true rfl, Nat.le_of_ble_eq_true rfl⟩, Nat.le_of_ble_eq_true rfl, Nat.le_of_ble_eq_true rfl⟩) rfl rfl (fun _ _ H locs hw_4 hP hD hK hS => ?_)
  have hK : va_K D vwCl [] s := hK
  have hP : va_P D vwCl [(zla, .inr (2, [.ref zld, .ref zlz])), (la, .inr (2, [.ref ld, .ref lz])), (zld, .inr (4, [.ref zldA, .int 0])), (ld, .inr (4, [.ref ldA, .int 0])), (zlz, .inr (4, [.ref zlzA, .int 0])), (lz, .inr (4, [.ref lzA, .int 0]))] H := hP
  have hD : va_D A [(zla, .inr (2, [.ref zld, .ref zlz])), (la, .inr (2, [.ref ld, .ref lz])), (zld, .inr (4, [.ref zldA, .int 0])), (ld, .inr (4, [.ref ldA, .int 0])), (zlz, .inr (4, [.ref zlzA, .int 0])), (lz, .inr (4, [.ref lzA, .int 0]))] := hD
  have hP9 : va_P D vwCl [(zla, .inr (2, [.ref zld, .ref zlz])), (zld, .inr (4, [.ref zldA, .int 0])), (zlz, .inr (4, [.ref zlzA, .int 0])), (la, .inr (2, [.ref ld, .ref lz])), (ld, .inr (4, [.ref ldA, .int 0])), (lz, .inr (4, [.ref lzA, .int 0]))] H := hP.sub [0, 2, 4, 1, 3, 5] rfl
  have hD9 : va_D A [(zla, .inr (2, [.ref zld, .ref zlz])), (zld, .inr (4, [.ref zldA, .int 0])), (zlz, .inr (4, [.ref zlzA, .int 0])), (la, .inr (2, [.ref ld, .ref lz])), (ld, .inr (4, [.ref ldA, .int 0])), (lz, .inr (4, [.ref lzA, .int 0]))] := hD.sub [0, 2, 4, 1, 3, 5] (by decide) rfl
  have hK9 : va_K D vwCl [] s := hK.sub [] rfl
  exact W.vret hx hb hr (fun t ht9 hW9 => ⟨⟨(), rfl, by first | rfl | trivial | (simp only [if_true, if_false, reduceIte, and_self]; done) | simp_all, ⟨by rw [ht9]; exact hP9, va_K.moved hW9.alike hK9, hD9⟩⟩, hS.F ht9⟩) hS.2.2 dX2_copyFrom_22
set_option maxHeartbeats 4000000 in
set_option maxRecDepth 100000 in
theorem c_CodeList_copy0 (l : Launch) (D : va_G) (zli : Nat) (zln : Nat) (zll : Nat) (zlc : Nat) (zlnA : Nat) (zlnN : Int32) (zllA : Nat) (zllN : Int32) (zlcA : Nat) (zlcN : Int32) (li : Nat) (ln : Nat) (ll : Nat) (lc : Nat) (lnA : Nat) (llA : Nat) (lcA : Nat) (sz : Nat) : k_Mv (S := Unit) l D yX0_copyFrom cX0_copyFrom 2 none 2 0 0 42 [.ref zli, .ref li] [(zli, .inr (0, [.ref zln, .ref zll, .ref zlc])), (zln, .inr (4, [.ref zlnA, .int zlnN])), (zll, .inr (4, [.ref zllA, .int zllN])), (zlc, .inr (4, [.ref zlcA, .int zlcN])), (li, .inr (0, [.ref ln, .ref ll, .ref lc])), (ln, .inr (4, [.ref lnA, .int 0])), (ll, .inr (4, [.ref llA, .int 0])), (lc, .inr (4, [.ref lcA, .int 0]))] [] (fun (_ : Unit) => True) (fun _ => [(zli, .inr (0, [.ref zln, .ref zll, .ref zlc])), (zln, .inr (4, [.ref zlnA, .int 0])), (zll, .inr (4, [.ref zllA, .int 0])), (zlc, .inr (4, [.ref zlcA, .int 0])), (li, .inr (0, [.ref ln, .ref ll, .ref lc])), (ln, .inr (4, [.ref lnA, .int 0])), (ll, .inr (4, [.ref llA, .int 0])), (lc, .inr (4, [.ref lcA, .int 0]))]) (fun _ => []) sz := by
  refine Met.ofW (cc := cX0_copyFrom) (maxL := 2) (ret := none) (by decide) rfl ?_
  intro p e s m args below meth c s₁ B hml hv
  obtain ⟨rfl, hsz, hP, hK, hD0, hG⟩ := hv
  have hx := B.exec
  have hb := B.bytes
  have hr := B.returns
  have ht : ∀ v9 ∈ wsA, v9.before ([.ref zli, .ref li] : List Value).toArray s = true := fun v9 h9 => atoms_spec (ws := k_ws yX0_copyFrom cX0_copyFrom 2 none) B.pre v9 (List.mem_cons_of_mem _ h9)
  have hown : s.vm.findClass RX0 = some m.cls := findClass_of_methodNamed B.named
  have S0 : k_C p s m ([.ref zli, .ref li] : List Value).toArray c cX0_copyFrom 2 RX0 := ⟨hx, hb, hml, hown, ht⟩
  have hlocks := B.notSynchronized
  subst hsz
  have hD := hD0.self (sz := s.heap.size)
  generalize hAe : va_A [(zli, .inr (0, [.ref zln, .ref zll, .ref zlc])), (zln, .inr (4, [.ref zlnA, .int zlnN])), (zll, .inr (4, [.ref zllA, .int zllN])), (zlc, .inr (4, [.ref zlcA, .int zlcN])), (li, .inr (0, [.ref ln, .ref ll, .ref lc])), (ln, .inr (4, [.ref lnA, .int 0])), (ll, .inr (4, [.ref llA, .int 0])), (lc, .inr (4, [.ref lcA, .int 0]))] s.heap.size = A at hD hG ⊢
  have hA : ∀ q : Nat, s.heap.size ≤ q → A q := fun q h => by rw [← hAe]; exact Or.inr h
  have hS : va_S A s.heap s.heap [] := va_S.rf
  have hl := lv_entry ([.ref zli, .ref li]) (n := 2) (Nat.le_of_ble_eq_true rfl)
  rw [lg_entry_eq]
  generalize (lg_sl ([.ref zli, .ref li]) ++ List.replicate (2 - (lg_sl ([.ref zli, .ref li])).length) Slot.unset).toArray = ls at hl ⊢
  have hl : lv_has ls 2 [(0, .ref zli), (1, .ref li)] := hl
  have hP : va_P D vwCl [(zli, .inr (0, [.ref zln, .ref zll, .ref zlc])), (zln, .inr (4, [.ref zlnA, .int zlnN])), (zll, .inr (4, [.ref zllA, .int zllN])), (zlc, .inr (4, [.ref zlcA, .int zlcN])), (li, .inr (0, [.ref ln, .ref ll, .ref lc])), (ln, .inr (4, [.ref lnA, .int 0])), (ll, .inr (4, [.ref llA, .int 0])), (lc, .inr (4, [.ref lcA, .int 0]))] s.heap := hP
  refine lv_aload_n hx hb dX0_copyFrom_0 rfl (lv_at hl 0 rfl) ?_
  refine va_get (D := D) (ci := 0) (v := .ref zln) (C := RX0) (T := TX0) (N := 3) hx hb ht inA_X0 hown hK hP 0 rfl rfl 0 (by decide) (ht _ lf_X0_14) (fun _ h9 => h9) rfl dX0_copyFrom_1 ?_
  refine lv_aload_n hx hb dX0_copyFrom_4 rfl (lv_at hl 1 rfl) ?_
  refine va_get (D := D) (ci := 0) (v := .ref ln) (C := RX0) (T := TX0) (N := 3) hx hb ht inA_X0 hown hK hP 4 rfl rfl 0 (by decide) (ht _ lf_X0_14) (fun _ h9 => h9) rfl dX0_copyFrom_5 ?_
  have ct := k_cut_of (wc := [(zln, .inr (4, [.ref zlnA, .int zlnN])), (ln, .inr (4, [.ref lnA, .int 0]))]) (wr := [(zli, .inr (0, [.ref zln, .ref zll, .ref zlc])), (zll, .inr (4, [.ref zllA, .int zllN])), (zlc, .inr (4, [.ref zlcA, .int zlcN])), (li, .inr (0, [.ref ln, .ref ll, .ref lc])), (ll, .inr (4, [.ref llA, .int 0])), (lc, .inr (4, [.ref lcA, .int 0]))]) (tc := []) hG hS hA hK hP hD [1, 5] [0, 2, 3, 4, 6, 7] [] rfl rfl (by decide) (by decide) (by decide) rfl
  refine k_endv (As := [.ref zln, .ref ln]) ct (k_runV (As := [.ref ln]) (rest := []) S0 Lv_X0_48 rfl (ci := 4) (q0 := 0) rfl rfl ct (c_Row_copy0 l D zln zlnA zlnN ln lnA s.heap.size) hl.1 rfl (Nat.le_of_ble_eq_true rfl) rfl dX0_copyFrom_8 ⟨⟨Nat.le_of_ble_eq_true rfl, Nat.le_of_ble_eq_true rfl⟩, Nat.le_of_ble_eq_true rfl, Nat.le_of_ble_eq_true rfl⟩) rfl rfl (fun _ _ H locs hw_2 hP hD hK hS => ?_)
  have hK : va_K D vwCl [] s := hK
  have hP : va_P D vwCl [(zli, .inr (0, [.ref zln, .ref zll, .ref zlc])), (zll, .inr (4, [.ref zllA, .int zllN])), (zlc, .inr (4, [.ref zlcA, .int zlcN])), (li, .inr (0, [.ref ln, .ref ll, .ref lc])), (ll, .inr (4, [.ref llA, .int 0])), (lc, .inr (4, [.ref lcA, .int 0])), (zln, .inr (4, [.ref zlnA, .int 0])), (ln, .inr (4, [.ref lnA, .int 0]))] H := hP
  have hD : va_D A [(zli, .inr (0, [.ref zln, .ref zll, .ref zlc])), (zll, .inr (4, [.ref zllA, .int zllN])), (zlc, .inr (4, [.ref zlcA, .int zlcN])), (li, .inr (0, [.ref ln, .ref ll, .ref lc])), (ll, .inr (4, [.ref llA, .int 0])), (lc, .inr (4, [.ref lcA, .int 0])), (zln, .inr (4, [.ref zlnA, .int 0])), (ln, .inr (4, [.ref lnA, .int 0]))] := hD
  refine lv_aload_n hx hb dX0_copyFrom_11 rfl (lv_at hl 0 rfl) ?_
  refine va_get (D := D) (ci := 0) (v := .ref zll) (C := RX0) (T := TX0) (N := 3) hx hb ht inA_X0 hown hK hP 0 rfl rfl 1 (by decide) (ht _ lf_X0_20) (fun _ h9 => h9) rfl dX0_copyFrom_12 ?_
  refine lv_aload_n hx hb dX0_copyFrom_15 rfl (lv_at hl 1 rfl) ?_
  refine va_get (D := D) (ci := 0) (v := .ref ll) (C := RX0) (T := TX0) (N := 3) hx hb ht inA_X0 hown hK hP 3 rfl rfl 1 (by decide) (ht _ lf_X0_20) (fun _ h9 => h9) rfl dX0_copyFrom_16 ?_
  have ct := k_cut_of (wc := [(zll, .inr (4, [.ref zllA, .int zllN])), (ll, .inr (4, [.ref llA, .int 0]))]) (wr := [(zli, .inr (0, [.ref zln, .ref zll, .ref zlc])), (zlc, .inr (4, [.ref zlcA, .int zlcN])), (li, .inr (0, [.ref ln, .ref ll, .ref lc])), (lc, .inr (4, [.ref lcA, .int 0])), (zln, .inr (4, [.ref zlnA, .int 0])), (ln, .inr (4, [.ref lnA, .int 0]))]) (tc := []) hG hS hA hK hP hD [1, 4] [0, 2, 3, 5, 6, 7] [] rfl rfl (by decide) (by decide) (by decide) rfl
  refine k_endv (As := [.ref zll, .ref ll]) ct (k_runV (As := [.ref ll]) (rest := []) S0 Lv_X0_48 rfl (ci := 4) (q0 := 0) rfl rfl ct (c_Row_copy0 l D zll zllA zllN ll llA H.size) hl.1 rfl (Nat.le_of_ble_eq_true rfl) rfl dX0_copyFrom_19 ⟨⟨Nat.le_of_ble_eq_true rfl, Nat.le_of_ble_eq_true rfl⟩, Nat.le_of_ble_eq_true rfl, Nat.le_of_ble_eq_true rfl⟩) rfl rfl (fun _ _ H locs hw_4 hP hD hK hS => ?_)
  have hK : va_K D vwCl [] s := hK
  have hP : va_P D vwCl [(zli, .inr (0, [.ref zln, .ref zll, .ref zlc])), (zlc, .inr (4, [.ref zlcA, .int zlcN])), (li, .inr (0, [.ref ln, .ref ll, .ref lc])), (lc, .inr (4, [.ref lcA, .int 0])), (zln, .inr (4, [.ref zlnA, .int 0])), (ln, .inr (4, [.ref lnA, .int 0])), (zll, .inr (4, [.ref zllA, .int 0])), (ll, .inr (4, [.ref llA, .int 0]))] H := hP
  have hD : va_D A [(zli, .inr (0, [.ref zln, .ref zll, .ref zlc])), (zlc, .inr (4, [.ref zlcA, .int zlcN])), (li, .inr (0, [.ref ln, .ref ll, .ref lc])), (lc, .inr (4, [.ref lcA, .int 0])), (zln, .inr (4, [.ref zlnA, .int 0])), (ln, .inr (4, [.ref lnA, .int 0])), (zll, .inr (4, [.ref zllA, .int 0])), (ll, .inr (4, [.ref llA, .int 0]))] := hD
  refine lv_aload_n hx hb dX0_copyFrom_22 rfl (lv_at hl 0 rfl) ?_
  refine va_get (D := D) (ci := 0) (v := .ref zlc) (C := RX0) (T := TX0) (N := 3) hx hb ht inA_X0 hown hK hP 0 rfl rfl 2 (by decide) (ht _ lf_X0_23) (fun _ h9 => h9) rfl dX0_copyFrom_23 ?_
  refine lv_aload_n hx hb dX0_copyFrom_26 rfl (lv_at hl 1 rfl) ?_
  refine va_get (D := D) (ci := 0) (v := .ref lc) (C := RX0) (T := TX0) (N := 3) hx hb ht inA_X0 hown hK hP 2 rfl rfl 2 (by decide) (ht _ lf_X0_23) (fun _ h9 => h9) rfl dX0_copyFrom_27 ?_
  have ct := k_cut_of (wc := [(zlc, .inr (4, [.ref zlcA, .int zlcN])), (lc, .inr (4, [.ref lcA, .int 0]))]) (wr := [(zli, .inr (0, [.ref zln, .ref zll, .ref zlc])), (li, .inr (0, [.ref ln, .ref ll, .ref lc])), (zln, .inr (4, [.ref zlnA, .int 0])), (ln, .inr (4, [.ref lnA, .int 0])), (zll, .inr (4, [.ref zllA, .int 0])), (ll, .inr (4, [.ref llA, .int 0]))]) (tc := []) hG hS hA hK hP hD [1, 3] [0, 2, 4, 5, 6, 7] [] rfl rfl (by decide) (by decide) (by decide) rfl
  refine k_endv (As := [.ref zlc, .ref lc]) ct (k_runV (As := [.ref lc]) (rest := []) S0 Lv_X0_48 rfl (ci := 4) (q0 := 0) rfl rfl ct (c_Row_copy0 l D zlc zlcA zlcN lc lcA H.size) hl.1 rfl (Nat.le_of_ble_eq_true rfl) rfl dX0_copyFrom_30 ⟨⟨Nat.le_of_ble_eq_true rfl, Nat.le_of_ble_eq_true rfl⟩, Nat.le_of_ble_eq_true rfl, Nat.le_of_ble_eq_true rfl⟩) rfl rfl (fun _ _ H locs hw_6 hP hD hK hS => ?_)
  have hK : va_K D vwCl [] s := hK
  have hP : va_P D vwCl [(zli, .inr (0, [.ref zln, .ref zll, .ref zlc])), (li, .inr (0, [.ref ln, .ref ll, .ref lc])), (zln, .inr (4, [.ref zlnA, .int 0])), (ln, .inr (4, [.ref lnA, .int 0])), (zll, .inr (4, [.ref zllA, .int 0])), (ll, .inr (4, [.ref llA, .int 0])), (zlc, .inr (4, [.ref zlcA, .int 0])), (lc, .inr (4, [.ref lcA, .int 0]))] H := hP
  have hD : va_D A [(zli, .inr (0, [.ref zln, .ref zll, .ref zlc])), (li, .inr (0, [.ref ln, .ref ll, .ref lc])), (zln, .inr (4, [.ref zlnA, .int 0])), (ln, .inr (4, [.ref lnA, .int 0])), (zll, .inr (4, [.ref zllA, .int 0])), (ll, .inr (4, [.ref llA, .int 0])), (zlc, .inr (4, [.ref zlcA, .int 0])), (lc, .inr (4, [.ref lcA, .int 0]))] := hD
  have hP9 : va_P D vwCl [(zli, .inr (0, [.ref zln, .ref zll, .ref zlc])), (zln, .inr (4, [.ref zlnA, .int 0])), (zll, .inr (4, [.ref zllA, .int 0])), (zlc, .inr (4, [.ref zlcA, .int 0])), (li, .inr (0, [.ref ln, .ref ll, .ref lc])), (ln, .inr (4, [.ref lnA, .int 0])), (ll, .inr (4, [.ref llA, .int 0])), (lc, .inr (4, [.ref lcA, .int 0]))] H := hP.sub [0, 2, 4, 6, 1, 3, 5, 7] rfl
  have hD9 : va_D A [(zli, .inr (0, [.ref zln, .ref zll, .ref zlc])), (zln, .inr (4, [.ref zlnA, .int 0])), (zll, .inr (4, [.ref zllA, .int 0])), (zlc, .inr (4, [.ref zlcA, .int 0])), (li, .inr (0, [.ref ln, .ref ll, .ref lc])), (ln, .inr (4, [.ref lnA, .int 0])), (ll, .inr (4, [.ref llA, .int 0])), (lc, .inr (4, [.ref lcA, .int 0]))] := hD.sub [0, 2, 4, 6, 1, 3, 5, 7] (by decide) rfl
  have hK9 : va_K D vwCl [] s := hK.sub [] rfl
  exact W.vret hx hb hr (fun t ht9 hW9 => ⟨⟨(), rfl, by first | rfl | trivial | (simp only [if_true, if_false, reduceIte, and_self]; done) | simp_all, ⟨by rw [ht9]; exact hP9, va_K.moved hW9.alike hK9, hD9⟩⟩, hS.F ht9⟩) hS.2.2 dX0_copyFrom_33
set_option maxHeartbeats 4000000 in
set_option maxRecDepth 100000 in
theorem c_State_copy0 (l : Launch) (D : va_G) (zst : Nat) (zla : Nat) (zme : Nat) (zli : Nat) (ztol : Int32) (zsu : Int32) (zfa : Int32) (zld : Nat) (zlz : Nat) (zldA : Nat) (zldN : Int32) (zlzA : Nat) (zlzN : Int32) (zmeA : Nat) (zmeN : Int32) (zln : Nat) (zll : Nat) (zlc : Nat) (zlnA : Nat) (zlnN : Int32) (zllA : Nat) (zllN : Int32) (zlcA : Nat) (zlcN : Int32) (st : Nat) (la : Nat) (me : Nat) (li : Nat) (tol : Int32) (su : Int32) (fa : Int32) (ld : Nat) (lz : Nat) (ldA : Nat) (lzA : Nat) (meA : Nat) (ln : Nat) (ll : Nat) (lc : Nat) (lnA : Nat) (llA : Nat) (lcA : Nat) (sz : Nat) : k_Mv (S := Unit) l D yX6_copyFrom cX6_copyFrom 2 none 3 0 0 63 [.ref zst, .ref st] [(zst, .inr (6, [.ref zla, .ref zme, .ref zli, .int ztol, .int zsu, .int zfa])), (zla, .inr (2, [.ref zld, .ref zlz])), (zld, .inr (4, [.ref zldA, .int zldN])), (zlz, .inr (4, [.ref zlzA, .int zlzN])), (zme, .inr (4, [.ref zmeA, .int zmeN])), (zli, .inr (0, [.ref zln, .ref zll, .ref zlc])), (zln, .inr (4, [.ref zlnA, .int zlnN])), (zll, .inr (4, [.ref zllA, .int zllN])), (zlc, .inr (4, [.ref zlcA, .int zlcN])), (st, .inr (6, [.ref la, .ref me, .ref li, .int tol, .int su, .int fa])), (la, .inr (2, [.ref ld, .ref lz])), (ld, .inr (4, [.ref ldA, .int 0])), (lz, .inr (4, [.ref lzA, .int 0])), (me, .inr (4, [.ref meA, .int 0])), (li, .inr (0, [.ref ln, .ref ll, .ref lc])), (ln, .inr (4, [.ref lnA, .int 0])), (ll, .inr (4, [.ref llA, .int 0])), (lc, .inr (4, [.ref lcA, .int 0]))] [] (fun (_ : Unit) => True) (fun _ => [(zst, .inr (6, [.ref zla, .ref zme, .ref zli, .int tol, .int su, .int fa])), (zla, .inr (2, [.ref zld, .ref zlz])), (zld, .inr (4, [.ref zldA, .int 0])), (zlz, .inr (4, [.ref zlzA, .int 0])), (zme, .inr (4, [.ref zmeA, .int 0])), (zli, .inr (0, [.ref zln, .ref zll, .ref zlc])), (zln, .inr (4, [.ref zlnA, .int 0])), (zll, .inr (4, [.ref zllA, .int 0])), (zlc, .inr (4, [.ref zlcA, .int 0])), (st, .inr (6, [.ref la, .ref me, .ref li, .int tol, .int su, .int fa])), (la, .inr (2, [.ref ld, .ref lz])), (ld, .inr (4, [.ref ldA, .int 0])), (lz, .inr (4, [.ref lzA, .int 0])), (me, .inr (4, [.ref meA, .int 0])), (li, .inr (0, [.ref ln, .ref ll, .ref lc])), (ln, .inr (4, [.ref lnA, .int 0])), (ll, .inr (4, [.ref llA, .int 0])), (lc, .inr (4, [.ref lcA, .int 0]))]) (fun _ => []) sz := by
  refine Met.ofW (cc := cX6_copyFrom) (maxL := 2) (ret := none) (by decide) rfl ?_
  intro p e s m args below meth c s₁ B hml hv
  obtain ⟨rfl, hsz, hP, hK, hD0, hG⟩ := hv
  have hx := B.exec
  have hb := B.bytes
  have hr := B.returns
  have ht : ∀ v9 ∈ wsA, v9.before ([.ref zst, .ref st] : List Value).toArray s = true := fun v9 h9 => atoms_spec (ws := k_ws yX6_copyFrom cX6_copyFrom 2 none) B.pre v9 (List.mem_cons_of_mem _ h9)
  have hown : s.vm.findClass RX6 = some m.cls := findClass_of_methodNamed B.named
  have S0 : k_C p s m ([.ref zst, .ref st] : List Value).toArray c cX6_copyFrom 2 RX6 := ⟨hx, hb, hml, hown, ht⟩
  have hlocks := B.notSynchronized
  subst hsz
  have hD := hD0.self (sz := s.heap.size)
  generalize hAe : va_A [(zst, .inr (6, [.ref zla, .ref zme, .ref zli, .int ztol, .int zsu, .int zfa])), (zla, .inr (2, [.ref zld, .ref zlz])), (zld, .inr (4, [.ref zldA, .int zldN])), (zlz, .inr (4, [.ref zlzA, .int zlzN])), (zme, .inr (4, [.ref zmeA, .int zmeN])), (zli, .inr (0, [.ref zln, .ref zll, .ref zlc])), (zln, .inr (4, [.ref zlnA, .int zlnN])), (zll, .inr (4, [.ref zllA, .int zllN])), (zlc, .inr (4, [.ref zlcA, .int zlcN])), (st, .inr (6, [.ref la, .ref me, .ref li, .int tol, .int su, .int fa])), (la, .inr (2, [.ref ld, .ref lz])), (ld, .inr (4, [.ref ldA, .int 0])), (lz, .inr (4, [.ref lzA, .int 0])), (me, .inr (4, [.ref meA, .int 0])), (li, .inr (0, [.ref ln, .ref ll, .ref lc])), (ln, .inr (4, [.ref lnA, .int 0])), (ll, .inr (4, [.ref llA, .int 0])), (lc, .inr (4, [.ref lcA, .int 0]))] s.heap.size = A at hD hG ⊢
  have hA : ∀ q : Nat, s.heap.size ≤ q → A q := fun q h => by rw [← hAe]; exact Or.inr h
  have hS : va_S A s.heap s.heap [] := va_S.rf
  have hl := lv_entry ([.ref zst, .ref st]) (n := 2) (Nat.le_of_ble_eq_true rfl)
  rw [lg_entry_eq]
  generalize (lg_sl ([.ref zst, .ref st]) ++ List.replicate (2 - (lg_sl ([.ref zst, .ref st])).length) Slot.unset).toArray = ls at hl ⊢
  have hl : lv_has ls 2 [(0, .ref zst), (1, .ref st)] := hl
  have hP : va_P D vwCl [(zst, .inr (6, [.ref zla, .ref zme, .ref zli, .int ztol, .int zsu, .int zfa])), (zla, .inr (2, [.ref zld, .ref zlz])), (zld, .inr (4, [.ref zldA, .int zldN])), (zlz, .inr (4, [.ref zlzA, .int zlzN])), (zme, .inr (4, [.ref zmeA, .int zmeN])), (zli, .inr (0, [.ref zln, .ref zll, .ref zlc])), (zln, .inr (4, [.ref zlnA, .int zlnN])), (zll, .inr (4, [.ref zllA, .int zllN])), (zlc, .inr (4, [.ref zlcA, .int zlcN])), (st, .inr (6, [.ref la, .ref me, .ref li, .int tol, .int su, .int fa])), (la, .inr (2, [.ref ld, .ref lz])), (ld, .inr (4, [.ref ldA, .int 0])), (lz, .inr (4, [.ref lzA, .int 0])), (me, .inr (4, [.ref meA, .int 0])), (li, .inr (0, [.ref ln, .ref ll, .ref lc])), (ln, .inr (4, [.ref lnA, .int 0])), (ll, .inr (4, [.ref llA, .int 0])), (lc, .inr (4, [.ref lcA, .int 0]))] s.heap := hP
  refine lv_aload_n hx hb dX6_copyFrom_0 rfl (lv_at hl 0 rfl) ?_
  refine va_get (D := D) (ci := 6) (v := .ref zla) (C := RX6) (T := TX6) (N := 6) hx hb ht inA_X6 hown hK hP 0 rfl rfl 0 (by decide) (ht _ lf_X6_12) (fun _ h9 => h9) rfl dX6_copyFrom_1 ?_
  refine lv_aload_n hx hb dX6_copyFrom_4 rfl (lv_at hl 1 rfl) ?_
  refine va_get (D := D) (ci := 6) (v := .ref la) (C := RX6) (T := TX6) (N := 6) hx hb ht inA_X6 hown hK hP 9 rfl rfl 0 (by decide) (ht _ lf_X6_12) (fun _ h9 => h9) rfl dX6_copyFrom_5 ?_
  have ct := k_cut_of (wc := [(zla, .inr (2, [.ref zld, .ref zlz])), (zld, .inr (4, [.ref zldA, .int zldN])), (zlz, .inr (4, [.ref zlzA, .int zlzN])), (la, .inr (2, [.ref ld, .ref lz])), (ld, .inr (4, [.ref ldA, .int 0])), (lz, .inr (4, [.ref lzA, .int 0]))]) (wr := [(zst, .inr (6, [.ref zla, .ref zme, .ref zli, .int ztol, .int zsu, .int zfa])), (zme, .inr (4, [.ref zmeA, .int zmeN])), (zli, .inr (0, [.ref zln, .ref zll, .ref zlc])), (zln, .inr (4, [.ref zlnA, .int zlnN])), (zll, .inr (4, [.ref zllA, .int zllN])), (zlc, .inr (4, [.ref zlcA, .int zlcN])), (st, .inr (6, [.ref la, .ref me, .ref li, .int tol, .int su, .int fa])), (me, .inr (4, [.ref meA, .int 0])), (li, .inr (0, [.ref ln, .ref ll, .ref lc])), (ln, .inr (4, [.ref lnA, .int 0])), (ll, .inr (4, [.ref llA, .int 0])), (lc, .inr (4, [.ref lcA, .int 0]))]) (tc := []) hG hS hA hK hP hD [1, 2, 3, 10, 11, 12] [0, 4, 5, 6, 7, 8, 9, 13, 14, 15, 16, 17] [] rfl rfl (by decide) (by decide) (by decide) rfl
  refine k_endv (As := [.ref zla, .ref la]) ct (k_runV (As := [.ref la]) (rest := []) S0 Lv_X6_38 rfl (ci := 2) (q0 := 0) rfl rfl ct (c_Label_copy0 l D zla zld zlz zldA zldN zlzA zlzN la ld lz ldA lzA s.heap.size) hl.1 rfl (Nat.le_of_ble_eq_true rfl) rfl dX6_copyFrom_8 ⟨⟨Nat.le_of_ble_eq_true rfl, Nat.le_of_ble_eq_true rfl⟩, Nat.le_of_ble_eq_true rfl, Nat.le_of_ble_eq_true rfl⟩) rfl rfl (fun _ _ H locs hw_2 hP hD hK hS => ?_)
  have hK : va_K D vwCl [] s := hK
  have hP : va_P D vwCl [(zst, .inr (6, [.ref zla, .ref zme, .ref zli, .int ztol, .int zsu, .int zfa])), (zme, .inr (4, [.ref zmeA, .int zmeN])), (zli, .inr (0, [.ref zln, .ref zll, .ref zlc])), (zln, .inr (4, [.ref zlnA, .int zlnN])), (zll, .inr (4, [.ref zllA, .int zllN])), (zlc, .inr (4, [.ref zlcA, .int zlcN])), (st, .inr (6, [.ref la, .ref me, .ref li, .int tol, .int su, .int fa])), (me, .inr (4, [.ref meA, .int 0])), (li, .inr (0, [.ref ln, .ref ll, .ref lc])), (ln, .inr (4, [.ref lnA, .int 0])), (ll, .inr (4, [.ref llA, .int 0])), (lc, .inr (4, [.ref lcA, .int 0])), (zla, .inr (2, [.ref zld, .ref zlz])), (zld, .inr (4, [.ref zldA, .int 0])), (zlz, .inr (4, [.ref zlzA, .int 0])), (la, .inr (2, [.ref ld, .ref lz])), (ld, .inr (4, [.ref ldA, .int 0])), (lz, .inr (4, [.ref lzA, .int 0]))] H := hP
  have hD : va_D A [(zst, .inr (6, [.ref zla, .ref zme, .ref zli, .int ztol, .int zsu, .int zfa])), (zme, .inr (4, [.ref zmeA, .int zmeN])), (zli, .inr (0, [.ref zln, .ref zll, .ref zlc])), (zln, .inr (4, [.ref zlnA, .int zlnN])), (zll, .inr (4, [.ref zllA, .int zllN])), (zlc, .inr (4, [.ref zlcA, .int zlcN])), (st, .inr (6, [.ref la, .ref me, .ref li, .int tol, .int su, .int fa])), (me, .inr (4, [.ref meA, .int 0])), (li, .inr (0, [.ref ln, .ref ll, .ref lc])), (ln, .inr (4, [.ref lnA, .int 0])), (ll, .inr (4, [.ref llA, .int 0])), (lc, .inr (4, [.ref lcA, .int 0])), (zla, .inr (2, [.ref zld, .ref zlz])), (zld, .inr (4, [.ref zldA, .int 0])), (zlz, .inr (4, [.ref zlzA, .int 0])), (la, .inr (2, [.ref ld, .ref lz])), (ld, .inr (4, [.ref ldA, .int 0])), (lz, .inr (4, [.ref lzA, .int 0]))] := hD
  refine lv_aload_n hx hb dX6_copyFrom_11 rfl (lv_at hl 0 rfl) ?_
  refine va_get (D := D) (ci := 6) (v := .ref zme) (C := RX6) (T := TX6) (N := 6) hx hb ht inA_X6 hown hK hP 0 rfl rfl 1 (by decide) (ht _ lf_X6_23) (fun _ h9 => h9) rfl dX6_copyFrom_12 ?_
  refine lv_aload_n hx hb dX6_copyFrom_15 rfl (lv_at hl 1 rfl) ?_
  refine va_get (D := D) (ci := 6) (v := .ref me) (C := RX6) (T := TX6) (N := 6) hx hb ht inA_X6 hown hK hP 6 rfl rfl 1 (by decide) (ht _ lf_X6_23) (fun _ h9 => h9) rfl dX6_copyFrom_16 ?_
  have ct := k_cut_of (wc := [(zme, .inr (4, [.ref zmeA, .int zmeN])), (me, .inr (4, [.ref meA, .int 0]))]) (wr := [(zst, .inr (6, [.ref zla, .ref zme, .ref zli, .int ztol, .int zsu, .int zfa])), (zli, .inr (0, [.ref zln, .ref zll, .ref zlc])), (zln, .inr (4, [.ref zlnA, .int zlnN])), (zll, .inr (4, [.ref zllA, .int zllN])), (zlc, .inr (4, [.ref zlcA, .int zlcN])), (st, .inr (6, [.ref la, .ref me, .ref li, .int tol, .int su, .int fa])), (li, .inr (0, [.ref ln, .ref ll, .ref lc])), (ln, .inr (4, [.ref lnA, .int 0])), (ll, .inr (4, [.ref llA, .int 0])), (lc, .inr (4, [.ref lcA, .int 0])), (zla, .inr (2, [.ref zld, .ref zlz])), (zld, .inr (4, [.ref zldA, .int 0])), (zlz, .inr (4, [.ref zlzA, .int 0])), (la, .inr (2, [.ref ld, .ref lz])), (ld, .inr (4, [.ref ldA, .int 0])), (lz, .inr (4, [.ref lzA, .int 0]))]) (tc := []) hG hS hA hK hP hD [1, 7] [0, 2, 3, 4, 5, 6, 8, 9, 10, 11, 12, 13, 14, 15, 16, 17] [] rfl rfl (by decide) (by decide) (by decide) rfl
  refine k_endv (As := [.ref zme, .ref me]) ct (k_runV (As := [.ref me]) (rest := []) S0 Lv_X6_42 rfl (ci := 4) (q0 := 0) rfl rfl ct (c_Row_copy0 l D zme zmeA zmeN me meA H.size) hl.1 rfl (Nat.le_of_ble_eq_true rfl) rfl dX6_copyFrom_19 ⟨⟨Nat.le_of_ble_eq_true rfl, Nat.le_of_ble_eq_true rfl⟩, Nat.le_of_ble_eq_true rfl, Nat.le_of_ble_eq_true rfl⟩) rfl rfl (fun _ _ H locs hw_4 hP hD hK hS => ?_)
  have hK : va_K D vwCl [] s := hK
  have hP : va_P D vwCl [(zst, .inr (6, [.ref zla, .ref zme, .ref zli, .int ztol, .int zsu, .int zfa])), (zli, .inr (0, [.ref zln, .ref zll, .ref zlc])), (zln, .inr (4, [.ref zlnA, .int zlnN])), (zll, .inr (4, [.ref zllA, .int zllN])), (zlc, .inr (4, [.ref zlcA, .int zlcN])), (st, .inr (6, [.ref la, .ref me, .ref li, .int tol, .int su, .int fa])), (li, .inr (0, [.ref ln, .ref ll, .ref lc])), (ln, .inr (4, [.ref lnA, .int 0])), (ll, .inr (4, [.ref llA, .int 0])), (lc, .inr (4, [.ref lcA, .int 0])), (zla, .inr (2, [.ref zld, .ref zlz])), (zld, .inr (4, [.ref zldA, .int 0])), (zlz, .inr (4, [.ref zlzA, .int 0])), (la, .inr (2, [.ref ld, .ref lz])), (ld, .inr (4, [.ref ldA, .int 0])), (lz, .inr (4, [.ref lzA, .int 0])), (zme, .inr (4, [.ref zmeA, .int 0])), (me, .inr (4, [.ref meA, .int 0]))] H := hP
  have hD : va_D A [(zst, .inr (6, [.ref zla, .ref zme, .ref zli, .int ztol, .int zsu, .int zfa])), (zli, .inr (0, [.ref zln, .ref zll, .ref zlc])), (zln, .inr (4, [.ref zlnA, .int zlnN])), (zll, .inr (4, [.ref zllA, .int zllN])), (zlc, .inr (4, [.ref zlcA, .int zlcN])), (st, .inr (6, [.ref la, .ref me, .ref li, .int tol, .int su, .int fa])), (li, .inr (0, [.ref ln, .ref ll, .ref lc])), (ln, .inr (4, [.ref lnA, .int 0])), (ll, .inr (4, [.ref llA, .int 0])), (lc, .inr (4, [.ref lcA, .int 0])), (zla, .inr (2, [.ref zld, .ref zlz])), (zld, .inr (4, [.ref zldA, .int 0])), (zlz, .inr (4, [.ref zlzA, .int 0])), (la, .inr (2, [.ref ld, .ref lz])), (ld, .inr (4, [.ref ldA, .int 0])), (lz, .inr (4, [.ref lzA, .int 0])), (zme, .inr (4, [.ref zmeA, .int 0])), (me, .inr (4, [.ref meA, .int 0]))] := hD
  refine lv_aload_n hx hb dX6_copyFrom_22 rfl (lv_at hl 0 rfl) ?_
  refine va_get (D := D) (ci := 6) (v := .ref zli) (C := RX6) (T := TX6) (N := 6) hx hb ht inA_X6 hown hK hP 0 rfl rfl 2 (by decide) (ht _ lf_X6_30) (fun _ h9 => h9) rfl dX6_copyFrom_23 ?_
  refine lv_aload_n hx hb dX6_copyFrom_26 rfl (lv_at hl 1 rfl) ?_
  refine va_get (D := D) (ci := 6) (v := .ref li) (C := RX6) (T := TX6) (N := 6) hx hb ht inA_X6 hown hK hP 5 rfl rfl 2 (by decide) (ht _ lf_X6_30) (fun _ h9 => h9) rfl dX6_copyFrom_27 ?_
  have ct := k_cut_of (wc := [(zli, .inr (0, [.ref zln, .ref zll, .ref zlc])), (zln, .inr (4, [.ref zlnA, .int zlnN])), (zll, .inr (4, [.ref zllA, .int zllN])), (zlc, .inr (4, [.ref zlcA, .int zlcN])), (li, .inr (0, [.ref ln, .ref ll, .ref lc])), (ln, .inr (4, [.ref lnA, .int 0])), (ll, .inr (4, [.ref llA, .int 0])), (lc, .inr (4, [.ref lcA, .int 0]))]) (wr := [(zst, .inr (6, [.ref zla, .ref zme, .ref zli, .int ztol, .int zsu, .int zfa])), (st, .inr (6, [.ref la, .ref me, .ref li, .int tol, .int su, .int fa])), (zla, .inr (2, [.ref zld, .ref zlz])), (zld, .inr (4, [.ref zldA, .int 0])), (zlz, .inr (4, [.ref zlzA, .int 0])), (la, .inr (2, [.ref ld, .ref lz])), (ld, .inr (4, [.ref ldA, .int 0])), (lz, .inr (4, [.ref lzA, .int 0])), (zme, .inr (4, [.ref zmeA, .int 0])), (me, .inr (4, [.ref meA, .int 0]))]) (tc := []) hG hS hA hK hP hD [1, 2, 3, 4, 6, 7, 8, 9] [0, 5, 10, 11, 12, 13, 14, 15, 16, 17] [] rfl rfl (by decide) (by decide) (by decide) rfl
  refine k_endv (As := [.ref zli, .ref li]) ct (k_runV (As := [.ref li]) (rest := []) S0 Lv_X6_45 rfl (ci := 0) (q0 := 0) rfl rfl ct (c_CodeList_copy0 l D zli zln zll zlc zlnA zlnN zllA zllN zlcA zlcN li ln ll lc lnA llA lcA H.size) hl.1 rfl (Nat.le_of_ble_eq_true rfl) rfl dX6_copyFrom_30 ⟨⟨Nat.le_of_ble_eq_true rfl, Nat.le_of_ble_eq_true rfl⟩, Nat.le_of_ble_eq_true rfl, Nat.le_of_ble_eq_true rfl⟩) rfl rfl (fun _ _ H locs hw_6 hP hD hK hS => ?_)
  have hK : va_K D vwCl [] s := hK
  have hP : va_P D vwCl [(zst, .inr (6, [.ref zla, .ref zme, .ref zli, .int ztol, .int zsu, .int zfa])), (st, .inr (6, [.ref la, .ref me, .ref li, .int tol, .int su, .int fa])), (zla, .inr (2, [.ref zld, .ref zlz])), (zld, .inr (4, [.ref zldA, .int 0])), (zlz, .inr (4, [.ref zlzA, .int 0])), (la, .inr (2, [.ref ld, .ref lz])), (ld, .inr (4, [.ref ldA, .int 0])), (lz, .inr (4, [.ref lzA, .int 0])), (zme, .inr (4, [.ref zmeA, .int 0])), (me, .inr (4, [.ref meA, .int 0])), (zli, .inr (0, [.ref zln, .ref zll, .ref zlc])), (zln, .inr (4, [.ref zlnA, .int 0])), (zll, .inr (4, [.ref zllA, .int 0])), (zlc, .inr (4, [.ref zlcA, .int 0])), (li, .inr (0, [.ref ln, .ref ll, .ref lc])), (ln, .inr (4, [.ref lnA, .int 0])), (ll, .inr (4, [.ref llA, .int 0])), (lc, .inr (4, [.ref lcA, .int 0]))] H := hP
  have hD : va_D A [(zst, .inr (6, [.ref zla, .ref zme, .ref zli, .int ztol, .int zsu, .int zfa])), (st, .inr (6, [.ref la, .ref me, .ref li, .int tol, .int su, .int fa])), (zla, .inr (2, [.ref zld, .ref zlz])), (zld, .inr (4, [.ref zldA, .int 0])), (zlz, .inr (4, [.ref zlzA, .int 0])), (la, .inr (2, [.ref ld, .ref lz])), (ld, .inr (4, [.ref ldA, .int 0])), (lz, .inr (4, [.ref lzA, .int 0])), (zme, .inr (4, [.ref zmeA, .int 0])), (me, .inr (4, [.ref meA, .int 0])), (zli, .inr (0, [.ref zln, .ref zll, .ref zlc])), (zln, .inr (4, [.ref zlnA, .int 0])), (zll, .inr (4, [.ref zllA, .int 0])), (zlc, .inr (4, [.ref zlcA, .int 0])), (li, .inr (0, [.ref ln, .ref ll, .ref lc])), (ln, .inr (4, [.ref lnA, .int 0])), (ll, .inr (4, [.ref llA, .int 0])), (lc, .inr (4, [.ref lcA, .int 0]))] := hD
  refine lv_aload_n hx hb dX6_copyFrom_33 rfl (lv_at hl 0 rfl) ?_
  refine lv_aload_n hx hb dX6_copyFrom_34 rfl (lv_at hl 1 rfl) ?_
  refine va_get (D := D) (ci := 6) (v := .int tol) (C := RX6) (T := TX6) (N := 6) hx hb ht inA_X6 hown hK hP 1 rfl rfl 3 (by decide) (ht _ lf_X6_34) (fun _ h9 => h9) rfl dX6_copyFrom_35 ?_
  refine va_put (D := D) (ci := 6) (v := .int tol) (ty := .int) (C := RX6) (T := TX6) (N := 6) hx hb ht inA_X6 tyX6 tyX6_ok nmX6 hown hK hP hD hS 0 rfl rfl 3 (by decide) (ht _ lf_X6_34) (fun _ h9 => h9) rfl (tyX6_ok 3 (by decide)) rfl rfl (Nat.le_of_ble_eq_true rfl) dX6_copyFrom_38 (fun H locs hP hD hS => ?_)
  have hP : va_P D vwCl [(zst, .inr (6, [.ref zla, .ref zme, .ref zli, .int tol, .int zsu, .int zfa])), (st, .inr (6, [.ref la, .ref me, .ref li, .int tol, .int su, .int fa])), (zla, .inr (2, [.ref zld, .ref zlz])), (zld, .inr (4, [.ref zldA, .int 0])), (zlz, .inr (4, [.ref zlzA, .int 0])), (la, .inr (2, [.ref ld, .ref lz])), (ld, .inr (4, [.ref ldA, .int 0])), (lz, .inr (4, [.ref lzA, .int 0])), (zme, .inr (4, [.ref zmeA, .int 0])), (me, .inr (4, [.ref meA, .int 0])), (zli, .inr (0, [.ref zln, .ref zll, .ref zlc])), (zln, .inr (4, [.ref zlnA, .int 0])), (zll, .inr (4, [.ref zllA, .int 0])), (zlc, .inr (4, [.ref zlcA, .int 0])), (li, .inr (0, [.ref ln, .ref ll, .ref lc])), (ln, .inr (4, [.ref lnA, .int 0])), (ll, .inr (4, [.ref llA, .int 0])), (lc, .inr (4, [.ref lcA, .int 0]))] H := hP
  have hD : va_D A [(zst, .inr (6, [.ref zla, .ref zme, .ref zli, .int tol, .int zsu, .int zfa])), (st, .inr (6, [.ref la, .ref me, .ref li, .int tol, .int su, .int fa])), (zla, .inr (2, [.ref zld, .ref zlz])), (zld, .inr (4, [.ref zldA, .int 0])), (zlz, .inr (4, [.ref zlzA, .int 0])), (la, .inr (2, [.ref ld, .ref lz])), (ld, .inr (4, [.ref ldA, .int 0])), (lz, .inr (4, [.ref lzA, .int 0])), (zme, .inr (4, [.ref zmeA, .int 0])), (me, .inr (4, [.ref meA, .int 0])), (zli, .inr (0, [.ref zln, .ref zll, .ref zlc])), (zln, .inr (4, [.ref zlnA, .int 0])), (zll, .inr (4, [.ref zllA, .int 0])), (zlc, .inr (4, [.ref zlcA, .int 0])), (li, .inr (0, [.ref ln, .ref ll, .ref lc])), (ln, .inr (4, [.ref lnA, .int 0])), (ll, .inr (4, [.ref llA, .int 0])), (lc, .inr (4, [.ref lcA, .int 0]))] := hD
  refine lv_aload_n hx hb dX6_copyFrom_41 rfl (lv_at hl 0 rfl) ?_
  refine lv_aload_n hx hb dX6_copyFrom_42 rfl (lv_at hl 1 rfl) ?_
  refine va_get (D := D) (ci := 6) (v := .int su) (C := RX6) (T := TX6) (N := 6) hx hb ht inA_X6 hown hK hP 1 rfl rfl 4 (by decide) (ht _ lf_X6_48) (fun _ h9 => h9) rfl dX6_copyFrom_43 ?_
  refine va_put (D := D) (ci := 6) (v := .int su) (ty := .int) (C := RX6) (T := TX6) (N := 6) hx hb ht inA_X6 tyX6 tyX6_ok nmX6 hown hK hP hD hS 0 rfl rfl 4 (by decide) (ht _ lf_X6_48) (fun _ h9 => h9) rfl (tyX6_ok 4 (by decide)) rfl rfl (Nat.le_of_ble_eq_true rfl) dX6_copyFrom_46 (fun H locs hP hD hS => ?_)
  have hP : va_P D vwCl [(zst, .inr (6, [.ref zla, .ref zme, .ref zli, .int tol, .int su, .int zfa])), (st, .inr (6, [.ref la, .ref me, .ref li, .int tol, .int su, .int fa])), (zla, .inr (2, [.ref zld, .ref zlz])), (zld, .inr (4, [.ref zldA, .int 0])), (zlz, .inr (4, [.ref zlzA, .int 0])), (la, .inr (2, [.ref ld, .ref lz])), (ld, .inr (4, [.ref ldA, .int 0])), (lz, .inr (4, [.ref lzA, .int 0])), (zme, .inr (4, [.ref zmeA, .int 0])), (me, .inr (4, [.ref meA, .int 0])), (zli, .inr (0, [.ref zln, .ref zll, .ref zlc])), (zln, .inr (4, [.ref zlnA, .int 0])), (zll, .inr (4, [.ref zllA, .int 0])), (zlc, .inr (4, [.ref zlcA, .int 0])), (li, .inr (0, [.ref ln, .ref ll, .ref lc])), (ln, .inr (4, [.ref lnA, .int 0])), (ll, .inr (4, [.ref llA, .int 0])), (lc, .inr (4, [.ref lcA, .int 0]))] H := hP
  have hD : va_D A [(zst, .inr (6, [.ref zla, .ref zme, .ref zli, .int tol, .int su, .int zfa])), (st, .inr (6, [.ref la, .ref me, .ref li, .int tol, .int su, .int fa])), (zla, .inr (2, [.ref zld, .ref zlz])), (zld, .inr (4, [.ref zldA, .int 0])), (zlz, .inr (4, [.ref zlzA, .int 0])), (la, .inr (2, [.ref ld, .ref lz])), (ld, .inr (4, [.ref ldA, .int 0])), (lz, .inr (4, [.ref lzA, .int 0])), (zme, .inr (4, [.ref zmeA, .int 0])), (me, .inr (4, [.ref meA, .int 0])), (zli, .inr (0, [.ref zln, .ref zll, .ref zlc])), (zln, .inr (4, [.ref zlnA, .int 0])), (zll, .inr (4, [.ref zllA, .int 0])), (zlc, .inr (4, [.ref zlcA, .int 0])), (li, .inr (0, [.ref ln, .ref ll, .ref lc])), (ln, .inr (4, [.ref lnA, .int 0])), (ll, .inr (4, [.ref llA, .int 0])), (lc, .inr (4, [.ref lcA, .int 0]))] := hD
  refine lv_aload_n hx hb dX6_copyFrom_49 rfl (lv_at hl 0 rfl) ?_
  refine lv_aload_n hx hb dX6_copyFrom_50 rfl (lv_at hl 1 rfl) ?_
  refine va_get (D := D) (ci := 6) (v := .int fa) (C := RX6) (T := TX6) (N := 6) hx hb ht inA_X6 hown hK hP 1 rfl rfl 5 (by decide) (ht _ lf_X6_51) (fun _ h9 => h9) rfl dX6_copyFrom_51 ?_
  refine va_put (D := D) (ci := 6) (v := .int fa) (ty := .int) (C := RX6) (T := TX6) (N := 6) hx hb ht inA_X6 tyX6 tyX6_ok nmX6 hown hK hP hD hS 0 rfl rfl 5 (by decide) (ht _ lf_X6_51) (fun _ h9 => h9) rfl (tyX6_ok 5 (by decide)) rfl rfl (Nat.le_of_ble_eq_true rfl) dX6_copyFrom_54 (fun H locs hP hD hS => ?_)
  have hP : va_P D vwCl [(zst, .inr (6, [.ref zla, .ref zme, .ref zli, .int tol, .int su, .int fa])), (st, .inr (6, [.ref la, .ref me, .ref li, .int tol, .int su, .int fa])), (zla, .inr (2, [.ref zld, .ref zlz])), (zld, .inr (4, [.ref zldA, .int 0])), (zlz, .inr (4, [.ref zlzA, .int 0])), (la, .inr (2, [.ref ld, .ref lz])), (ld, .inr (4, [.ref ldA, .int 0])), (lz, .inr (4, [.ref lzA, .int 0])), (zme, .inr (4, [.ref zmeA, .int 0])), (me, .inr (4, [.ref meA, .int 0])), (zli, .inr (0, [.ref zln, .ref zll, .ref zlc])), (zln, .inr (4, [.ref zlnA, .int 0])), (zll, .inr (4, [.ref zllA, .int 0])), (zlc, .inr (4, [.ref zlcA, .int 0])), (li, .inr (0, [.ref ln, .ref ll, .ref lc])), (ln, .inr (4, [.ref lnA, .int 0])), (ll, .inr (4, [.ref llA, .int 0])), (lc, .inr (4, [.ref lcA, .int 0]))] H := hP
  have hD : va_D A [(zst, .inr (6, [.ref zla, .ref zme, .ref zli, .int tol, .int su, .int fa])), (st, .inr (6, [.ref la, .ref me, .ref li, .int tol, .int su, .int fa])), (zla, .inr (2, [.ref zld, .ref zlz])), (zld, .inr (4, [.ref zldA, .int 0])), (zlz, .inr (4, [.ref zlzA, .int 0])), (la, .inr (2, [.ref ld, .ref lz])), (ld, .inr (4, [.ref ldA, .int 0])), (lz, .inr (4, [.ref lzA, .int 0])), (zme, .inr (4, [.ref zmeA, .int 0])), (me, .inr (4, [.ref meA, .int 0])), (zli, .inr (0, [.ref zln, .ref zll, .ref zlc])), (zln, .inr (4, [.ref zlnA, .int 0])), (zll, .inr (4, [.ref zllA, .int 0])), (zlc, .inr (4, [.ref zlcA, .int 0])), (li, .inr (0, [.ref ln, .ref ll, .ref lc])), (ln, .inr (4, [.ref lnA, .int 0])), (ll, .inr (4, [.ref llA, .int 0])), (lc, .inr (4, [.ref lcA, .int 0]))] := hD
  have hP9 : va_P D vwCl [(zst, .inr (6, [.ref zla, .ref zme, .ref zli, .int tol, .int su, .int fa])), (zla, .inr (2, [.ref zld, .ref zlz])), (zld, .inr (4, [.ref zldA, .int 0])), (zlz, .inr (4, [.ref zlzA, .int 0])), (zme, .inr (4, [.ref zmeA, .int 0])), (zli, .inr (0, [.ref zln, .ref zll, .ref zlc])), (zln, .inr (4, [.ref zlnA, .int 0])), (zll, .inr (4, [.ref zllA, .int 0])), (zlc, .inr (4, [.ref zlcA, .int 0])), (st, .inr (6, [.ref la, .ref me, .ref li, .int tol, .int su, .int fa])), (la, .inr (2, [.ref ld, .ref lz])), (ld, .inr (4, [.ref ldA, .int 0])), (lz, .inr (4, [.ref lzA, .int 0])), (me, .inr (4, [.ref meA, .int 0])), (li, .inr (0, [.ref ln, .ref ll, .ref lc])), (ln, .inr (4, [.ref lnA, .int 0])), (ll, .inr (4, [.ref llA, .int 0])), (lc, .inr (4, [.ref lcA, .int 0]))] H := hP.sub [0, 2, 3, 4, 8, 10, 11, 12, 13, 1, 5, 6, 7, 9, 14, 15, 16, 17] rfl
  have hD9 : va_D A [(zst, .inr (6, [.ref zla, .ref zme, .ref zli, .int tol, .int su, .int fa])), (zla, .inr (2, [.ref zld, .ref zlz])), (zld, .inr (4, [.ref zldA, .int 0])), (zlz, .inr (4, [.ref zlzA, .int 0])), (zme, .inr (4, [.ref zmeA, .int 0])), (zli, .inr (0, [.ref zln, .ref zll, .ref zlc])), (zln, .inr (4, [.ref zlnA, .int 0])), (zll, .inr (4, [.ref zllA, .int 0])), (zlc, .inr (4, [.ref zlcA, .int 0])), (st, .inr (6, [.ref la, .ref me, .ref li, .int tol, .int su, .int fa])), (la, .inr (2, [.ref ld, .ref lz])), (ld, .inr (4, [.ref ldA, .int 0])), (lz, .inr (4, [.ref lzA, .int 0])), (me, .inr (4, [.ref meA, .int 0])), (li, .inr (0, [.ref ln, .ref ll, .ref lc])), (ln, .inr (4, [.ref lnA, .int 0])), (ll, .inr (4, [.ref llA, .int 0])), (lc, .inr (4, [.ref lcA, .int 0]))] := hD.sub [0, 2, 3, 4, 8, 10, 11, 12, 13, 1, 5, 6, 7, 9, 14, 15, 16, 17] (by decide) rfl
  have hK9 : va_K D vwCl [] s := hK.sub [] rfl
  exact W.vret hx hb hr (fun t ht9 hW9 => ⟨⟨(), rfl, by first | rfl | trivial | (simp only [if_true, if_false, reduceIte, and_self]; done) | simp_all, ⟨by rw [ht9]; exact hP9, va_K.moved hW9.alike hK9, hD9⟩⟩, hS.F ht9⟩) hS.2.2 dX6_copyFrom_57
set_option maxHeartbeats 4000000 in
set_option maxRecDepth 100000 in
theorem c_Saved_copy0 (l : Launch) (D : va_G) (zst : Nat) (zla : Nat) (zme : Nat) (zli : Nat) (ztol : Int32) (zsu : Int32) (zfa : Int32) (zld : Nat) (zlz : Nat) (zldA : Nat) (zldN : Int32) (zlzA : Nat) (zlzN : Int32) (zmeA : Nat) (zmeN : Int32) (zln : Nat) (zll : Nat) (zlc : Nat) (zlnA : Nat) (zlnN : Int32) (zllA : Nat) (zllN : Int32) (zlcA : Nat) (zlcN : Int32) (st : Nat) (la : Nat) (me : Nat) (li : Nat) (tol : Int32) (su : Int32) (fa : Int32) (ld : Nat) (lz : Nat) (ldA : Nat) (lzA : Nat) (meA : Nat) (ln : Nat) (ll : Nat) (lc : Nat) (lnA : Nat) (llA : Nat) (lcA : Nat) (sz : Nat) : k_Mv (S := Unit) l D yX5_copy cX5_copy 2 none 4 0 0 84 [.ref st, .ref zst] [(zst, .inr (6, [.ref zla, .ref zme, .ref zli, .int ztol, .int zsu, .int zfa])), (zla, .inr (2, [.ref zld, .ref zlz])), (zld, .inr (4, [.ref zldA, .int zldN])), (zlz, .inr (4, [.ref zlzA, .int zlzN])), (zme, .inr (4, [.ref zmeA, .int zmeN])), (zli, .inr (0, [.ref zln, .ref zll, .ref zlc])), (zln, .inr (4, [.ref zlnA, .int zlnN])), (zll, .inr (4, [.ref zllA, .int zllN])), (zlc, .inr (4, [.ref zlcA, .int zlcN])), (st, .inr (6, [.ref la, .ref me, .ref li, .int tol, .int su, .int fa])), (la, .inr (2, [.ref ld, .ref lz])), (ld, .inr (4, [.ref ldA, .int 0])), (lz, .inr (4, [.ref lzA, .int 0])), (me, .inr (4, [.ref meA, .int 0])), (li, .inr (0, [.ref ln, .ref ll, .ref lc])), (ln, .inr (4, [.ref lnA, .int 0])), (ll, .inr (4, [.ref llA, .int 0])), (lc, .inr (4, [.ref lcA, .int 0]))] [] (fun (_ : Unit) => True) (fun _ => [(zst, .inr (6, [.ref zla, .ref zme, .ref zli, .int tol, .int su, .int fa])), (zla, .inr (2, [.ref zld, .ref zlz])), (zld, .inr (4, [.ref zldA, .int 0])), (zlz, .inr (4, [.ref zlzA, .int 0])), (zme, .inr (4, [.ref zmeA, .int 0])), (zli, .inr (0, [.ref zln, .ref zll, .ref zlc])), (zln, .inr (4, [.ref zlnA, .int 0])), (zll, .inr (4, [.ref zllA, .int 0])), (zlc, .inr (4, [.ref zlcA, .int 0])), (st, .inr (6, [.ref la, .ref me, .ref li, .int tol, .int su, .int fa])), (la, .inr (2, [.ref ld, .ref lz])), (ld, .inr (4, [.ref ldA, .int 0])), (lz, .inr (4, [.ref lzA, .int 0])), (me, .inr (4, [.ref meA, .int 0])), (li, .inr (0, [.ref ln, .ref ll, .ref lc])), (ln, .inr (4, [.ref lnA, .int 0])), (ll, .inr (4, [.ref llA, .int 0])), (lc, .inr (4, [.ref lcA, .int 0]))]) (fun _ => []) sz := by
  refine Met.ofW (cc := cX5_copy) (maxL := 2) (ret := none) (by decide) rfl ?_
  intro p e s m args below meth c s₁ B hml hv
  obtain ⟨rfl, hsz, hP, hK, hD0, hG⟩ := hv
  have hx := B.exec
  have hb := B.bytes
  have hr := B.returns
  have ht : ∀ v9 ∈ wsA, v9.before ([.ref st, .ref zst] : List Value).toArray s = true := fun v9 h9 => atoms_spec (ws := k_ws yX5_copy cX5_copy 2 none) B.pre v9 (List.mem_cons_of_mem _ h9)
  have hown : s.vm.findClass RX5 = some m.cls := findClass_of_methodNamed B.named
  have S0 : k_C p s m ([.ref st, .ref zst] : List Value).toArray c cX5_copy 2 RX5 := ⟨hx, hb, hml, hown, ht⟩
  have hlocks := B.notSynchronized
  subst hsz
  have hD := hD0.self (sz := s.heap.size)
  generalize hAe : va_A [(zst, .inr (6, [.ref zla, .ref zme, .ref zli, .int ztol, .int zsu, .int zfa])), (zla, .inr (2, [.ref zld, .ref zlz])), (zld, .inr (4, [.ref zldA, .int zldN])), (zlz, .inr (4, [.ref zlzA, .int zlzN])), (zme, .inr (4, [.ref zmeA, .int zmeN])), (zli, .inr (0, [.ref zln, .ref zll, .ref zlc])), (zln, .inr (4, [.ref zlnA, .int zlnN])), (zll, .inr (4, [.ref zllA, .int zllN])), (zlc, .inr (4, [.ref zlcA, .int zlcN])), (st, .inr (6, [.ref la, .ref me, .ref li, .int tol, .int su, .int fa])), (la, .inr (2, [.ref ld, .ref lz])), (ld, .inr (4, [.ref ldA, .int 0])), (lz, .inr (4, [.ref lzA, .int 0])), (me, .inr (4, [.ref meA, .int 0])), (li, .inr (0, [.ref ln, .ref ll, .ref lc])), (ln, .inr (4, [.ref lnA, .int 0])), (ll, .inr (4, [.ref llA, .int 0])), (lc, .inr (4, [.ref lcA, .int 0]))] s.heap.size = A at hD hG ⊢
  have hA : ∀ q : Nat, s.heap.size ≤ q → A q := fun q h => by rw [← hAe]; exact Or.inr h
  have hS : va_S A s.heap s.heap [] := va_S.rf
  have hl := lv_entry ([.ref st, .ref zst]) (n := 2) (Nat.le_of_ble_eq_true rfl)
  rw [lg_entry_eq]
  generalize (lg_sl ([.ref st, .ref zst]) ++ List.replicate (2 - (lg_sl ([.ref st, .ref zst])).length) Slot.unset).toArray = ls at hl ⊢
  have hl : lv_has ls 2 [(0, .ref st), (1, .ref zst)] := hl
  have hP : va_P D vwCl [(zst, .inr (6, [.ref zla, .ref zme, .ref zli, .int ztol, .int zsu, .int zfa])), (zla, .inr (2, [.ref zld, .ref zlz])), (zld, .inr (4, [.ref zldA, .int zldN])), (zlz, .inr (4, [.ref zlzA, .int zlzN])), (zme, .inr (4, [.ref zmeA, .int zmeN])), (zli, .inr (0, [.ref zln, .ref zll, .ref zlc])), (zln, .inr (4, [.ref zlnA, .int zlnN])), (zll, .inr (4, [.ref zllA, .int zllN])), (zlc, .inr (4, [.ref zlcA, .int zlcN])), (st, .inr (6, [.ref la, .ref me, .ref li, .int tol, .int su, .int fa])), (la, .inr (2, [.ref ld, .ref lz])), (ld, .inr (4, [.ref ldA, .int 0])), (lz, .inr (4, [.ref lzA, .int 0])), (me, .inr (4, [.ref meA, .int 0])), (li, .inr (0, [.ref ln, .ref ll, .ref lc])), (ln, .inr (4, [.ref lnA, .int 0])), (ll, .inr (4, [.ref llA, .int 0])), (lc, .inr (4, [.ref lcA, .int 0]))] s.heap := hP
  refine lv_aload_n hx hb dX5_copy_0 rfl (lv_at hl 0 rfl) ?_
  refine lv_ifnull hx hb dX5_copy_1 ?_
  refine lv_aload_n hx hb dX5_copy_4 rfl (lv_at hl 1 rfl) ?_
  refine lv_ifnull hx hb dX5_copy_5 ?_
  refine lv_aload_n hx hb dX5_copy_8 rfl (lv_at hl 1 rfl) ?_
  refine lv_aload_n hx hb dX5_copy_9 rfl (lv_at hl 0 rfl) ?_
  have ct := k_cut_of (wc := [(zst, .inr (6, [.ref zla, .ref zme, .ref zli, .int ztol, .int zsu, .int zfa])), (zla, .inr (2, [.ref zld, .ref zlz])), (zld, .inr (4, [.ref zldA, .int zldN])), (zlz, .inr (4, [.ref zlzA, .int zlzN])), (zme, .inr (4, [.ref zmeA, .int zmeN])), (zli, .inr (0, [.ref zln, .ref zll, .ref zlc])), (zln, .inr (4, [.ref zlnA, .int zlnN])), (zll, .inr (4, [.ref zllA, .int zllN])), (zlc, .inr (4, [.ref zlcA, .int zlcN])), (st, .inr (6, [.ref la, .ref me, .ref li, .int tol, .int su, .int fa])), (la, .inr (2, [.ref ld, .ref lz])), (ld, .inr (4, [.ref ldA, .int 0])), (lz, .inr (4, [.ref lzA, .int 0])), (me, .inr (4, [.ref meA, .int 0])), (li, .inr (0, [.ref ln, .ref ll, .ref lc])), (ln, .inr (4, [.ref lnA, .int 0])), (ll, .inr (4, [.ref llA, .int 0])), (lc, .inr (4, [.ref lcA, .int 0]))]) (wr := []) (tc := []) hG hS hA hK hP hD [0, 1, 2, 3, 4, 5, 6, 7, 8, 9, 10, 11, 12, 13, 14, 15, 16, 17] [] [] rfl rfl (by decide) (by decide) (by decide) rfl
  refine k_endv (As := [.ref zst, .ref st]) ct (k_runV (As := [.ref st]) (rest := []) S0 Lv_X5_42 rfl (ci := 6) (q0 := 0) rfl rfl ct (c_State_copy0 l D zst zla zme zli ztol zsu zfa zld zlz zldA zldN zlzA zlzN zmeA zmeN zln zll zlc zlnA zlnN zllA zllN zlcA zlcN st la me li tol su fa ld lz ldA lzA meA ln ll lc lnA llA lcA s.heap.size) hl.1 rfl (Nat.le_of_ble_eq_true rfl) rfl dX5_copy_10 ⟨⟨Nat.le_of_ble_eq_true rfl, Nat.le_of_ble_eq_true rfl⟩, Nat.le_of_ble_eq_true rfl, Nat.le_of_ble_eq_true rfl⟩) rfl rfl (fun _ _ H locs hw_2 hP hD hK hS => ?_)
  have hK : va_K D vwCl [] s := hK
  have hP : va_P D vwCl [(zst, .inr (6, [.ref zla, .ref zme, .ref zli, .int tol, .int su, .int fa])), (zla, .inr (2, [.ref zld, .ref zlz])), (zld, .inr (4, [.ref zldA, .int 0])), (zlz, .inr (4, [.ref zlzA, .int 0])), (zme, .inr (4, [.ref zmeA, .int 0])), (zli, .inr (0, [.ref zln, .ref zll, .ref zlc])), (zln, .inr (4, [.ref zlnA, .int 0])), (zll, .inr (4, [.ref zllA, .int 0])), (zlc, .inr (4, [.ref zlcA, .int 0])), (st, .inr (6, [.ref la, .ref me, .ref li, .int tol, .int su, .int fa])), (la, .inr (2, [.ref ld, .ref lz])), (ld, .inr (4, [.ref ldA, .int 0])), (lz, .inr (4, [.ref lzA, .int 0])), (me, .inr (4, [.ref meA, .int 0])), (li, .inr (0, [.ref ln, .ref ll, .ref lc])), (ln, .inr (4, [.ref lnA, .int 0])), (ll, .inr (4, [.ref llA, .int 0])), (lc, .inr (4, [.ref lcA, .int 0]))] H := hP
  have hD : va_D A [(zst, .inr (6, [.ref zla, .ref zme, .ref zli, .int tol, .int su, .int fa])), (zla, .inr (2, [.ref zld, .ref zlz])), (zld, .inr (4, [.ref zldA, .int 0])), (zlz, .inr (4, [.ref zlzA, .int 0])), (zme, .inr (4, [.ref zmeA, .int 0])), (zli, .inr (0, [.ref zln, .ref zll, .ref zlc])), (zln, .inr (4, [.ref zlnA, .int 0])), (zll, .inr (4, [.ref zllA, .int 0])), (zlc, .inr (4, [.ref zlcA, .int 0])), (st, .inr (6, [.ref la, .ref me, .ref li, .int tol, .int su, .int fa])), (la, .inr (2, [.ref ld, .ref lz])), (ld, .inr (4, [.ref ldA, .int 0])), (lz, .inr (4, [.ref lzA, .int 0])), (me, .inr (4, [.ref meA, .int 0])), (li, .inr (0, [.ref ln, .ref ll, .ref lc])), (ln, .inr (4, [.ref lnA, .int 0])), (ll, .inr (4, [.ref llA, .int 0])), (lc, .inr (4, [.ref lcA, .int 0]))] := hD
  have hP9 : va_P D vwCl [(zst, .inr (6, [.ref zla, .ref zme, .ref zli, .int tol, .int su, .int fa])), (zla, .inr (2, [.ref zld, .ref zlz])), (zld, .inr (4, [.ref zldA, .int 0])), (zlz, .inr (4, [.ref zlzA, .int 0])), (zme, .inr (4, [.ref zmeA, .int 0])), (zli, .inr (0, [.ref zln, .ref zll, .ref zlc])), (zln, .inr (4, [.ref zlnA, .int 0])), (zll, .inr (4, [.ref zllA, .int 0])), (zlc, .inr (4, [.ref zlcA, .int 0])), (st, .inr (6, [.ref la, .ref me, .ref li, .int tol, .int su, .int fa])), (la, .inr (2, [.ref ld, .ref lz])), (ld, .inr (4, [.ref ldA, .int 0])), (lz, .inr (4, [.ref lzA, .int 0])), (me, .inr (4, [.ref meA, .int 0])), (li, .inr (0, [.ref ln, .ref ll, .ref lc])), (ln, .inr (4, [.ref lnA, .int 0])), (ll, .inr (4, [.ref llA, .int 0])), (lc, .inr (4, [.ref lcA, .int 0]))] H := hP.sub [0, 1, 2, 3, 4, 5, 6, 7, 8, 9, 10, 11, 12, 13, 14, 15, 16, 17] rfl
  have hD9 : va_D A [(zst, .inr (6, [.ref zla, .ref zme, .ref zli, .int tol, .int su, .int fa])), (zla, .inr (2, [.ref zld, .ref zlz])), (zld, .inr (4, [.ref zldA, .int 0])), (zlz, .inr (4, [.ref zlzA, .int 0])), (zme, .inr (4, [.ref zmeA, .int 0])), (zli, .inr (0, [.ref zln, .ref zll, .ref zlc])), (zln, .inr (4, [.ref zlnA, .int 0])), (zll, .inr (4, [.ref zllA, .int 0])), (zlc, .inr (4, [.ref zlcA, .int 0])), (st, .inr (6, [.ref la, .ref me, .ref li, .int tol, .int su, .int fa])), (la, .inr (2, [.ref ld, .ref lz])), (ld, .inr (4, [.ref ldA, .int 0])), (lz, .inr (4, [.ref lzA, .int 0])), (me, .inr (4, [.ref meA, .int 0])), (li, .inr (0, [.ref ln, .ref ll, .ref lc])), (ln, .inr (4, [.ref lnA, .int 0])), (ll, .inr (4, [.ref llA, .int 0])), (lc, .inr (4, [.ref lcA, .int 0]))] := hD.sub [0, 1, 2, 3, 4, 5, 6, 7, 8, 9, 10, 11, 12, 13, 14, 15, 16, 17] (by decide) rfl
  have hK9 : va_K D vwCl [] s := hK.sub [] rfl
  exact W.vret hx hb hr (fun t ht9 hW9 => ⟨⟨(), rfl, by first | rfl | trivial | (simp only [if_true, if_false, reduceIte, and_self]; done) | simp_all, ⟨by rw [ht9]; exact hP9, va_K.moved hW9.alike hK9, hD9⟩⟩, hS.F ht9⟩) hS.2.2 dX5_copy_13
set_option maxHeartbeats 4000000 in
set_option maxRecDepth 100000 in
theorem c_Saved_at0 (l : Launch) (D : va_G) (hi : Nat) (ri : Nat) (nx : Int32) (kp : Int32) (KS : ClassId) (rf : Nat → Option Nat) (zst : Nat) (hrf : rf 0 = some zst) (sz : Nat) : k_Mr (S := Unit) l D yX5_stateAt cX5_stateAt 2 (some (.object "BarcodeWand$State")) 0 0 0 0 [.ref hi, .int 0] [(hi, .inr (5, [.ref ri, .int nx, .int kp])), (ri, .inl (KS, 6, .inr (.inr (.inr (.inr rf)))))] [(KS, .object "BarcodeWand$State")] (fun (_ : Unit) (r : Nat) => r = zst) (fun _ => [(hi, .inr (5, [.ref ri, .int nx, .int kp])), (ri, .inl (KS, 6, .inr (.inr (.inr (.inr rf)))))]) (fun _ => []) sz := by
  refine Met.ofW (cc := cX5_stateAt) (maxL := 2) (ret := (some (.object "BarcodeWand$State"))) (by decide) rfl ?_
  intro p e s m args below meth c s₁ B hml hv
  obtain ⟨rfl, hsz, hP, hK, hD0, hG⟩ := hv
  have hx := B.exec
  have hb := B.bytes
  have hr := B.returns
  have ht : ∀ v9 ∈ wsA, v9.before ([.ref hi, .int 0] : List Value).toArray s = true := fun v9 h9 => atoms_spec (ws := k_ws yX5_stateAt cX5_stateAt 2 (some (.object "BarcodeWand$State"))) B.pre v9 (List.mem_cons_of_mem _ h9)
  have hown : s.vm.findClass RX5 = some m.cls := findClass_of_methodNamed B.named
  have S0 : k_C p s m ([.ref hi, .int 0] : List Value).toArray c cX5_stateAt 2 RX5 := ⟨hx, hb, hml, hown, ht⟩
  have hlocks := B.notSynchronized
  subst hsz
  have hD := hD0.self (sz := s.heap.size)
  generalize hAe : va_A [(hi, .inr (5, [.ref ri, .int nx, .int kp])), (ri, .inl (KS, 6, .inr (.inr (.inr (.inr rf)))))] s.heap.size = A at hD hG ⊢
  have hA : ∀ q : Nat, s.heap.size ≤ q → A q := fun q h => by rw [← hAe]; exact Or.inr h
  have hS : va_S A s.heap s.heap [] := va_S.rf
  have hl := lv_entry ([.ref hi, .int 0]) (n := 2) (Nat.le_of_ble_eq_true rfl)
  rw [lg_entry_eq]
  generalize (lg_sl ([.ref hi, .int 0]) ++ List.replicate (2 - (lg_sl ([.ref hi, .int 0])).length) Slot.unset).toArray = ls at hl ⊢
  have hl : lv_has ls 2 [(0, .ref hi), (1, .int 0)] := hl
  have hP : va_P D vwCl [(hi, .inr (5, [.ref ri, .int nx, .int kp])), (ri, .inl (KS, 6, .inr (.inr (.inr (.inr rf)))))] s.heap := hP
  refine lv_iload_n hx hb dX5_stateAt_0 rfl (lv_at hl 1 rfl) ?_
  refine lv_if_lt (tgt := 22) hx hb dX5_stateAt_1 (by decide) (fun c9 => absurd c9 (by decide)) (fun _ => ?_)
  refine lv_iload_n hx hb dX5_stateAt_4 rfl (lv_at hl 1 rfl) ?_
  refine lv_aload_n hx hb dX5_stateAt_5 rfl (lv_at hl 0 rfl) ?_
  refine va_get (D := D) (ci := 5) (v := .ref ri) (C := RX5) (T := TX5) (N := 3) hx hb ht inA_X5 hown hK hP 0 rfl rfl 0 (by decide) (ht _ lf_X5_11) (fun _ h9 => h9) rfl dX5_stateAt_6 ?_
  refine va_alen (v := 6) hx hb hK hP 1 0 rfl rfl rfl dX5_stateAt_9 ?_
  refine lv_icmp_ge (tgt := 22) hx hb dX5_stateAt_10 (by decide) (fun c9 => absurd c9 (by decide)) (fun _ => ?_)
  refine lv_aload_n hx hb dX5_stateAt_13 rfl (lv_at hl 0 rfl) ?_
  refine va_get (D := D) (ci := 5) (v := .ref ri) (C := RX5) (T := TX5) (N := 3) hx hb ht inA_X5 hown hK hP 0 rfl rfl 0 (by decide) (ht _ lf_X5_11) (fun _ h9 => h9) rfl dX5_stateAt_14 ?_
  refine lv_iload_n hx hb dX5_stateAt_17 rfl (lv_at hl 1 rfl) ?_
  refine va_aldq hx hb hK hP 1 0 rfl rfl (by unfold vp_in; decide) dX5_stateAt_18 ?_
  refine W.eq (g2 := F0 m 19 ls (.ref zst :: [])) (by rw [show rf (0 : Int32).toNatClampNeg = some zst from hrf]; rfl) ?_
  refine lv_goto (tgt := 23) hx hb dX5_stateAt_19 (by decide) ?_
  have hP9 : va_P D vwCl [(hi, .inr (5, [.ref ri, .int nx, .int kp])), (ri, .inl (KS, 6, .inr (.inr (.inr (.inr rf)))))] s.heap := hP.sub [0, 1] rfl
  have hD9 : va_D A [(hi, .inr (5, [.ref ri, .int nx, .int kp])), (ri, .inl (KS, 6, .inr (.inr (.inr (.inr rf)))))] := hD.sub [0, 1] (by decide) rfl
  have hK9 : va_K D vwCl [] s := hK.sub [] rfl
  exact W.aret (v := .ref zst) hx hb hr (Or.inl ⟨_, rfl⟩) (Or.inr ⟨_, rfl⟩) (fun t ht9 hW9 => ⟨⟨(), zst, rfl, trivial, ⟨by first | rfl | trivial | (simp only [if_true, if_false, reduceIte, and_self]; done) | simp_all, ⟨by rw [ht9]; exact hP9, va_K.moved hW9.alike hK9, hD9⟩⟩⟩, hS.F ht9⟩) hS.2.2 dX5_stateAt_23
set_option maxHeartbeats 4000000 in
set_option maxRecDepth 100000 in
theorem c_Saved_save0 (l : Launch) (D : va_G) (hi : Nat) (ri : Nat) (KS : ClassId) (rf : Nat → Option Nat) (zst : Nat) (zla : Nat) (zme : Nat) (zli : Nat) (ztol : Int32) (zsu : Int32) (zfa : Int32) (zld : Nat) (zlz : Nat) (zldA : Nat) (zldN : Int32) (zlzA : Nat) (zlzN : Int32) (zmeA : Nat) (zmeN : Int32) (zln : Nat) (zll : Nat) (zlc : Nat) (zlnA : Nat) (zlnN : Int32) (zllA : Nat) (zllN : Int32) (zlcA : Nat) (zlcN : Int32) (st : Nat) (la : Nat) (me : Nat) (li : Nat) (tol : Int32) (su : Int32) (fa : Int32) (ld : Nat) (lz : Nat) (ldA : Nat) (lzA : Nat) (meA : Nat) (ln : Nat) (ll : Nat) (lc : Nat) (lnA : Nat) (llA : Nat) (lcA : Nat) (hrf : rf 0 = some zst) (sz : Nat) : k_Mv (S := Unit) l D yX5_save cX5_save 2 none 5 0 0 105 [.ref hi, .ref st] [(hi, .inr (5, [.ref ri, .int 0, .int 0])), (ri, .inl (KS, 6, .inr (.inr (.inr (.inr rf))))), (zst, .inr (6, [.ref zla, .ref zme, .ref zli, .int ztol, .int zsu, .int zfa])), (zla, .inr (2, [.ref zld, .ref zlz])), (zld, .inr (4, [.ref zldA, .int zldN])), (zlz, .inr (4, [.ref zlzA, .int zlzN])), (zme, .inr (4, [.ref zmeA, .int zmeN])), (zli, .inr (0, [.ref zln, .ref zll, .ref zlc])), (zln, .inr (4, [.ref zlnA, .int zlnN])), (zll, .inr (4, [.ref zllA, .int zllN])), (zlc, .inr (4, [.ref zlcA, .int zlcN])), (st, .inr (6, [.ref la, .ref me, .ref li, .int tol, .int su, .int fa])), (la, .inr (2, [.ref ld, .ref lz])), (ld, .inr (4, [.ref ldA, .int 0])), (lz, .inr (4, [.ref lzA, .int 0])), (me, .inr (4, [.ref meA, .int 0])), (li, .inr (0, [.ref ln, .ref ll, .ref lc])), (ln, .inr (4, [.ref lnA, .int 0])), (ll, .inr (4, [.ref llA, .int 0])), (lc, .inr (4, [.ref lcA, .int 0]))] [(KS, .object "BarcodeWand$State")] (fun (_ : Unit) => True) (fun _ => [(hi, .inr (5, [.ref ri, .int 1, .int 1])), (ri, .inl (KS, 6, .inr (.inr (.inr (.inr rf))))), (zst, .inr (6, [.ref zla, .ref zme, .ref zli, .int tol, .int su, .int fa])), (zla, .inr (2, [.ref zld, .ref zlz])), (zld, .inr (4, [.ref zldA, .int 0])), (zlz, .inr (4, [.ref zlzA, .int 0])), (zme, .inr (4, [.ref zmeA, .int 0])), (zli, .inr (0, [.ref zln, .ref zll, .ref zlc])), (zln, .inr (4, [.ref zlnA, .int 0])), (zll, .inr (4, [.ref zllA, .int 0])), (zlc, .inr (4, [.ref zlcA, .int 0])), (st, .inr (6, [.ref la, .ref me, .ref li, .int tol, .int su, .int fa])), (la, .inr (2, [.ref ld, .ref lz])), (ld, .inr (4, [.ref ldA, .int 0])), (lz, .inr (4, [.ref lzA, .int 0])), (me, .inr (4, [.ref meA, .int 0])), (li, .inr (0, [.ref ln, .ref ll, .ref lc])), (ln, .inr (4, [.ref lnA, .int 0])), (ll, .inr (4, [.ref llA, .int 0])), (lc, .inr (4, [.ref lcA, .int 0]))]) (fun _ => []) sz := by
  refine Met.ofW (cc := cX5_save) (maxL := 2) (ret := none) (by decide) rfl ?_
  intro p e s m args below meth c s₁ B hml hv
  obtain ⟨rfl, hsz, hP, hK, hD0, hG⟩ := hv
  have hx := B.exec
  have hb := B.bytes
  have hr := B.returns
  have ht : ∀ v9 ∈ wsA, v9.before ([.ref hi, .ref st] : List Value).toArray s = true := fun v9 h9 => atoms_spec (ws := k_ws yX5_save cX5_save 2 none) B.pre v9 (List.mem_cons_of_mem _ h9)
  have hown : s.vm.findClass RX5 = some m.cls := findClass_of_methodNamed B.named
  have S0 : k_C p s m ([.ref hi, .ref st] : List Value).toArray c cX5_save 2 RX5 := ⟨hx, hb, hml, hown, ht⟩
  have hlocks := B.notSynchronized
  subst hsz
  have hD := hD0.self (sz := s.heap.size)
  generalize hAe : va_A [(hi, .inr (5, [.ref ri, .int 0, .int 0])), (ri, .inl (KS, 6, .inr (.inr (.inr (.inr rf))))), (zst, .inr (6, [.ref zla, .ref zme, .ref zli, .int ztol, .int zsu, .int zfa])), (zla, .inr (2, [.ref zld, .ref zlz])), (zld, .inr (4, [.ref zldA, .int zldN])), (zlz, .inr (4, [.ref zlzA, .int zlzN])), (zme, .inr (4, [.ref zmeA, .int zmeN])), (zli, .inr (0, [.ref zln, .ref zll, .ref zlc])), (zln, .inr (4, [.ref zlnA, .int zlnN])), (zll, .inr (4, [.ref zllA, .int zllN])), (zlc, .inr (4, [.ref zlcA, .int zlcN])), (st, .inr (6, [.ref la, .ref me, .ref li, .int tol, .int su, .int fa])), (la, .inr (2, [.ref ld, .ref lz])), (ld, .inr (4, [.ref ldA, .int 0])), (lz, .inr (4, [.ref lzA, .int 0])), (me, .inr (4, [.ref meA, .int 0])), (li, .inr (0, [.ref ln, .ref ll, .ref lc])), (ln, .inr (4, [.ref lnA, .int 0])), (ll, .inr (4, [.ref llA, .int 0])), (lc, .inr (4, [.ref lcA, .int 0]))] s.heap.size = A at hD hG ⊢
  have hA : ∀ q : Nat, s.heap.size ≤ q → A q := fun q h => by rw [← hAe]; exact Or.inr h
  have hS : va_S A s.heap s.heap [] := va_S.rf
  have hl := lv_entry ([.ref hi, .ref st]) (n := 2) (Nat.le_of_ble_eq_true rfl)
  rw [lg_entry_eq]
  generalize (lg_sl ([.ref hi, .ref st]) ++ List.replicate (2 - (lg_sl ([.ref hi, .ref st])).length) Slot.unset).toArray = ls at hl ⊢
  have hl : lv_has ls 2 [(0, .ref hi), (1, .ref st)] := hl
  have hP : va_P D vwCl [(hi, .inr (5, [.ref ri, .int 0, .int 0])), (ri, .inl (KS, 6, .inr (.inr (.inr (.inr rf))))), (zst, .inr (6, [.ref zla, .ref zme, .ref zli, .int ztol, .int zsu, .int zfa])), (zla, .inr (2, [.ref zld, .ref zlz])), (zld, .inr (4, [.ref zldA, .int zldN])), (zlz, .inr (4, [.ref zlzA, .int zlzN])), (zme, .inr (4, [.ref zmeA, .int zmeN])), (zli, .inr (0, [.ref zln, .ref zll, .ref zlc])), (zln, .inr (4, [.ref zlnA, .int zlnN])), (zll, .inr (4, [.ref zllA, .int zllN])), (zlc, .inr (4, [.ref zlcA, .int zlcN])), (st, .inr (6, [.ref la, .ref me, .ref li, .int tol, .int su, .int fa])), (la, .inr (2, [.ref ld, .ref lz])), (ld, .inr (4, [.ref ldA, .int 0])), (lz, .inr (4, [.ref lzA, .int 0])), (me, .inr (4, [.ref meA, .int 0])), (li, .inr (0, [.ref ln, .ref ll, .ref lc])), (ln, .inr (4, [.ref lnA, .int 0])), (ll, .inr (4, [.ref llA, .int 0])), (lc, .inr (4, [.ref lcA, .int 0]))] s.heap := hP
  refine lv_aload_n hx hb dX5_save_0 rfl (lv_at hl 1 rfl) ?_
  refine lv_aload_n hx hb dX5_save_1 rfl (lv_at hl 0 rfl) ?_
  refine lv_aload_n hx hb dX5_save_2 rfl (lv_at hl 0 rfl) ?_
  refine va_get (D := D) (ci := 5) (v := .int 0) (C := RX5) (T := TX5) (N := 3) hx hb ht inA_X5 hown hK hP 0 rfl rfl 1 (by decide) (ht _ lf_X5_22) (fun _ h9 => h9) rfl dX5_save_3 ?_
  have ct := k_cut_of (wc := [(hi, .inr (5, [.ref ri, .int 0, .int 0])), (ri, .inl (KS, 6, .inr (.inr (.inr (.inr rf)))))]) (wr := [(zst, .inr (6, [.ref zla, .ref zme, .ref zli, .int ztol, .int zsu, .int zfa])), (zla, .inr (2, [.ref zld, .ref zlz])), (zld, .inr (4, [.ref zldA, .int zldN])), (zlz, .inr (4, [.ref zlzA, .int zlzN])), (zme, .inr (4, [.ref zmeA, .int zmeN])), (zli, .inr (0, [.ref zln, .ref zll, .ref zlc])), (zln, .inr (4, [.ref zlnA, .int zlnN])), (zll, .inr (4, [.ref zllA, .int zllN])), (zlc, .inr (4, [.ref zlcA, .int zlcN])), (st, .inr (6, [.ref la, .ref me, .ref li, .int tol, .int su, .int fa])), (la, .inr (2, [.ref ld, .ref lz])), (ld, .inr (4, [.ref ldA, .int 0])), (lz, .inr (4, [.ref lzA, .int 0])), (me, .inr (4, [.ref meA, .int 0])), (li, .inr (0, [.ref ln, .ref ll, .ref lc])), (ln, .inr (4, [.ref lnA, .int 0])), (ll, .inr (4, [.ref llA, .int 0])), (lc, .inr (4, [.ref lcA, .int 0]))]) (tc := [(KS, .object "BarcodeWand$State")]) hG hS hA hK hP hD [0, 1] [2, 3, 4, 5, 6, 7, 8, 9, 10, 11, 12, 13, 14, 15, 16, 17, 18, 19] [0] rfl rfl (by decide) (by decide) (by decide) rfl
  refine k_endr (As := [.ref hi, .int 0]) ct (k_runV (As := [.int 0]) (rest := [.ref st]) S0 Lv_X5_25 rfl (ci := 5) (q0 := 0) rfl rfl ct (c_Saved_at0 l D hi ri 0 0 KS rf zst (by assumption) s.heap.size) hl.1 rfl (Nat.le_of_ble_eq_true rfl) rfl dX5_save_6 ⟨⟨Nat.le_of_ble_eq_true rfl, Nat.le_of_ble_eq_true rfl⟩, Nat.le_of_ble_eq_true rfl, Nat.le_of_ble_eq_true rfl⟩) rfl rfl (fun r_1 _ H locs hw_2 hP hD hK hS => ?_)
  have hK : va_K D vwCl [(KS, .object "BarcodeWand$State")] s := hK
  have hP : va_P D vwCl [(zst, .inr (6, [.ref zla, .ref zme, .ref zli, .int ztol, .int zsu, .int zfa])), (zla, .inr (2, [.ref zld, .ref zlz])), (zld, .inr (4, [.ref zldA, .int zldN])), (zlz, .inr (4, [.ref zlzA, .int zlzN])), (zme, .inr (4, [.ref zmeA, .int zmeN])), (zli, .inr (0, [.ref zln, .ref zll, .ref zlc])), (zln, .inr (4, [.ref zlnA, .int zlnN])), (zll, .inr (4, [.ref zllA, .int zllN])), (zlc, .inr (4, [.ref zlcA, .int zlcN])), (st, .inr (6, [.ref la, .ref me, .ref li, .int tol, .int su, .int fa])), (la, .inr (2, [.ref ld, .ref lz])), (ld, .inr (4, [.ref ldA, .int 0])), (lz, .inr (4, [.ref lzA, .int 0])), (me, .inr (4, [.ref meA, .int 0])), (li, .inr (0, [.ref ln, .ref ll, .ref lc])), (ln, .inr (4, [.ref lnA, .int 0])), (ll, .inr (4, [.ref llA, .int 0])), (lc, .inr (4, [.ref lcA, .int 0])), (hi, .inr (5, [.ref ri, .int 0, .int 0])), (ri, .inl (KS, 6, .inr (.inr (.inr (.inr rf)))))] H := hP
  have hD : va_D A [(zst, .inr (6, [.ref zla, .ref zme, .ref zli, .int ztol, .int zsu, .int zfa])), (zla, .inr (2, [.ref zld, .ref zlz])), (zld, .inr (4, [.ref zldA, .int zldN])), (zlz, .inr (4, [.ref zlzA, .int zlzN])), (zme, .inr (4, [.ref zmeA, .int zmeN])), (zli, .inr (0, [.ref zln, .ref zll, .ref zlc])), (zln, .inr (4, [.ref zlnA, .int zlnN])), (zll, .inr (4, [.ref zllA, .int zllN])), (zlc, .inr (4, [.ref zlcA, .int zlcN])), (st, .inr (6, [.ref la, .ref me, .ref li, .int tol, .int su, .int fa])), (la, .inr (2, [.ref ld, .ref lz])), (ld, .inr (4, [.ref ldA, .int 0])), (lz, .inr (4, [.ref lzA, .int 0])), (me, .inr (4, [.ref meA, .int 0])), (li, .inr (0, [.ref ln, .ref ll, .ref lc])), (ln, .inr (4, [.ref lnA, .int 0])), (ll, .inr (4, [.ref llA, .int 0])), (lc, .inr (4, [.ref lcA, .int 0])), (hi, .inr (5, [.ref ri, .int 0, .int 0])), (ri, .inl (KS, 6, .inr (.inr (.inr (.inr rf)))))] := hD
  have hw_2 : r_1 = zst := hw_2
  have hw_2 := hw_2.symm
  subst hw_2
  have ct := k_cut_of (wc := [(zst, .inr (6, [.ref zla, .ref zme, .ref zli, .int ztol, .int zsu, .int zfa])), (zla, .inr (2, [.ref zld, .ref zlz])), (zld, .inr (4, [.ref zldA, .int zldN])), (zlz, .inr (4, [.ref zlzA, .int zlzN])), (zme, .inr (4, [.ref zmeA, .int zmeN])), (zli, .inr (0, [.ref zln, .ref zll, .ref zlc])), (zln, .inr (4, [.ref zlnA, .int zlnN])), (zll, .inr (4, [.ref zllA, .int zllN])), (zlc, .inr (4, [.ref zlcA, .int zlcN])), (st, .inr (6, [.ref la, .ref me, .ref li, .int tol, .int su, .int fa])), (la, .inr (2, [.ref ld, .ref lz])), (ld, .inr (4, [.ref ldA, .int 0])), (lz, .inr (4, [.ref lzA, .int 0])), (me, .inr (4, [.ref meA, .int 0])), (li, .inr (0, [.ref ln, .ref ll, .ref lc])), (ln, .inr (4, [.ref lnA, .int 0])), (ll, .inr (4, [.ref llA, .int 0])), (lc, .inr (4, [.ref lcA, .int 0]))]) (wr := [(hi, .inr (5, [.ref ri, .int 0, .int 0])), (ri, .inl (KS, 6, .inr (.inr (.inr (.inr rf)))))]) (tc := []) hG hS hA hK hP hD [0, 1, 2, 3, 4, 5, 6, 7, 8, 9, 10, 11, 12, 13, 14, 15, 16, 17] [18, 19] [] rfl rfl (by decide) (by decide) (by decide) rfl
  refine k_endv (As := [.ref st, .ref zst]) ct (k_runS (As := [.ref st, .ref zst]) (rest := []) S0 Ls_X5_29 ct (c_Saved_copy0 l D zst zla zme zli ztol zsu zfa zld zlz zldA zldN zlzA zlzN zmeA zmeN zln zll zlc zlnA zlnN zllA zllN zlcA zlcN st la me li tol su fa ld lz ldA lzA meA ln ll lc lnA llA lcA H.size) hl.1 rfl (Nat.le_of_ble_eq_true rfl) rfl dX5_save_9 ⟨⟨Nat.le_of_ble_eq_true rfl, Nat.le_of_ble_eq_true rfl⟩, Nat.le_of_ble_eq_true rfl, Nat.le_of_ble_eq_true rfl⟩) rfl rfl (fun _ _ H locs hw_4 hP hD hK hS => ?_)
  have hK : va_K D vwCl [(KS, .object "BarcodeWand$State")] s := hK
  have hP : va_P D vwCl [(hi, .inr (5, [.ref ri, .int 0, .int 0])), (ri, .inl (KS, 6, .inr (.inr (.inr (.inr rf))))), (zst, .inr (6, [.ref zla, .ref zme, .ref zli, .int tol, .int su, .int fa])), (zla, .inr (2, [.ref zld, .ref zlz])), (zld, .inr (4, [.ref zldA, .int 0])), (zlz, .inr (4, [.ref zlzA, .int 0])), (zme, .inr (4, [.ref zmeA, .int 0])), (zli, .inr (0, [.ref zln, .ref zll, .ref zlc])), (zln, .inr (4, [.ref zlnA, .int 0])), (zll, .inr (4, [.ref zllA, .int 0])), (zlc, .inr (4, [.ref zlcA, .int 0])), (st, .inr (6, [.ref la, .ref me, .ref li, .int tol, .int su, .int fa])), (la, .inr (2, [.ref ld, .ref lz])), (ld, .inr (4, [.ref ldA, .int 0])), (lz, .inr (4, [.ref lzA, .int 0])), (me, .inr (4, [.ref meA, .int 0])), (li, .inr (0, [.ref ln, .ref ll, .ref lc])), (ln, .inr (4, [.ref lnA, .int 0])), (ll, .inr (4, [.ref llA, .int 0])), (lc, .inr (4, [.ref lcA, .int 0]))] H := hP
  have hD : va_D A [(hi, .inr (5, [.ref ri, .int 0, .int 0])), (ri, .inl (KS, 6, .inr (.inr (.inr (.inr rf))))), (zst, .inr (6, [.ref zla, .ref zme, .ref zli, .int tol, .int su, .int fa])), (zla, .inr (2, [.ref zld, .ref zlz])), (zld, .inr (4, [.ref zldA, .int 0])), (zlz, .inr (4, [.ref zlzA, .int 0])), (zme, .inr (4, [.ref zmeA, .int 0])), (zli, .inr (0, [.ref zln, .ref zll, .ref zlc])), (zln, .inr (4, [.ref zlnA, .int 0])), (zll, .inr (4, [.ref zllA, .int 0])), (zlc, .inr (4, [.ref zlcA, .int 0])), (st, .inr (6, [.ref la, .ref me, .ref li, .int tol, .int su, .int fa])), (la, .inr (2, [.ref ld, .ref lz])), (ld, .inr (4, [.ref ldA, .int 0])), (lz, .inr (4, [.ref lzA, .int 0])), (me, .inr (4, [.ref meA, .int 0])), (li, .inr (0, [.ref ln, .ref ll, .ref lc])), (ln, .inr (4, [.ref lnA, .int 0])), (ll, .inr (4, [.ref llA, .int 0])), (lc, .inr (4, [.ref lcA, .int 0]))] := hD
  refine lv_aload_n hx hb dX5_save_12 rfl (lv_at hl 0 rfl) ?_
  refine lv_aload_n hx hb dX5_save_13 rfl (lv_at hl 0 rfl) ?_
  refine va_get (D := D) (ci := 5) (v := .int 0) (C := RX5) (T := TX5) (N := 3) hx hb ht inA_X5 hown hK hP 0 rfl rfl 1 (by decide) (ht _ lf_X5_22) (fun _ h9 => h9) rfl dX5_save_14 ?_
  refine lv_iconst (v := 1) hx hb dX5_save_17 (by decide) ?_
  refine lv_iadd hx hb dX5_save_18 ?_
  refine k_nrm (y := 1) (by decide) ?_
  refine lv_bipush (v := 6) hx hb dX5_save_19 (by decide) ?_
  refine lv_irem hx hb dX5_save_21 (by decide) ?_
  refine k_nrm (y := 1) (by decide) ?_
  refine va_put (D := D) (ci := 5) (v := .int 1) (ty := .int) (C := RX5) (T := TX5) (N := 3) hx hb ht inA_X5 tyX5 tyX5_ok nmX5 hown hK hP hD hS 0 rfl rfl 1 (by decide) (ht _ lf_X5_22) (fun _ h9 => h9) rfl (tyX5_ok 1 (by decide)) rfl rfl (Nat.le_of_ble_eq_true rfl) dX5_save_22 (fun H locs hP hD hS => ?_)
  have hP : va_P D vwCl [(hi, .inr (5, [.ref ri, .int 1, .int 0])), (ri, .inl (KS, 6, .inr (.inr (.inr (.inr rf))))), (zst, .inr (6, [.ref zla, .ref zme, .ref zli, .int tol, .int su, .int fa])), (zla, .inr (2, [.ref zld, .ref zlz])), (zld, .inr (4, [.ref zldA, .int 0])), (zlz, .inr (4, [.ref zlzA, .int 0])), (zme, .inr (4, [.ref zmeA, .int 0])), (zli, .inr (0, [.ref zln, .ref zll, .ref zlc])), (zln, .inr (4, [.ref zlnA, .int 0])), (zll, .inr (4, [.ref zllA, .int 0])), (zlc, .inr (4, [.ref zlcA, .int 0])), (st, .inr (6, [.ref la, .ref me, .ref li, .int tol, .int su, .int fa])), (la, .inr (2, [.ref ld, .ref lz])), (ld, .inr (4, [.ref ldA, .int 0])), (lz, .inr (4, [.ref lzA, .int 0])), (me, .inr (4, [.ref meA, .int 0])), (li, .inr (0, [.ref ln, .ref ll, .ref lc])), (ln, .inr (4, [.ref lnA, .int 0])), (ll, .inr (4, [.ref llA, .int 0])), (lc, .inr (4, [.ref lcA, .int 0]))] H := hP
  have hD : va_D A [(hi, .inr (5, [.ref ri, .int 1, .int 0])), (ri, .inl (KS, 6, .inr (.inr (.inr (.inr rf))))), (zst, .inr (6, [.ref zla, .ref zme, .ref zli, .int tol, .int su, .int fa])), (zla, .inr (2, [.ref zld, .ref zlz])), (zld, .inr (4, [.ref zldA, .int 0])), (zlz, .inr (4, [.ref zlzA, .int 0])), (zme, .inr (4, [.ref zmeA, .int 0])), (zli, .inr (0, [.ref zln, .ref zll, .ref zlc])), (zln, .inr (4, [.ref zlnA, .int 0])), (zll, .inr (4, [.ref zllA, .int 0])), (zlc, .inr (4, [.ref zlcA, .int 0])), (st, .inr (6, [.ref la, .ref me, .ref li, .int tol, .int su, .int fa])), (la, .inr (2, [.ref ld, .ref lz])), (ld, .inr (4, [.ref ldA, .int 0])), (lz, .inr (4, [.ref lzA, .int 0])), (me, .inr (4, [.ref meA, .int 0])), (li, .inr (0, [.ref ln, .ref ll, .ref lc])), (ln, .inr (4, [.ref lnA, .int 0])), (ll, .inr (4, [.ref llA, .int 0])), (lc, .inr (4, [.ref lcA, .int 0]))] := hD
  refine lv_aload_n hx hb dX5_save_25 rfl (lv_at hl 0 rfl) ?_
  refine lv_aload_n hx hb dX5_save_26 rfl (lv_at hl 0 rfl) ?_
  refine va_get (D := D) (ci := 5) (v := .int 0) (C := RX5) (T := TX5) (N := 3) hx hb ht inA_X5 hown hK hP 0 rfl rfl 2 (by decide) (ht _ lf_X5_18) (fun _ h9 => h9) rfl dX5_save_27 ?_
  refine lv_iconst (v := 1) hx hb dX5_save_30 (by decide) ?_
  refine lv_iadd hx hb dX5_save_31 ?_
  refine k_nrm (y := 1) (by decide) ?_
  refine lv_bipush (v := 6) hx hb dX5_save_32 (by decide) ?_
  refine va_mmin hx hb (by rw [hml]; exact hl.1.symm) hown (ht _ lM_X5_33) (ht _ lM_st_min) (ht _ li_java_lang_Math) (ht _ lM_code_min) (Nat.le_of_ble_eq_true rfl) (Nat.le_of_ble_eq_true rfl) (Nat.le_of_ble_eq_true rfl) (Nat.le_of_ble_eq_true rfl) dX5_save_34 ?_
  refine k_nrm (y := 1) (by decide) ?_
  refine va_put (D := D) (ci := 5) (v := .int 1) (ty := .int) (C := RX5) (T := TX5) (N := 3) hx hb ht inA_X5 tyX5 tyX5_ok nmX5 hown hK hP hD hS 0 rfl rfl 2 (by decide) (ht _ lf_X5_18) (fun _ h9 => h9) rfl (tyX5_ok 2 (by decide)) rfl rfl (Nat.le_of_ble_eq_true rfl) dX5_save_37 (fun H locs hP hD hS => ?_)
  have hP : va_P D vwCl [(hi, .inr (5, [.ref ri, .int 1, .int 1])), (ri, .inl (KS, 6, .inr (.inr (.inr (.inr rf))))), (zst, .inr (6, [.ref zla, .ref zme, .ref zli, .int tol, .int su, .int fa])), (zla, .inr (2, [.ref zld, .ref zlz])), (zld, .inr (4, [.ref zldA, .int 0])), (zlz, .inr (4, [.ref zlzA, .int 0])), (zme, .inr (4, [.ref zmeA, .int 0])), (zli, .inr (0, [.ref zln, .ref zll, .ref zlc])), (zln, .inr (4, [.ref zlnA, .int 0])), (zll, .inr (4, [.ref zllA, .int 0])), (zlc, .inr (4, [.ref zlcA, .int 0])), (st, .inr (6, [.ref la, .ref me, .ref li, .int tol, .int su, .int fa])), (la, .inr (2, [.ref ld, .ref lz])), (ld, .inr (4, [.ref ldA, .int 0])), (lz, .inr (4, [.ref lzA, .int 0])), (me, .inr (4, [.ref meA, .int 0])), (li, .inr (0, [.ref ln, .ref ll, .ref lc])), (ln, .inr (4, [.ref lnA, .int 0])), (ll, .inr (4, [.ref llA, .int 0])), (lc, .inr (4, [.ref lcA, .int 0]))] H := hP
  have hD : va_D A [(hi, .inr (5, [.ref ri, .int 1, .int 1])), (ri, .inl (KS, 6, .inr (.inr (.inr (.inr rf))))), (zst, .inr (6, [.ref zla, .ref zme, .ref zli, .int tol, .int su, .int fa])), (zla, .inr (2, [.ref zld, .ref zlz])), (zld, .inr (4, [.ref zldA, .int 0])), (zlz, .inr (4, [.ref zlzA, .int 0])), (zme, .inr (4, [.ref zmeA, .int 0])), (zli, .inr (0, [.ref zln, .ref zll, .ref zlc])), (zln, .inr (4, [.ref zlnA, .int 0])), (zll, .inr (4, [.ref zllA, .int 0])), (zlc, .inr (4, [.ref zlcA, .int 0])), (st, .inr (6, [.ref la, .ref me, .ref li, .int tol, .int su, .int fa])), (la, .inr (2, [.ref ld, .ref lz])), (ld, .inr (4, [.ref ldA, .int 0])), (lz, .inr (4, [.ref lzA, .int 0])), (me, .inr (4, [.ref meA, .int 0])), (li, .inr (0, [.ref ln, .ref ll, .ref lc])), (ln, .inr (4, [.ref lnA, .int 0])), (ll, .inr (4, [.ref llA, .int 0])), (lc, .inr (4, [.ref lcA, .int 0]))] := hD
  have hP9 : va_P D vwCl [(hi, .inr (5, [.ref ri, .int 1, .int 1])), (ri, .inl (KS, 6, .inr (.inr (.inr (.inr rf))))), (zst, .inr (6, [.ref zla, .ref zme, .ref zli, .int tol, .int su, .int fa])), (zla, .inr (2, [.ref zld, .ref zlz])), (zld, .inr (4, [.ref zldA, .int 0])), (zlz, .inr (4, [.ref zlzA, .int 0])), (zme, .inr (4, [.ref zmeA, .int 0])), (zli, .inr (0, [.ref zln, .ref zll, .ref zlc])), (zln, .inr (4, [.ref zlnA, .int 0])), (zll, .inr (4, [.ref zllA, .int 0])), (zlc, .inr (4, [.ref zlcA, .int 0])), (st, .inr (6, [.ref la, .ref me, .ref li, .int tol, .int su, .int fa])), (la, .inr (2, [.ref ld, .ref lz])), (ld, .inr (4, [.ref ldA, .int 0])), (lz, .inr (4, [.ref lzA, .int 0])), (me, .inr (4, [.ref meA, .int 0])), (li, .inr (0, [.ref ln, .ref ll, .ref lc])), (ln, .inr (4, [.ref lnA, .int 0])), (ll, .inr (4, [.ref llA, .int 0])), (lc, .inr (4, [.ref lcA, .int 0]))] H := hP.sub [0, 1, 2, 3, 4, 5, 6, 7, 8, 9, 10, 11, 12, 13, 14, 15, 16, 17, 18, 19] rfl
  have hD9 : va_D A [(hi, .inr (5, [.ref ri, .int 1, .int 1])), (ri, .inl (KS, 6, .inr (.inr (.inr (.inr rf))))), (zst, .inr (6, [.ref zla, .ref zme, .ref zli, .int tol, .int su, .int fa])), (zla, .inr (2, [.ref zld, .ref zlz])), (zld, .inr (4, [.ref zldA, .int 0])), (zlz, .inr (4, [.ref zlzA, .int 0])), (zme, .inr (4, [.ref zmeA, .int 0])), (zli, .inr (0, [.ref zln, .ref zll, .ref zlc])), (zln, .inr (4, [.ref zlnA, .int 0])), (zll, .inr (4, [.ref zllA, .int 0])), (zlc, .inr (4, [.ref zlcA, .int 0])), (st, .inr (6, [.ref la, .ref me, .ref li, .int tol, .int su, .int fa])), (la, .inr (2, [.ref ld, .ref lz])), (ld, .inr (4, [.ref ldA, .int 0])), (lz, .inr (4, [.ref lzA, .int 0])), (me, .inr (4, [.ref meA, .int 0])), (li, .inr (0, [.ref ln, .ref ll, .ref lc])), (ln, .inr (4, [.ref lnA, .int 0])), (ll, .inr (4, [.ref llA, .int 0])), (lc, .inr (4, [.ref lcA, .int 0]))] := hD.sub [0, 1, 2, 3, 4, 5, 6, 7, 8, 9, 10, 11, 12, 13, 14, 15, 16, 17, 18, 19] (by decide) rfl
  have hK9 : va_K D vwCl [] s := hK.sub [] rfl
  exact W.vret hx hb hr (fun t ht9 hW9 => ⟨⟨(), rfl, by first | rfl | trivial | (simp only [if_true, if_false, reduceIte, and_self]; done) | simp_all, ⟨by rw [ht9]; exact hP9, va_K.moved hW9.alike hK9, hD9⟩⟩, hS.F ht9⟩) hS.2.2 dX5_save_40
set_option maxHeartbeats 4000000 in
set_option maxRecDepth 100000 in
theorem c_Saved_size (l : Launch) (D : va_G) (hi : Nat) (ri : Nat) (nx : Int32) (kp : Int32) (sz : Nat) : k_Mi (S := Unit) l D yX5_size cX5_size 1 (some .int) 0 0 0 0 [.ref hi] [(hi, .inr (5, [.ref ri, .int nx, .int kp]))] [] (fun (r : Int32) (_ : Unit) => r = kp) (fun _ => [(hi, .inr (5, [.ref ri, .int nx, .int kp]))]) (fun _ => []) sz := by
  refine Met.ofW (cc := cX5_size) (maxL := 1) (ret := (some .int)) (by decide) rfl ?_
  intro p e s m args below meth c s₁ B hml hv
  obtain ⟨rfl, hsz, hP, hK, hD0, hG⟩ := hv
  have hx := B.exec
  have hb := B.bytes
  have hr := B.returns
  have ht : ∀ v9 ∈ wsA, v9.before ([.ref hi] : List Value).toArray s = true := fun v9 h9 => atoms_spec (ws := k_ws yX5_size cX5_size 1 (some .int)) B.pre v9 (List.mem_cons_of_mem _ h9)
  have hown : s.vm.findClass RX5 = some m.cls := findClass_of_methodNamed B.named
  have S0 : k_C p s m ([.ref hi] : List Value).toArray c cX5_size 1 RX5 := ⟨hx, hb, hml, hown, ht⟩
  have hlocks := B.notSynchronized
  subst hsz
  have hD := hD0.self (sz := s.heap.size)
  generalize hAe : va_A [(hi, .inr (5, [.ref ri, .int nx, .int kp]))] s.heap.size = A at hD hG ⊢
  have hA : ∀ q : Nat, s.heap.size ≤ q → A q := fun q h => by rw [← hAe]; exact Or.inr h
  have hS : va_S A s.heap s.heap [] := va_S.rf
  have hl := lv_entry ([.ref hi]) (n := 1) (Nat.le_of_ble_eq_true rfl)
  rw [lg_entry_eq]
  generalize (lg_sl ([.ref hi]) ++ List.replicate (1 - (lg_sl ([.ref hi])).length) Slot.unset).toArray = ls at hl ⊢
  have hl : lv_has ls 1 [(0, .ref hi)] := hl
  have hP : va_P D vwCl [(hi, .inr (5, [.ref ri, .int nx, .int kp]))] s.heap := hP
  refine lv_aload_n hx hb dX5_size_0 rfl (lv_at hl 0 rfl) ?_
  refine va_get (D := D) (ci := 5) (v := .int kp) (C := RX5) (T := TX5) (N := 3) hx hb ht inA_X5 hown hK hP 0 rfl rfl 2 (by decide) (ht _ lf_X5_18) (fun _ h9 => h9) rfl dX5_size_1 ?_
  have hP9 : va_P D vwCl [(hi, .inr (5, [.ref ri, .int nx, .int kp]))] s.heap := hP.sub [0] rfl
  have hD9 : va_D A [(hi, .inr (5, [.ref ri, .int nx, .int kp]))] := hD.sub [0] (by decide) rfl
  have hK9 : va_K D vwCl [] s := hK.sub [] rfl
  exact W.iret (v := kp) hx hb hr (fun t ht9 hW9 => ⟨⟨kp, (), rfl, by first | rfl | trivial | (simp only [if_true, if_false, reduceIte, and_self]; done) | simp_all, ⟨by rw [ht9]; exact hP9, va_K.moved hW9.alike hK9, hD9⟩⟩, hS.F ht9⟩) hS.2.2 dX5_size_4
end
section
theorem Lv_X3_97 : k_LV RX3 97 yX4_clear cX4_clear 1 none 0 := ⟨mA 297 rfl rfl, lm_X4_clear, le_X4_clear, li_BarcodeWand_Row, lk_X4_clear, ly_X4_clear⟩
theorem lk_X4_size : Cond.code yX4_size cX4_size 1 (some .int) ∈ wsA := mA 226 rfl rfl
theorem ly_X4_size : k_y yX4_size 0 := ⟨by decide +kernel, by decide +kernel, by decide +kernel⟩
theorem lm_X4_size : Cond.instanceMethod yX4_size ∈ wsA := mA 224 rfl rfl
theorem le_X4_size : Cond.selects (yX4_size).cls yX4_size yX4_size ∈ wsA := mA 225 rfl rfl
theorem Lv_X3_37 : k_LV RX3 37 yX4_size cX4_size 1 (some .int) 0 := ⟨mA 298 rfl rfl, lm_X4_size, le_X4_size, li_BarcodeWand_Row, lk_X4_size, ly_X4_size⟩
theorem lf_X3_84 : Cond.fieldLink RX3 84 "BarcodeWand$Reader" "failedFrom" "I" ∈ wsA := mA 146 rfl rfl
theorem lf_X3_87 : Cond.fieldLink RX3 87 "BarcodeWand$Reader" "failedTo" "I" ∈ wsA := mA 147 rfl rfl
theorem li_BarcodeWand_Reader : Cond.initialized "BarcodeWand$Reader" ∈ wsA := mA 8 rfl rfl
theorem lk_X3_layOut : Cond.code yX3_layOut cX3_layOut 4 none ∈ wsA := mA 296 rfl rfl
theorem ly_X3_layOut : k_y yX3_layOut 2 := ⟨by decide +kernel, by decide +kernel, by decide +kernel⟩
theorem lm_X3_layOut : Cond.instanceMethod yX3_layOut ∈ wsA := mA 295 rfl rfl
theorem le_X3_layOut : Cond.selects (yX3_layOut).cls yX3_layOut yX3_layOut ∈ wsA := mS 2 rfl rfl
theorem Lv_X3_33 : k_LV RX3 33 yX3_layOut cX3_layOut 4 none 2 := ⟨mA 293 rfl rfl, lm_X3_layOut, le_X3_layOut, li_BarcodeWand_Reader, lk_X3_layOut, ly_X3_layOut⟩
theorem lk_X3_digitsOf : Cond.code yX3_digitsOf cX3_digitsOf 4 (some .int) ∈ wsA := mA 303 rfl rfl
theorem ly_X3_digitsOf : k_y yX3_digitsOf 1 := ⟨by decide +kernel, by decide +kernel, by decide +kernel⟩
theorem ls_X3_digitsOf : Cond.static yX3_digitsOf ∈ wsA := mA 302 rfl rfl
theorem Ls_X3_41 : k_LS RX3 41 yX3_digitsOf cX3_digitsOf 4 (some .int) 1 := ⟨mA 301 rfl rfl, ls_X3_digitsOf, li_BarcodeWand_Reader, lk_X3_digitsOf, ly_X3_digitsOf⟩
theorem lk_X3_failAt : Cond.code yX3_failAt cX3_failAt 4 (some .int) ∈ wsA := mA 307 rfl rfl
theorem ly_X3_failAt : k_y yX3_failAt 3 := ⟨by decide +kernel, by decide +kernel, by decide +kernel⟩
theorem lm_X3_failAt : Cond.instanceMethod yX3_failAt ∈ wsA := mA 306 rfl rfl
theorem le_X3_failAt : Cond.selects (yX3_failAt).cls yX3_failAt yX3_failAt ∈ wsA := mS 3 rfl rfl
theorem Lv_X3_45 : k_LV RX3 45 yX3_failAt cX3_failAt 4 (some .int) 3 := ⟨mA 304 rfl rfl, lm_X3_failAt, le_X3_failAt, li_BarcodeWand_Reader, lk_X3_failAt, ly_X3_failAt⟩
theorem lk_X3_failureOf : Cond.code yX3_failureOf cX3_failureOf 7 (some .int) ∈ wsA := mA 292 rfl rfl
theorem ly_X3_failureOf : k_y yX3_failureOf 3 := ⟨by decide +kernel, by decide +kernel, by decide +kernel⟩
theorem lm_X3_failureOf : Cond.instanceMethod yX3_failureOf ∈ wsA := mA 290 rfl rfl
theorem le_X3_failureOf : Cond.selects (yX3_failureOf).cls yX3_failureOf yX3_failureOf ∈ wsA := mA 291 rfl rfl
theorem Lv_X3_23 : k_LV RX3 23 yX3_failureOf cX3_failureOf 7 (some .int) 3 := ⟨mA 289 rfl rfl, lm_X3_failureOf, le_X3_failureOf, li_BarcodeWand_Reader, lk_X3_failureOf, ly_X3_failureOf⟩
theorem lM_X3_27 : Cond.methodLink RX3 27 Lib.Math.max.name ∈ wsA := mA 312 rfl rfl
theorem dX3_layOut_0 : decode cX3_layOut 0 = .ok (.aload_n 0, 1) := by decide +kernel
theorem dX3_layOut_1 : decode cX3_layOut 1 = .ok (.getfield 14, 3) := by decide +kernel
theorem dX3_layOut_4 : decode cX3_layOut 4 = .ok (.invokevirtual 97, 3) := by decide +kernel
theorem dX3_layOut_7 : decode cX3_layOut 7 = .ok (.aload_n 0, 1) := by decide +kernel
theorem dX3_layOut_8 : decode cX3_layOut 8 = .ok (.getfield 20, 3) := by decide +kernel
theorem dX3_layOut_11 : decode cX3_layOut 11 = .ok (.invokevirtual 97, 3) := by decide +kernel
theorem dX3_layOut_14 : decode cX3_layOut 14 = .ok (.iconst 0, 1) := by decide +kernel
theorem dX3_layOut_15 : decode cX3_layOut 15 = .ok (.istore_n 3, 1) := by decide +kernel
theorem dX3_layOut_16 : decode cX3_layOut 16 = .ok (.iload_n 3, 1) := by decide +kernel
theorem dX3_layOut_17 : decode cX3_layOut 17 = .ok (.aload_n 1, 1) := by decide +kernel
theorem dX3_layOut_18 : decode cX3_layOut 18 = .ok (.invokevirtual 37, 3) := by decide +kernel
theorem dX3_layOut_21 : decode cX3_layOut 21 = .ok (.if_icmp .ge 36, 3) := by decide +kernel
theorem dX3_layOut_24 : decode cX3_layOut 24 = .ok (.aload_n 0, 1) := by decide +kernel
theorem dX3_layOut_25 : decode cX3_layOut 25 = .ok (.getfield 20, 3) := by decide +kernel
theorem dX3_layOut_28 : decode cX3_layOut 28 = .ok (.aload_n 1, 1) := by decide +kernel
theorem dX3_layOut_29 : decode cX3_layOut 29 = .ok (.iload_n 2, 1) := by decide +kernel
theorem dX3_layOut_30 : decode cX3_layOut 30 = .ok (.ifCond .eq 14, 3) := by decide +kernel
theorem dX3_layOut_33 : decode cX3_layOut 33 = .ok (.aload_n 1, 1) := by decide +kernel
theorem dX3_layOut_34 : decode cX3_layOut 34 = .ok (.invokevirtual 37, 3) := by decide +kernel
theorem dX3_layOut_37 : decode cX3_layOut 37 = .ok (.iconst 1, 1) := by decide +kernel
theorem dX3_layOut_38 : decode cX3_layOut 38 = .ok (.isub, 1) := by decide +kernel
theorem dX3_layOut_39 : decode cX3_layOut 39 = .ok (.iload_n 3, 1) := by decide +kernel
theorem dX3_layOut_40 : decode cX3_layOut 40 = .ok (.isub, 1) := by decide +kernel
theorem dX3_layOut_41 : decode cX3_layOut 41 = .ok (.goto 4, 3) := by decide +kernel
theorem dX3_layOut_44 : decode cX3_layOut 44 = .ok (.iload_n 3, 1) := by decide +kernel
theorem dX3_layOut_45 : decode cX3_layOut 45 = .ok (.invokevirtual 77, 3) := by decide +kernel
theorem dX3_layOut_48 : decode cX3_layOut 48 = .ok (.invokevirtual 71, 3) := by decide +kernel
theorem dX3_layOut_51 : decode cX3_layOut 51 = .ok (.iinc 3 1, 3) := by decide +kernel
theorem dX3_layOut_54 : decode cX3_layOut 54 = .ok (.goto (-38), 3) := by decide +kernel
theorem dX3_layOut_57 : decode cX3_layOut 57 = .ok (.return_, 1) := by decide +kernel
theorem dX3_digitsOf_0 : decode cX3_digitsOf 0 = .ok (.iload_n 0, 1) := by decide +kernel
theorem dX3_digitsOf_1 : decode cX3_digitsOf 1 = .ok (.iconst 3, 1) := by decide +kernel
theorem dX3_digitsOf_2 : decode cX3_digitsOf 2 = .ok (.isub, 1) := by decide +kernel
theorem dX3_digitsOf_3 : decode cX3_digitsOf 3 = .ok (.iconst 2, 1) := by decide +kernel
theorem dX3_digitsOf_4 : decode cX3_digitsOf 4 = .ok (.isub, 1) := by decide +kernel
theorem dX3_digitsOf_5 : decode cX3_digitsOf 5 = .ok (.istore_n 1, 1) := by decide +kernel
theorem dX3_digitsOf_6 : decode cX3_digitsOf 6 = .ok (.iload_n 1, 1) := by decide +kernel
theorem dX3_digitsOf_7 : decode cX3_digitsOf 7 = .ok (.iconst 4, 1) := by decide +kernel
theorem dX3_digitsOf_8 : decode cX3_digitsOf 8 = .ok (.idiv, 1) := by decide +kernel
theorem dX3_digitsOf_9 : decode cX3_digitsOf 9 = .ok (.istore_n 2, 1) := by decide +kernel
theorem dX3_digitsOf_10 : decode cX3_digitsOf 10 = .ok (.iload_n 1, 1) := by decide +kernel
theorem dX3_digitsOf_11 : decode cX3_digitsOf 11 = .ok (.iconst 4, 1) := by decide +kernel
theorem dX3_digitsOf_12 : decode cX3_digitsOf 12 = .ok (.irem, 1) := by decide +kernel
theorem dX3_digitsOf_13 : decode cX3_digitsOf 13 = .ok (.ifCond .ne 7, 3) := by decide +kernel
theorem dX3_digitsOf_16 : decode cX3_digitsOf 16 = .ok (.iconst 1, 1) := by decide +kernel
theorem dX3_digitsOf_17 : decode cX3_digitsOf 17 = .ok (.goto 4, 3) := by decide +kernel
theorem dX3_digitsOf_20 : decode cX3_digitsOf 20 = .ok (.iconst 0, 1) := by decide +kernel
theorem dX3_digitsOf_21 : decode cX3_digitsOf 21 = .ok (.istore_n 3, 1) := by decide +kernel
theorem dX3_digitsOf_22 : decode cX3_digitsOf 22 = .ok (.iload_n 3, 1) := by decide +kernel
theorem dX3_digitsOf_23 : decode cX3_digitsOf 23 = .ok (.ifCond .eq 18, 3) := by decide +kernel
theorem dX3_digitsOf_26 : decode cX3_digitsOf 26 = .ok (.iload_n 2, 1) := by decide +kernel
theorem dX3_digitsOf_27 : decode cX3_digitsOf 27 = .ok (.iconst 2, 1) := by decide +kernel
theorem dX3_digitsOf_28 : decode cX3_digitsOf 28 = .ok (.if_icmp .lt 13, 3) := by decide +kernel
theorem dX3_digitsOf_31 : decode cX3_digitsOf 31 = .ok (.iload_n 2, 1) := by decide +kernel
theorem dX3_digitsOf_32 : decode cX3_digitsOf 32 = .ok (.bipush 9, 2) := by decide +kernel
theorem dX3_digitsOf_34 : decode cX3_digitsOf 34 = .ok (.if_icmp .gt 7, 3) := by decide +kernel
theorem dX3_digitsOf_37 : decode cX3_digitsOf 37 = .ok (.iload_n 2, 1) := by decide +kernel
theorem dX3_digitsOf_38 : decode cX3_digitsOf 38 = .ok (.goto 4, 3) := by decide +kernel
theorem dX3_digitsOf_41 : decode cX3_digitsOf 41 = .ok (.iconst 0, 1) := by decide +kernel
theorem dX3_digitsOf_42 : decode cX3_digitsOf 42 = .ok (.ireturn, 1) := by decide +kernel
theorem dX3_failAt_0 : decode cX3_failAt 0 = .ok (.aload_n 0, 1) := by decide +kernel
theorem dX3_failAt_1 : decode cX3_failAt 1 = .ok (.iload_n 2, 1) := by decide +kernel
theorem dX3_failAt_2 : decode cX3_failAt 2 = .ok (.putfield 84, 3) := by decide +kernel
theorem dX3_failAt_5 : decode cX3_failAt 5 = .ok (.aload_n 0, 1) := by decide +kernel
theorem dX3_failAt_6 : decode cX3_failAt 6 = .ok (.iload_n 3, 1) := by decide +kernel
theorem dX3_failAt_7 : decode cX3_failAt 7 = .ok (.putfield 87, 3) := by decide +kernel
theorem dX3_failAt_10 : decode cX3_failAt 10 = .ok (.iload_n 1, 1) := by decide +kernel
theorem dX3_failAt_11 : decode cX3_failAt 11 = .ok (.ireturn, 1) := by decide +kernel
theorem dX3_failureOf_0 : decode cX3_failureOf 0 = .ok (.aload_n 0, 1) := by decide +kernel
theorem dX3_failureOf_1 : decode cX3_failureOf 1 = .ok (.aload_n 1, 1) := by decide +kernel
theorem dX3_failureOf_2 : decode cX3_failureOf 2 = .ok (.iload_n 2, 1) := by decide +kernel
theorem dX3_failureOf_3 : decode cX3_failureOf 3 = .ok (.invokevirtual 33, 3) := by decide +kernel
theorem dX3_failureOf_6 : decode cX3_failureOf 6 = .ok (.aload_n 0, 1) := by decide +kernel
theorem dX3_failureOf_7 : decode cX3_failureOf 7 = .ok (.getfield 20, 3) := by decide +kernel
theorem dX3_failureOf_10 : decode cX3_failureOf 10 = .ok (.invokevirtual 37, 3) := by decide +kernel
theorem dX3_failureOf_13 : decode cX3_failureOf 13 = .ok (.invokestatic 41, 3) := by decide +kernel
theorem dX3_failureOf_16 : decode cX3_failureOf 16 = .ok (.istore 4, 2) := by decide +kernel
theorem dX3_failureOf_18 : decode cX3_failureOf 18 = .ok (.iload 4, 2) := by decide +kernel
theorem dX3_failureOf_20 : decode cX3_failureOf 20 = .ok (.ifCond .ne 17, 3) := by decide +kernel
theorem dX3_failureOf_23 : decode cX3_failureOf 23 = .ok (.aload_n 0, 1) := by decide +kernel
theorem dX3_failureOf_24 : decode cX3_failureOf 24 = .ok (.iconst 1, 1) := by decide +kernel
theorem dX3_failureOf_25 : decode cX3_failureOf 25 = .ok (.iconst 0, 1) := by decide +kernel
theorem dX3_failureOf_26 : decode cX3_failureOf 26 = .ok (.aload_n 0, 1) := by decide +kernel
theorem dX3_failureOf_27 : decode cX3_failureOf 27 = .ok (.getfield 20, 3) := by decide +kernel
theorem dX3_failureOf_30 : decode cX3_failureOf 30 = .ok (.invokevirtual 37, 3) := by decide +kernel
theorem dX3_failureOf_33 : decode cX3_failureOf 33 = .ok (.invokevirtual 45, 3) := by decide +kernel
theorem dX3_failureOf_36 : decode cX3_failureOf 36 = .ok (.ireturn, 1) := by decide +kernel
theorem dX3_failureOf_37 : decode cX3_failureOf 37 = .ok (.aload_n 0, 1) := by decide +kernel
theorem dX3_failureOf_38 : decode cX3_failureOf 38 = .ok (.invokevirtual 49, 3) := by decide +kernel
theorem dX3_failureOf_41 : decode cX3_failureOf 41 = .ok (.ifCond .ne 11, 3) := by decide +kernel
theorem dX3_failureOf_44 : decode cX3_failureOf 44 = .ok (.aload_n 0, 1) := by decide +kernel
theorem dX3_failureOf_45 : decode cX3_failureOf 45 = .ok (.iconst 2, 1) := by decide +kernel
theorem dX3_failureOf_46 : decode cX3_failureOf 46 = .ok (.iconst 0, 1) := by decide +kernel
theorem dX3_failureOf_47 : decode cX3_failureOf 47 = .ok (.iconst 3, 1) := by decide +kernel
theorem dX3_failureOf_48 : decode cX3_failureOf 48 = .ok (.invokevirtual 45, 3) := by decide +kernel
theorem dX3_failureOf_51 : decode cX3_failureOf 51 = .ok (.ireturn, 1) := by decide +kernel
theorem dX3_failureOf_52 : decode cX3_failureOf 52 = .ok (.iconst 0, 1) := by decide +kernel
theorem dX3_failureOf_53 : decode cX3_failureOf 53 = .ok (.istore 5, 2) := by decide +kernel
theorem dX3_failureOf_55 : decode cX3_failureOf 55 = .ok (.iload 5, 2) := by decide +kernel
theorem dX3_failureOf_57 : decode cX3_failureOf 57 = .ok (.iload 4, 2) := by decide +kernel
theorem dX3_failureOf_59 : decode cX3_failureOf 59 = .ok (.if_icmp .ge 72, 3) := by decide +kernel
theorem dX3_failureOf_62 : decode cX3_failureOf 62 = .ok (.iconst 3, 1) := by decide +kernel
theorem dX3_failureOf_63 : decode cX3_failureOf 63 = .ok (.iconst 4, 1) := by decide +kernel
theorem dX3_failureOf_64 : decode cX3_failureOf 64 = .ok (.iload 5, 2) := by decide +kernel
theorem dX3_failureOf_66 : decode cX3_failureOf 66 = .ok (.imul, 1) := by decide +kernel
theorem dX3_failureOf_67 : decode cX3_failureOf 67 = .ok (.iadd, 1) := by decide +kernel
theorem dX3_failureOf_68 : decode cX3_failureOf 68 = .ok (.istore 6, 2) := by decide +kernel
theorem dX3_failureOf_70 : decode cX3_failureOf 70 = .ok (.aload_n 0, 1) := by decide +kernel
theorem dX3_failureOf_71 : decode cX3_failureOf 71 = .ok (.aload_n 0, 1) := by decide +kernel
theorem dX3_failureOf_72 : decode cX3_failureOf 72 = .ok (.getfield 20, 3) := by decide +kernel
theorem dX3_failureOf_75 : decode cX3_failureOf 75 = .ok (.iload 6, 2) := by decide +kernel
theorem dX3_failureOf_77 : decode cX3_failureOf 77 = .ok (.invokevirtual 53, 3) := by decide +kernel
theorem dX3_failureOf_80 : decode cX3_failureOf 80 = .ok (.aload_n 0, 1) := by decide +kernel
theorem dX3_failureOf_81 : decode cX3_failureOf 81 = .ok (.getfield 57, 3) := by decide +kernel
theorem dX3_failureOf_84 : decode cX3_failureOf 84 = .ok (.ifCond .ne 18, 3) := by decide +kernel
theorem dX3_failureOf_87 : decode cX3_failureOf 87 = .ok (.iconst 4, 1) := by decide +kernel
theorem dX3_failureOf_88 : decode cX3_failureOf 88 = .ok (.aload_n 0, 1) := by decide +kernel
theorem dX3_failureOf_89 : decode cX3_failureOf 89 = .ok (.getfield 61, 3) := by decide +kernel
theorem dX3_failureOf_92 : decode cX3_failureOf 92 = .ok (.imul, 1) := by decide +kernel
theorem dX3_failureOf_93 : decode cX3_failureOf 93 = .ok (.aload_n 0, 1) := by decide +kernel
theorem dX3_failureOf_94 : decode cX3_failureOf 94 = .ok (.getfield 65, 3) := by decide +kernel
theorem dX3_failureOf_97 : decode cX3_failureOf 97 = .ok (.iload_n 3, 1) := by decide +kernel
theorem dX3_failureOf_98 : decode cX3_failureOf 98 = .ok (.imul, 1) := by decide +kernel
theorem dX3_failureOf_99 : decode cX3_failureOf 99 = .ok (.if_icmp .le 15, 3) := by decide +kernel
theorem dX3_failureOf_102 : decode cX3_failureOf 102 = .ok (.aload_n 0, 1) := by decide +kernel
theorem dX3_failureOf_103 : decode cX3_failureOf 103 = .ok (.iconst 3, 1) := by decide +kernel
theorem dX3_failureOf_104 : decode cX3_failureOf 104 = .ok (.iload 6, 2) := by decide +kernel
theorem dX3_failureOf_106 : decode cX3_failureOf 106 = .ok (.iload 6, 2) := by decide +kernel
theorem dX3_failureOf_108 : decode cX3_failureOf 108 = .ok (.iconst 4, 1) := by decide +kernel
theorem dX3_failureOf_109 : decode cX3_failureOf 109 = .ok (.iadd, 1) := by decide +kernel
theorem dX3_failureOf_110 : decode cX3_failureOf 110 = .ok (.invokevirtual 45, 3) := by decide +kernel
theorem dX3_failureOf_113 : decode cX3_failureOf 113 = .ok (.ireturn, 1) := by decide +kernel
theorem dX3_failureOf_114 : decode cX3_failureOf 114 = .ok (.aload_n 0, 1) := by decide +kernel
theorem dX3_failureOf_115 : decode cX3_failureOf 115 = .ok (.getfield 14, 3) := by decide +kernel
theorem dX3_failureOf_118 : decode cX3_failureOf 118 = .ok (.aload_n 0, 1) := by decide +kernel
theorem dX3_failureOf_119 : decode cX3_failureOf 119 = .ok (.getfield 68, 3) := by decide +kernel
theorem dX3_failureOf_122 : decode cX3_failureOf 122 = .ok (.invokevirtual 71, 3) := by decide +kernel
theorem dX3_failureOf_125 : decode cX3_failureOf 125 = .ok (.iinc 5 1, 3) := by decide +kernel
theorem dX3_failureOf_128 : decode cX3_failureOf 128 = .ok (.goto (-73), 3) := by decide +kernel
theorem dX3_failureOf_131 : decode cX3_failureOf 131 = .ok (.aload_n 0, 1) := by decide +kernel
theorem dX3_failureOf_132 : decode cX3_failureOf 132 = .ok (.invokevirtual 74, 3) := by decide +kernel
theorem dX3_failureOf_135 : decode cX3_failureOf 135 = .ok (.ifCond .ne 25, 3) := by decide +kernel
theorem dX3_failureOf_138 : decode cX3_failureOf 138 = .ok (.aload_n 0, 1) := by decide +kernel
theorem dX3_failureOf_139 : decode cX3_failureOf 139 = .ok (.iconst 4, 1) := by decide +kernel
theorem dX3_failureOf_140 : decode cX3_failureOf 140 = .ok (.aload_n 0, 1) := by decide +kernel
theorem dX3_failureOf_141 : decode cX3_failureOf 141 = .ok (.getfield 20, 3) := by decide +kernel
theorem dX3_failureOf_144 : decode cX3_failureOf 144 = .ok (.invokevirtual 37, 3) := by decide +kernel
theorem dX3_failureOf_147 : decode cX3_failureOf 147 = .ok (.iconst 2, 1) := by decide +kernel
theorem dX3_failureOf_148 : decode cX3_failureOf 148 = .ok (.isub, 1) := by decide +kernel
theorem dX3_failureOf_149 : decode cX3_failureOf 149 = .ok (.aload_n 0, 1) := by decide +kernel
theorem dX3_failureOf_150 : decode cX3_failureOf 150 = .ok (.getfield 20, 3) := by decide +kernel
theorem dX3_failureOf_153 : decode cX3_failureOf 153 = .ok (.invokevirtual 37, 3) := by decide +kernel
theorem dX3_failureOf_156 : decode cX3_failureOf 156 = .ok (.invokevirtual 45, 3) := by decide +kernel
theorem dX3_failureOf_159 : decode cX3_failureOf 159 = .ok (.ireturn, 1) := by decide +kernel
theorem dX3_failureOf_160 : decode cX3_failureOf 160 = .ok (.aload_n 0, 1) := by decide +kernel
theorem dX3_failureOf_161 : decode cX3_failureOf 161 = .ok (.getfield 14, 3) := by decide +kernel
theorem dX3_failureOf_164 : decode cX3_failureOf 164 = .ok (.iload 4, 2) := by decide +kernel
theorem dX3_failureOf_166 : decode cX3_failureOf 166 = .ok (.iconst 1, 1) := by decide +kernel
theorem dX3_failureOf_167 : decode cX3_failureOf 167 = .ok (.isub, 1) := by decide +kernel
theorem dX3_failureOf_168 : decode cX3_failureOf 168 = .ok (.invokevirtual 77, 3) := by decide +kernel
theorem dX3_failureOf_171 : decode cX3_failureOf 171 = .ok (.aload_n 0, 1) := by decide +kernel
theorem dX3_failureOf_172 : decode cX3_failureOf 172 = .ok (.getfield 14, 3) := by decide +kernel
theorem dX3_failureOf_175 : decode cX3_failureOf 175 = .ok (.iload 4, 2) := by decide +kernel
theorem dX3_failureOf_177 : decode cX3_failureOf 177 = .ok (.iconst 1, 1) := by decide +kernel
theorem dX3_failureOf_178 : decode cX3_failureOf 178 = .ok (.isub, 1) := by decide +kernel
theorem dX3_failureOf_179 : decode cX3_failureOf 179 = .ok (.invokestatic 80, 3) := by decide +kernel
theorem dX3_failureOf_182 : decode cX3_failureOf 182 = .ok (.if_icmp .ne 7, 3) := by decide +kernel
theorem dX3_failureOf_185 : decode cX3_failureOf 185 = .ok (.iconst 1, 1) := by decide +kernel
theorem dX3_failureOf_186 : decode cX3_failureOf 186 = .ok (.goto 4, 3) := by decide +kernel
theorem dX3_failureOf_189 : decode cX3_failureOf 189 = .ok (.iconst 0, 1) := by decide +kernel
theorem dX3_failureOf_190 : decode cX3_failureOf 190 = .ok (.istore 5, 2) := by decide +kernel
theorem dX3_failureOf_192 : decode cX3_failureOf 192 = .ok (.iload 5, 2) := by decide +kernel
theorem dX3_failureOf_194 : decode cX3_failureOf 194 = .ok (.ifCond .eq 7, 3) := by decide +kernel
theorem dX3_failureOf_197 : decode cX3_failureOf 197 = .ok (.iconst 0, 1) := by decide +kernel
theorem dX3_failureOf_198 : decode cX3_failureOf 198 = .ok (.goto 16, 3) := by decide +kernel
theorem dX3_failureOf_201 : decode cX3_failureOf 201 = .ok (.aload_n 0, 1) := by decide +kernel
theorem dX3_failureOf_202 : decode cX3_failureOf 202 = .ok (.iconst 5, 1) := by decide +kernel
theorem dX3_failureOf_203 : decode cX3_failureOf 203 = .ok (.iconst 0, 1) := by decide +kernel
theorem dX3_failureOf_204 : decode cX3_failureOf 204 = .ok (.aload_n 0, 1) := by decide +kernel
theorem dX3_failureOf_205 : decode cX3_failureOf 205 = .ok (.getfield 20, 3) := by decide +kernel
theorem dX3_failureOf_208 : decode cX3_failureOf 208 = .ok (.invokevirtual 37, 3) := by decide +kernel
theorem dX3_failureOf_211 : decode cX3_failureOf 211 = .ok (.invokevirtual 45, 3) := by decide +kernel
theorem dX3_failureOf_214 : decode cX3_failureOf 214 = .ok (.ireturn, 1) := by decide +kernel
theorem dX3_resultOf_0 : decode cX3_resultOf 0 = .ok (.aload_n 0, 1) := by decide +kernel
theorem dX3_resultOf_1 : decode cX3_resultOf 1 = .ok (.aload_n 1, 1) := by decide +kernel
theorem dX3_resultOf_2 : decode cX3_resultOf 2 = .ok (.iconst 0, 1) := by decide +kernel
theorem dX3_resultOf_3 : decode cX3_resultOf 3 = .ok (.iload_n 2, 1) := by decide +kernel
theorem dX3_resultOf_4 : decode cX3_resultOf 4 = .ok (.invokevirtual 23, 3) := by decide +kernel
theorem dX3_resultOf_7 : decode cX3_resultOf 7 = .ok (.istore_n 3, 1) := by decide +kernel
theorem dX3_resultOf_8 : decode cX3_resultOf 8 = .ok (.iload_n 3, 1) := by decide +kernel
theorem dX3_resultOf_9 : decode cX3_resultOf 9 = .ok (.ifCond .ne 5, 3) := by decide +kernel
theorem dX3_resultOf_12 : decode cX3_resultOf 12 = .ok (.iconst 0, 1) := by decide +kernel
theorem dX3_resultOf_13 : decode cX3_resultOf 13 = .ok (.ireturn, 1) := by decide +kernel
theorem dX3_resultOf_14 : decode cX3_resultOf 14 = .ok (.aload_n 0, 1) := by decide +kernel
theorem dX3_resultOf_15 : decode cX3_resultOf 15 = .ok (.aload_n 1, 1) := by decide +kernel
theorem dX3_resultOf_16 : decode cX3_resultOf 16 = .ok (.iconst 1, 1) := by decide +kernel
theorem dX3_resultOf_17 : decode cX3_resultOf 17 = .ok (.iload_n 2, 1) := by decide +kernel
theorem dX3_resultOf_18 : decode cX3_resultOf 18 = .ok (.invokevirtual 23, 3) := by decide +kernel
theorem dX3_resultOf_21 : decode cX3_resultOf 21 = .ok (.istore 4, 2) := by decide +kernel
theorem dX3_resultOf_23 : decode cX3_resultOf 23 = .ok (.iload 4, 2) := by decide +kernel
theorem dX3_resultOf_25 : decode cX3_resultOf 25 = .ok (.ifCond .ne 7, 3) := by decide +kernel
theorem dX3_resultOf_28 : decode cX3_resultOf 28 = .ok (.iconst (-1), 1) := by decide +kernel
theorem dX3_resultOf_29 : decode cX3_resultOf 29 = .ok (.goto 9, 3) := by decide +kernel
theorem dX3_resultOf_32 : decode cX3_resultOf 32 = .ok (.iload_n 3, 1) := by decide +kernel
theorem dX3_resultOf_33 : decode cX3_resultOf 33 = .ok (.iload 4, 2) := by decide +kernel
theorem dX3_resultOf_35 : decode cX3_resultOf 35 = .ok (.invokestatic 27, 3) := by decide +kernel
theorem dX3_resultOf_38 : decode cX3_resultOf 38 = .ok (.ireturn, 1) := by decide +kernel
theorem dX7_hasSucceeded_0 : decode cX7_hasSucceeded 0 = .ok (.iload_n 0, 1) := by decide +kernel
theorem dX7_hasSucceeded_1 : decode cX7_hasSucceeded 1 = .ok (.ifCond .eq 8, 3) := by decide +kernel
theorem dX7_hasSucceeded_4 : decode cX7_hasSucceeded 4 = .ok (.iload_n 0, 1) := by decide +kernel
theorem dX7_hasSucceeded_5 : decode cX7_hasSucceeded 5 = .ok (.iconst (-1), 1) := by decide +kernel
theorem dX7_hasSucceeded_6 : decode cX7_hasSucceeded 6 = .ok (.if_icmp .ne 7, 3) := by decide +kernel
theorem dX7_hasSucceeded_9 : decode cX7_hasSucceeded 9 = .ok (.iconst 1, 1) := by decide +kernel
theorem dX7_hasSucceeded_10 : decode cX7_hasSucceeded 10 = .ok (.goto 4, 3) := by decide +kernel
theorem dX7_hasSucceeded_13 : decode cX7_hasSucceeded 13 = .ok (.iconst 0, 1) := by decide +kernel
theorem dX7_hasSucceeded_14 : decode cX7_hasSucceeded 14 = .ok (.ireturn, 1) := by decide +kernel
set_option maxHeartbeats 4000000 in
set_option maxRecDepth 100000 in
theorem c_layOut0 (l : Launch) (D : va_G) (re : Nat) (rd : Nat) (nd : Int32) (rl : Nat) (ldi : Int32) (sot : Int32) (tie : Int32) (ff : Int32) (ft : Int32) (rdA : Nat) (rdN : Int32) (rlA : Nat) (rlN : Int32) (tm : Nat) (tmA : Nat) (b : Int32) (sz : Nat) : k_Mv (S := Unit) l D yX3_layOut cX3_layOut 4 none 1 0 0 20 [.ref re, .ref tm, .int b] [(re, .inr (3, [.ref rd, .int nd, .ref rl, .int ldi, .int sot, .int tie, .int ff, .int ft])), (rd, .inr (4, [.ref rdA, .int rdN])), (rl, .inr (4, [.ref rlA, .int rlN])), (tm, .inr (4, [.ref tmA, .int 0]))] [] (fun (_ : Unit) => True) (fun _ => [(re, .inr (3, [.ref rd, .int nd, .ref rl, .int ldi, .int sot, .int tie, .int ff, .int ft])), (rd, .inr (4, [.ref rdA, .int 0])), (rl, .inr (4, [.ref rlA, .int 0])), (tm, .inr (4, [.ref tmA, .int 0]))]) (fun _ => []) sz := by
  refine Met.ofW (cc := cX3_layOut) (maxL := 4) (ret := none) (by decide) rfl ?_
  intro p e s m args below meth c s₁ B hml hv
  obtain ⟨rfl, hsz, hP, hK, hD0, hG⟩ := hv
  have hx := B.exec
  have hb := B.bytes
  have hr := B.returns
  have ht : ∀ v9 ∈ wsA, v9.before ([.ref re, .ref tm, .int b] : List Value).toArray s = true := fun v9 h9 => atoms_spec (ws := k_ws yX3_layOut cX3_layOut 4 none) B.pre v9 (List.mem_cons_of_mem _ h9)
  have hown : s.vm.findClass RX3 = some m.cls := findClass_of_methodNamed B.named
  have S0 : k_C p s m ([.ref re, .ref tm, .int b] : List Value).toArray c cX3_layOut 4 RX3 := ⟨hx, hb, hml, hown, ht⟩
  have hlocks := B.notSynchronized
  subst hsz
  have hD := hD0.self (sz := s.heap.size)
  generalize hAe : va_A [(re, .inr (3, [.ref rd, .int nd, .ref rl, .int ldi, .int sot, .int tie, .int ff, .int ft])), (rd, .inr (4, [.ref rdA, .int rdN])), (rl, .inr (4, [.ref rlA, .int rlN])), (tm, .inr (4, [.ref tmA, .int 0]))] s.heap.size = A at hD hG ⊢
  have hA : ∀ q : Nat, s.heap.size ≤ q → A q := fun q h => by rw [← hAe]; exact Or.inr h
  have hS : va_S A s.heap s.heap [] := va_S.rf
  have hl := lv_entry ([.ref re, .ref tm, .int b]) (n := 4) (Nat.le_of_ble_eq_true rfl)
  rw [lg_entry_eq]
  generalize (lg_sl ([.ref re, .ref tm, .int b]) ++ List.replicate (4 - (lg_sl ([.ref re, .ref tm, .int b])).length) Slot.unset).toArray = ls at hl ⊢
  have hl : lv_has ls 4 [(0, .ref re), (1, .ref tm), (2, .int b)] := hl
  have hP : va_P D vwCl [(re, .inr (3, [.ref rd, .int nd, .ref rl, .int ldi, .int sot, .int tie, .int ff, .int ft])), (rd, .inr (4, [.ref rdA, .int rdN])), (rl, .inr (4, [.ref rlA, .int rlN])), (tm, .inr (4, [.ref tmA, .int 0]))] s.heap := hP
  refine lv_aload_n hx hb dX3_layOut_0 rfl (lv_at hl 0 rfl) ?_
  refine va_get (D := D) (ci := 3) (v := .ref rd) (C := RX3) (T := TX3) (N := 8) hx hb ht inA_X3 hown hK hP 0 rfl rfl 0 (by decide) (ht _ lf_X3_14) (fun _ h9 => h9) rfl dX3_layOut_1 ?_
  have ct := k_cut_of (wc := [(rd, .inr (4, [.ref rdA, .int rdN]))]) (wr := [(re, .inr (3, [.ref rd, .int nd, .ref rl, .int ldi, .int sot, .int tie, .int ff, .int ft])), (rl, .inr (4, [.ref rlA, .int rlN])), (tm, .inr (4, [.ref tmA, .int 0]))]) (tc := []) hG hS hA hK hP hD [1] [0, 2, 3] [] rfl rfl (by decide) (by decide) (by decide) rfl
  refine k_endv (As := [.ref rd]) ct (k_runV (As := []) (rest := []) S0 Lv_X3_97 rfl (ci := 4) (q0 := 0) rfl rfl ct (c_Row_clear l D rd rdA rdN s.heap.size) hl.1 rfl (Nat.le_of_ble_eq_true rfl) rfl dX3_layOut_4 ⟨⟨Nat.le_of_ble_eq_true rfl, Nat.le_of_ble_eq_true rfl⟩, Nat.le_of_ble_eq_true rfl, Nat.le_of_ble_eq_true rfl⟩) rfl rfl (fun _ _ H locs hw_2 hP hD hK hS => ?_)
  have hK : va_K D vwCl [] s := hK
  have hP : va_P D vwCl [(re, .inr (3, [.ref rd, .int nd, .ref rl, .int ldi, .int sot, .int tie, .int ff, .int ft])), (rl, .inr (4, [.ref rlA, .int rlN])), (tm, .inr (4, [.ref tmA, .int 0])), (rd, .inr (4, [.ref rdA, .int 0]))] H := hP
  have hD : va_D A [(re, .inr (3, [.ref rd, .int nd, .ref rl, .int ldi, .int sot, .int tie, .int ff, .int ft])), (rl, .inr (4, [.ref rlA, .int rlN])), (tm, .inr (4, [.ref tmA, .int 0])), (rd, .inr (4, [.ref rdA, .int 0]))] := hD
  refine lv_aload_n hx hb dX3_layOut_7 rfl (lv_at hl 0 rfl) ?_
  refine va_get (D := D) (ci := 3) (v := .ref rl) (C := RX3) (T := TX3) (N := 8) hx hb ht inA_X3 hown hK hP 0 rfl rfl 2 (by decide) (ht _ lf_X3_20) (fun _ h9 => h9) rfl dX3_layOut_8 ?_
  have ct := k_cut_of (wc := [(rl, .inr (4, [.ref rlA, .int rlN]))]) (wr := [(re, .inr (3, [.ref rd, .int nd, .ref rl, .int ldi, .int sot, .int tie, .int ff, .int ft])), (tm, .inr (4, [.ref tmA, .int 0])), (rd, .inr (4, [.ref rdA, .int 0]))]) (tc := []) hG hS hA hK hP hD [1] [0, 2, 3] [] rfl rfl (by decide) (by decide) (by decide) rfl
  refine k_endv (As := [.ref rl]) ct (k_runV (As := []) (rest := []) S0 Lv_X3_97 rfl (ci := 4) (q0 := 0) rfl rfl ct (c_Row_clear l D rl rlA rlN H.size) hl.1 rfl (Nat.le_of_ble_eq_true rfl) rfl dX3_layOut_11 ⟨⟨Nat.le_of_ble_eq_true rfl, Nat.le_of_ble_eq_true rfl⟩, Nat.le_of_ble_eq_true rfl, Nat.le_of_ble_eq_true rfl⟩) rfl rfl (fun _ _ H locs hw_4 hP hD hK hS => ?_)
  have hK : va_K D vwCl [] s := hK
  have hP : va_P D vwCl [(re, .inr (3, [.ref rd, .int nd, .ref rl, .int ldi, .int sot, .int tie, .int ff, .int ft])), (tm, .inr (4, [.ref tmA, .int 0])), (rd, .inr (4, [.ref rdA, .int 0])), (rl, .inr (4, [.ref rlA, .int 0]))] H := hP
  have hD : va_D A [(re, .inr (3, [.ref rd, .int nd, .ref rl, .int ldi, .int sot, .int tie, .int ff, .int ft])), (tm, .inr (4, [.ref tmA, .int 0])), (rd, .inr (4, [.ref rdA, .int 0])), (rl, .inr (4, [.ref rlA, .int 0]))] := hD
  refine lv_iconst (v := 0) hx hb dX3_layOut_14 (by decide) ?_
  refine lv_istore_n (lv' := [(3, .int 0), (0, .ref re), (1, .ref tm), (2, .int b)]) hx hb dX3_layOut_15 rfl hl (by decide) rfl (fun ls hl => ?_)
  refine lv_iload_n hx hb dX3_layOut_16 rfl (lv_at hl 0 rfl) ?_
  refine lv_aload_n hx hb dX3_layOut_17 rfl (lv_at hl 2 rfl) ?_
  have ct := k_cut_of (wc := [(tm, .inr (4, [.ref tmA, .int 0]))]) (wr := [(re, .inr (3, [.ref rd, .int nd, .ref rl, .int ldi, .int sot, .int tie, .int ff, .int ft])), (rd, .inr (4, [.ref rdA, .int 0])), (rl, .inr (4, [.ref rlA, .int 0]))]) (tc := []) hG hS hA hK hP hD [1] [0, 2, 3] [] rfl rfl (by decide) (by decide) (by decide) rfl
  refine k_endi (As := [.ref tm]) ct (k_runV (As := []) (rest := [.int 0]) S0 Lv_X3_37 rfl (ci := 4) (q0 := 0) rfl rfl ct (c_Row_size l D tm tmA 0 H.size) hl.1 rfl (Nat.le_of_ble_eq_true rfl) rfl dX3_layOut_18 ⟨⟨Nat.le_of_ble_eq_true rfl, Nat.le_of_ble_eq_true rfl⟩, Nat.le_of_ble_eq_true rfl, Nat.le_of_ble_eq_true rfl⟩) rfl rfl (fun r_5 _ H locs hw_6 hP hD hK hS => ?_)
  have hK : va_K D vwCl [] s := hK
  have hP : va_P D vwCl [(re, .inr (3, [.ref rd, .int nd, .ref rl, .int ldi, .int sot, .int tie, .int ff, .int ft])), (rd, .inr (4, [.ref rdA, .int 0])), (rl, .inr (4, [.ref rlA, .int 0])), (tm, .inr (4, [.ref tmA, .int 0]))] H := hP
  have hD : va_D A [(re, .inr (3, [.ref rd, .int nd, .ref rl, .int ldi, .int sot, .int tie, .int ff, .int ft])), (rd, .inr (4, [.ref rdA, .int 0])), (rl, .inr (4, [.ref rlA, .int 0])), (tm, .inr (4, [.ref tmA, .int 0]))] := hD
  have hw_6 : r_5 = 0 := hw_6
  have hw_6 := hw_6.symm
  subst hw_6
  refine k_nrm (y := 0) rfl ?_
  refine lv_icmp_ge (tgt := 57) hx hb dX3_layOut_21 (by decide) (fun _ => ?_) (fun c9 => absurd (by decide) c9)
  have hP9 : va_P D vwCl [(re, .inr (3, [.ref rd, .int nd, .ref rl, .int ldi, .int sot, .int tie, .int ff, .int ft])), (rd, .inr (4, [.ref rdA, .int 0])), (rl, .inr (4, [.ref rlA, .int 0])), (tm, .inr (4, [.ref tmA, .int 0]))] H := hP.sub [0, 1, 2, 3] rfl
  have hD9 : va_D A [(re, .inr (3, [.ref rd, .int nd, .ref rl, .int ldi, .int sot, .int tie, .int ff, .int ft])), (rd, .inr (4, [.ref rdA, .int 0])), (rl, .inr (4, [.ref rlA, .int 0])), (tm, .inr (4, [.ref tmA, .int 0]))] := hD.sub [0, 1, 2, 3] (by decide) rfl
  have hK9 : va_K D vwCl [] s := hK.sub [] rfl
  exact W.vret hx hb hr (fun t ht9 hW9 => ⟨⟨(), rfl, by first | rfl | trivial | (simp only [if_true, if_false, reduceIte, and_self]; done) | simp_all, ⟨by rw [ht9]; exact hP9, va_K.moved hW9.alike hK9, hD9⟩⟩, hS.F ht9⟩) hS.2.2 dX3_layOut_57
set_option maxHeartbeats 4000000 in
set_option maxRecDepth 100000 in
theorem c_digitsOf0 (l : Launch) (D : va_G) (sz : Nat) : k_Mi (S := Unit) l D yX3_digitsOf cX3_digitsOf 4 (some .int) 0 0 0 0 [.int 0] [] [] (fun (r : Int32) (_ : Unit) => r = 0) (fun _ => []) (fun _ => []) sz := by
  refine Met.ofW (cc := cX3_digitsOf) (maxL := 4) (ret := (some .int)) (by decide) rfl ?_
  intro p e s m args below meth c s₁ B hml hv
  obtain ⟨rfl, hsz, hP, hK, hD0, hG⟩ := hv
  have hx := B.exec
  have hb := B.bytes
  have hr := B.returns
  have ht : ∀ v9 ∈ wsA, v9.before ([.int 0] : List Value).toArray s = true := fun v9 h9 => atoms_spec (ws := k_ws yX3_digitsOf cX3_digitsOf 4 (some .int)) B.pre v9 (List.mem_cons_of_mem _ h9)
  have hown : s.vm.findClass RX3 = some m.cls := findClass_of_methodNamed B.named
  have S0 : k_C p s m ([.int 0] : List Value).toArray c cX3_digitsOf 4 RX3 := ⟨hx, hb, hml, hown, ht⟩
  have hlocks := B.notSynchronized
  subst hsz
  have hD := hD0.self (sz := s.heap.size)
  generalize hAe : va_A [] s.heap.size = A at hD hG ⊢
  have hA : ∀ q : Nat, s.heap.size ≤ q → A q := fun q h => by rw [← hAe]; exact Or.inr h
  have hS : va_S A s.heap s.heap [] := va_S.rf
  have hl := lv_entry ([.int 0]) (n := 4) (Nat.le_of_ble_eq_true rfl)
  rw [lg_entry_eq]
  generalize (lg_sl ([.int 0]) ++ List.replicate (4 - (lg_sl ([.int 0])).length) Slot.unset).toArray = ls at hl ⊢
  have hl : lv_has ls 4 [(0, .int 0)] := hl
  have hP : va_P D vwCl [] s.heap := hP
  refine lv_iload_n hx hb dX3_digitsOf_0 rfl (lv_at hl 0 rfl) ?_
  refine lv_iconst (v := 3) hx hb dX3_digitsOf_1 (by decide) ?_
  refine lv_isub hx hb dX3_digitsOf_2 ?_
  refine k_nrm (y := (-3)) (by decide) ?_
  refine lv_iconst (v := 2) hx hb dX3_digitsOf_3 (by decide) ?_
  refine lv_isub hx hb dX3_digitsOf_4 ?_
  refine k_nrm (y := (-5)) (by decide) ?_
  refine lv_istore_n (lv' := [(1, .int (-5)), (0, .int 0)]) hx hb dX3_digitsOf_5 rfl hl (by decide) rfl (fun ls hl => ?_)
  refine lv_iload_n hx hb dX3_digitsOf_6 rfl (lv_at hl 0 rfl) ?_
  refine lv_iconst (v := 4) hx hb dX3_digitsOf_7 (by decide) ?_
  refine lv_idiv hx hb dX3_digitsOf_8 (by decide) ?_
  refine k_nrm (y := (-1)) (by decide) ?_
  refine lv_istore_n (lv' := [(2, .int (-1)), (1, .int (-5)), (0, .int 0)]) hx hb dX3_digitsOf_9 rfl hl (by decide) rfl (fun ls hl => ?_)
  refine lv_iload_n hx hb dX3_digitsOf_10 rfl (lv_at hl 1 rfl) ?_
  refine lv_iconst (v := 4) hx hb dX3_digitsOf_11 (by decide) ?_
  refine lv_irem hx hb dX3_digitsOf_12 (by decide) ?_
  refine k_nrm (y := (-1)) (by decide) ?_
  refine lv_if_ne (tgt := 20) hx hb dX3_digitsOf_13 (by decide) (fun _ => ?_) (fun c9 => absurd c9 (by decide))
  refine lv_iconst (v := 0) hx hb dX3_digitsOf_20 (by decide) ?_
  refine lv_istore_n (lv' := [(3, .int 0), (2, .int (-1)), (1, .int (-5)), (0, .int 0)]) hx hb dX3_digitsOf_21 rfl hl (by decide) rfl (fun ls hl => ?_)
  refine lv_iload_n hx hb dX3_digitsOf_22 rfl (lv_at hl 0 rfl) ?_
  refine lv_if_eq (tgt := 41) hx hb dX3_digitsOf_23 (by decide) (fun _ => ?_) (fun c9 => absurd (by decide) c9)
  refine lv_iconst (v := 0) hx hb dX3_digitsOf_41 (by decide) ?_
  have hP9 : va_P D vwCl [] s.heap := hP.sub [] rfl
  have hD9 : va_D A [] := hD.sub [] (by decide) rfl
  have hK9 : va_K D vwCl [] s := hK.sub [] rfl
  exact W.iret (v := 0) hx hb hr (fun t ht9 hW9 => ⟨⟨0, (), rfl, by first | rfl | trivial | (simp only [if_true, if_false, reduceIte, and_self]; done) | simp_all, ⟨by rw [ht9]; exact hP9, va_K.moved hW9.alike hK9, hD9⟩⟩, hS.F ht9⟩) hS.2.2 dX3_digitsOf_42
set_option maxHeartbeats 4000000 in
set_option maxRecDepth 100000 in
theorem c_failAt (l : Launch) (D : va_G) (re : Nat) (rd : Nat) (nd : Int32) (rl : Nat) (ldi : Int32) (sot : Int32) (tie : Int32) (ff : Int32) (ft : Int32) (v : Int32) (v1 : Int32) (v2 : Int32) (sz : Nat) : k_Mi (S := Unit) l D yX3_failAt cX3_failAt 4 (some .int) 0 0 0 0 [.ref re, .int v, .int v1, .int v2] [(re, .inr (3, [.ref rd, .int nd, .ref rl, .int ldi, .int sot, .int tie, .int ff, .int ft]))] [] (fun (r : Int32) (_ : Unit) => r = v) (fun _ => [(re, .inr (3, [.ref rd, .int nd, .ref rl, .int ldi, .int sot, .int tie, .int v1, .int v2]))]) (fun _ => []) sz := by
  refine Met.ofW (cc := cX3_failAt) (maxL := 4) (ret := (some .int)) (by decide) rfl ?_
  intro p e s m args below meth c s₁ B hml hv
  obtain ⟨rfl, hsz, hP, hK, hD0, hG⟩ := hv
  have hx := B.exec
  have hb := B.bytes
  have hr := B.returns
  have ht : ∀ v9 ∈ wsA, v9.before ([.ref re, .int v, .int v1, .int v2] : List Value).toArray s = true := fun v9 h9 => atoms_spec (ws := k_ws yX3_failAt cX3_failAt 4 (some .int)) B.pre v9 (List.mem_cons_of_mem _ h9)
  have hown : s.vm.findClass RX3 = some m.cls := findClass_of_methodNamed B.named
  have S0 : k_C p s m ([.ref re, .int v, .int v1, .int v2] : List Value).toArray c cX3_failAt 4 RX3 := ⟨hx, hb, hml, hown, ht⟩
  have hlocks := B.notSynchronized
  subst hsz
  have hD := hD0.self (sz := s.heap.size)
  generalize hAe : va_A [(re, .inr (3, [.ref rd, .int nd, .ref rl, .int ldi, .int sot, .int tie, .int ff, .int ft]))] s.heap.size = A at hD hG ⊢
  have hA : ∀ q : Nat, s.heap.size ≤ q → A q := fun q h => by rw [← hAe]; exact Or.inr h
  have hS : va_S A s.heap s.heap [] := va_S.rf
  have hl := lv_entry ([.ref re, .int v, .int v1, .int v2]) (n := 4) (Nat.le_of_ble_eq_true rfl)
  rw [lg_entry_eq]
  generalize (lg_sl ([.ref re, .int v, .int v1, .int v2]) ++ List.replicate (4 - (lg_sl ([.ref re, .int v, .int v1, .int v2])).length) Slot.unset).toArray = ls at hl ⊢
  have hl : lv_has ls 4 [(0, .ref re), (1, .int v), (2, .int v1), (3, .int v2)] := hl
  have hP : va_P D vwCl [(re, .inr (3, [.ref rd, .int nd, .ref rl, .int ldi, .int sot, .int tie, .int ff, .int ft]))] s.heap := hP
  refine lv_aload_n hx hb dX3_failAt_0 rfl (lv_at hl 0 rfl) ?_
  refine lv_iload_n hx hb dX3_failAt_1 rfl (lv_at hl 2 rfl) ?_
  refine va_put (D := D) (ci := 3) (v := .int v1) (ty := .int) (C := RX3) (T := TX3) (N := 8) hx hb ht inA_X3 tyX3 tyX3_ok nmX3 hown hK hP hD hS 0 rfl rfl 6 (by decide) (ht _ lf_X3_84) (fun _ h9 => h9) rfl (tyX3_ok 6 (by decide)) rfl rfl (Nat.le_of_ble_eq_true rfl) dX3_failAt_2 (fun H locs hP hD hS => ?_)
  have hP : va_P D vwCl [(re, .inr (3, [.ref rd, .int nd, .ref rl, .int ldi, .int sot, .int tie, .int v1, .int ft]))] H := hP
  have hD : va_D A [(re, .inr (3, [.ref rd, .int nd, .ref rl, .int ldi, .int sot, .int tie, .int v1, .int ft]))] := hD
  refine lv_aload_n hx hb dX3_failAt_5 rfl (lv_at hl 0 rfl) ?_
  refine lv_iload_n hx hb dX3_failAt_6 rfl (lv_at hl 3 rfl) ?_
  refine va_put (D := D) (ci := 3) (v := .int v2) (ty := .int) (C := RX3) (T := TX3) (N := 8) hx hb ht inA_X3 tyX3 tyX3_ok nmX3 hown hK hP hD hS 0 rfl rfl 7 (by decide) (ht _ lf_X3_87) (fun _ h9 => h9) rfl (tyX3_ok 7 (by decide)) rfl rfl (Nat.le_of_ble_eq_true rfl) dX3_failAt_7 (fun H locs hP hD hS => ?_)
  have hP : va_P D vwCl [(re, .inr (3, [.ref rd, .int nd, .ref rl, .int ldi, .int sot, .int tie, .int v1, .int v2]))] H := hP
  have hD : va_D A [(re, .inr (3, [.ref rd, .int nd, .ref rl, .int ldi, .int sot, .int tie, .int v1, .int v2]))] := hD
  refine lv_iload_n hx hb dX3_failAt_10 rfl (lv_at hl 1 rfl) ?_
  have hP9 : va_P D vwCl [(re, .inr (3, [.ref rd, .int nd, .ref rl, .int ldi, .int sot, .int tie, .int v1, .int v2]))] H := hP.sub [0] rfl
  have hD9 : va_D A [(re, .inr (3, [.ref rd, .int nd, .ref rl, .int ldi, .int sot, .int tie, .int v1, .int v2]))] := hD.sub [0] (by decide) rfl
  have hK9 : va_K D vwCl [] s := hK.sub [] rfl
  exact W.iret (v := v) hx hb hr (fun t ht9 hW9 => ⟨⟨v, (), rfl, by first | rfl | trivial | (simp only [if_true, if_false, reduceIte, and_self]; done) | simp_all, ⟨by rw [ht9]; exact hP9, va_K.moved hW9.alike hK9, hD9⟩⟩, hS.F ht9⟩) hS.2.2 dX3_failAt_11
set_option maxHeartbeats 4000000 in
set_option maxRecDepth 100000 in
theorem c_failureOf0 (l : Launch) (D : va_G) (re : Nat) (rd : Nat) (nd : Int32) (rl : Nat) (ldi : Int32) (sot : Int32) (tie : Int32) (ff : Int32) (ft : Int32) (rdA : Nat) (rdN : Int32) (rlA : Nat) (rlN : Int32) (tm : Nat) (tmA : Nat) (b : Int32) (to : Int32) (sz : Nat) : k_Mi (S := Unit) l D yX3_failureOf cX3_failureOf 7 (some .int) 2 0 0 43 [.ref re, .ref tm, .int b, .int to] [(re, .inr (3, [.ref rd, .int nd, .ref rl, .int ldi, .int sot, .int tie, .int ff, .int ft])), (rd, .inr (4, [.ref rdA, .int rdN])), (rl, .inr (4, [.ref rlA, .int rlN])), (tm, .inr (4, [.ref tmA, .int 0]))] [] (fun (r : Int32) (_ : Unit) => r = 1) (fun _ => [(re, .inr (3, [.ref rd, .int nd, .ref rl, .int ldi, .int sot, .int tie, .int 0, .int 0])), (rd, .inr (4, [.ref rdA, .int 0])), (rl, .inr (4, [.ref rlA, .int 0])), (tm, .inr (4, [.ref tmA, .int 0]))]) (fun _ => []) sz := by
  refine Met.ofW (cc := cX3_failureOf) (maxL := 7) (ret := (some .int)) (by decide) rfl ?_
  intro p e s m args below meth c s₁ B hml hv
  obtain ⟨rfl, hsz, hP, hK, hD0, hG⟩ := hv
  have hx := B.exec
  have hb := B.bytes
  have hr := B.returns
  have ht : ∀ v9 ∈ wsA, v9.before ([.ref re, .ref tm, .int b, .int to] : List Value).toArray s = true := fun v9 h9 => atoms_spec (ws := k_ws yX3_failureOf cX3_failureOf 7 (some .int)) B.pre v9 (List.mem_cons_of_mem _ h9)
  have hown : s.vm.findClass RX3 = some m.cls := findClass_of_methodNamed B.named
  have S0 : k_C p s m ([.ref re, .ref tm, .int b, .int to] : List Value).toArray c cX3_failureOf 7 RX3 := ⟨hx, hb, hml, hown, ht⟩
  have hlocks := B.notSynchronized
  subst hsz
  have hD := hD0.self (sz := s.heap.size)
  generalize hAe : va_A [(re, .inr (3, [.ref rd, .int nd, .ref rl, .int ldi, .int sot, .int tie, .int ff, .int ft])), (rd, .inr (4, [.ref rdA, .int rdN])), (rl, .inr (4, [.ref rlA, .int rlN])), (tm, .inr (4, [.ref tmA, .int 0]))] s.heap.size = A at hD hG ⊢
  have hA : ∀ q : Nat, s.heap.size ≤ q → A q := fun q h => by rw [← hAe]; exact Or.inr h
  have hS : va_S A s.heap s.heap [] := va_S.rf
  have hl := lv_entry ([.ref re, .ref tm, .int b, .int to]) (n := 7) (Nat.le_of_ble_eq_true rfl)
  rw [lg_entry_eq]
  generalize (lg_sl ([.ref re, .ref tm, .int b, .int to]) ++ List.replicate (7 - (lg_sl ([.ref re, .ref tm, .int b, .int to])).length) Slot.unset).toArray = ls at hl ⊢
  have hl : lv_has ls 7 [(0, .ref re), (1, .ref tm), (2, .int b), (3, .int to)] := hl
  have hP : va_P D vwCl [(re, .inr (3, [.ref rd, .int nd, .ref rl, .int ldi, .int sot, .int tie, .int ff, .int ft])), (rd, .inr (4, [.ref rdA, .int rdN])), (rl, .inr (4, [.ref rlA, .int rlN])), (tm, .inr (4, [.ref tmA, .int 0]))] s.heap := hP
  refine lv_aload_n hx hb dX3_failureOf_0 rfl (lv_at hl 0 rfl) ?_
  refine lv_aload_n hx hb dX3_failureOf_1 rfl (lv_at hl 1 rfl) ?_
  refine lv_iload_n hx hb dX3_failureOf_2 rfl (lv_at hl 2 rfl) ?_
  have ct := k_cut_of (wc := [(re, .inr (3, [.ref rd, .int nd, .ref rl, .int ldi, .int sot, .int tie, .int ff, .int ft])), (rd, .inr (4, [.ref rdA, .int rdN])), (rl, .inr (4, [.ref rlA, .int rlN])), (tm, .inr (4, [.ref tmA, .int 0]))]) (wr := []) (tc := []) hG hS hA hK hP hD [0, 1, 2, 3] [] [] rfl rfl (by decide) (by decide) (by decide) rfl
  refine k_endv (As := [.ref re, .ref tm, .int b]) ct (k_runV (As := [.ref tm, .int b]) (rest := []) S0 Lv_X3_33 rfl (ci := 3) (q0 := 0) rfl rfl ct (c_layOut0 l D re rd nd rl ldi sot tie ff ft rdA rdN rlA rlN tm tmA b s.heap.size) hl.1 rfl (Nat.le_of_ble_eq_true rfl) rfl dX3_failureOf_3 ⟨⟨Nat.le_of_ble_eq_true rfl, Nat.le_of_ble_eq_true rfl⟩, Nat.le_of_ble_eq_true rfl, Nat.le_of_ble_eq_true rfl⟩) rfl rfl (fun _ _ H locs hw_2 hP hD hK hS => ?_)
  have hK : va_K D vwCl [] s := hK
  have hP : va_P D vwCl [(re, .inr (3, [.ref rd, .int nd, .ref rl, .int ldi, .int sot, .int tie, .int ff, .int ft])), (rd, .inr (4, [.ref rdA, .int 0])), (rl, .inr (4, [.ref rlA, .int 0])), (tm, .inr (4, [.ref tmA, .int 0]))] H := hP
  have hD : va_D A [(re, .inr (3, [.ref rd, .int nd, .ref rl, .int ldi, .int sot, .int tie, .int ff, .int ft])), (rd, .inr (4, [.ref rdA, .int 0])), (rl, .inr (4, [.ref rlA, .int 0])), (tm, .inr (4, [.ref tmA, .int 0]))] := hD
  refine lv_aload_n hx hb dX3_failureOf_6 rfl (lv_at hl 0 rfl) ?_
  refine va_get (D := D) (ci := 3) (v := .ref rl) (C := RX3) (T := TX3) (N := 8) hx hb ht inA_X3 hown hK hP 0 rfl rfl 2 (by decide) (ht _ lf_X3_20) (fun _ h9 => h9) rfl dX3_failureOf_7 ?_
  have ct := k_cut_of (wc := [(rl, .inr (4, [.ref rlA, .int 0]))]) (wr := [(re, .inr (3, [.ref rd, .int nd, .ref rl, .int ldi, .int sot, .int tie, .int ff, .int ft])), (rd, .inr (4, [.ref rdA, .int 0])), (tm, .inr (4, [.ref tmA, .int 0]))]) (tc := []) hG hS hA hK hP hD [2] [0, 1, 3] [] rfl rfl (by decide) (by decide) (by decide) rfl
  refine k_endi (As := [.ref rl]) ct (k_runV (As := []) (rest := []) S0 Lv_X3_37 rfl (ci := 4) (q0 := 0) rfl rfl ct (c_Row_size l D rl rlA 0 H.size) hl.1 rfl (Nat.le_of_ble_eq_true rfl) rfl dX3_failureOf_10 ⟨⟨Nat.le_of_ble_eq_true rfl, Nat.le_of_ble_eq_true rfl⟩, Nat.le_of_ble_eq_true rfl, Nat.le_of_ble_eq_true rfl⟩) rfl rfl (fun r_3 _ H locs hw_4 hP hD hK hS => ?_)
  have hK : va_K D vwCl [] s := hK
  have hP : va_P D vwCl [(re, .inr (3, [.ref rd, .int nd, .ref rl, .int ldi, .int sot, .int tie, .int ff, .int ft])), (rd, .inr (4, [.ref rdA, .int 0])), (tm, .inr (4, [.ref tmA, .int 0])), (rl, .inr (4, [.ref rlA, .int 0]))] H := hP
  have hD : va_D A [(re, .inr (3, [.ref rd, .int nd, .ref rl, .int ldi, .int sot, .int tie, .int ff, .int ft])), (rd, .inr (4, [.ref rdA, .int 0])), (tm, .inr (4, [.ref tmA, .int 0])), (rl, .inr (4, [.ref rlA, .int 0]))] := hD
  have hw_4 : r_3 = 0 := hw_4
  have hw_4 := hw_4.symm
  subst hw_4
  refine k_nrm (y := 0) rfl ?_
  have ct := k_cut_of (wc := []) (wr := [(re, .inr (3, [.ref rd, .int nd, .ref rl, .int ldi, .int sot, .int tie, .int ff, .int ft])), (rd, .inr (4, [.ref rdA, .int 0])), (tm, .inr (4, [.ref tmA, .int 0])), (rl, .inr (4, [.ref rlA, .int 0]))]) (tc := []) hG hS hA hK hP hD [] [0, 1, 2, 3] [] rfl rfl (by decide) (by decide) (by decide) rfl
  refine k_endi (As := [.int 0]) ct (k_runS (As := [.int 0]) (rest := []) S0 Ls_X3_41 ct (c_digitsOf0 l D H.size) hl.1 rfl (Nat.le_of_ble_eq_true rfl) rfl dX3_failureOf_13 ⟨⟨Nat.le_of_ble_eq_true rfl, Nat.le_of_ble_eq_true rfl⟩, Nat.le_of_ble_eq_true rfl, Nat.le_of_ble_eq_true rfl⟩) rfl rfl (fun r_5 _ H locs hw_6 hP hD hK hS => ?_)
  have hK : va_K D vwCl [] s := hK
  have hP : va_P D vwCl [(re, .inr (3, [.ref rd, .int nd, .ref rl, .int ldi, .int sot, .int tie, .int ff, .int ft])), (rd, .inr (4, [.ref rdA, .int 0])), (tm, .inr (4, [.ref tmA, .int 0])), (rl, .inr (4, [.ref rlA, .int 0]))] H := hP
  have hD : va_D A [(re, .inr (3, [.ref rd, .int nd, .ref rl, .int ldi, .int sot, .int tie, .int ff, .int ft])), (rd, .inr (4, [.ref rdA, .int 0])), (tm, .inr (4, [.ref tmA, .int 0])), (rl, .inr (4, [.ref rlA, .int 0]))] := hD
  have hw_6 : r_5 = 0 := hw_6
  have hw_6 := hw_6.symm
  subst hw_6
  refine k_nrm (y := 0) rfl ?_
  refine lv_istore (lv' := [(4, .int 0), (0, .ref re), (1, .ref tm), (2, .int b), (3, .int to)]) hx hb dX3_failureOf_16 hl (by decide) rfl (fun ls hl => ?_)
  refine lv_iload hx hb dX3_failureOf_18 (lv_at hl 0 rfl) ?_
  refine lv_if_ne (tgt := 37) hx hb dX3_failureOf_20 (by decide) (fun c9 => absurd (by decide) c9) (fun _ => ?_)
  refine lv_aload_n hx hb dX3_failureOf_23 rfl (lv_at hl 1 rfl) ?_
  refine lv_iconst (v := 1) hx hb dX3_failureOf_24 (by decide) ?_
  refine lv_iconst (v := 0) hx hb dX3_failureOf_25 (by decide) ?_
  refine lv_aload_n hx hb dX3_failureOf_26 rfl (lv_at hl 1 rfl) ?_
  refine va_get (D := D) (ci := 3) (v := .ref rl) (C := RX3) (T := TX3) (N := 8) hx hb ht inA_X3 hown hK hP 0 rfl rfl 2 (by decide) (ht _ lf_X3_20) (fun _ h9 => h9) rfl dX3_failureOf_27 ?_
  have ct := k_cut_of (wc := [(rl, .inr (4, [.ref rlA, .int 0]))]) (wr := [(re, .inr (3, [.ref rd, .int nd, .ref rl, .int ldi, .int sot, .int tie, .int ff, .int ft])), (rd, .inr (4, [.ref rdA, .int 0])), (tm, .inr (4, [.ref tmA, .int 0]))]) (tc := []) hG hS hA hK hP hD [3] [0, 1, 2] [] rfl rfl (by decide) (by decide) (by decide) rfl
  refine k_endi (As := [.ref rl]) ct (k_runV (As := []) (rest := [.int 0, .int 1, .ref re]) S0 Lv_X3_37 rfl (ci := 4) (q0 := 0) rfl rfl ct (c_Row_size l D rl rlA 0 H.size) hl.1 rfl (Nat.le_of_ble_eq_true rfl) rfl dX3_failureOf_30 ⟨⟨Nat.le_of_ble_eq_true rfl, Nat.le_of_ble_eq_true rfl⟩, Nat.le_of_ble_eq_true rfl, Nat.le_of_ble_eq_true rfl⟩) rfl rfl (fun r_7 _ H locs hw_8 hP hD hK hS => ?_)
  have hK : va_K D vwCl [] s := hK
  have hP : va_P D vwCl [(re, .inr (3, [.ref rd, .int nd, .ref rl, .int ldi, .int sot, .int tie, .int ff, .int ft])), (rd, .inr (4, [.ref rdA, .int 0])), (tm, .inr (4, [.ref tmA, .int 0])), (rl, .inr (4, [.ref rlA, .int 0]))] H := hP
  have hD : va_D A [(re, .inr (3, [.ref rd, .int nd, .ref rl, .int ldi, .int sot, .int tie, .int ff, .int ft])), (rd, .inr (4, [.ref rdA, .int 0])), (tm, .inr (4, [.ref tmA, .int 0])), (rl, .inr (4, [.ref rlA, .int 0]))] := hD
  have hw_8 : r_7 = 0 := hw_8
  have hw_8 := hw_8.symm
  subst hw_8
  refine k_nrm (y := 0) rfl ?_
  have ct := k_cut_of (wc := [(re, .inr (3, [.ref rd, .int nd, .ref rl, .int ldi, .int sot, .int tie, .int ff, .int ft]))]) (wr := [(rd, .inr (4, [.ref rdA, .int 0])), (tm, .inr (4, [.ref tmA, .int 0])), (rl, .inr (4, [.ref rlA, .int 0]))]) (tc := []) hG hS hA hK hP hD [0] [1, 2, 3] [] rfl rfl (by decide) (by decide) (by decide) rfl
  refine k_endi (As := [.ref re, .int 1, .int 0, .int 0]) ct (k_runV (As := [.int 1, .int 0, .int 0]) (rest := []) S0 Lv_X3_45 rfl (ci := 3) (q0 := 0) rfl rfl ct (c_failAt l D re rd nd rl ldi sot tie ff ft 1 0 0 H.size) hl.1 rfl (Nat.le_of_ble_eq_true rfl) rfl dX3_failureOf_33 ⟨⟨Nat.le_of_ble_eq_true rfl, Nat.le_of_ble_eq_true rfl⟩, Nat.le_of_ble_eq_true rfl, Nat.le_of_ble_eq_true rfl⟩) rfl rfl (fun r_9 _ H locs hw_10 hP hD hK hS => ?_)
  have hK : va_K D vwCl [] s := hK
  have hP : va_P D vwCl [(rd, .inr (4, [.ref rdA, .int 0])), (tm, .inr (4, [.ref tmA, .int 0])), (rl, .inr (4, [.ref rlA, .int 0])), (re, .inr (3, [.ref rd, .int nd, .ref rl, .int ldi, .int sot, .int tie, .int 0, .int 0]))] H := hP
  have hD : va_D A [(rd, .inr (4, [.ref rdA, .int 0])), (tm, .inr (4, [.ref tmA, .int 0])), (rl, .inr (4, [.ref rlA, .int 0])), (re, .inr (3, [.ref rd, .int nd, .ref rl, .int ldi, .int sot, .int tie, .int 0, .int 0]))] := hD
  have hw_10 : r_9 = 1 := hw_10
  have hw_10 := hw_10.symm
  subst hw_10
  refine k_nrm (y := 1) rfl ?_
  have hP9 : va_P D vwCl [(re, .inr (3, [.ref rd, .int nd, .ref rl, .int ldi, .int sot, .int tie, .int 0, .int 0])), (rd, .inr (4, [.ref rdA, .int 0])), (rl, .inr (4, [.ref rlA, .int 0])), (tm, .inr (4, [.ref tmA, .int 0]))] H := hP.sub [3, 0, 2, 1] rfl
  have hD9 : va_D A [(re, .inr (3, [.ref rd, .int nd, .ref rl, .int ldi, .int sot, .int tie, .int 0, .int 0])), (rd, .inr (4, [.ref rdA, .int 0])), (rl, .inr (4, [.ref rlA, .int 0])), (tm, .inr (4, [.ref tmA, .int 0]))] := hD.sub [3, 0, 2, 1] (by decide) rfl
  have hK9 : va_K D vwCl [] s := hK.sub [] rfl
  exact W.iret (v := 1) hx hb hr (fun t ht9 hW9 => ⟨⟨1, (), rfl, by first | rfl | trivial | (simp only [if_true, if_false, reduceIte, and_self]; done) | simp_all, ⟨by rw [ht9]; exact hP9, va_K.moved hW9.alike hK9, hD9⟩⟩, hS.F ht9⟩) hS.2.2 dX3_failureOf_36
set_option maxHeartbeats 4000000 in
set_option maxRecDepth 100000 in
theorem c_resultOf0 (l : Launch) (D : va_G) (re : Nat) (rd : Nat) (nd : Int32) (rl : Nat) (ldi : Int32) (sot : Int32) (tie : Int32) (ff : Int32) (ft : Int32) (rdA : Nat) (rdN : Int32) (rlA : Nat) (rlN : Int32) (tm : Nat) (tmA : Nat) (to : Int32) (sz : Nat) : k_Mi (S := Unit) l D yX3_resultOf cX3_resultOf 5 (some .int) 3 0 0 69 [.ref re, .ref tm, .int to] [(re, .inr (3, [.ref rd, .int nd, .ref rl, .int ldi, .int sot, .int tie, .int ff, .int ft])), (rd, .inr (4, [.ref rdA, .int rdN])), (rl, .inr (4, [.ref rlA, .int rlN])), (tm, .inr (4, [.ref tmA, .int 0]))] [] (fun (r : Int32) (_ : Unit) => r = 1) (fun _ => [(re, .inr (3, [.ref rd, .int nd, .ref rl, .int ldi, .int sot, .int tie, .int 0, .int 0])), (rd, .inr (4, [.ref rdA, .int 0])), (rl, .inr (4, [.ref rlA, .int 0])), (tm, .inr (4, [.ref tmA, .int 0]))]) (fun _ => []) sz := by
  refine Met.ofW (cc := cX3_resultOf) (maxL := 5) (ret := (some .int)) (by decide) rfl ?_
  intro p e s m args below meth c s₁ B hml hv
  obtain ⟨rfl, hsz, hP, hK, hD0, hG⟩ := hv
  have hx := B.exec
  have hb := B.bytes
  have hr := B.returns
  have ht : ∀ v9 ∈ wsA, v9.before ([.ref re, .ref tm, .int to] : List Value).toArray s = true := fun v9 h9 => atoms_spec (ws := k_ws yX3_resultOf cX3_resultOf 5 (some .int)) B.pre v9 (List.mem_cons_of_mem _ h9)
  have hown : s.vm.findClass RX3 = some m.cls := findClass_of_methodNamed B.named
  have S0 : k_C p s m ([.ref re, .ref tm, .int to] : List Value).toArray c cX3_resultOf 5 RX3 := ⟨hx, hb, hml, hown, ht⟩
  have hlocks := B.notSynchronized
  subst hsz
  have hD := hD0.self (sz := s.heap.size)
  generalize hAe : va_A [(re, .inr (3, [.ref rd, .int nd, .ref rl, .int ldi, .int sot, .int tie, .int ff, .int ft])), (rd, .inr (4, [.ref rdA, .int rdN])), (rl, .inr (4, [.ref rlA, .int rlN])), (tm, .inr (4, [.ref tmA, .int 0]))] s.heap.size = A at hD hG ⊢
  have hA : ∀ q : Nat, s.heap.size ≤ q → A q := fun q h => by rw [← hAe]; exact Or.inr h
  have hS : va_S A s.heap s.heap [] := va_S.rf
  have hl := lv_entry ([.ref re, .ref tm, .int to]) (n := 5) (Nat.le_of_ble_eq_true rfl)
  rw [lg_entry_eq]
  generalize (lg_sl ([.ref re, .ref tm, .int to]) ++ List.replicate (5 - (lg_sl ([.ref re, .ref tm, .int to])).length) Slot.unset).toArray = ls at hl ⊢
  have hl : lv_has ls 5 [(0, .ref re), (1, .ref tm), (2, .int to)] := hl
  have hP : va_P D vwCl [(re, .inr (3, [.ref rd, .int nd, .ref rl, .int ldi, .int sot, .int tie, .int ff, .int ft])), (rd, .inr (4, [.ref rdA, .int rdN])), (rl, .inr (4, [.ref rlA, .int rlN])), (tm, .inr (4, [.ref tmA, .int 0]))] s.heap := hP
  refine lv_aload_n hx hb dX3_resultOf_0 rfl (lv_at hl 0 rfl) ?_
  refine lv_aload_n hx hb dX3_resultOf_1 rfl (lv_at hl 1 rfl) ?_
  refine lv_iconst (v := 0) hx hb dX3_resultOf_2 (by decide) ?_
  refine lv_iload_n hx hb dX3_resultOf_3 rfl (lv_at hl 2 rfl) ?_
  have ct := k_cut_of (wc := [(re, .inr (3, [.ref rd, .int nd, .ref rl, .int ldi, .int sot, .int tie, .int ff, .int ft])), (rd, .inr (4, [.ref rdA, .int rdN])), (rl, .inr (4, [.ref rlA, .int rlN])), (tm, .inr (4, [.ref tmA, .int 0]))]) (wr := []) (tc := []) hG hS hA hK hP hD [0, 1, 2, 3] [] [] rfl rfl (by decide) (by decide) (by decide) rfl
  refine k_endi (As := [.ref re, .ref tm, .int 0, .int to]) ct (k_runV (As := [.ref tm, .int 0, .int to]) (rest := []) S0 Lv_X3_23 rfl (ci := 3) (q0 := 0) rfl rfl ct (c_failureOf0 l D re rd nd rl ldi sot tie ff ft rdA rdN rlA rlN tm tmA 0 to s.heap.size) hl.1 rfl (Nat.le_of_ble_eq_true rfl) rfl dX3_resultOf_4 ⟨⟨Nat.le_of_ble_eq_true rfl, Nat.le_of_ble_eq_true rfl⟩, Nat.le_of_ble_eq_true rfl, Nat.le_of_ble_eq_true rfl⟩) rfl rfl (fun r_1 _ H locs hw_2 hP hD hK hS => ?_)
  have hK : va_K D vwCl [] s := hK
  have hP : va_P D vwCl [(re, .inr (3, [.ref rd, .int nd, .ref rl, .int ldi, .int sot, .int tie, .int 0, .int 0])), (rd, .inr (4, [.ref rdA, .int 0])), (rl, .inr (4, [.ref rlA, .int 0])), (tm, .inr (4, [.ref tmA, .int 0]))] H := hP
  have hD : va_D A [(re, .inr (3, [.ref rd, .int nd, .ref rl, .int ldi, .int sot, .int tie, .int 0, .int 0])), (rd, .inr (4, [.ref rdA, .int 0])), (rl, .inr (4, [.ref rlA, .int 0])), (tm, .inr (4, [.ref tmA, .int 0]))] := hD
  have hw_2 : r_1 = 1 := hw_2
  have hw_2 := hw_2.symm
  subst hw_2
  refine k_nrm (y := 1) rfl ?_
  refine lv_istore_n (lv' := [(3, .int 1), (0, .ref re), (1, .ref tm), (2, .int to)]) hx hb dX3_resultOf_7 rfl hl (by decide) rfl (fun ls hl => ?_)
  refine lv_iload_n hx hb dX3_resultOf_8 rfl (lv_at hl 0 rfl) ?_
  refine lv_if_ne (tgt := 14) hx hb dX3_resultOf_9 (by decide) (fun _ => ?_) (fun c9 => absurd c9 (by decide))
  refine lv_aload_n hx hb dX3_resultOf_14 rfl (lv_at hl 1 rfl) ?_
  refine lv_aload_n hx hb dX3_resultOf_15 rfl (lv_at hl 2 rfl) ?_
  refine lv_iconst (v := 1) hx hb dX3_resultOf_16 (by decide) ?_
  refine lv_iload_n hx hb dX3_resultOf_17 rfl (lv_at hl 3 rfl) ?_
  have ct := k_cut_of (wc := [(re, .inr (3, [.ref rd, .int nd, .ref rl, .int ldi, .int sot, .int tie, .int 0, .int 0])), (rd, .inr (4, [.ref rdA, .int 0])), (rl, .inr (4, [.ref rlA, .int 0])), (tm, .inr (4, [.ref tmA, .int 0]))]) (wr := []) (tc := []) hG hS hA hK hP hD [0, 1, 2, 3] [] [] rfl rfl (by decide) (by decide) (by decide) rfl
  refine k_endi (As := [.ref re, .ref tm, .int 1, .int to]) ct (k_runV (As := [.ref tm, .int 1, .int to]) (rest := []) S0 Lv_X3_23 rfl (ci := 3) (q0 := 0) rfl rfl ct (c_failureOf0 l D re rd nd rl ldi sot tie 0 0 rdA 0 rlA 0 tm tmA 1 to H.size) hl.1 rfl (Nat.le_of_ble_eq_true rfl) rfl dX3_resultOf_18 ⟨⟨Nat.le_of_ble_eq_true rfl, Nat.le_of_ble_eq_true rfl⟩, Nat.le_of_ble_eq_true rfl, Nat.le_of_ble_eq_true rfl⟩) rfl rfl (fun r_3 _ H locs hw_4 hP hD hK hS => ?_)
  have hK : va_K D vwCl [] s := hK
  have hP : va_P D vwCl [(re, .inr (3, [.ref rd, .int nd, .ref rl, .int ldi, .int sot, .int tie, .int 0, .int 0])), (rd, .inr (4, [.ref rdA, .int 0])), (rl, .inr (4, [.ref rlA, .int 0])), (tm, .inr (4, [.ref tmA, .int 0]))] H := hP
  have hD : va_D A [(re, .inr (3, [.ref rd, .int nd, .ref rl, .int ldi, .int sot, .int tie, .int 0, .int 0])), (rd, .inr (4, [.ref rdA, .int 0])), (rl, .inr (4, [.ref rlA, .int 0])), (tm, .inr (4, [.ref tmA, .int 0]))] := hD
  have hw_4 : r_3 = 1 := hw_4
  have hw_4 := hw_4.symm
  subst hw_4
  refine k_nrm (y := 1) rfl ?_
  refine lv_istore (lv' := [(4, .int 1), (3, .int 1), (0, .ref re), (1, .ref tm), (2, .int to)]) hx hb dX3_resultOf_21 hl (by decide) rfl (fun ls hl => ?_)
  refine lv_iload hx hb dX3_resultOf_23 (lv_at hl 0 rfl) ?_
  refine lv_if_ne (tgt := 32) hx hb dX3_resultOf_25 (by decide) (fun _ => ?_) (fun c9 => absurd c9 (by decide))
  refine lv_iload_n hx hb dX3_resultOf_32 rfl (lv_at hl 1 rfl) ?_
  refine lv_iload hx hb dX3_resultOf_33 (lv_at hl 0 rfl) ?_
  refine va_mmax hx hb (by rw [hml]; exact hl.1.symm) hown (ht _ lM_X3_27) (ht _ lM_st_max) (ht _ li_java_lang_Math) (ht _ lM_code_max) (Nat.le_of_ble_eq_true rfl) (Nat.le_of_ble_eq_true rfl) (Nat.le_of_ble_eq_true rfl) (Nat.le_of_ble_eq_true rfl) dX3_resultOf_35 ?_
  refine k_nrm (y := 1) (by decide) ?_
  have hP9 : va_P D vwCl [(re, .inr (3, [.ref rd, .int nd, .ref rl, .int ldi, .int sot, .int tie, .int 0, .int 0])), (rd, .inr (4, [.ref rdA, .int 0])), (rl, .inr (4, [.ref rlA, .int 0])), (tm, .inr (4, [.ref tmA, .int 0]))] H := hP.sub [0, 1, 2, 3] rfl
  have hD9 : va_D A [(re, .inr (3, [.ref rd, .int nd, .ref rl, .int ldi, .int sot, .int tie, .int 0, .int 0])), (rd, .inr (4, [.ref rdA, .int 0])), (rl, .inr (4, [.ref rlA, .int 0])), (tm, .inr (4, [.ref tmA, .int 0]))] := hD.sub [0, 1, 2, 3] (by decide) rfl
  have hK9 : va_K D vwCl [] s := hK.sub [] rfl
  exact W.iret (v := 1) hx hb hr (fun t ht9 hW9 => ⟨⟨1, (), rfl, by first | rfl | trivial | (simp only [if_true, if_false, reduceIte, and_self]; done) | simp_all, ⟨by rw [ht9]; exact hP9, va_K.moved hW9.alike hK9, hD9⟩⟩, hS.F ht9⟩) hS.2.2 dX3_resultOf_38
set_option maxHeartbeats 4000000 in
set_option maxRecDepth 100000 in
theorem c_hasSucceeded1 (l : Launch) (D : va_G) (sz : Nat) : k_Mi (S := Unit) l D yX7_hasSucceeded cX7_hasSucceeded 1 (some .boolean) 0 0 0 0 [.int 1] [] [] (fun (r : Int32) (_ : Unit) => r = 0) (fun _ => []) (fun _ => []) sz := by
  refine Met.ofW (cc := cX7_hasSucceeded) (maxL := 1) (ret := (some .boolean)) (by decide) rfl ?_
  intro p e s m args below meth c s₁ B hml hv
  obtain ⟨rfl, hsz, hP, hK, hD0, hG⟩ := hv
  have hx := B.exec
  have hb := B.bytes
  have hr := B.returns
  have ht : ∀ v9 ∈ wsA, v9.before ([.int 1] : List Value).toArray s = true := fun v9 h9 => atoms_spec (ws := k_ws yX7_hasSucceeded cX7_hasSucceeded 1 (some .boolean)) B.pre v9 (List.mem_cons_of_mem _ h9)
  have hown : s.vm.findClass RX7 = some m.cls := findClass_of_methodNamed B.named
  have S0 : k_C p s m ([.int 1] : List Value).toArray c cX7_hasSucceeded 1 RX7 := ⟨hx, hb, hml, hown, ht⟩
  have hlocks := B.notSynchronized
  subst hsz
  have hD := hD0.self (sz := s.heap.size)
  generalize hAe : va_A [] s.heap.size = A at hD hG ⊢
  have hA : ∀ q : Nat, s.heap.size ≤ q → A q := fun q h => by rw [← hAe]; exact Or.inr h
  have hS : va_S A s.heap s.heap [] := va_S.rf
  have hl := lv_entry ([.int 1]) (n := 1) (Nat.le_of_ble_eq_true rfl)
  rw [lg_entry_eq]
  generalize (lg_sl ([.int 1]) ++ List.replicate (1 - (lg_sl ([.int 1])).length) Slot.unset).toArray = ls at hl ⊢
  have hl : lv_has ls 1 [(0, .int 1)] := hl
  have hP : va_P D vwCl [] s.heap := hP
  refine lv_iload_n hx hb dX7_hasSucceeded_0 rfl (lv_at hl 0 rfl) ?_
  refine lv_if_eq (tgt := 9) hx hb dX7_hasSucceeded_1 (by decide) (fun c9 => absurd c9 (by decide)) (fun _ => ?_)
  refine lv_iload_n hx hb dX7_hasSucceeded_4 rfl (lv_at hl 0 rfl) ?_
  refine lv_iconst (v := (-1)) hx hb dX7_hasSucceeded_5 (by decide) ?_
  refine lv_icmp_ne (tgt := 13) hx hb dX7_hasSucceeded_6 (by decide) (fun _ => ?_) (fun c9 => absurd c9 (by decide))
  refine lv_iconst (v := 0) hx hb dX7_hasSucceeded_13 (by decide) ?_
  have hP9 : va_P D vwCl [] s.heap := hP.sub [] rfl
  have hD9 : va_D A [] := hD.sub [] (by decide) rfl
  have hK9 : va_K D vwCl [] s := hK.sub [] rfl
  exact W.zret (v := 0) hx hb hr (rfl) (fun t ht9 hW9 => ⟨⟨0, (), rfl, by first | rfl | trivial | (simp only [if_true, if_false, reduceIte, and_self]; done) | simp_all, ⟨by rw [ht9]; exact hP9, va_K.moved hW9.alike hK9, hD9⟩⟩, hS.F ht9⟩) hS.2.2 dX7_hasSucceeded_14
end
section
theorem Lv_X2_23 : k_LV RX2 23 yX4_size cX4_size 1 (some .int) 0 := ⟨mA 223 rfl rfl, lm_X4_size, le_X4_size, li_BarcodeWand_Row, lk_X4_size, ly_X4_size⟩
theorem inA_X7 : ∀ w ∈ u_ws RX7 TX7 6, w ∈ wsA := by
  show ∀ w ∈ ([u_lay RX7 TX7 0, u_lay RX7 TX7 1, u_lay RX7 TX7 2, u_lay RX7 TX7 3, u_lay RX7 TX7 4, u_lay RX7 TX7 5] : List Cond), w ∈ wsA
  exact List.forall_mem_cons.mpr ⟨mA 202 rfl rfl, List.forall_mem_cons.mpr ⟨mA 204 rfl rfl, List.forall_mem_cons.mpr ⟨mA 206 rfl rfl, List.forall_mem_cons.mpr ⟨mA 208 rfl rfl, List.forall_mem_cons.mpr ⟨mA 210 rfl rfl, List.forall_mem_cons.mpr ⟨mA 212 rfl rfl, fun _ h => absurd h List.not_mem_nil⟩⟩⟩⟩⟩⟩
theorem lf_X7_10 : Cond.fieldLink RX7 10 "BarcodeWand" "state" "LBarcodeWand$State;" ∈ wsA := mA 196 rfl rfl
theorem lf_X7_66 : Cond.fieldLink RX7 66 "BarcodeWand$State" "label" "LBarcodeWand$Label;" ∈ wsA := mA 87 rfl rfl
theorem lk_X2_size : Cond.code yX2_size cX2_size 1 (some .int) ∈ wsA := mA 222 rfl rfl
theorem ly_X2_size : k_y yX2_size 0 := ⟨by decide +kernel, by decide +kernel, by decide +kernel⟩
theorem lm_X2_size : Cond.instanceMethod yX2_size ∈ wsA := mA 220 rfl rfl
theorem le_X2_size : Cond.selects (yX2_size).cls yX2_size yX2_size ∈ wsA := mA 221 rfl rfl
theorem Lv_X7_93 : k_LV RX7 93 yX2_size cX2_size 1 (some .int) 0 := ⟨mA 219 rfl rfl, lm_X2_size, le_X2_size, li_BarcodeWand_Label, lk_X2_size, ly_X2_size⟩
theorem lf_X7_112 : Cond.fieldLink RX7 112 "BarcodeWand$State" "measurement" "LBarcodeWand$Row;" ∈ wsA := mA 89 rfl rfl
theorem Lv_X7_136 : k_LV RX7 136 yX4_size cX4_size 1 (some .int) 0 := ⟨mA 275 rfl rfl, lm_X4_size, le_X4_size, li_BarcodeWand_Row, lk_X4_size, ly_X4_size⟩
theorem lf_X7_171 : Cond.fieldLink RX7 171 "BarcodeWand$State" "list" "LBarcodeWand$CodeList;" ∈ wsA := mA 91 rfl rfl
theorem lf_X7_175 : Cond.fieldLink RX7 175 "BarcodeWand$CodeList" "numbers" "LBarcodeWand$Row;" ∈ wsA := mA 74 rfl rfl
theorem lf_X7_189 : Cond.fieldLink RX7 189 "BarcodeWand$State" "successes" "I" ∈ wsA := mA 95 rfl rfl
theorem lf_X7_192 : Cond.fieldLink RX7 192 "BarcodeWand$State" "failures" "I" ∈ wsA := mA 97 rfl rfl
theorem lf_X7_19 : Cond.fieldLink RX7 19 "BarcodeWand" "history" "LBarcodeWand$SavedStates;" ∈ wsA := mA 197 rfl rfl
theorem lk_X5_size : Cond.code yX5_size cX5_size 1 (some .int) ∈ wsA := mA 450 rfl rfl
theorem ly_X5_size : k_y yX5_size 0 := ⟨by decide +kernel, by decide +kernel, by decide +kernel⟩
theorem lm_X5_size : Cond.instanceMethod yX5_size ∈ wsA := mA 448 rfl rfl
theorem le_X5_size : Cond.selects (yX5_size).cls yX5_size yX5_size ∈ wsA := mA 449 rfl rfl
theorem Lv_X7_223 : k_LV RX7 223 yX5_size cX5_size 1 (some .int) 0 := ⟨mA 447 rfl rfl, lm_X5_size, le_X5_size, li_BarcodeWand_SavedStates, lk_X5_size, ly_X5_size⟩
theorem lf_X7_26 : Cond.fieldLink RX7 26 "BarcodeWand" "reader" "LBarcodeWand$Reader;" ∈ wsA := mA 198 rfl rfl
theorem lf_X7_144 : Cond.fieldLink RX7 144 "BarcodeWand$State" "tolerance" "I" ∈ wsA := mA 93 rfl rfl
theorem lk_X3_resultOf : Cond.code yX3_resultOf cX3_resultOf 5 (some .int) ∈ wsA := mA 288 rfl rfl
theorem ly_X3_resultOf : k_y yX3_resultOf 2 := ⟨by decide +kernel, by decide +kernel, by decide +kernel⟩
theorem lm_X3_resultOf : Cond.instanceMethod yX3_resultOf ∈ wsA := mA 286 rfl rfl
theorem le_X3_resultOf : Cond.selects (yX3_resultOf).cls yX3_resultOf yX3_resultOf ∈ wsA := mA 287 rfl rfl
theorem Lv_X7_148 : k_LV RX7 148 yX3_resultOf cX3_resultOf 5 (some .int) 2 := ⟨mA 285 rfl rfl, lm_X3_resultOf, le_X3_resultOf, li_BarcodeWand_Reader, lk_X3_resultOf, ly_X3_resultOf⟩
theorem Lv_X7_152 : k_LV RX7 152 yX3_failureOf cX3_failureOf 7 (some .int) 3 := ⟨mA 370 rfl rfl, lm_X3_failureOf, le_X3_failureOf, li_BarcodeWand_Reader, lk_X3_failureOf, ly_X3_failureOf⟩
theorem li_BarcodeWand : Cond.initialized "BarcodeWand" ∈ wsA := mA 1 rfl rfl
theorem lk_X7_hasSucceeded : Cond.code yX7_hasSucceeded cX7_hasSucceeded 1 (some .boolean) ∈ wsA := mA 334 rfl rfl
theorem ly_X7_hasSucceeded : k_y yX7_hasSucceeded 1 := ⟨by decide +kernel, by decide +kernel, by decide +kernel⟩
theorem ls_X7_hasSucceeded : Cond.static yX7_hasSucceeded ∈ wsA := mA 333 rfl rfl
theorem Ls_X7_158 : k_LS RX7 158 yX7_hasSucceeded cX7_hasSucceeded 1 (some .boolean) 1 := ⟨mA 332 rfl rfl, ls_X7_hasSucceeded, li_BarcodeWand, lk_X7_hasSucceeded, ly_X7_hasSucceeded⟩
theorem lk_X5_save : Cond.code yX5_save cX5_save 2 none ∈ wsA := mA 234 rfl rfl
theorem ly_X5_save : k_y yX5_save 1 := ⟨by decide +kernel, by decide +kernel, by decide +kernel⟩
theorem lm_X5_save : Cond.instanceMethod yX5_save ∈ wsA := mA 232 rfl rfl
theorem le_X5_save : Cond.selects (yX5_save).cls yX5_save yX5_save ∈ wsA := mA 233 rfl rfl
theorem Lv_X7_62 : k_LV RX7 62 yX5_save cX5_save 2 none 1 := ⟨mA 231 rfl rfl, lm_X5_save, le_X5_save, li_BarcodeWand_SavedStates, lk_X5_save, ly_X5_save⟩
theorem Lv_X7_137 : k_LV RX7 137 yX4_clear cX4_clear 1 none 0 := ⟨mA 276 rfl rfl, lm_X4_clear, le_X4_clear, li_BarcodeWand_Row, lk_X4_clear, ly_X4_clear⟩
theorem lk_X7_readAndCount : Cond.code yX7_readAndCount cX7_readAndCount 2 (some .int) ∈ wsA := mA 284 rfl rfl
theorem ly_X7_readAndCount : k_y yX7_readAndCount 0 := ⟨by decide +kernel, by decide +kernel, by decide +kernel⟩
theorem lm_X7_readAndCount : Cond.instanceMethod yX7_readAndCount ∈ wsA := mA 283 rfl rfl
theorem le_X7_readAndCount : Cond.selects (yX7_readAndCount).cls yX7_readAndCount yX7_readAndCount ∈ wsA := mS 1 rfl rfl
theorem Lv_X7_119 : k_LV RX7 119 yX7_readAndCount cX7_readAndCount 2 (some .int) 0 := ⟨mA 281 rfl rfl, lm_X7_readAndCount, le_X7_readAndCount, li_BarcodeWand, lk_X7_readAndCount, ly_X7_readAndCount⟩
theorem lf_X7_39 : Cond.fieldLink RX7 39 "BarcodeWand" "buffer" "LBarcodeWand$Row;" ∈ wsA := mA 200 rfl rfl
theorem inA_X1 : ∀ w ∈ u_ws RX1 TX1 6, w ∈ wsA := by
  show ∀ w ∈ ([u_lay RX1 TX1 0, u_lay RX1 TX1 1, u_lay RX1 TX1 2, u_lay RX1 TX1 3, u_lay RX1 TX1 4, u_lay RX1 TX1 5] : List Cond), w ∈ wsA
  exact List.forall_mem_cons.mpr ⟨mA 183 rfl rfl, List.forall_mem_cons.mpr ⟨mA 185 rfl rfl, List.forall_mem_cons.mpr ⟨mA 187 rfl rfl, List.forall_mem_cons.mpr ⟨mA 189 rfl rfl, List.forall_mem_cons.mpr ⟨mA 191 rfl rfl, List.forall_mem_cons.mpr ⟨mA 193 rfl rfl, fun _ h => absurd h List.not_mem_nil⟩⟩⟩⟩⟩⟩
theorem lf_X1_11 : Cond.fieldLink RX1 11 "BarcodeWand$CommandParser" "part" "I" ∈ wsA := mA 181 rfl rfl
theorem lf_X7_45 : Cond.fieldLink RX7 45 "BarcodeWand" "parser" "LBarcodeWand$CommandParser;" ∈ wsA := mA 201 rfl rfl
theorem li_BarcodeWand_CommandParser : Cond.initialized "BarcodeWand$CommandParser" ∈ wsA := mA 9 rfl rfl
theorem lk_X1_restart : Cond.code yX1_restart cX1_restart 1 none ∈ wsA := mA 402 rfl rfl
theorem ly_X1_restart : k_y yX1_restart 0 := ⟨by decide +kernel, by decide +kernel, by decide +kernel⟩
theorem lm_X1_restart : Cond.instanceMethod yX1_restart ∈ wsA := mA 400 rfl rfl
theorem le_X1_restart : Cond.selects (yX1_restart).cls yX1_restart yX1_restart ∈ wsA := mA 401 rfl rfl
theorem Lv_X7_214 : k_LV RX7 214 yX1_restart cX1_restart 1 none 0 := ⟨mA 399 rfl rfl, lm_X1_restart, le_X1_restart, li_BarcodeWand_CommandParser, lk_X1_restart, ly_X1_restart⟩
theorem lk_X7_parseBuffer : Cond.code yX7_parseBuffer cX7_parseBuffer 2 (some .int) ∈ wsA := mA 398 rfl rfl
theorem ly_X7_parseBuffer : k_y yX7_parseBuffer 0 := ⟨by decide +kernel, by decide +kernel, by decide +kernel⟩
theorem lm_X7_parseBuffer : Cond.instanceMethod yX7_parseBuffer ∈ wsA := mA 397 rfl rfl
theorem le_X7_parseBuffer : Cond.selects (yX7_parseBuffer).cls yX7_parseBuffer yX7_parseBuffer ∈ wsA := mS 7 rfl rfl
theorem Lv_X7_206 : k_LV RX7 206 yX7_parseBuffer cX7_parseBuffer 2 (some .int) 0 := ⟨mA 395 rfl rfl, lm_X7_parseBuffer, le_X7_parseBuffer, li_BarcodeWand, lk_X7_parseBuffer, ly_X7_parseBuffer⟩
theorem dX2_size_0 : decode cX2_size 0 = .ok (.aload_n 0, 1) := by decide +kernel
theorem dX2_size_1 : decode cX2_size 1 = .ok (.getfield 20, 3) := by decide +kernel
theorem dX2_size_4 : decode cX2_size 4 = .ok (.invokevirtual 23, 3) := by decide +kernel
theorem dX2_size_7 : decode cX2_size 7 = .ok (.ireturn, 1) := by decide +kernel
theorem dX1_restart_0 : decode cX1_restart 0 = .ok (.aload_n 0, 1) := by decide +kernel
theorem dX1_restart_1 : decode cX1_restart 1 = .ok (.iconst 0, 1) := by decide +kernel
theorem dX1_restart_2 : decode cX1_restart 2 = .ok (.putfield 11, 3) := by decide +kernel
theorem dX1_restart_5 : decode cX1_restart 5 = .ok (.return_, 1) := by decide +kernel
theorem dX1_isAtEndOfCommand_0 : decode cX1_isAtEndOfCommand 0 = .ok (.aload_n 0, 1) := by decide +kernel
theorem dX1_isAtEndOfCommand_1 : decode cX1_isAtEndOfCommand 1 = .ok (.getfield 11, 3) := by decide +kernel
theorem dX1_isAtEndOfCommand_4 : decode cX1_isAtEndOfCommand 4 = .ok (.iconst 2, 1) := by decide +kernel
theorem dX1_isAtEndOfCommand_5 : decode cX1_isAtEndOfCommand 5 = .ok (.if_icmp .eq 20, 3) := by decide +kernel
theorem dX1_isAtEndOfCommand_8 : decode cX1_isAtEndOfCommand 8 = .ok (.aload_n 0, 1) := by decide +kernel
theorem dX1_isAtEndOfCommand_9 : decode cX1_isAtEndOfCommand 9 = .ok (.getfield 11, 3) := by decide +kernel
theorem dX1_isAtEndOfCommand_12 : decode cX1_isAtEndOfCommand 12 = .ok (.iconst 1, 1) := by decide +kernel
theorem dX1_isAtEndOfCommand_13 : decode cX1_isAtEndOfCommand 13 = .ok (.if_icmp .ne 16, 3) := by decide +kernel
theorem dX1_isAtEndOfCommand_16 : decode cX1_isAtEndOfCommand 16 = .ok (.aload_n 0, 1) := by decide +kernel
theorem dX1_isAtEndOfCommand_17 : decode cX1_isAtEndOfCommand 17 = .ok (.getfield 29, 3) := by decide +kernel
theorem dX1_isAtEndOfCommand_20 : decode cX1_isAtEndOfCommand 20 = .ok (.bipush 112, 2) := by decide +kernel
theorem dX1_isAtEndOfCommand_22 : decode cX1_isAtEndOfCommand 22 = .ok (.if_icmp .ne 7, 3) := by decide +kernel
theorem dX1_isAtEndOfCommand_25 : decode cX1_isAtEndOfCommand 25 = .ok (.iconst 1, 1) := by decide +kernel
theorem dX1_isAtEndOfCommand_26 : decode cX1_isAtEndOfCommand 26 = .ok (.goto 4, 3) := by decide +kernel
theorem dX1_isAtEndOfCommand_29 : decode cX1_isAtEndOfCommand 29 = .ok (.iconst 0, 1) := by decide +kernel
theorem dX1_isAtEndOfCommand_30 : decode cX1_isAtEndOfCommand 30 = .ok (.istore_n 1, 1) := by decide +kernel
theorem dX1_isAtEndOfCommand_31 : decode cX1_isAtEndOfCommand 31 = .ok (.iload_n 1, 1) := by decide +kernel
theorem dX1_isAtEndOfCommand_32 : decode cX1_isAtEndOfCommand 32 = .ok (.ifCond .eq 14, 3) := by decide +kernel
theorem dX1_isAtEndOfCommand_35 : decode cX1_isAtEndOfCommand 35 = .ok (.aload_n 0, 1) := by decide +kernel
theorem dX1_isAtEndOfCommand_36 : decode cX1_isAtEndOfCommand 36 = .ok (.getfield 32, 3) := by decide +kernel
theorem dX1_isAtEndOfCommand_39 : decode cX1_isAtEndOfCommand 39 = .ok (.ifCond .le 7, 3) := by decide +kernel
theorem dX1_isAtEndOfCommand_42 : decode cX1_isAtEndOfCommand 42 = .ok (.iconst 1, 1) := by decide +kernel
theorem dX1_isAtEndOfCommand_43 : decode cX1_isAtEndOfCommand 43 = .ok (.goto 4, 3) := by decide +kernel
theorem dX1_isAtEndOfCommand_46 : decode cX1_isAtEndOfCommand 46 = .ok (.iconst 0, 1) := by decide +kernel
theorem dX1_isAtEndOfCommand_47 : decode cX1_isAtEndOfCommand 47 = .ok (.ireturn, 1) := by decide +kernel
theorem dX7_elements_0 : decode cX7_elements 0 = .ok (.aload_n 0, 1) := by decide +kernel
theorem dX7_elements_1 : decode cX7_elements 1 = .ok (.getfield 10, 3) := by decide +kernel
theorem dX7_elements_4 : decode cX7_elements 4 = .ok (.getfield 66, 3) := by decide +kernel
theorem dX7_elements_7 : decode cX7_elements 7 = .ok (.invokevirtual 93, 3) := by decide +kernel
theorem dX7_elements_10 : decode cX7_elements 10 = .ok (.ireturn, 1) := by decide +kernel
theorem dX7_times_0 : decode cX7_times 0 = .ok (.aload_n 0, 1) := by decide +kernel
theorem dX7_times_1 : decode cX7_times 1 = .ok (.getfield 10, 3) := by decide +kernel
theorem dX7_times_4 : decode cX7_times 4 = .ok (.getfield 112, 3) := by decide +kernel
theorem dX7_times_7 : decode cX7_times 7 = .ok (.invokevirtual 136, 3) := by decide +kernel
theorem dX7_times_10 : decode cX7_times 10 = .ok (.ireturn, 1) := by decide +kernel
theorem dX7_codes_0 : decode cX7_codes 0 = .ok (.aload_n 0, 1) := by decide +kernel
theorem dX7_codes_1 : decode cX7_codes 1 = .ok (.getfield 10, 3) := by decide +kernel
theorem dX7_codes_4 : decode cX7_codes 4 = .ok (.getfield 171, 3) := by decide +kernel
theorem dX7_codes_7 : decode cX7_codes 7 = .ok (.getfield 175, 3) := by decide +kernel
theorem dX7_codes_10 : decode cX7_codes 10 = .ok (.invokevirtual 136, 3) := by decide +kernel
theorem dX7_codes_13 : decode cX7_codes 13 = .ok (.ireturn, 1) := by decide +kernel
theorem dX7_successes_0 : decode cX7_successes 0 = .ok (.aload_n 0, 1) := by decide +kernel
theorem dX7_successes_1 : decode cX7_successes 1 = .ok (.getfield 10, 3) := by decide +kernel
theorem dX7_successes_4 : decode cX7_successes 4 = .ok (.getfield 189, 3) := by decide +kernel
theorem dX7_successes_7 : decode cX7_successes 7 = .ok (.ireturn, 1) := by decide +kernel
theorem dX7_failures_0 : decode cX7_failures 0 = .ok (.aload_n 0, 1) := by decide +kernel
theorem dX7_failures_1 : decode cX7_failures 1 = .ok (.getfield 10, 3) := by decide +kernel
theorem dX7_failures_4 : decode cX7_failures 4 = .ok (.getfield 192, 3) := by decide +kernel
theorem dX7_failures_7 : decode cX7_failures 7 = .ok (.ireturn, 1) := by decide +kernel
theorem dX7_savedStates_0 : decode cX7_savedStates 0 = .ok (.aload_n 0, 1) := by decide +kernel
theorem dX7_savedStates_1 : decode cX7_savedStates 1 = .ok (.getfield 19, 3) := by decide +kernel
theorem dX7_savedStates_4 : decode cX7_savedStates 4 = .ok (.invokevirtual 223, 3) := by decide +kernel
theorem dX7_savedStates_7 : decode cX7_savedStates 7 = .ok (.ireturn, 1) := by decide +kernel
theorem dX7_result_0 : decode cX7_result 0 = .ok (.aload_n 0, 1) := by decide +kernel
theorem dX7_result_1 : decode cX7_result 1 = .ok (.getfield 26, 3) := by decide +kernel
theorem dX7_result_4 : decode cX7_result 4 = .ok (.aload_n 0, 1) := by decide +kernel
theorem dX7_result_5 : decode cX7_result 5 = .ok (.getfield 10, 3) := by decide +kernel
theorem dX7_result_8 : decode cX7_result 8 = .ok (.getfield 112, 3) := by decide +kernel
theorem dX7_result_11 : decode cX7_result 11 = .ok (.aload_n 0, 1) := by decide +kernel
theorem dX7_result_12 : decode cX7_result 12 = .ok (.getfield 10, 3) := by decide +kernel
theorem dX7_result_15 : decode cX7_result 15 = .ok (.getfield 144, 3) := by decide +kernel
theorem dX7_result_18 : decode cX7_result 18 = .ok (.invokevirtual 148, 3) := by decide +kernel
theorem dX7_result_21 : decode cX7_result 21 = .ok (.ireturn, 1) := by decide +kernel
theorem dX7_reason_0 : decode cX7_reason 0 = .ok (.aload_n 0, 1) := by decide +kernel
theorem dX7_reason_1 : decode cX7_reason 1 = .ok (.getfield 26, 3) := by decide +kernel
theorem dX7_reason_4 : decode cX7_reason 4 = .ok (.aload_n 0, 1) := by decide +kernel
theorem dX7_reason_5 : decode cX7_reason 5 = .ok (.getfield 10, 3) := by decide +kernel
theorem dX7_reason_8 : decode cX7_reason 8 = .ok (.getfield 112, 3) := by decide +kernel
theorem dX7_reason_11 : decode cX7_reason 11 = .ok (.iload_n 1, 1) := by decide +kernel
theorem dX7_reason_12 : decode cX7_reason 12 = .ok (.aload_n 0, 1) := by decide +kernel
theorem dX7_reason_13 : decode cX7_reason 13 = .ok (.getfield 10, 3) := by decide +kernel
theorem dX7_reason_16 : decode cX7_reason 16 = .ok (.getfield 144, 3) := by decide +kernel
theorem dX7_reason_19 : decode cX7_reason 19 = .ok (.invokevirtual 152, 3) := by decide +kernel
theorem dX7_reason_22 : decode cX7_reason 22 = .ok (.ireturn, 1) := by decide +kernel
theorem dX7_leastTolerance_0 : decode cX7_leastTolerance 0 = .ok (.iconst 1, 1) := by decide +kernel
theorem dX7_leastTolerance_1 : decode cX7_leastTolerance 1 = .ok (.istore_n 1, 1) := by decide +kernel
theorem dX7_leastTolerance_2 : decode cX7_leastTolerance 2 = .ok (.iload_n 1, 1) := by decide +kernel
theorem dX7_leastTolerance_3 : decode cX7_leastTolerance 3 = .ok (.bipush 8, 2) := by decide +kernel
theorem dX7_leastTolerance_5 : decode cX7_leastTolerance 5 = .ok (.if_icmp .gt 32, 3) := by decide +kernel
theorem dX7_leastTolerance_8 : decode cX7_leastTolerance 8 = .ok (.aload_n 0, 1) := by decide +kernel
theorem dX7_leastTolerance_9 : decode cX7_leastTolerance 9 = .ok (.getfield 26, 3) := by decide +kernel
theorem dX7_leastTolerance_12 : decode cX7_leastTolerance 12 = .ok (.aload_n 0, 1) := by decide +kernel
theorem dX7_leastTolerance_13 : decode cX7_leastTolerance 13 = .ok (.getfield 10, 3) := by decide +kernel
theorem dX7_leastTolerance_16 : decode cX7_leastTolerance 16 = .ok (.getfield 112, 3) := by decide +kernel
theorem dX7_leastTolerance_19 : decode cX7_leastTolerance 19 = .ok (.iload_n 1, 1) := by decide +kernel
theorem dX7_leastTolerance_20 : decode cX7_leastTolerance 20 = .ok (.invokevirtual 148, 3) := by decide +kernel
theorem dX7_leastTolerance_23 : decode cX7_leastTolerance 23 = .ok (.invokestatic 158, 3) := by decide +kernel
theorem dX7_leastTolerance_26 : decode cX7_leastTolerance 26 = .ok (.ifCond .eq 5, 3) := by decide +kernel
theorem dX7_leastTolerance_29 : decode cX7_leastTolerance 29 = .ok (.iload_n 1, 1) := by decide +kernel
theorem dX7_leastTolerance_30 : decode cX7_leastTolerance 30 = .ok (.ireturn, 1) := by decide +kernel
theorem dX7_leastTolerance_31 : decode cX7_leastTolerance 31 = .ok (.iinc 1 1, 3) := by decide +kernel
theorem dX7_leastTolerance_34 : decode cX7_leastTolerance 34 = .ok (.goto (-32), 3) := by decide +kernel
theorem dX7_leastTolerance_37 : decode cX7_leastTolerance 37 = .ok (.iconst (-1), 1) := by decide +kernel
theorem dX7_leastTolerance_38 : decode cX7_leastTolerance 38 = .ok (.ireturn, 1) := by decide +kernel
theorem dX7_clearMeasurement_0 : decode cX7_clearMeasurement 0 = .ok (.aload_n 0, 1) := by decide +kernel
theorem dX7_clearMeasurement_1 : decode cX7_clearMeasurement 1 = .ok (.getfield 19, 3) := by decide +kernel
theorem dX7_clearMeasurement_4 : decode cX7_clearMeasurement 4 = .ok (.aload_n 0, 1) := by decide +kernel
theorem dX7_clearMeasurement_5 : decode cX7_clearMeasurement 5 = .ok (.getfield 10, 3) := by decide +kernel
theorem dX7_clearMeasurement_8 : decode cX7_clearMeasurement 8 = .ok (.invokevirtual 62, 3) := by decide +kernel
theorem dX7_clearMeasurement_11 : decode cX7_clearMeasurement 11 = .ok (.aload_n 0, 1) := by decide +kernel
theorem dX7_clearMeasurement_12 : decode cX7_clearMeasurement 12 = .ok (.getfield 10, 3) := by decide +kernel
theorem dX7_clearMeasurement_15 : decode cX7_clearMeasurement 15 = .ok (.getfield 112, 3) := by decide +kernel
theorem dX7_clearMeasurement_18 : decode cX7_clearMeasurement 18 = .ok (.invokevirtual 136, 3) := by decide +kernel
theorem dX7_clearMeasurement_21 : decode cX7_clearMeasurement 21 = .ok (.istore_n 1, 1) := by decide +kernel
theorem dX7_clearMeasurement_22 : decode cX7_clearMeasurement 22 = .ok (.aload_n 0, 1) := by decide +kernel
theorem dX7_clearMeasurement_23 : decode cX7_clearMeasurement 23 = .ok (.getfield 10, 3) := by decide +kernel
theorem dX7_clearMeasurement_26 : decode cX7_clearMeasurement 26 = .ok (.getfield 112, 3) := by decide +kernel
theorem dX7_clearMeasurement_29 : decode cX7_clearMeasurement 29 = .ok (.invokevirtual 137, 3) := by decide +kernel
theorem dX7_clearMeasurement_32 : decode cX7_clearMeasurement 32 = .ok (.iload_n 1, 1) := by decide +kernel
theorem dX7_clearMeasurement_33 : decode cX7_clearMeasurement 33 = .ok (.ireturn, 1) := by decide +kernel
theorem dX7_readAndCount_0 : decode cX7_readAndCount 0 = .ok (.aload_n 0, 1) := by decide +kernel
theorem dX7_readAndCount_1 : decode cX7_readAndCount 1 = .ok (.getfield 26, 3) := by decide +kernel
theorem dX7_readAndCount_4 : decode cX7_readAndCount 4 = .ok (.aload_n 0, 1) := by decide +kernel
theorem dX7_readAndCount_5 : decode cX7_readAndCount 5 = .ok (.getfield 10, 3) := by decide +kernel
theorem dX7_readAndCount_8 : decode cX7_readAndCount 8 = .ok (.getfield 112, 3) := by decide +kernel
theorem dX7_readAndCount_11 : decode cX7_readAndCount 11 = .ok (.aload_n 0, 1) := by decide +kernel
theorem dX7_readAndCount_12 : decode cX7_readAndCount 12 = .ok (.getfield 10, 3) := by decide +kernel
theorem dX7_readAndCount_15 : decode cX7_readAndCount 15 = .ok (.getfield 144, 3) := by decide +kernel
theorem dX7_readAndCount_18 : decode cX7_readAndCount 18 = .ok (.invokevirtual 148, 3) := by decide +kernel
theorem dX7_readAndCount_21 : decode cX7_readAndCount 21 = .ok (.istore_n 1, 1) := by decide +kernel
theorem dX7_readAndCount_22 : decode cX7_readAndCount 22 = .ok (.iload_n 1, 1) := by decide +kernel
theorem dX7_readAndCount_23 : decode cX7_readAndCount 23 = .ok (.invokestatic 158, 3) := by decide +kernel
theorem dX7_readAndCount_26 : decode cX7_readAndCount 26 = .ok (.ifCond .eq 49, 3) := by decide +kernel
theorem dX7_readAndCount_29 : decode cX7_readAndCount 29 = .ok (.aload_n 0, 1) := by decide +kernel
theorem dX7_readAndCount_30 : decode cX7_readAndCount 30 = .ok (.getfield 10, 3) := by decide +kernel
theorem dX7_readAndCount_33 : decode cX7_readAndCount 33 = .ok (.dup, 1) := by decide +kernel
theorem dX7_readAndCount_34 : decode cX7_readAndCount 34 = .ok (.getfield 189, 3) := by decide +kernel
theorem dX7_readAndCount_37 : decode cX7_readAndCount 37 = .ok (.iconst 1, 1) := by decide +kernel
theorem dX7_readAndCount_38 : decode cX7_readAndCount 38 = .ok (.iadd, 1) := by decide +kernel
theorem dX7_readAndCount_39 : decode cX7_readAndCount 39 = .ok (.putfield 189, 3) := by decide +kernel
theorem dX7_readAndCount_42 : decode cX7_readAndCount 42 = .ok (.aload_n 0, 1) := by decide +kernel
theorem dX7_readAndCount_43 : decode cX7_readAndCount 43 = .ok (.getfield 10, 3) := by decide +kernel
theorem dX7_readAndCount_46 : decode cX7_readAndCount 46 = .ok (.getfield 171, 3) := by decide +kernel
theorem dX7_readAndCount_49 : decode cX7_readAndCount 49 = .ok (.aload_n 0, 1) := by decide +kernel
theorem dX7_readAndCount_50 : decode cX7_readAndCount 50 = .ok (.getfield 26, 3) := by decide +kernel
theorem dX7_readAndCount_53 : decode cX7_readAndCount 53 = .ok (.getfield 161, 3) := by decide +kernel
theorem dX7_readAndCount_56 : decode cX7_readAndCount 56 = .ok (.invokestatic 267, 3) := by decide +kernel
theorem dX7_readAndCount_59 : decode cX7_readAndCount 59 = .ok (.aload_n 0, 1) := by decide +kernel
theorem dX7_readAndCount_60 : decode cX7_readAndCount 60 = .ok (.getfield 26, 3) := by decide +kernel
theorem dX7_readAndCount_63 : decode cX7_readAndCount 63 = .ok (.getfield 161, 3) := by decide +kernel
theorem dX7_readAndCount_66 : decode cX7_readAndCount 66 = .ok (.invokevirtual 136, 3) := by decide +kernel
theorem dX7_readAndCount_69 : decode cX7_readAndCount 69 = .ok (.invokevirtual 271, 3) := by decide +kernel
theorem dX7_readAndCount_72 : decode cX7_readAndCount 72 = .ok (.goto 16, 3) := by decide +kernel
theorem dX7_readAndCount_75 : decode cX7_readAndCount 75 = .ok (.aload_n 0, 1) := by decide +kernel
theorem dX7_readAndCount_76 : decode cX7_readAndCount 76 = .ok (.getfield 10, 3) := by decide +kernel
theorem dX7_readAndCount_79 : decode cX7_readAndCount 79 = .ok (.dup, 1) := by decide +kernel
theorem dX7_readAndCount_80 : decode cX7_readAndCount 80 = .ok (.getfield 192, 3) := by decide +kernel
theorem dX7_readAndCount_83 : decode cX7_readAndCount 83 = .ok (.iconst 1, 1) := by decide +kernel
theorem dX7_readAndCount_84 : decode cX7_readAndCount 84 = .ok (.iadd, 1) := by decide +kernel
theorem dX7_readAndCount_85 : decode cX7_readAndCount 85 = .ok (.putfield 192, 3) := by decide +kernel
theorem dX7_readAndCount_88 : decode cX7_readAndCount 88 = .ok (.iload_n 1, 1) := by decide +kernel
theorem dX7_readAndCount_89 : decode cX7_readAndCount 89 = .ok (.ireturn, 1) := by decide +kernel
theorem dX7_read_0 : decode cX7_read 0 = .ok (.aload_n 0, 1) := by decide +kernel
theorem dX7_read_1 : decode cX7_read 1 = .ok (.getfield 19, 3) := by decide +kernel
theorem dX7_read_4 : decode cX7_read 4 = .ok (.aload_n 0, 1) := by decide +kernel
theorem dX7_read_5 : decode cX7_read 5 = .ok (.getfield 10, 3) := by decide +kernel
theorem dX7_read_8 : decode cX7_read 8 = .ok (.invokevirtual 62, 3) := by decide +kernel
theorem dX7_read_11 : decode cX7_read 11 = .ok (.aload_n 0, 1) := by decide +kernel
theorem dX7_read_12 : decode cX7_read 12 = .ok (.invokevirtual 119, 3) := by decide +kernel
theorem dX7_read_15 : decode cX7_read 15 = .ok (.ireturn, 1) := by decide +kernel
theorem dX7_clearBuffer_0 : decode cX7_clearBuffer 0 = .ok (.aload_n 0, 1) := by decide +kernel
theorem dX7_clearBuffer_1 : decode cX7_clearBuffer 1 = .ok (.getfield 39, 3) := by decide +kernel
theorem dX7_clearBuffer_4 : decode cX7_clearBuffer 4 = .ok (.invokevirtual 136, 3) := by decide +kernel
theorem dX7_clearBuffer_7 : decode cX7_clearBuffer 7 = .ok (.istore_n 1, 1) := by decide +kernel
theorem dX7_clearBuffer_8 : decode cX7_clearBuffer 8 = .ok (.aload_n 0, 1) := by decide +kernel
theorem dX7_clearBuffer_9 : decode cX7_clearBuffer 9 = .ok (.getfield 39, 3) := by decide +kernel
theorem dX7_clearBuffer_12 : decode cX7_clearBuffer 12 = .ok (.invokevirtual 137, 3) := by decide +kernel
theorem dX7_clearBuffer_15 : decode cX7_clearBuffer 15 = .ok (.iload_n 1, 1) := by decide +kernel
theorem dX7_clearBuffer_16 : decode cX7_clearBuffer 16 = .ok (.ireturn, 1) := by decide +kernel
theorem dX7_parseBuffer_0 : decode cX7_parseBuffer 0 = .ok (.aload_n 0, 1) := by decide +kernel
theorem dX7_parseBuffer_1 : decode cX7_parseBuffer 1 = .ok (.getfield 45, 3) := by decide +kernel
theorem dX7_parseBuffer_4 : decode cX7_parseBuffer 4 = .ok (.invokevirtual 214, 3) := by decide +kernel
theorem dX7_parseBuffer_7 : decode cX7_parseBuffer 7 = .ok (.iconst 0, 1) := by decide +kernel
theorem dX7_parseBuffer_8 : decode cX7_parseBuffer 8 = .ok (.istore_n 1, 1) := by decide +kernel
theorem dX7_parseBuffer_9 : decode cX7_parseBuffer 9 = .ok (.iload_n 1, 1) := by decide +kernel
theorem dX7_parseBuffer_10 : decode cX7_parseBuffer 10 = .ok (.aload_n 0, 1) := by decide +kernel
theorem dX7_parseBuffer_11 : decode cX7_parseBuffer 11 = .ok (.getfield 39, 3) := by decide +kernel
theorem dX7_parseBuffer_14 : decode cX7_parseBuffer 14 = .ok (.invokevirtual 136, 3) := by decide +kernel
theorem dX7_parseBuffer_17 : decode cX7_parseBuffer 17 = .ok (.if_icmp .ge 29, 3) := by decide +kernel
theorem dX7_parseBuffer_20 : decode cX7_parseBuffer 20 = .ok (.aload_n 0, 1) := by decide +kernel
theorem dX7_parseBuffer_21 : decode cX7_parseBuffer 21 = .ok (.getfield 45, 3) := by decide +kernel
theorem dX7_parseBuffer_24 : decode cX7_parseBuffer 24 = .ok (.aload_n 0, 1) := by decide +kernel
theorem dX7_parseBuffer_25 : decode cX7_parseBuffer 25 = .ok (.getfield 39, 3) := by decide +kernel
theorem dX7_parseBuffer_28 : decode cX7_parseBuffer 28 = .ok (.iload_n 1, 1) := by decide +kernel
theorem dX7_parseBuffer_29 : decode cX7_parseBuffer 29 = .ok (.invokevirtual 79, 3) := by decide +kernel
theorem dX7_parseBuffer_32 : decode cX7_parseBuffer 32 = .ok (.invokevirtual 217, 3) := by decide +kernel
theorem dX7_parseBuffer_35 : decode cX7_parseBuffer 35 = .ok (.ifCond .ne 5, 3) := by decide +kernel
theorem dX7_parseBuffer_38 : decode cX7_parseBuffer 38 = .ok (.iload_n 1, 1) := by decide +kernel
theorem dX7_parseBuffer_39 : decode cX7_parseBuffer 39 = .ok (.ireturn, 1) := by decide +kernel
theorem dX7_parseBuffer_40 : decode cX7_parseBuffer 40 = .ok (.iinc 1 1, 3) := by decide +kernel
theorem dX7_parseBuffer_43 : decode cX7_parseBuffer 43 = .ok (.goto (-34), 3) := by decide +kernel
theorem dX7_parseBuffer_46 : decode cX7_parseBuffer 46 = .ok (.aload_n 0, 1) := by decide +kernel
theorem dX7_parseBuffer_47 : decode cX7_parseBuffer 47 = .ok (.getfield 39, 3) := by decide +kernel
theorem dX7_parseBuffer_50 : decode cX7_parseBuffer 50 = .ok (.invokevirtual 136, 3) := by decide +kernel
theorem dX7_parseBuffer_53 : decode cX7_parseBuffer 53 = .ok (.ireturn, 1) := by decide +kernel
theorem dX7_firstError_0 : decode cX7_firstError 0 = .ok (.aload_n 0, 1) := by decide +kernel
theorem dX7_firstError_1 : decode cX7_firstError 1 = .ok (.invokevirtual 206, 3) := by decide +kernel
theorem dX7_firstError_4 : decode cX7_firstError 4 = .ok (.ireturn, 1) := by decide +kernel
set_option maxHeartbeats 4000000 in
set_option maxRecDepth 100000 in
theorem c_Label_size (l : Launch) (D : va_G) (la : Nat) (ld : Nat) (lz : Nat) (lzA : Nat) (n : Int32) (sz : Nat) : k_Mi (S := Unit) l D yX2_size cX2_size 1 (some .int) 1 0 0 20 [.ref la] [(la, .inr (2, [.ref ld, .ref lz])), (lz, .inr (4, [.ref lzA, .int n]))] [] (fun (r : Int32) (_ : Unit) => r = n) (fun _ => [(la, .inr (2, [.ref ld, .ref lz])), (lz, .inr (4, [.ref lzA, .int n]))]) (fun _ => []) sz := by
  refine Met.ofW (cc := cX2_size) (maxL := 1) (ret := (some .int)) (by decide) rfl ?_
  intro p e s m args below meth c s₁ B hml hv
  obtain ⟨rfl, hsz, hP, hK, hD0, hG⟩ := hv
  have hx := B.exec
  have hb := B.bytes
  have hr := B.returns
  have ht : ∀ v9 ∈ wsA, v9.before ([.ref la] : List Value).toArray s = true := fun v9 h9 => atoms_spec (ws := k_ws yX2_size cX2_size 1 (some .int)) B.pre v9 (List.mem_cons_of_mem _ h9)
  have hown : s.vm.findClass RX2 = some m.cls := findClass_of_methodNamed B.named
  have S0 : k_C p s m ([.ref la] : List Value).toArray c cX2_size 1 RX2 := ⟨hx, hb, hml, hown, ht⟩
  have hlocks := B.notSynchronized
  subst hsz
  have hD := hD0.self (sz := s.heap.size)
  generalize hAe : va_A [(la, .inr (2, [.ref ld, .ref lz])), (lz, .inr (4, [.ref lzA, .int n]))] s.heap.size = A at hD hG ⊢
  have hA : ∀ q : Nat, s.heap.size ≤ q → A q := fun q h => by rw [← hAe]; exact Or.inr h
  have hS : va_S A s.heap s.heap [] := va_S.rf
  have hl := lv_entry ([.ref la]) (n := 1) (Nat.le_of_ble_eq_true rfl)
  rw [lg_entry_eq]
  generalize (lg_sl ([.ref la]) ++ List.replicate (1 - (lg_sl ([.ref la])).length) Slot.unset).toArray = ls at hl ⊢
  have hl : lv_has ls 1 [(0, .ref la)] := hl
  have hP : va_P D vwCl [(la, .inr (2, [.ref ld, .ref lz])), (lz, .inr (4, [.ref lzA, .int n]))] s.heap := hP
  refine lv_aload_n hx hb dX2_size_0 rfl (lv_at hl 0 rfl) ?_
  refine va_get (D := D) (ci := 2) (v := .ref lz) (C := RX2) (T := TX2) (N := 2) hx hb ht inA_X2 hown hK hP 0 rfl rfl 1 (by decide) (ht _ lf_X2_20) (fun _ h9 => h9) rfl dX2_size_1 ?_
  have ct := k_cut_of (wc := [(lz, .inr (4, [.ref lzA, .int n]))]) (wr := [(la, .inr (2, [.ref ld, .ref lz]))]) (tc := []) hG hS hA hK hP hD [1] [0] [] rfl rfl (by decide) (by decide) (by decide) rfl
  refine k_endi (As := [.ref lz]) ct (k_runV (As := []) (rest := []) S0 Lv_X2_23 rfl (ci := 4) (q0 := 0) rfl rfl ct (c_Row_size l D lz lzA n s.heap.size) hl.1 rfl (Nat.le_of_ble_eq_true rfl) rfl dX2_size_4 ⟨⟨Nat.le_of_ble_eq_true rfl, Nat.le_of_ble_eq_true rfl⟩, Nat.le_of_ble_eq_true rfl, Nat.le_of_ble_eq_true rfl⟩) rfl rfl (fun r_1 _ H locs hw_2 hP hD hK hS => ?_)
  have hK : va_K D vwCl [] s := hK
  have hP : va_P D vwCl [(la, .inr (2, [.ref ld, .ref lz])), (lz, .inr (4, [.ref lzA, .int n]))] H := hP
  have hD : va_D A [(la, .inr (2, [.ref ld, .ref lz])), (lz, .inr (4, [.ref lzA, .int n]))] := hD
  have hw_2 : r_1 = n := hw_2
  have hw_2 := hw_2.symm
  subst hw_2
  refine k_nrm (y := n) rfl ?_
  have hP9 : va_P D vwCl [(la, .inr (2, [.ref ld, .ref lz])), (lz, .inr (4, [.ref lzA, .int n]))] H := hP.sub [0, 1] rfl
  have hD9 : va_D A [(la, .inr (2, [.ref ld, .ref lz])), (lz, .inr (4, [.ref lzA, .int n]))] := hD.sub [0, 1] (by decide) rfl
  have hK9 : va_K D vwCl [] s := hK.sub [] rfl
  exact W.iret (v := n) hx hb hr (fun t ht9 hW9 => ⟨⟨n, (), rfl, by first | rfl | trivial | (simp only [if_true, if_false, reduceIte, and_self]; done) | simp_all, ⟨by rw [ht9]; exact hP9, va_K.moved hW9.alike hK9, hD9⟩⟩, hS.F ht9⟩) hS.2.2 dX2_size_7
set_option maxHeartbeats 4000000 in
set_option maxRecDepth 100000 in
theorem c_W_elements (l : Launch) (D : va_G) (w : Nat) (st : Nat) (hi : Nat) (re : Nat) (fo : Nat) (bu : Nat) (pa : Nat) (la : Nat) (me : Nat) (li : Nat) (tol : Int32) (su : Int32) (fa : Int32) (ld : Nat) (lz : Nat) (lzA : Nat) (sz : Nat) : k_Mi (S := Unit) l D yX7_elements cX7_elements 1 (some .int) 2 0 0 40 [.ref w] [(w, .inr (7, [.ref st, .ref hi, .ref re, .ref fo, .ref bu, .ref pa])), (st, .inr (6, [.ref la, .ref me, .ref li, .int tol, .int su, .int fa])), (la, .inr (2, [.ref ld, .ref lz])), (lz, .inr (4, [.ref lzA, .int 0]))] [] (fun (r : Int32) (_ : Unit) => r = 0) (fun _ => [(w, .inr (7, [.ref st, .ref hi, .ref re, .ref fo, .ref bu, .ref pa])), (st, .inr (6, [.ref la, .ref me, .ref li, .int tol, .int su, .int fa])), (la, .inr (2, [.ref ld, .ref lz])), (lz, .inr (4, [.ref lzA, .int 0]))]) (fun _ => []) sz := by
  refine Met.ofW (cc := cX7_elements) (maxL := 1) (ret := (some .int)) (by decide) rfl ?_
  intro p e s m args below meth c s₁ B hml hv
  obtain ⟨rfl, hsz, hP, hK, hD0, hG⟩ := hv
  have hx := B.exec
  have hb := B.bytes
  have hr := B.returns
  have ht : ∀ v9 ∈ wsA, v9.before ([.ref w] : List Value).toArray s = true := fun v9 h9 => atoms_spec (ws := k_ws yX7_elements cX7_elements 1 (some .int)) B.pre v9 (List.mem_cons_of_mem _ h9)
  have hown : s.vm.findClass RX7 = some m.cls := findClass_of_methodNamed B.named
  have S0 : k_C p s m ([.ref w] : List Value).toArray c cX7_elements 1 RX7 := ⟨hx, hb, hml, hown, ht⟩
  have hlocks := B.notSynchronized
  subst hsz
  have hD := hD0.self (sz := s.heap.size)
  generalize hAe : va_A [(w, .inr (7, [.ref st, .ref hi, .ref re, .ref fo, .ref bu, .ref pa])), (st, .inr (6, [.ref la, .ref me, .ref li, .int tol, .int su, .int fa])), (la, .inr (2, [.ref ld, .ref lz])), (lz, .inr (4, [.ref lzA, .int 0]))] s.heap.size = A at hD hG ⊢
  have hA : ∀ q : Nat, s.heap.size ≤ q → A q := fun q h => by rw [← hAe]; exact Or.inr h
  have hS : va_S A s.heap s.heap [] := va_S.rf
  have hl := lv_entry ([.ref w]) (n := 1) (Nat.le_of_ble_eq_true rfl)
  rw [lg_entry_eq]
  generalize (lg_sl ([.ref w]) ++ List.replicate (1 - (lg_sl ([.ref w])).length) Slot.unset).toArray = ls at hl ⊢
  have hl : lv_has ls 1 [(0, .ref w)] := hl
  have hP : va_P D vwCl [(w, .inr (7, [.ref st, .ref hi, .ref re, .ref fo, .ref bu, .ref pa])), (st, .inr (6, [.ref la, .ref me, .ref li, .int tol, .int su, .int fa])), (la, .inr (2, [.ref ld, .ref lz])), (lz, .inr (4, [.ref lzA, .int 0]))] s.heap := hP
  refine lv_aload_n hx hb dX7_elements_0 rfl (lv_at hl 0 rfl) ?_
  refine va_get (D := D) (ci := 7) (v := .ref st) (C := RX7) (T := TX7) (N := 6) hx hb ht inA_X7 hown hK hP 0 rfl rfl 0 (by decide) (ht _ lf_X7_10) (fun _ h9 => h9) rfl dX7_elements_1 ?_
  refine va_get (D := D) (ci := 6) (v := .ref la) (C := RX6) (T := TX6) (N := 6) hx hb ht inA_X6 hown hK hP 1 rfl rfl 0 (by decide) (ht _ lf_X7_66) (fun _ h9 => h9) rfl dX7_elements_4 ?_
  have ct := k_cut_of (wc := [(la, .inr (2, [.ref ld, .ref lz])), (lz, .inr (4, [.ref lzA, .int 0]))]) (wr := [(w, .inr (7, [.ref st, .ref hi, .ref re, .ref fo, .ref bu, .ref pa])), (st, .inr (6, [.ref la, .ref me, .ref li, .int tol, .int su, .int fa]))]) (tc := []) hG hS hA hK hP hD [2, 3] [0, 1] [] rfl rfl (by decide) (by decide) (by decide) rfl
  refine k_endi (As := [.ref la]) ct (k_runV (As := []) (rest := []) S0 Lv_X7_93 rfl (ci := 2) (q0 := 0) rfl rfl ct (c_Label_size l D la ld lz lzA 0 s.heap.size) hl.1 rfl (Nat.le_of_ble_eq_true rfl) rfl dX7_elements_7 ⟨⟨Nat.le_of_ble_eq_true rfl, Nat.le_of_ble_eq_true rfl⟩, Nat.le_of_ble_eq_true rfl, Nat.le_of_ble_eq_true rfl⟩) rfl rfl (fun r_1 _ H locs hw_2 hP hD hK hS => ?_)
  have hK : va_K D vwCl [] s := hK
  have hP : va_P D vwCl [(w, .inr (7, [.ref st, .ref hi, .ref re, .ref fo, .ref bu, .ref pa])), (st, .inr (6, [.ref la, .ref me, .ref li, .int tol, .int su, .int fa])), (la, .inr (2, [.ref ld, .ref lz])), (lz, .inr (4, [.ref lzA, .int 0]))] H := hP
  have hD : va_D A [(w, .inr (7, [.ref st, .ref hi, .ref re, .ref fo, .ref bu, .ref pa])), (st, .inr (6, [.ref la, .ref me, .ref li, .int tol, .int su, .int fa])), (la, .inr (2, [.ref ld, .ref lz])), (lz, .inr (4, [.ref lzA, .int 0]))] := hD
  have hw_2 : r_1 = 0 := hw_2
  have hw_2 := hw_2.symm
  subst hw_2
  refine k_nrm (y := 0) rfl ?_
  have hP9 : va_P D vwCl [(w, .inr (7, [.ref st, .ref hi, .ref re, .ref fo, .ref bu, .ref pa])), (st, .inr (6, [.ref la, .ref me, .ref li, .int tol, .int su, .int fa])), (la, .inr (2, [.ref ld, .ref lz])), (lz, .inr (4, [.ref lzA, .int 0]))] H := hP.sub [0, 1, 2, 3] rfl
  have hD9 : va_D A [(w, .inr (7, [.ref st, .ref hi, .ref re, .ref fo, .ref bu, .ref pa])), (st, .inr (6, [.ref la, .ref me, .ref li, .int tol, .int su, .int fa])), (la, .inr (2, [.ref ld, .ref lz])), (lz, .inr (4, [.ref lzA, .int 0]))] := hD.sub [0, 1, 2, 3] (by decide) rfl
  have hK9 : va_K D vwCl [] s := hK.sub [] rfl
  exact W.iret (v := 0) hx hb hr (fun t ht9 hW9 => ⟨⟨0, (), rfl, by first | rfl | trivial | (simp only [if_true, if_false, reduceIte, and_self]; done) | simp_all, ⟨by rw [ht9]; exact hP9, va_K.moved hW9.alike hK9, hD9⟩⟩, hS.F ht9⟩) hS.2.2 dX7_elements_10
set_option maxHeartbeats 4000000 in
set_option maxRecDepth 100000 in
theorem c_W_times (l : Launch) (D : va_G) (w : Nat) (st : Nat) (hi : Nat) (re : Nat) (fo : Nat) (bu : Nat) (pa : Nat) (la : Nat) (me : Nat) (li : Nat) (tol : Int32) (su : Int32) (fa : Int32) (meA : Nat) (sz : Nat) : k_Mi (S := Unit) l D yX7_times cX7_times 1 (some .int) 1 0 0 20 [.ref w] [(w, .inr (7, [.ref st, .ref hi, .ref re, .ref fo, .ref bu, .ref pa])), (st, .inr (6, [.ref la, .ref me, .ref li, .int tol, .int su, .int fa])), (me, .inr (4, [.ref meA, .int 0]))] [] (fun (r : Int32) (_ : Unit) => r = 0) (fun _ => [(w, .inr (7, [.ref st, .ref hi, .ref re, .ref fo, .ref bu, .ref pa])), (st, .inr (6, [.ref la, .ref me, .ref li, .int tol, .int su, .int fa])), (me, .inr (4, [.ref meA, .int 0]))]) (fun _ => []) sz := by
  refine Met.ofW (cc := cX7_times) (maxL := 1) (ret := (some .int)) (by decide) rfl ?_
  intro p e s m args below meth c s₁ B hml hv
  obtain ⟨rfl, hsz, hP, hK, hD0, hG⟩ := hv
  have hx := B.exec
  have hb := B.bytes
  have hr := B.returns
  have ht : ∀ v9 ∈ wsA, v9.before ([.ref w] : List Value).toArray s = true := fun v9 h9 => atoms_spec (ws := k_ws yX7_times cX7_times 1 (some .int)) B.pre v9 (List.mem_cons_of_mem _ h9)
  have hown : s.vm.findClass RX7 = some m.cls := findClass_of_methodNamed B.named
  have S0 : k_C p s m ([.ref w] : List Value).toArray c cX7_times 1 RX7 := ⟨hx, hb, hml, hown, ht⟩
  have hlocks := B.notSynchronized
  subst hsz
  have hD := hD0.self (sz := s.heap.size)
  generalize hAe : va_A [(w, .inr (7, [.ref st, .ref hi, .ref re, .ref fo, .ref bu, .ref pa])), (st, .inr (6, [.ref la, .ref me, .ref li, .int tol, .int su, .int fa])), (me, .inr (4, [.ref meA, .int 0]))] s.heap.size = A at hD hG ⊢
  have hA : ∀ q : Nat, s.heap.size ≤ q → A q := fun q h => by rw [← hAe]; exact Or.inr h
  have hS : va_S A s.heap s.heap [] := va_S.rf
  have hl := lv_entry ([.ref w]) (n := 1) (Nat.le_of_ble_eq_true rfl)
  rw [lg_entry_eq]
  generalize (lg_sl ([.ref w]) ++ List.replicate (1 - (lg_sl ([.ref w])).length) Slot.unset).toArray = ls at hl ⊢
  have hl : lv_has ls 1 [(0, .ref w)] := hl
  have hP : va_P D vwCl [(w, .inr (7, [.ref st, .ref hi, .ref re, .ref fo, .ref bu, .ref pa])), (st, .inr (6, [.ref la, .ref me, .ref li, .int tol, .int su, .int fa])), (me, .inr (4, [.ref meA, .int 0]))] s.heap := hP
  refine lv_aload_n hx hb dX7_times_0 rfl (lv_at hl 0 rfl) ?_
  refine va_get (D := D) (ci := 7) (v := .ref st) (C := RX7) (T := TX7) (N := 6) hx hb ht inA_X7 hown hK hP 0 rfl rfl 0 (by decide) (ht _ lf_X7_10) (fun _ h9 => h9) rfl dX7_times_1 ?_
  refine va_get (D := D) (ci := 6) (v := .ref me) (C := RX6) (T := TX6) (N := 6) hx hb ht inA_X6 hown hK hP 1 rfl rfl 1 (by decide) (ht _ lf_X7_112) (fun _ h9 => h9) rfl dX7_times_4 ?_
  have ct := k_cut_of (wc := [(me, .inr (4, [.ref meA, .int 0]))]) (wr := [(w, .inr (7, [.ref st, .ref hi, .ref re, .ref fo, .ref bu, .ref pa])), (st, .inr (6, [.ref la, .ref me, .ref li, .int tol, .int su, .int fa]))]) (tc := []) hG hS hA hK hP hD [2] [0, 1] [] rfl rfl (by decide) (by decide) (by decide) rfl
  refine k_endi (As := [.ref me]) ct (k_runV (As := []) (rest := []) S0 Lv_X7_136 rfl (ci := 4) (q0 := 0) rfl rfl ct (c_Row_size l D me meA 0 s.heap.size) hl.1 rfl (Nat.le_of_ble_eq_true rfl) rfl dX7_times_7 ⟨⟨Nat.le_of_ble_eq_true rfl, Nat.le_of_ble_eq_true rfl⟩, Nat.le_of_ble_eq_true rfl, Nat.le_of_ble_eq_true rfl⟩) rfl rfl (fun r_1 _ H locs hw_2 hP hD hK hS => ?_)
  have hK : va_K D vwCl [] s := hK
  have hP : va_P D vwCl [(w, .inr (7, [.ref st, .ref hi, .ref re, .ref fo, .ref bu, .ref pa])), (st, .inr (6, [.ref la, .ref me, .ref li, .int tol, .int su, .int fa])), (me, .inr (4, [.ref meA, .int 0]))] H := hP
  have hD : va_D A [(w, .inr (7, [.ref st, .ref hi, .ref re, .ref fo, .ref bu, .ref pa])), (st, .inr (6, [.ref la, .ref me, .ref li, .int tol, .int su, .int fa])), (me, .inr (4, [.ref meA, .int 0]))] := hD
  have hw_2 : r_1 = 0 := hw_2
  have hw_2 := hw_2.symm
  subst hw_2
  refine k_nrm (y := 0) rfl ?_
  have hP9 : va_P D vwCl [(w, .inr (7, [.ref st, .ref hi, .ref re, .ref fo, .ref bu, .ref pa])), (st, .inr (6, [.ref la, .ref me, .ref li, .int tol, .int su, .int fa])), (me, .inr (4, [.ref meA, .int 0]))] H := hP.sub [0, 1, 2] rfl
  have hD9 : va_D A [(w, .inr (7, [.ref st, .ref hi, .ref re, .ref fo, .ref bu, .ref pa])), (st, .inr (6, [.ref la, .ref me, .ref li, .int tol, .int su, .int fa])), (me, .inr (4, [.ref meA, .int 0]))] := hD.sub [0, 1, 2] (by decide) rfl
  have hK9 : va_K D vwCl [] s := hK.sub [] rfl
  exact W.iret (v := 0) hx hb hr (fun t ht9 hW9 => ⟨⟨0, (), rfl, by first | rfl | trivial | (simp only [if_true, if_false, reduceIte, and_self]; done) | simp_all, ⟨by rw [ht9]; exact hP9, va_K.moved hW9.alike hK9, hD9⟩⟩, hS.F ht9⟩) hS.2.2 dX7_times_10
set_option maxHeartbeats 4000000 in
set_option maxRecDepth 100000 in
theorem c_W_codes (l : Launch) (D : va_G) (w : Nat) (st : Nat) (hi : Nat) (re : Nat) (fo : Nat) (bu : Nat) (pa : Nat) (la : Nat) (me : Nat) (li : Nat) (tol : Int32) (su : Int32) (fa : Int32) (ln : Nat) (ll : Nat) (lc : Nat) (lnA : Nat) (sz : Nat) : k_Mi (S := Unit) l D yX7_codes cX7_codes 1 (some .int) 1 0 0 20 [.ref w] [(w, .inr (7, [.ref st, .ref hi, .ref re, .ref fo, .ref bu, .ref pa])), (st, .inr (6, [.ref la, .ref me, .ref li, .int tol, .int su, .int fa])), (li, .inr (0, [.ref ln, .ref ll, .ref lc])), (ln, .inr (4, [.ref lnA, .int 0]))] [] (fun (r : Int32) (_ : Unit) => r = 0) (fun _ => [(w, .inr (7, [.ref st, .ref hi, .ref re, .ref fo, .ref bu, .ref pa])), (st, .inr (6, [.ref la, .ref me, .ref li, .int tol, .int su, .int fa])), (li, .inr (0, [.ref ln, .ref ll, .ref lc])), (ln, .inr (4, [.ref lnA, .int 0]))]) (fun _ => []) sz := by
  refine Met.ofW (cc := cX7_codes) (maxL := 1) (ret := (some .int)) (by decide) rfl ?_
  intro p e s m args below meth c s₁ B hml hv
  obtain ⟨rfl, hsz, hP, hK, hD0, hG⟩ := hv
  have hx := B.exec
  have hb := B.bytes
  have hr := B.returns
  have ht : ∀ v9 ∈ wsA, v9.before ([.ref w] : List Value).toArray s = true := fun v9 h9 => atoms_spec (ws := k_ws yX7_codes cX7_codes 1 (some .int)) B.pre v9 (List.mem_cons_of_mem _ h9)
  have hown : s.vm.findClass RX7 = some m.cls := findClass_of_methodNamed B.named
  have S0 : k_C p s m ([.ref w] : List Value).toArray c cX7_codes 1 RX7 := ⟨hx, hb, hml, hown, ht⟩
  have hlocks := B.notSynchronized
  subst hsz
  have hD := hD0.self (sz := s.heap.size)
  generalize hAe : va_A [(w, .inr (7, [.ref st, .ref hi, .ref re, .ref fo, .ref bu, .ref pa])), (st, .inr (6, [.ref la, .ref me, .ref li, .int tol, .int su, .int fa])), (li, .inr (0, [.ref ln, .ref ll, .ref lc])), (ln, .inr (4, [.ref lnA, .int 0]))] s.heap.size = A at hD hG ⊢
  have hA : ∀ q : Nat, s.heap.size ≤ q → A q := fun q h => by rw [← hAe]; exact Or.inr h
  have hS : va_S A s.heap s.heap [] := va_S.rf
  have hl := lv_entry ([.ref w]) (n := 1) (Nat.le_of_ble_eq_true rfl)
  rw [lg_entry_eq]
  generalize (lg_sl ([.ref w]) ++ List.replicate (1 - (lg_sl ([.ref w])).length) Slot.unset).toArray = ls at hl ⊢
  have hl : lv_has ls 1 [(0, .ref w)] := hl
  have hP : va_P D vwCl [(w, .inr (7, [.ref st, .ref hi, .ref re, .ref fo, .ref bu, .ref pa])), (st, .inr (6, [.ref la, .ref me, .ref li, .int tol, .int su, .int fa])), (li, .inr (0, [.ref ln, .ref ll, .ref lc])), (ln, .inr (4, [.ref lnA, .int 0]))] s.heap := hP
  refine lv_aload_n hx hb dX7_codes_0 rfl (lv_at hl 0 rfl) ?_
  refine va_get (D := D) (ci := 7) (v := .ref st) (C := RX7) (T := TX7) (N := 6) hx hb ht inA_X7 hown hK hP 0 rfl rfl 0 (by decide) (ht _ lf_X7_10) (fun _ h9 => h9) rfl dX7_codes_1 ?_
  refine va_get (D := D) (ci := 6) (v := .ref li) (C := RX6) (T := TX6) (N := 6) hx hb ht inA_X6 hown hK hP 1 rfl rfl 2 (by decide) (ht _ lf_X7_171) (fun _ h9 => h9) rfl dX7_codes_4 ?_
  refine va_get (D := D) (ci := 0) (v := .ref ln) (C := RX0) (T := TX0) (N := 3) hx hb ht inA_X0 hown hK hP 2 rfl rfl 0 (by decide) (ht _ lf_X7_175) (fun _ h9 => h9) rfl dX7_codes_7 ?_
  have ct := k_cut_of (wc := [(ln, .inr (4, [.ref lnA, .int 0]))]) (wr := [(w, .inr (7, [.ref st, .ref hi, .ref re, .ref fo, .ref bu, .ref pa])), (st, .inr (6, [.ref la, .ref me, .ref li, .int tol, .int su, .int fa])), (li, .inr (0, [.ref ln, .ref ll, .ref lc]))]) (tc := []) hG hS hA hK hP hD [3] [0, 1, 2] [] rfl rfl (by decide) (by decide) (by decide) rfl
  refine k_endi (As := [.ref ln]) ct (k_runV (As := []) (rest := []) S0 Lv_X7_136 rfl (ci := 4) (q0 := 0) rfl rfl ct (c_Row_size l D ln lnA 0 s.heap.size) hl.1 rfl (Nat.le_of_ble_eq_true rfl) rfl dX7_codes_10 ⟨⟨Nat.le_of_ble_eq_true rfl, Nat.le_of_ble_eq_true rfl⟩, Nat.le_of_ble_eq_true rfl, Nat.le_of_ble_eq_true rfl⟩) rfl rfl (fun r_1 _ H locs hw_2 hP hD hK hS => ?_)
  have hK : va_K D vwCl [] s := hK
  have hP : va_P D vwCl [(w, .inr (7, [.ref st, .ref hi, .ref re, .ref fo, .ref bu, .ref pa])), (st, .inr (6, [.ref la, .ref me, .ref li, .int tol, .int su, .int fa])), (li, .inr (0, [.ref ln, .ref ll, .ref lc])), (ln, .inr (4, [.ref lnA, .int 0]))] H := hP
  have hD : va_D A [(w, .inr (7, [.ref st, .ref hi, .ref re, .ref fo, .ref bu, .ref pa])), (st, .inr (6, [.ref la, .ref me, .ref li, .int tol, .int su, .int fa])), (li, .inr (0, [.ref ln, .ref ll, .ref lc])), (ln, .inr (4, [.ref lnA, .int 0]))] := hD
  have hw_2 : r_1 = 0 := hw_2
  have hw_2 := hw_2.symm
  subst hw_2
  refine k_nrm (y := 0) rfl ?_
  have hP9 : va_P D vwCl [(w, .inr (7, [.ref st, .ref hi, .ref re, .ref fo, .ref bu, .ref pa])), (st, .inr (6, [.ref la, .ref me, .ref li, .int tol, .int su, .int fa])), (li, .inr (0, [.ref ln, .ref ll, .ref lc])), (ln, .inr (4, [.ref lnA, .int 0]))] H := hP.sub [0, 1, 2, 3] rfl
  have hD9 : va_D A [(w, .inr (7, [.ref st, .ref hi, .ref re, .ref fo, .ref bu, .ref pa])), (st, .inr (6, [.ref la, .ref me, .ref li, .int tol, .int su, .int fa])), (li, .inr (0, [.ref ln, .ref ll, .ref lc])), (ln, .inr (4, [.ref lnA, .int 0]))] := hD.sub [0, 1, 2, 3] (by decide) rfl
  have hK9 : va_K D vwCl [] s := hK.sub [] rfl
  exact W.iret (v := 0) hx hb hr (fun t ht9 hW9 => ⟨⟨0, (), rfl, by first | rfl | trivial | (simp only [if_true, if_false, reduceIte, and_self]; done) | simp_all, ⟨by rw [ht9]; exact hP9, va_K.moved hW9.alike hK9, hD9⟩⟩, hS.F ht9⟩) hS.2.2 dX7_codes_13
set_option maxHeartbeats 4000000 in
set_option maxRecDepth 100000 in
theorem c_W_successes (l : Launch) (D : va_G) (w : Nat) (st : Nat) (hi : Nat) (re : Nat) (fo : Nat) (bu : Nat) (pa : Nat) (la : Nat) (me : Nat) (li : Nat) (tol : Int32) (su : Int32) (fa : Int32) (sz : Nat) : k_Mi (S := Unit) l D yX7_successes cX7_successes 1 (some .int) 0 0 0 0 [.ref w] [(w, .inr (7, [.ref st, .ref hi, .ref re, .ref fo, .ref bu, .ref pa])), (st, .inr (6, [.ref la, .ref me, .ref li, .int tol, .int su, .int fa]))] [] (fun (r : Int32) (_ : Unit) => r = su) (fun _ => [(w, .inr (7, [.ref st, .ref hi, .ref re, .ref fo, .ref bu, .ref pa])), (st, .inr (6, [.ref la, .ref me, .ref li, .int tol, .int su, .int fa]))]) (fun _ => []) sz := by
  refine Met.ofW (cc := cX7_successes) (maxL := 1) (ret := (some .int)) (by decide) rfl ?_
  intro p e s m args below meth c s₁ B hml hv
  obtain ⟨rfl, hsz, hP, hK, hD0, hG⟩ := hv
  have hx := B.exec
  have hb := B.bytes
  have hr := B.returns
  have ht : ∀ v9 ∈ wsA, v9.before ([.ref w] : List Value).toArray s = true := fun v9 h9 => atoms_spec (ws := k_ws yX7_successes cX7_successes 1 (some .int)) B.pre v9 (List.mem_cons_of_mem _ h9)
  have hown : s.vm.findClass RX7 = some m.cls := findClass_of_methodNamed B.named
  have S0 : k_C p s m ([.ref w] : List Value).toArray c cX7_successes 1 RX7 := ⟨hx, hb, hml, hown, ht⟩
  have hlocks := B.notSynchronized
  subst hsz
  have hD := hD0.self (sz := s.heap.size)
  generalize hAe : va_A [(w, .inr (7, [.ref st, .ref hi, .ref re, .ref fo, .ref bu, .ref pa])), (st, .inr (6, [.ref la, .ref me, .ref li, .int tol, .int su, .int fa]))] s.heap.size = A at hD hG ⊢
  have hA : ∀ q : Nat, s.heap.size ≤ q → A q := fun q h => by rw [← hAe]; exact Or.inr h
  have hS : va_S A s.heap s.heap [] := va_S.rf
  have hl := lv_entry ([.ref w]) (n := 1) (Nat.le_of_ble_eq_true rfl)
  rw [lg_entry_eq]
  generalize (lg_sl ([.ref w]) ++ List.replicate (1 - (lg_sl ([.ref w])).length) Slot.unset).toArray = ls at hl ⊢
  have hl : lv_has ls 1 [(0, .ref w)] := hl
  have hP : va_P D vwCl [(w, .inr (7, [.ref st, .ref hi, .ref re, .ref fo, .ref bu, .ref pa])), (st, .inr (6, [.ref la, .ref me, .ref li, .int tol, .int su, .int fa]))] s.heap := hP
  refine lv_aload_n hx hb dX7_successes_0 rfl (lv_at hl 0 rfl) ?_
  refine va_get (D := D) (ci := 7) (v := .ref st) (C := RX7) (T := TX7) (N := 6) hx hb ht inA_X7 hown hK hP 0 rfl rfl 0 (by decide) (ht _ lf_X7_10) (fun _ h9 => h9) rfl dX7_successes_1 ?_
  refine va_get (D := D) (ci := 6) (v := .int su) (C := RX6) (T := TX6) (N := 6) hx hb ht inA_X6 hown hK hP 1 rfl rfl 4 (by decide) (ht _ lf_X7_189) (fun _ h9 => h9) rfl dX7_successes_4 ?_
  have hP9 : va_P D vwCl [(w, .inr (7, [.ref st, .ref hi, .ref re, .ref fo, .ref bu, .ref pa])), (st, .inr (6, [.ref la, .ref me, .ref li, .int tol, .int su, .int fa]))] s.heap := hP.sub [0, 1] rfl
  have hD9 : va_D A [(w, .inr (7, [.ref st, .ref hi, .ref re, .ref fo, .ref bu, .ref pa])), (st, .inr (6, [.ref la, .ref me, .ref li, .int tol, .int su, .int fa]))] := hD.sub [0, 1] (by decide) rfl
  have hK9 : va_K D vwCl [] s := hK.sub [] rfl
  exact W.iret (v := su) hx hb hr (fun t ht9 hW9 => ⟨⟨su, (), rfl, by first | rfl | trivial | (simp only [if_true, if_false, reduceIte, and_self]; done) | simp_all, ⟨by rw [ht9]; exact hP9, va_K.moved hW9.alike hK9, hD9⟩⟩, hS.F ht9⟩) hS.2.2 dX7_successes_7
set_option maxHeartbeats 4000000 in
set_option maxRecDepth 100000 in
theorem c_W_failures (l : Launch) (D : va_G) (w : Nat) (st : Nat) (hi : Nat) (re : Nat) (fo : Nat) (bu : Nat) (pa : Nat) (la : Nat) (me : Nat) (li : Nat) (tol : Int32) (su : Int32) (fa : Int32) (sz : Nat) : k_Mi (S := Unit) l D yX7_failures cX7_failures 1 (some .int) 0 0 0 0 [.ref w] [(w, .inr (7, [.ref st, .ref hi, .ref re, .ref fo, .ref bu, .ref pa])), (st, .inr (6, [.ref la, .ref me, .ref li, .int tol, .int su, .int fa]))] [] (fun (r : Int32) (_ : Unit) => r = fa) (fun _ => [(w, .inr (7, [.ref st, .ref hi, .ref re, .ref fo, .ref bu, .ref pa])), (st, .inr (6, [.ref la, .ref me, .ref li, .int tol, .int su, .int fa]))]) (fun _ => []) sz := by
  refine Met.ofW (cc := cX7_failures) (maxL := 1) (ret := (some .int)) (by decide) rfl ?_
  intro p e s m args below meth c s₁ B hml hv
  obtain ⟨rfl, hsz, hP, hK, hD0, hG⟩ := hv
  have hx := B.exec
  have hb := B.bytes
  have hr := B.returns
  have ht : ∀ v9 ∈ wsA, v9.before ([.ref w] : List Value).toArray s = true := fun v9 h9 => atoms_spec (ws := k_ws yX7_failures cX7_failures 1 (some .int)) B.pre v9 (List.mem_cons_of_mem _ h9)
  have hown : s.vm.findClass RX7 = some m.cls := findClass_of_methodNamed B.named
  have S0 : k_C p s m ([.ref w] : List Value).toArray c cX7_failures 1 RX7 := ⟨hx, hb, hml, hown, ht⟩
  have hlocks := B.notSynchronized
  subst hsz
  have hD := hD0.self (sz := s.heap.size)
  generalize hAe : va_A [(w, .inr (7, [.ref st, .ref hi, .ref re, .ref fo, .ref bu, .ref pa])), (st, .inr (6, [.ref la, .ref me, .ref li, .int tol, .int su, .int fa]))] s.heap.size = A at hD hG ⊢
  have hA : ∀ q : Nat, s.heap.size ≤ q → A q := fun q h => by rw [← hAe]; exact Or.inr h
  have hS : va_S A s.heap s.heap [] := va_S.rf
  have hl := lv_entry ([.ref w]) (n := 1) (Nat.le_of_ble_eq_true rfl)
  rw [lg_entry_eq]
  generalize (lg_sl ([.ref w]) ++ List.replicate (1 - (lg_sl ([.ref w])).length) Slot.unset).toArray = ls at hl ⊢
  have hl : lv_has ls 1 [(0, .ref w)] := hl
  have hP : va_P D vwCl [(w, .inr (7, [.ref st, .ref hi, .ref re, .ref fo, .ref bu, .ref pa])), (st, .inr (6, [.ref la, .ref me, .ref li, .int tol, .int su, .int fa]))] s.heap := hP
  refine lv_aload_n hx hb dX7_failures_0 rfl (lv_at hl 0 rfl) ?_
  refine va_get (D := D) (ci := 7) (v := .ref st) (C := RX7) (T := TX7) (N := 6) hx hb ht inA_X7 hown hK hP 0 rfl rfl 0 (by decide) (ht _ lf_X7_10) (fun _ h9 => h9) rfl dX7_failures_1 ?_
  refine va_get (D := D) (ci := 6) (v := .int fa) (C := RX6) (T := TX6) (N := 6) hx hb ht inA_X6 hown hK hP 1 rfl rfl 5 (by decide) (ht _ lf_X7_192) (fun _ h9 => h9) rfl dX7_failures_4 ?_
  have hP9 : va_P D vwCl [(w, .inr (7, [.ref st, .ref hi, .ref re, .ref fo, .ref bu, .ref pa])), (st, .inr (6, [.ref la, .ref me, .ref li, .int tol, .int su, .int fa]))] s.heap := hP.sub [0, 1] rfl
  have hD9 : va_D A [(w, .inr (7, [.ref st, .ref hi, .ref re, .ref fo, .ref bu, .ref pa])), (st, .inr (6, [.ref la, .ref me, .ref li, .int tol, .int su, .int fa]))] := hD.sub [0, 1] (by decide) rfl
  have hK9 : va_K D vwCl [] s := hK.sub [] rfl
  exact W.iret (v := fa) hx hb hr (fun t ht9 hW9 => ⟨⟨fa, (), rfl, by first | rfl | trivial | (simp only [if_true, if_false, reduceIte, and_self]; done) | simp_all, ⟨by rw [ht9]; exact hP9, va_K.moved hW9.alike hK9, hD9⟩⟩, hS.F ht9⟩) hS.2.2 dX7_failures_7
set_option maxHeartbeats 4000000 in
set_option maxRecDepth 100000 in
theorem c_W_saved (l : Launch) (D : va_G) (w : Nat) (st : Nat) (hi : Nat) (re : Nat) (fo : Nat) (bu : Nat) (pa : Nat) (ri : Nat) (nx : Int32) (kp : Int32) (sz : Nat) : k_Mi (S := Unit) l D yX7_savedStates cX7_savedStates 1 (some .int) 1 0 0 20 [.ref w] [(w, .inr (7, [.ref st, .ref hi, .ref re, .ref fo, .ref bu, .ref pa])), (hi, .inr (5, [.ref ri, .int nx, .int kp]))] [] (fun (r : Int32) (_ : Unit) => r = kp) (fun _ => [(w, .inr (7, [.ref st, .ref hi, .ref re, .ref fo, .ref bu, .ref pa])), (hi, .inr (5, [.ref ri, .int nx, .int kp]))]) (fun _ => []) sz := by
  refine Met.ofW (cc := cX7_savedStates) (maxL := 1) (ret := (some .int)) (by decide) rfl ?_
  intro p e s m args below meth c s₁ B hml hv
  obtain ⟨rfl, hsz, hP, hK, hD0, hG⟩ := hv
  have hx := B.exec
  have hb := B.bytes
  have hr := B.returns
  have ht : ∀ v9 ∈ wsA, v9.before ([.ref w] : List Value).toArray s = true := fun v9 h9 => atoms_spec (ws := k_ws yX7_savedStates cX7_savedStates 1 (some .int)) B.pre v9 (List.mem_cons_of_mem _ h9)
  have hown : s.vm.findClass RX7 = some m.cls := findClass_of_methodNamed B.named
  have S0 : k_C p s m ([.ref w] : List Value).toArray c cX7_savedStates 1 RX7 := ⟨hx, hb, hml, hown, ht⟩
  have hlocks := B.notSynchronized
  subst hsz
  have hD := hD0.self (sz := s.heap.size)
  generalize hAe : va_A [(w, .inr (7, [.ref st, .ref hi, .ref re, .ref fo, .ref bu, .ref pa])), (hi, .inr (5, [.ref ri, .int nx, .int kp]))] s.heap.size = A at hD hG ⊢
  have hA : ∀ q : Nat, s.heap.size ≤ q → A q := fun q h => by rw [← hAe]; exact Or.inr h
  have hS : va_S A s.heap s.heap [] := va_S.rf
  have hl := lv_entry ([.ref w]) (n := 1) (Nat.le_of_ble_eq_true rfl)
  rw [lg_entry_eq]
  generalize (lg_sl ([.ref w]) ++ List.replicate (1 - (lg_sl ([.ref w])).length) Slot.unset).toArray = ls at hl ⊢
  have hl : lv_has ls 1 [(0, .ref w)] := hl
  have hP : va_P D vwCl [(w, .inr (7, [.ref st, .ref hi, .ref re, .ref fo, .ref bu, .ref pa])), (hi, .inr (5, [.ref ri, .int nx, .int kp]))] s.heap := hP
  refine lv_aload_n hx hb dX7_savedStates_0 rfl (lv_at hl 0 rfl) ?_
  refine va_get (D := D) (ci := 7) (v := .ref hi) (C := RX7) (T := TX7) (N := 6) hx hb ht inA_X7 hown hK hP 0 rfl rfl 1 (by decide) (ht _ lf_X7_19) (fun _ h9 => h9) rfl dX7_savedStates_1 ?_
  have ct := k_cut_of (wc := [(hi, .inr (5, [.ref ri, .int nx, .int kp]))]) (wr := [(w, .inr (7, [.ref st, .ref hi, .ref re, .ref fo, .ref bu, .ref pa]))]) (tc := []) hG hS hA hK hP hD [1] [0] [] rfl rfl (by decide) (by decide) (by decide) rfl
  refine k_endi (As := [.ref hi]) ct (k_runV (As := []) (rest := []) S0 Lv_X7_223 rfl (ci := 5) (q0 := 0) rfl rfl ct (c_Saved_size l D hi ri nx kp s.heap.size) hl.1 rfl (Nat.le_of_ble_eq_true rfl) rfl dX7_savedStates_4 ⟨⟨Nat.le_of_ble_eq_true rfl, Nat.le_of_ble_eq_true rfl⟩, Nat.le_of_ble_eq_true rfl, Nat.le_of_ble_eq_true rfl⟩) rfl rfl (fun r_1 _ H locs hw_2 hP hD hK hS => ?_)
  have hK : va_K D vwCl [] s := hK
  have hP : va_P D vwCl [(w, .inr (7, [.ref st, .ref hi, .ref re, .ref fo, .ref bu, .ref pa])), (hi, .inr (5, [.ref ri, .int nx, .int kp]))] H := hP
  have hD : va_D A [(w, .inr (7, [.ref st, .ref hi, .ref re, .ref fo, .ref bu, .ref pa])), (hi, .inr (5, [.ref ri, .int nx, .int kp]))] := hD
  have hw_2 : r_1 = kp := hw_2
  have hw_2 := hw_2.symm
  subst hw_2
  refine k_nrm (y := kp) rfl ?_
  have hP9 : va_P D vwCl [(w, .inr (7, [.ref st, .ref hi, .ref re, .ref fo, .ref bu, .ref pa])), (hi, .inr (5, [.ref ri, .int nx, .int kp]))] H := hP.sub [0, 1] rfl
  have hD9 : va_D A [(w, .inr (7, [.ref st, .ref hi, .ref re, .ref fo, .ref bu, .ref pa])), (hi, .inr (5, [.ref ri, .int nx, .int kp]))] := hD.sub [0, 1] (by decide) rfl
  have hK9 : va_K D vwCl [] s := hK.sub [] rfl
  exact W.iret (v := kp) hx hb hr (fun t ht9 hW9 => ⟨⟨kp, (), rfl, by first | rfl | trivial | (simp only [if_true, if_false, reduceIte, and_self]; done) | simp_all, ⟨by rw [ht9]; exact hP9, va_K.moved hW9.alike hK9, hD9⟩⟩, hS.F ht9⟩) hS.2.2 dX7_savedStates_7
set_option maxHeartbeats 4000000 in
set_option maxRecDepth 100000 in
theorem c_W_result (l : Launch) (D : va_G) (w : Nat) (st : Nat) (hi : Nat) (re : Nat) (fo : Nat) (bu : Nat) (pa : Nat) (la : Nat) (me : Nat) (li : Nat) (tol : Int32) (su : Int32) (fa : Int32) (meA : Nat) (rd : Nat) (nd : Int32) (rl : Nat) (ldi : Int32) (sot : Int32) (tie : Int32) (ff : Int32) (ft : Int32) (rdA : Nat) (rdN : Int32) (rlA : Nat) (rlN : Int32) (sz : Nat) : k_Mi (S := Unit) l D yX7_result cX7_result 1 (some .int) 4 0 0 93 [.ref w] [(w, .inr (7, [.ref st, .ref hi, .ref re, .ref fo, .ref bu, .ref pa])), (st, .inr (6, [.ref la, .ref me, .ref li, .int tol, .int su, .int fa])), (me, .inr (4, [.ref meA, .int 0])), (re, .inr (3, [.ref rd, .int nd, .ref rl, .int ldi, .int sot, .int tie, .int ff, .int ft])), (rd, .inr (4, [.ref rdA, .int rdN])), (rl, .inr (4, [.ref rlA, .int rlN]))] [] (fun (r : Int32) (_ : Unit) => r = 1) (fun _ => [(w, .inr (7, [.ref st, .ref hi, .ref re, .ref fo, .ref bu, .ref pa])), (st, .inr (6, [.ref la, .ref me, .ref li, .int tol, .int su, .int fa])), (me, .inr (4, [.ref meA, .int 0])), (re, .inr (3, [.ref rd, .int nd, .ref rl, .int ldi, .int sot, .int tie, .int 0, .int 0])), (rd, .inr (4, [.ref rdA, .int 0])), (rl, .inr (4, [.ref rlA, .int 0]))]) (fun _ => []) sz := by
  refine Met.ofW (cc := cX7_result) (maxL := 1) (ret := (some .int)) (by decide) rfl ?_
  intro p e s m args below meth c s₁ B hml hv
  obtain ⟨rfl, hsz, hP, hK, hD0, hG⟩ := hv
  have hx := B.exec
  have hb := B.bytes
  have hr := B.returns
  have ht : ∀ v9 ∈ wsA, v9.before ([.ref w] : List Value).toArray s = true := fun v9 h9 => atoms_spec (ws := k_ws yX7_result cX7_result 1 (some .int)) B.pre v9 (List.mem_cons_of_mem _ h9)
  have hown : s.vm.findClass RX7 = some m.cls := findClass_of_methodNamed B.named
  have S0 : k_C p s m ([.ref w] : List Value).toArray c cX7_result 1 RX7 := ⟨hx, hb, hml, hown, ht⟩
  have hlocks := B.notSynchronized
  subst hsz
  have hD := hD0.self (sz := s.heap.size)
  generalize hAe : va_A [(w, .inr (7, [.ref st, .ref hi, .ref re, .ref fo, .ref bu, .ref pa])), (st, .inr (6, [.ref la, .ref me, .ref li, .int tol, .int su, .int fa])), (me, .inr (4, [.ref meA, .int 0])), (re, .inr (3, [.ref rd, .int nd, .ref rl, .int ldi, .int sot, .int tie, .int ff, .int ft])), (rd, .inr (4, [.ref rdA, .int rdN])), (rl, .inr (4, [.ref rlA, .int rlN]))] s.heap.size = A at hD hG ⊢
  have hA : ∀ q : Nat, s.heap.size ≤ q → A q := fun q h => by rw [← hAe]; exact Or.inr h
  have hS : va_S A s.heap s.heap [] := va_S.rf
  have hl := lv_entry ([.ref w]) (n := 1) (Nat.le_of_ble_eq_true rfl)
  rw [lg_entry_eq]
  generalize (lg_sl ([.ref w]) ++ List.replicate (1 - (lg_sl ([.ref w])).length) Slot.unset).toArray = ls at hl ⊢
  have hl : lv_has ls 1 [(0, .ref w)] := hl
  have hP : va_P D vwCl [(w, .inr (7, [.ref st, .ref hi, .ref re, .ref fo, .ref bu, .ref pa])), (st, .inr (6, [.ref la, .ref me, .ref li, .int tol, .int su, .int fa])), (me, .inr (4, [.ref meA, .int 0])), (re, .inr (3, [.ref rd, .int nd, .ref rl, .int ldi, .int sot, .int tie, .int ff, .int ft])), (rd, .inr (4, [.ref rdA, .int rdN])), (rl, .inr (4, [.ref rlA, .int rlN]))] s.heap := hP
  refine lv_aload_n hx hb dX7_result_0 rfl (lv_at hl 0 rfl) ?_
  refine va_get (D := D) (ci := 7) (v := .ref re) (C := RX7) (T := TX7) (N := 6) hx hb ht inA_X7 hown hK hP 0 rfl rfl 2 (by decide) (ht _ lf_X7_26) (fun _ h9 => h9) rfl dX7_result_1 ?_
  refine lv_aload_n hx hb dX7_result_4 rfl (lv_at hl 0 rfl) ?_
  refine va_get (D := D) (ci := 7) (v := .ref st) (C := RX7) (T := TX7) (N := 6) hx hb ht inA_X7 hown hK hP 0 rfl rfl 0 (by decide) (ht _ lf_X7_10) (fun _ h9 => h9) rfl dX7_result_5 ?_
  refine va_get (D := D) (ci := 6) (v := .ref me) (C := RX6) (T := TX6) (N := 6) hx hb ht inA_X6 hown hK hP 1 rfl rfl 1 (by decide) (ht _ lf_X7_112) (fun _ h9 => h9) rfl dX7_result_8 ?_
  refine lv_aload_n hx hb dX7_result_11 rfl (lv_at hl 0 rfl) ?_
  refine va_get (D := D) (ci := 7) (v := .ref st) (C := RX7) (T := TX7) (N := 6) hx hb ht inA_X7 hown hK hP 0 rfl rfl 0 (by decide) (ht _ lf_X7_10) (fun _ h9 => h9) rfl dX7_result_12 ?_
  refine va_get (D := D) (ci := 6) (v := .int tol) (C := RX6) (T := TX6) (N := 6) hx hb ht inA_X6 hown hK hP 1 rfl rfl 3 (by decide) (ht _ lf_X7_144) (fun _ h9 => h9) rfl dX7_result_15 ?_
  have ct := k_cut_of (wc := [(re, .inr (3, [.ref rd, .int nd, .ref rl, .int ldi, .int sot, .int tie, .int ff, .int ft])), (rd, .inr (4, [.ref rdA, .int rdN])), (rl, .inr (4, [.ref rlA, .int rlN])), (me, .inr (4, [.ref meA, .int 0]))]) (wr := [(w, .inr (7, [.ref st, .ref hi, .ref re, .ref fo, .ref bu, .ref pa])), (st, .inr (6, [.ref la, .ref me, .ref li, .int tol, .int su, .int fa]))]) (tc := []) hG hS hA hK hP hD [3, 4, 5, 2] [0, 1] [] rfl rfl (by decide) (by decide) (by decide) rfl
  refine k_endi (As := [.ref re, .ref me, .int tol]) ct (k_runV (As := [.ref me, .int tol]) (rest := []) S0 Lv_X7_148 rfl (ci := 3) (q0 := 0) rfl rfl ct (c_resultOf0 l D re rd nd rl ldi sot tie ff ft rdA rdN rlA rlN me meA tol s.heap.size) hl.1 rfl (Nat.le_of_ble_eq_true rfl) rfl dX7_result_18 ⟨⟨Nat.le_of_ble_eq_true rfl, Nat.le_of_ble_eq_true rfl⟩, Nat.le_of_ble_eq_true rfl, Nat.le_of_ble_eq_true rfl⟩) rfl rfl (fun r_1 _ H locs hw_2 hP hD hK hS => ?_)
  have hK : va_K D vwCl [] s := hK
  have hP : va_P D vwCl [(w, .inr (7, [.ref st, .ref hi, .ref re, .ref fo, .ref bu, .ref pa])), (st, .inr (6, [.ref la, .ref me, .ref li, .int tol, .int su, .int fa])), (re, .inr (3, [.ref rd, .int nd, .ref rl, .int ldi, .int sot, .int tie, .int 0, .int 0])), (rd, .inr (4, [.ref rdA, .int 0])), (rl, .inr (4, [.ref rlA, .int 0])), (me, .inr (4, [.ref meA, .int 0]))] H := hP
  have hD : va_D A [(w, .inr (7, [.ref st, .ref hi, .ref re, .ref fo, .ref bu, .ref pa])), (st, .inr (6, [.ref la, .ref me, .ref li, .int tol, .int su, .int fa])), (re, .inr (3, [.ref rd, .int nd, .ref rl, .int ldi, .int sot, .int tie, .int 0, .int 0])), (rd, .inr (4, [.ref rdA, .int 0])), (rl, .inr (4, [.ref rlA, .int 0])), (me, .inr (4, [.ref meA, .int 0]))] := hD
  have hw_2 : r_1 = 1 := hw_2
  have hw_2 := hw_2.symm
  subst hw_2
  refine k_nrm (y := 1) rfl ?_
  have hP9 : va_P D vwCl [(w, .inr (7, [.ref st, .ref hi, .ref re, .ref fo, .ref bu, .ref pa])), (st, .inr (6, [.ref la, .ref me, .ref li, .int tol, .int su, .int fa])), (me, .inr (4, [.ref meA, .int 0])), (re, .inr (3, [.ref rd, .int nd, .ref rl, .int ldi, .int sot, .int tie, .int 0, .int 0])), (rd, .inr (4, [.ref rdA, .int 0])), (rl, .inr (4, [.ref rlA, .int 0]))] H := hP.sub [0, 1, 5, 2, 3, 4] rfl
  have hD9 : va_D A [(w, .inr (7, [.ref st, .ref hi, .ref re, .ref fo, .ref bu, .ref pa])), (st, .inr (6, [.ref la, .ref me, .ref li, .int tol, .int su, .int fa])), (me, .inr (4, [.ref meA, .int 0])), (re, .inr (3, [.ref rd, .int nd, .ref rl, .int ldi, .int sot, .int tie, .int 0, .int 0])), (rd, .inr (4, [.ref rdA, .int 0])), (rl, .inr (4, [.ref rlA, .int 0]))] := hD.sub [0, 1, 5, 2, 3, 4] (by decide) rfl
  have hK9 : va_K D vwCl [] s := hK.sub [] rfl
  exact W.iret (v := 1) hx hb hr (fun t ht9 hW9 => ⟨⟨1, (), rfl, by first | rfl | trivial | (simp only [if_true, if_false, reduceIte, and_self]; done) | simp_all, ⟨by rw [ht9]; exact hP9, va_K.moved hW9.alike hK9, hD9⟩⟩, hS.F ht9⟩) hS.2.2 dX7_result_21
set_option maxHeartbeats 4000000 in
set_option maxRecDepth 100000 in
theorem c_W_reason (l : Launch) (D : va_G) (w : Nat) (st : Nat) (hi : Nat) (re : Nat) (fo : Nat) (bu : Nat) (pa : Nat) (la : Nat) (me : Nat) (li : Nat) (tol : Int32) (su : Int32) (fa : Int32) (meA : Nat) (rd : Nat) (nd : Int32) (rl : Nat) (ldi : Int32) (sot : Int32) (tie : Int32) (ff : Int32) (ft : Int32) (rdA : Nat) (rdN : Int32) (rlA : Nat) (rlN : Int32) (b : Int32) (sz : Nat) : k_Mi (S := Unit) l D yX7_reason cX7_reason 2 (some .int) 3 0 0 69 [.ref w, .int b] [(w, .inr (7, [.ref st, .ref hi, .ref re, .ref fo, .ref bu, .ref pa])), (st, .inr (6, [.ref la, .ref me, .ref li, .int tol, .int su, .int fa])), (me, .inr (4, [.ref meA, .int 0])), (re, .inr (3, [.ref rd, .int nd, .ref rl, .int ldi, .int sot, .int tie, .int ff, .int ft])), (rd, .inr (4, [.ref rdA, .int rdN])), (rl, .inr (4, [.ref rlA, .int rlN]))] [] (fun (r : Int32) (_ : Unit) => r = 1) (fun _ => [(w, .inr (7, [.ref st, .ref hi, .ref re, .ref fo, .ref bu, .ref pa])), (st, .inr (6, [.ref la, .ref me, .ref li, .int tol, .int su, .int fa])), (me, .inr (4, [.ref meA, .int 0])), (re, .inr (3, [.ref rd, .int nd, .ref rl, .int ldi, .int sot, .int tie, .int 0, .int 0])), (rd, .inr (4, [.ref rdA, .int 0])), (rl, .inr (4, [.ref rlA, .int 0]))]) (fun _ => []) sz := by
  refine Met.ofW (cc := cX7_reason) (maxL := 2) (ret := (some .int)) (by decide) rfl ?_
  intro p e s m args below meth c s₁ B hml hv
  obtain ⟨rfl, hsz, hP, hK, hD0, hG⟩ := hv
  have hx := B.exec
  have hb := B.bytes
  have hr := B.returns
  have ht : ∀ v9 ∈ wsA, v9.before ([.ref w, .int b] : List Value).toArray s = true := fun v9 h9 => atoms_spec (ws := k_ws yX7_reason cX7_reason 2 (some .int)) B.pre v9 (List.mem_cons_of_mem _ h9)
  have hown : s.vm.findClass RX7 = some m.cls := findClass_of_methodNamed B.named
  have S0 : k_C p s m ([.ref w, .int b] : List Value).toArray c cX7_reason 2 RX7 := ⟨hx, hb, hml, hown, ht⟩
  have hlocks := B.notSynchronized
  subst hsz
  have hD := hD0.self (sz := s.heap.size)
  generalize hAe : va_A [(w, .inr (7, [.ref st, .ref hi, .ref re, .ref fo, .ref bu, .ref pa])), (st, .inr (6, [.ref la, .ref me, .ref li, .int tol, .int su, .int fa])), (me, .inr (4, [.ref meA, .int 0])), (re, .inr (3, [.ref rd, .int nd, .ref rl, .int ldi, .int sot, .int tie, .int ff, .int ft])), (rd, .inr (4, [.ref rdA, .int rdN])), (rl, .inr (4, [.ref rlA, .int rlN]))] s.heap.size = A at hD hG ⊢
  have hA : ∀ q : Nat, s.heap.size ≤ q → A q := fun q h => by rw [← hAe]; exact Or.inr h
  have hS : va_S A s.heap s.heap [] := va_S.rf
  have hl := lv_entry ([.ref w, .int b]) (n := 2) (Nat.le_of_ble_eq_true rfl)
  rw [lg_entry_eq]
  generalize (lg_sl ([.ref w, .int b]) ++ List.replicate (2 - (lg_sl ([.ref w, .int b])).length) Slot.unset).toArray = ls at hl ⊢
  have hl : lv_has ls 2 [(0, .ref w), (1, .int b)] := hl
  have hP : va_P D vwCl [(w, .inr (7, [.ref st, .ref hi, .ref re, .ref fo, .ref bu, .ref pa])), (st, .inr (6, [.ref la, .ref me, .ref li, .int tol, .int su, .int fa])), (me, .inr (4, [.ref meA, .int 0])), (re, .inr (3, [.ref rd, .int nd, .ref rl, .int ldi, .int sot, .int tie, .int ff, .int ft])), (rd, .inr (4, [.ref rdA, .int rdN])), (rl, .inr (4, [.ref rlA, .int rlN]))] s.heap := hP
  refine lv_aload_n hx hb dX7_reason_0 rfl (lv_at hl 0 rfl) ?_
  refine va_get (D := D) (ci := 7) (v := .ref re) (C := RX7) (T := TX7) (N := 6) hx hb ht inA_X7 hown hK hP 0 rfl rfl 2 (by decide) (ht _ lf_X7_26) (fun _ h9 => h9) rfl dX7_reason_1 ?_
  refine lv_aload_n hx hb dX7_reason_4 rfl (lv_at hl 0 rfl) ?_
  refine va_get (D := D) (ci := 7) (v := .ref st) (C := RX7) (T := TX7) (N := 6) hx hb ht inA_X7 hown hK hP 0 rfl rfl 0 (by decide) (ht _ lf_X7_10) (fun _ h9 => h9) rfl dX7_reason_5 ?_
  refine va_get (D := D) (ci := 6) (v := .ref me) (C := RX6) (T := TX6) (N := 6) hx hb ht inA_X6 hown hK hP 1 rfl rfl 1 (by decide) (ht _ lf_X7_112) (fun _ h9 => h9) rfl dX7_reason_8 ?_
  refine lv_iload_n hx hb dX7_reason_11 rfl (lv_at hl 1 rfl) ?_
  refine lv_aload_n hx hb dX7_reason_12 rfl (lv_at hl 0 rfl) ?_
  refine va_get (D := D) (ci := 7) (v := .ref st) (C := RX7) (T := TX7) (N := 6) hx hb ht inA_X7 hown hK hP 0 rfl rfl 0 (by decide) (ht _ lf_X7_10) (fun _ h9 => h9) rfl dX7_reason_13 ?_
  refine va_get (D := D) (ci := 6) (v := .int tol) (C := RX6) (T := TX6) (N := 6) hx hb ht inA_X6 hown hK hP 1 rfl rfl 3 (by decide) (ht _ lf_X7_144) (fun _ h9 => h9) rfl dX7_reason_16 ?_
  have ct := k_cut_of (wc := [(re, .inr (3, [.ref rd, .int nd, .ref rl, .int ldi, .int sot, .int tie, .int ff, .int ft])), (rd, .inr (4, [.ref rdA, .int rdN])), (rl, .inr (4, [.ref rlA, .int rlN])), (me, .inr (4, [.ref meA, .int 0]))]) (wr := [(w, .inr (7, [.ref st, .ref hi, .ref re, .ref fo, .ref bu, .ref pa])), (st, .inr (6, [.ref la, .ref me, .ref li, .int tol, .int su, .int fa]))]) (tc := []) hG hS hA hK hP hD [3, 4, 5, 2] [0, 1] [] rfl rfl (by decide) (by decide) (by decide) rfl
  refine k_endi (As := [.ref re, .ref me, .int b, .int tol]) ct (k_runV (As := [.ref me, .int b, .int tol]) (rest := []) S0 Lv_X7_152 rfl (ci := 3) (q0 := 0) rfl rfl ct (c_failureOf0 l D re rd nd rl ldi sot tie ff ft rdA rdN rlA rlN me meA b tol s.heap.size) hl.1 rfl (Nat.le_of_ble_eq_true rfl) rfl dX7_reason_19 ⟨⟨Nat.le_of_ble_eq_true rfl, Nat.le_of_ble_eq_true rfl⟩, Nat.le_of_ble_eq_true rfl, Nat.le_of_ble_eq_true rfl⟩) rfl rfl (fun r_1 _ H locs hw_2 hP hD hK hS => ?_)
  have hK : va_K D vwCl [] s := hK
  have hP : va_P D vwCl [(w, .inr (7, [.ref st, .ref hi, .ref re, .ref fo, .ref bu, .ref pa])), (st, .inr (6, [.ref la, .ref me, .ref li, .int tol, .int su, .int fa])), (re, .inr (3, [.ref rd, .int nd, .ref rl, .int ldi, .int sot, .int tie, .int 0, .int 0])), (rd, .inr (4, [.ref rdA, .int 0])), (rl, .inr (4, [.ref rlA, .int 0])), (me, .inr (4, [.ref meA, .int 0]))] H := hP
  have hD : va_D A [(w, .inr (7, [.ref st, .ref hi, .ref re, .ref fo, .ref bu, .ref pa])), (st, .inr (6, [.ref la, .ref me, .ref li, .int tol, .int su, .int fa])), (re, .inr (3, [.ref rd, .int nd, .ref rl, .int ldi, .int sot, .int tie, .int 0, .int 0])), (rd, .inr (4, [.ref rdA, .int 0])), (rl, .inr (4, [.ref rlA, .int 0])), (me, .inr (4, [.ref meA, .int 0]))] := hD
  have hw_2 : r_1 = 1 := hw_2
  have hw_2 := hw_2.symm
  subst hw_2
  refine k_nrm (y := 1) rfl ?_
  have hP9 : va_P D vwCl [(w, .inr (7, [.ref st, .ref hi, .ref re, .ref fo, .ref bu, .ref pa])), (st, .inr (6, [.ref la, .ref me, .ref li, .int tol, .int su, .int fa])), (me, .inr (4, [.ref meA, .int 0])), (re, .inr (3, [.ref rd, .int nd, .ref rl, .int ldi, .int sot, .int tie, .int 0, .int 0])), (rd, .inr (4, [.ref rdA, .int 0])), (rl, .inr (4, [.ref rlA, .int 0]))] H := hP.sub [0, 1, 5, 2, 3, 4] rfl
  have hD9 : va_D A [(w, .inr (7, [.ref st, .ref hi, .ref re, .ref fo, .ref bu, .ref pa])), (st, .inr (6, [.ref la, .ref me, .ref li, .int tol, .int su, .int fa])), (me, .inr (4, [.ref meA, .int 0])), (re, .inr (3, [.ref rd, .int nd, .ref rl, .int ldi, .int sot, .int tie, .int 0, .int 0])), (rd, .inr (4, [.ref rdA, .int 0])), (rl, .inr (4, [.ref rlA, .int 0]))] := hD.sub [0, 1, 5, 2, 3, 4] (by decide) rfl
  have hK9 : va_K D vwCl [] s := hK.sub [] rfl
  exact W.iret (v := 1) hx hb hr (fun t ht9 hW9 => ⟨⟨1, (), rfl, by first | rfl | trivial | (simp only [if_true, if_false, reduceIte, and_self]; done) | simp_all, ⟨by rw [ht9]; exact hP9, va_K.moved hW9.alike hK9, hD9⟩⟩, hS.F ht9⟩) hS.2.2 dX7_reason_22
set_option maxHeartbeats 4000000 in
set_option maxRecDepth 100000 in
theorem c_W_least (l : Launch) (D : va_G) (w : Nat) (st : Nat) (hi : Nat) (re : Nat) (fo : Nat) (bu : Nat) (pa : Nat) (la : Nat) (me : Nat) (li : Nat) (tol : Int32) (su : Int32) (fa : Int32) (meA : Nat) (rd : Nat) (nd : Int32) (rl : Nat) (ldi : Int32) (sot : Int32) (tie : Int32) (ff : Int32) (ft : Int32) (rdA : Nat) (rdN : Int32) (rlA : Nat) (rlN : Int32) (sz : Nat) : k_Mi (S := Unit) l D yX7_leastTolerance cX7_leastTolerance 2 (some .int) 4 0 0 93 [.ref w] [(w, .inr (7, [.ref st, .ref hi, .ref re, .ref fo, .ref bu, .ref pa])), (st, .inr (6, [.ref la, .ref me, .ref li, .int tol, .int su, .int fa])), (me, .inr (4, [.ref meA, .int 0])), (re, .inr (3, [.ref rd, .int nd, .ref rl, .int ldi, .int sot, .int tie, .int ff, .int ft])), (rd, .inr (4, [.ref rdA, .int rdN])), (rl, .inr (4, [.ref rlA, .int rlN]))] [] (fun (r : Int32) (_ : Unit) => r = (-1)) (fun _ => [(w, .inr (7, [.ref st, .ref hi, .ref re, .ref fo, .ref bu, .ref pa])), (st, .inr (6, [.ref la, .ref me, .ref li, .int tol, .int su, .int fa])), (me, .inr (4, [.ref meA, .int 0])), (re, .inr (3, [.ref rd, .int nd, .ref rl, .int ldi, .int sot, .int tie, .int 0, .int 0])), (rd, .inr (4, [.ref rdA, .int 0])), (rl, .inr (4, [.ref rlA, .int 0]))]) (fun _ => []) sz := by
  refine Met.ofW (cc := cX7_leastTolerance) (maxL := 2) (ret := (some .int)) (by decide) rfl ?_
  intro p e s m args below meth c s₁ B hml hv
  obtain ⟨rfl, hsz, hP, hK, hD0, hG⟩ := hv
  have hx := B.exec
  have hb := B.bytes
  have hr := B.returns
  have ht : ∀ v9 ∈ wsA, v9.before ([.ref w] : List Value).toArray s = true := fun v9 h9 => atoms_spec (ws := k_ws yX7_leastTolerance cX7_leastTolerance 2 (some .int)) B.pre v9 (List.mem_cons_of_mem _ h9)
  have hown : s.vm.findClass RX7 = some m.cls := findClass_of_methodNamed B.named
  have S0 : k_C p s m ([.ref w] : List Value).toArray c cX7_leastTolerance 2 RX7 := ⟨hx, hb, hml, hown, ht⟩
  have hlocks := B.notSynchronized
  subst hsz
  have hD := hD0.self (sz := s.heap.size)
  generalize hAe : va_A [(w, .inr (7, [.ref st, .ref hi, .ref re, .ref fo, .ref bu, .ref pa])), (st, .inr (6, [.ref la, .ref me, .ref li, .int tol, .int su, .int fa])), (me, .inr (4, [.ref meA, .int 0])), (re, .inr (3, [.ref rd, .int nd, .ref rl, .int ldi, .int sot, .int tie, .int ff, .int ft])), (rd, .inr (4, [.ref rdA, .int rdN])), (rl, .inr (4, [.ref rlA, .int rlN]))] s.heap.size = A at hD hG ⊢
  have hA : ∀ q : Nat, s.heap.size ≤ q → A q := fun q h => by rw [← hAe]; exact Or.inr h
  have hS : va_S A s.heap s.heap [] := va_S.rf
  have hl := lv_entry ([.ref w]) (n := 2) (Nat.le_of_ble_eq_true rfl)
  rw [lg_entry_eq]
  generalize (lg_sl ([.ref w]) ++ List.replicate (2 - (lg_sl ([.ref w])).length) Slot.unset).toArray = ls at hl ⊢
  have hl : lv_has ls 2 [(0, .ref w)] := hl
  have hP : va_P D vwCl [(w, .inr (7, [.ref st, .ref hi, .ref re, .ref fo, .ref bu, .ref pa])), (st, .inr (6, [.ref la, .ref me, .ref li, .int tol, .int su, .int fa])), (me, .inr (4, [.ref meA, .int 0])), (re, .inr (3, [.ref rd, .int nd, .ref rl, .int ldi, .int sot, .int tie, .int ff, .int ft])), (rd, .inr (4, [.ref rdA, .int rdN])), (rl, .inr (4, [.ref rlA, .int rlN]))] s.heap := hP
  refine lv_iconst (v := 1) hx hb dX7_leastTolerance_0 (by decide) ?_
  refine lv_istore_n (lv' := [(1, .int 1), (0, .ref w)]) hx hb dX7_leastTolerance_1 rfl hl (by decide) rfl (fun ls hl => ?_)
  refine lv_iload_n hx hb dX7_leastTolerance_2 rfl (lv_at hl 0 rfl) ?_
  refine lv_bipush (v := 8) hx hb dX7_leastTolerance_3 (by decide) ?_
  refine lv_icmp_gt (tgt := 37) hx hb dX7_leastTolerance_5 (by decide) (fun c9 => absurd c9 (by decide)) (fun _ => ?_)
  refine lv_aload_n hx hb dX7_leastTolerance_8 rfl (lv_at hl 1 rfl) ?_
  refine va_get (D := D) (ci := 7) (v := .ref re) (C := RX7) (T := TX7) (N := 6) hx hb ht inA_X7 hown hK hP 0 rfl rfl 2 (by decide) (ht _ lf_X7_26) (fun _ h9 => h9) rfl dX7_leastTolerance_9 ?_
  refine lv_aload_n hx hb dX7_leastTolerance_12 rfl (lv_at hl 1 rfl) ?_
  refine va_get (D := D) (ci := 7) (v := .ref st) (C := RX7) (T := TX7) (N := 6) hx hb ht inA_X7 hown hK hP 0 rfl rfl 0 (by decide) (ht _ lf_X7_10) (fun _ h9 => h9) rfl dX7_leastTolerance_13 ?_
  refine va_get (D := D) (ci := 6) (v := .ref me) (C := RX6) (T := TX6) (N := 6) hx hb ht inA_X6 hown hK hP 1 rfl rfl 1 (by decide) (ht _ lf_X7_112) (fun _ h9 => h9) rfl dX7_leastTolerance_16 ?_
  refine lv_iload_n hx hb dX7_leastTolerance_19 rfl (lv_at hl 0 rfl) ?_
  have ct := k_cut_of (wc := [(re, .inr (3, [.ref rd, .int nd, .ref rl, .int ldi, .int sot, .int tie, .int ff, .int ft])), (rd, .inr (4, [.ref rdA, .int rdN])), (rl, .inr (4, [.ref rlA, .int rlN])), (me, .inr (4, [.ref meA, .int 0]))]) (wr := [(w, .inr (7, [.ref st, .ref hi, .ref re, .ref fo, .ref bu, .ref pa])), (st, .inr (6, [.ref la, .ref me, .ref li, .int tol, .int su, .int fa]))]) (tc := []) hG hS hA hK hP hD [3, 4, 5, 2] [0, 1] [] rfl rfl (by decide) (by decide) (by decide) rfl
  refine k_endi (As := [.ref re, .ref me, .int 1]) ct (k_runV (As := [.ref me, .int 1]) (rest := []) S0 Lv_X7_148 rfl (ci := 3) (q0 := 0) rfl rfl ct (c_resultOf0 l D re rd nd rl ldi sot tie ff ft rdA rdN rlA rlN me meA 1 s.heap.size) hl.1 rfl (Nat.le_of_ble_eq_true rfl) rfl dX7_leastTolerance_20 ⟨⟨Nat.le_of_ble_eq_true rfl, Nat.le_of_ble_eq_true rfl⟩, Nat.le_of_ble_eq_true rfl, Nat.le_of_ble_eq_true rfl⟩) rfl rfl (fun r_1 _ H locs hw_2 hP hD hK hS => ?_)
  have hK : va_K D vwCl [] s := hK
  have hP : va_P D vwCl [(w, .inr (7, [.ref st, .ref hi, .ref re, .ref fo, .ref bu, .ref pa])), (st, .inr (6, [.ref la, .ref me, .ref li, .int tol, .int su, .int fa])), (re, .inr (3, [.ref rd, .int nd, .ref rl, .int ldi, .int sot, .int tie, .int 0, .int 0])), (rd, .inr (4, [.ref rdA, .int 0])), (rl, .inr (4, [.ref rlA, .int 0])), (me, .inr (4, [.ref meA, .int 0]))] H := hP
  have hD : va_D A [(w, .inr (7, [.ref st, .ref hi, .ref re, .ref fo, .ref bu, .ref pa])), (st, .inr (6, [.ref la, .ref me, .ref li, .int tol, .int su, .int fa])), (re, .inr (3, [.ref rd, .int nd, .ref rl, .int ldi, .int sot, .int tie, .int 0, .int 0])), (rd, .inr (4, [.ref rdA, .int 0])), (rl, .inr (4, [.ref rlA, .int 0])), (me, .inr (4, [.ref meA, .int 0]))] := hD
  have hw_2 : r_1 = 1 := hw_2
  have hw_2 := hw_2.symm
  subst hw_2
  refine k_nrm (y := 1) rfl ?_
  have ct := k_cut_of (wc := []) (wr := [(w, .inr (7, [.ref st, .ref hi, .ref re, .ref fo, .ref bu, .ref pa])), (st, .inr (6, [.ref la, .ref me, .ref li, .int tol, .int su, .int fa])), (re, .inr (3, [.ref rd, .int nd, .ref rl, .int ldi, .int sot, .int tie, .int 0, .int 0])), (rd, .inr (4, [.ref rdA, .int 0])), (rl, .inr (4, [.ref rlA, .int 0])), (me, .inr (4, [.ref meA, .int 0]))]) (tc := []) hG hS hA hK hP hD [] [0, 1, 2, 3, 4, 5] [] rfl rfl (by decide) (by decide) (by decide) rfl
  refine k_endi (As := [.int 1]) ct (k_runS (As := [.int 1]) (rest := []) S0 Ls_X7_158 ct (c_hasSucceeded1 l D H.size) hl.1 rfl (Nat.le_of_ble_eq_true rfl) rfl dX7_leastTolerance_23 ⟨⟨Nat.le_of_ble_eq_true rfl, Nat.le_of_ble_eq_true rfl⟩, Nat.le_of_ble_eq_true rfl, Nat.le_of_ble_eq_true rfl⟩) rfl rfl (fun r_3 _ H locs hw_4 hP hD hK hS => ?_)
  have hK : va_K D vwCl [] s := hK
  have hP : va_P D vwCl [(w, .inr (7, [.ref st, .ref hi, .ref re, .ref fo, .ref bu, .ref pa])), (st, .inr (6, [.ref la, .ref me, .ref li, .int tol, .int su, .int fa])), (re, .inr (3, [.ref rd, .int nd, .ref rl, .int ldi, .int sot, .int tie, .int 0, .int 0])), (rd, .inr (4, [.ref rdA, .int 0])), (rl, .inr (4, [.ref rlA, .int 0])), (me, .inr (4, [.ref meA, .int 0]))] H := hP
  have hD : va_D A [(w, .inr (7, [.ref st, .ref hi, .ref re, .ref fo, .ref bu, .ref pa])), (st, .inr (6, [.ref la, .ref me, .ref li, .int tol, .int su, .int fa])), (re, .inr (3, [.ref rd, .int nd, .ref rl, .int ldi, .int sot, .int tie, .int 0, .int 0])), (rd, .inr (4, [.ref rdA, .int 0])), (rl, .inr (4, [.ref rlA, .int 0])), (me, .inr (4, [.ref meA, .int 0]))] := hD
  have hw_4 : r_3 = 0 := hw_4
  have hw_4 := hw_4.symm
  subst hw_4
  refine k_nrm (y := 0) rfl ?_
  refine lv_if_eq (tgt := 31) hx hb dX7_leastTolerance_26 (by decide) (fun _ => ?_) (fun c9 => absurd (by decide) c9)
  refine lv_iinc (v := 2) (lv' := [(1, .int 2), (0, .ref w)]) hx hb dX7_leastTolerance_31 hl (k := 0) rfl (by decide) (by decide) rfl (fun ls hl => ?_)
  refine lv_goto (tgt := 2) hx hb dX7_leastTolerance_34 (by decide) ?_
  refine lv_iload_n hx hb dX7_leastTolerance_2 rfl (lv_at hl 0 rfl) ?_
  refine lv_bipush (v := 8) hx hb dX7_leastTolerance_3 (by decide) ?_
  refine lv_icmp_gt (tgt := 37) hx hb dX7_leastTolerance_5 (by decide) (fun c9 => absurd c9 (by decide)) (fun _ => ?_)
  refine lv_aload_n hx hb dX7_leastTolerance_8 rfl (lv_at hl 1 rfl) ?_
  refine va_get (D := D) (ci := 7) (v := .ref re) (C := RX7) (T := TX7) (N := 6) hx hb ht inA_X7 hown hK hP 0 rfl rfl 2 (by decide) (ht _ lf_X7_26) (fun _ h9 => h9) rfl dX7_leastTolerance_9 ?_
  refine lv_aload_n hx hb dX7_leastTolerance_12 rfl (lv_at hl 1 rfl) ?_
  refine va_get (D := D) (ci := 7) (v := .ref st) (C := RX7) (T := TX7) (N := 6) hx hb ht inA_X7 hown hK hP 0 rfl rfl 0 (by decide) (ht _ lf_X7_10) (fun _ h9 => h9) rfl dX7_leastTolerance_13 ?_
  refine va_get (D := D) (ci := 6) (v := .ref me) (C := RX6) (T := TX6) (N := 6) hx hb ht inA_X6 hown hK hP 1 rfl rfl 1 (by decide) (ht _ lf_X7_112) (fun _ h9 => h9) rfl dX7_leastTolerance_16 ?_
  refine lv_iload_n hx hb dX7_leastTolerance_19 rfl (lv_at hl 0 rfl) ?_
  have ct := k_cut_of (wc := [(re, .inr (3, [.ref rd, .int nd, .ref rl, .int ldi, .int sot, .int tie, .int 0, .int 0])), (rd, .inr (4, [.ref rdA, .int 0])), (rl, .inr (4, [.ref rlA, .int 0])), (me, .inr (4, [.ref meA, .int 0]))]) (wr := [(w, .inr (7, [.ref st, .ref hi, .ref re, .ref fo, .ref bu, .ref pa])), (st, .inr (6, [.ref la, .ref me, .ref li, .int tol, .int su, .int fa]))]) (tc := []) hG hS hA hK hP hD [2, 3, 4, 5] [0, 1] [] rfl rfl (by decide) (by decide) (by decide) rfl
  refine k_endi (As := [.ref re, .ref me, .int 2]) ct (k_runV (As := [.ref me, .int 2]) (rest := []) S0 Lv_X7_148 rfl (ci := 3) (q0 := 0) rfl rfl ct (c_resultOf0 l D re rd nd rl ldi sot tie 0 0 rdA 0 rlA 0 me meA 2 H.size) hl.1 rfl (Nat.le_of_ble_eq_true rfl) rfl dX7_leastTolerance_20 ⟨⟨Nat.le_of_ble_eq_true rfl, Nat.le_of_ble_eq_true rfl⟩, Nat.le_of_ble_eq_true rfl, Nat.le_of_ble_eq_true rfl⟩) rfl rfl (fun r_5 _ H locs hw_6 hP hD hK hS => ?_)
  have hK : va_K D vwCl [] s := hK
  have hP : va_P D vwCl [(w, .inr (7, [.ref st, .ref hi, .ref re, .ref fo, .ref bu, .ref pa])), (st, .inr (6, [.ref la, .ref me, .ref li, .int tol, .int su, .int fa])), (re, .inr (3, [.ref rd, .int nd, .ref rl, .int ldi, .int sot, .int tie, .int 0, .int 0])), (rd, .inr (4, [.ref rdA, .int 0])), (rl, .inr (4, [.ref rlA, .int 0])), (me, .inr (4, [.ref meA, .int 0]))] H := hP
  have hD : va_D A [(w, .inr (7, [.ref st, .ref hi, .ref re, .ref fo, .ref bu, .ref pa])), (st, .inr (6, [.ref la, .ref me, .ref li, .int tol, .int su, .int fa])), (re, .inr (3, [.ref rd, .int nd, .ref rl, .int ldi, .int sot, .int tie, .int 0, .int 0])), (rd, .inr (4, [.ref rdA, .int 0])), (rl, .inr (4, [.ref rlA, .int 0])), (me, .inr (4, [.ref meA, .int 0]))] := hD
  have hw_6 : r_5 = 1 := hw_6
  have hw_6 := hw_6.symm
  subst hw_6
  refine k_nrm (y := 1) rfl ?_
  have ct := k_cut_of (wc := []) (wr := [(w, .inr (7, [.ref st, .ref hi, .ref re, .ref fo, .ref bu, .ref pa])), (st, .inr (6, [.ref la, .ref me, .ref li, .int tol, .int su, .int fa])), (re, .inr (3, [.ref rd, .int nd, .ref rl, .int ldi, .int sot, .int tie, .int 0, .int 0])), (rd, .inr (4, [.ref rdA, .int 0])), (rl, .inr (4, [.ref rlA, .int 0])), (me, .inr (4, [.ref meA, .int 0]))]) (tc := []) hG hS hA hK hP hD [] [0, 1, 2, 3, 4, 5] [] rfl rfl (by decide) (by decide) (by decide) rfl
  refine k_endi (As := [.int 1]) ct (k_runS (As := [.int 1]) (rest := []) S0 Ls_X7_158 ct (c_hasSucceeded1 l D H.size) hl.1 rfl (Nat.le_of_ble_eq_true rfl) rfl dX7_leastTolerance_23 ⟨⟨Nat.le_of_ble_eq_true rfl, Nat.le_of_ble_eq_true rfl⟩, Nat.le_of_ble_eq_true rfl, Nat.le_of_ble_eq_true rfl⟩) rfl rfl (fun r_7 _ H locs hw_8 hP hD hK hS => ?_)
  have hK : va_K D vwCl [] s := hK
  have hP : va_P D vwCl [(w, .inr (7, [.ref st, .ref hi, .ref re, .ref fo, .ref bu, .ref pa])), (st, .inr (6, [.ref la, .ref me, .ref li, .int tol, .int su, .int fa])), (re, .inr (3, [.ref rd, .int nd, .ref rl, .int ldi, .int sot, .int tie, .int 0, .int 0])), (rd, .inr (4, [.ref rdA, .int 0])), (rl, .inr (4, [.ref rlA, .int 0])), (me, .inr (4, [.ref meA, .int 0]))] H := hP
  have hD : va_D A [(w, .inr (7, [.ref st, .ref hi, .ref re, .ref fo, .ref bu, .ref pa])), (st, .inr (6, [.ref la, .ref me, .ref li, .int tol, .int su, .int fa])), (re, .inr (3, [.ref rd, .int nd, .ref rl, .int ldi, .int sot, .int tie, .int 0, .int 0])), (rd, .inr (4, [.ref rdA, .int 0])), (rl, .inr (4, [.ref rlA, .int 0])), (me, .inr (4, [.ref meA, .int 0]))] := hD
  have hw_8 : r_7 = 0 := hw_8
  have hw_8 := hw_8.symm
  subst hw_8
  refine k_nrm (y := 0) rfl ?_
  refine lv_if_eq (tgt := 31) hx hb dX7_leastTolerance_26 (by decide) (fun _ => ?_) (fun c9 => absurd (by decide) c9)
  refine lv_iinc (v := 3) (lv' := [(1, .int 3), (0, .ref w)]) hx hb dX7_leastTolerance_31 hl (k := 0) rfl (by decide) (by decide) rfl (fun ls hl => ?_)
  refine lv_goto (tgt := 2) hx hb dX7_leastTolerance_34 (by decide) ?_
  refine lv_iload_n hx hb dX7_leastTolerance_2 rfl (lv_at hl 0 rfl) ?_
  refine lv_bipush (v := 8) hx hb dX7_leastTolerance_3 (by decide) ?_
  refine lv_icmp_gt (tgt := 37) hx hb dX7_leastTolerance_5 (by decide) (fun c9 => absurd c9 (by decide)) (fun _ => ?_)
  refine lv_aload_n hx hb dX7_leastTolerance_8 rfl (lv_at hl 1 rfl) ?_
  refine va_get (D := D) (ci := 7) (v := .ref re) (C := RX7) (T := TX7) (N := 6) hx hb ht inA_X7 hown hK hP 0 rfl rfl 2 (by decide) (ht _ lf_X7_26) (fun _ h9 => h9) rfl dX7_leastTolerance_9 ?_
  refine lv_aload_n hx hb dX7_leastTolerance_12 rfl (lv_at hl 1 rfl) ?_
  refine va_get (D := D) (ci := 7) (v := .ref st) (C := RX7) (T := TX7) (N := 6) hx hb ht inA_X7 hown hK hP 0 rfl rfl 0 (by decide) (ht _ lf_X7_10) (fun _ h9 => h9) rfl dX7_leastTolerance_13 ?_
  refine va_get (D := D) (ci := 6) (v := .ref me) (C := RX6) (T := TX6) (N := 6) hx hb ht inA_X6 hown hK hP 1 rfl rfl 1 (by decide) (ht _ lf_X7_112) (fun _ h9 => h9) rfl dX7_leastTolerance_16 ?_
  refine lv_iload_n hx hb dX7_leastTolerance_19 rfl (lv_at hl 0 rfl) ?_
  have ct := k_cut_of (wc := [(re, .inr (3, [.ref rd, .int nd, .ref rl, .int ldi, .int sot, .int tie, .int 0, .int 0])), (rd, .inr (4, [.ref rdA, .int 0])), (rl, .inr (4, [.ref rlA, .int 0])), (me, .inr (4, [.ref meA, .int 0]))]) (wr := [(w, .inr (7, [.ref st, .ref hi, .ref re, .ref fo, .ref bu, .ref pa])), (st, .inr (6, [.ref la, .ref me, .ref li, .int tol, .int su, .int fa]))]) (tc := []) hG hS hA hK hP hD [2, 3, 4, 5] [0, 1] [] rfl rfl (by decide) (by decide) (by decide) rfl
  refine k_endi (As := [.ref re, .ref me, .int 3]) ct (k_runV (As := [.ref me, .int 3]) (rest := []) S0 Lv_X7_148 rfl (ci := 3) (q0 := 0) rfl rfl ct (c_resultOf0 l D re rd nd rl ldi sot tie 0 0 rdA 0 rlA 0 me meA 3 H.size) hl.1 rfl (Nat.le_of_ble_eq_true rfl) rfl dX7_leastTolerance_20 ⟨⟨Nat.le_of_ble_eq_true rfl, Nat.le_of_ble_eq_true rfl⟩, Nat.le_of_ble_eq_true rfl, Nat.le_of_ble_eq_true rfl⟩) rfl rfl (fun r_9 _ H locs hw_10 hP hD hK hS => ?_)
  have hK : va_K D vwCl [] s := hK
  have hP : va_P D vwCl [(w, .inr (7, [.ref st, .ref hi, .ref re, .ref fo, .ref bu, .ref pa])), (st, .inr (6, [.ref la, .ref me, .ref li, .int tol, .int su, .int fa])), (re, .inr (3, [.ref rd, .int nd, .ref rl, .int ldi, .int sot, .int tie, .int 0, .int 0])), (rd, .inr (4, [.ref rdA, .int 0])), (rl, .inr (4, [.ref rlA, .int 0])), (me, .inr (4, [.ref meA, .int 0]))] H := hP
  have hD : va_D A [(w, .inr (7, [.ref st, .ref hi, .ref re, .ref fo, .ref bu, .ref pa])), (st, .inr (6, [.ref la, .ref me, .ref li, .int tol, .int su, .int fa])), (re, .inr (3, [.ref rd, .int nd, .ref rl, .int ldi, .int sot, .int tie, .int 0, .int 0])), (rd, .inr (4, [.ref rdA, .int 0])), (rl, .inr (4, [.ref rlA, .int 0])), (me, .inr (4, [.ref meA, .int 0]))] := hD
  have hw_10 : r_9 = 1 := hw_10
  have hw_10 := hw_10.symm
  subst hw_10
  refine k_nrm (y := 1) rfl ?_
  have ct := k_cut_of (wc := []) (wr := [(w, .inr (7, [.ref st, .ref hi, .ref re, .ref fo, .ref bu, .ref pa])), (st, .inr (6, [.ref la, .ref me, .ref li, .int tol, .int su, .int fa])), (re, .inr (3, [.ref rd, .int nd, .ref rl, .int ldi, .int sot, .int tie, .int 0, .int 0])), (rd, .inr (4, [.ref rdA, .int 0])), (rl, .inr (4, [.ref rlA, .int 0])), (me, .inr (4, [.ref meA, .int 0]))]) (tc := []) hG hS hA hK hP hD [] [0, 1, 2, 3, 4, 5] [] rfl rfl (by decide) (by decide) (by decide) rfl
  refine k_endi (As := [.int 1]) ct (k_runS (As := [.int 1]) (rest := []) S0 Ls_X7_158 ct (c_hasSucceeded1 l D H.size) hl.1 rfl (Nat.le_of_ble_eq_true rfl) rfl dX7_leastTolerance_23 ⟨⟨Nat.le_of_ble_eq_true rfl, Nat.le_of_ble_eq_true rfl⟩, Nat.le_of_ble_eq_true rfl, Nat.le_of_ble_eq_true rfl⟩) rfl rfl (fun r_11 _ H locs hw_12 hP hD hK hS => ?_)
  have hK : va_K D vwCl [] s := hK
  have hP : va_P D vwCl [(w, .inr (7, [.ref st, .ref hi, .ref re, .ref fo, .ref bu, .ref pa])), (st, .inr (6, [.ref la, .ref me, .ref li, .int tol, .int su, .int fa])), (re, .inr (3, [.ref rd, .int nd, .ref rl, .int ldi, .int sot, .int tie, .int 0, .int 0])), (rd, .inr (4, [.ref rdA, .int 0])), (rl, .inr (4, [.ref rlA, .int 0])), (me, .inr (4, [.ref meA, .int 0]))] H := hP
  have hD : va_D A [(w, .inr (7, [.ref st, .ref hi, .ref re, .ref fo, .ref bu, .ref pa])), (st, .inr (6, [.ref la, .ref me, .ref li, .int tol, .int su, .int fa])), (re, .inr (3, [.ref rd, .int nd, .ref rl, .int ldi, .int sot, .int tie, .int 0, .int 0])), (rd, .inr (4, [.ref rdA, .int 0])), (rl, .inr (4, [.ref rlA, .int 0])), (me, .inr (4, [.ref meA, .int 0]))] := hD
  have hw_12 : r_11 = 0 := hw_12
  have hw_12 := hw_12.symm
  subst hw_12
  refine k_nrm (y := 0) rfl ?_
  refine lv_if_eq (tgt := 31) hx hb dX7_leastTolerance_26 (by decide) (fun _ => ?_) (fun c9 => absurd (by decide) c9)
  refine lv_iinc (v := 4) (lv' := [(1, .int 4), (0, .ref w)]) hx hb dX7_leastTolerance_31 hl (k := 0) rfl (by decide) (by decide) rfl (fun ls hl => ?_)
  refine lv_goto (tgt := 2) hx hb dX7_leastTolerance_34 (by decide) ?_
  refine lv_iload_n hx hb dX7_leastTolerance_2 rfl (lv_at hl 0 rfl) ?_
  refine lv_bipush (v := 8) hx hb dX7_leastTolerance_3 (by decide) ?_
  refine lv_icmp_gt (tgt := 37) hx hb dX7_leastTolerance_5 (by decide) (fun c9 => absurd c9 (by decide)) (fun _ => ?_)
  refine lv_aload_n hx hb dX7_leastTolerance_8 rfl (lv_at hl 1 rfl) ?_
  refine va_get (D := D) (ci := 7) (v := .ref re) (C := RX7) (T := TX7) (N := 6) hx hb ht inA_X7 hown hK hP 0 rfl rfl 2 (by decide) (ht _ lf_X7_26) (fun _ h9 => h9) rfl dX7_leastTolerance_9 ?_
  refine lv_aload_n hx hb dX7_leastTolerance_12 rfl (lv_at hl 1 rfl) ?_
  refine va_get (D := D) (ci := 7) (v := .ref st) (C := RX7) (T := TX7) (N := 6) hx hb ht inA_X7 hown hK hP 0 rfl rfl 0 (by decide) (ht _ lf_X7_10) (fun _ h9 => h9) rfl dX7_leastTolerance_13 ?_
  refine va_get (D := D) (ci := 6) (v := .ref me) (C := RX6) (T := TX6) (N := 6) hx hb ht inA_X6 hown hK hP 1 rfl rfl 1 (by decide) (ht _ lf_X7_112) (fun _ h9 => h9) rfl dX7_leastTolerance_16 ?_
  refine lv_iload_n hx hb dX7_leastTolerance_19 rfl (lv_at hl 0 rfl) ?_
  have ct := k_cut_of (wc := [(re, .inr (3, [.ref rd, .int nd, .ref rl, .int ldi, .int sot, .int tie, .int 0, .int 0])), (rd, .inr (4, [.ref rdA, .int 0])), (rl, .inr (4, [.ref rlA, .int 0])), (me, .inr (4, [.ref meA, .int 0]))]) (wr := [(w, .inr (7, [.ref st, .ref hi, .ref re, .ref fo, .ref bu, .ref pa])), (st, .inr (6, [.ref la, .ref me, .ref li, .int tol, .int su, .int fa]))]) (tc := []) hG hS hA hK hP hD [2, 3, 4, 5] [0, 1] [] rfl rfl (by decide) (by decide) (by decide) rfl
  refine k_endi (As := [.ref re, .ref me, .int 4]) ct (k_runV (As := [.ref me, .int 4]) (rest := []) S0 Lv_X7_148 rfl (ci := 3) (q0 := 0) rfl rfl ct (c_resultOf0 l D re rd nd rl ldi sot tie 0 0 rdA 0 rlA 0 me meA 4 H.size) hl.1 rfl (Nat.le_of_ble_eq_true rfl) rfl dX7_leastTolerance_20 ⟨⟨Nat.le_of_ble_eq_true rfl, Nat.le_of_ble_eq_true rfl⟩, Nat.le_of_ble_eq_true rfl, Nat.le_of_ble_eq_true rfl⟩) rfl rfl (fun r_13 _ H locs hw_14 hP hD hK hS => ?_)
  have hK : va_K D vwCl [] s := hK
  have hP : va_P D vwCl [(w, .inr (7, [.ref st, .ref hi, .ref re, .ref fo, .ref bu, .ref pa])), (st, .inr (6, [.ref la, .ref me, .ref li, .int tol, .int su, .int fa])), (re, .inr (3, [.ref rd, .int nd, .ref rl, .int ldi, .int sot, .int tie, .int 0, .int 0])), (rd, .inr (4, [.ref rdA, .int 0])), (rl, .inr (4, [.ref rlA, .int 0])), (me, .inr (4, [.ref meA, .int 0]))] H := hP
  have hD : va_D A [(w, .inr (7, [.ref st, .ref hi, .ref re, .ref fo, .ref bu, .ref pa])), (st, .inr (6, [.ref la, .ref me, .ref li, .int tol, .int su, .int fa])), (re, .inr (3, [.ref rd, .int nd, .ref rl, .int ldi, .int sot, .int tie, .int 0, .int 0])), (rd, .inr (4, [.ref rdA, .int 0])), (rl, .inr (4, [.ref rlA, .int 0])), (me, .inr (4, [.ref meA, .int 0]))] := hD
  have hw_14 : r_13 = 1 := hw_14
  have hw_14 := hw_14.symm
  subst hw_14
  refine k_nrm (y := 1) rfl ?_
  have ct := k_cut_of (wc := []) (wr := [(w, .inr (7, [.ref st, .ref hi, .ref re, .ref fo, .ref bu, .ref pa])), (st, .inr (6, [.ref la, .ref me, .ref li, .int tol, .int su, .int fa])), (re, .inr (3, [.ref rd, .int nd, .ref rl, .int ldi, .int sot, .int tie, .int 0, .int 0])), (rd, .inr (4, [.ref rdA, .int 0])), (rl, .inr (4, [.ref rlA, .int 0])), (me, .inr (4, [.ref meA, .int 0]))]) (tc := []) hG hS hA hK hP hD [] [0, 1, 2, 3, 4, 5] [] rfl rfl (by decide) (by decide) (by decide) rfl
  refine k_endi (As := [.int 1]) ct (k_runS (As := [.int 1]) (rest := []) S0 Ls_X7_158 ct (c_hasSucceeded1 l D H.size) hl.1 rfl (Nat.le_of_ble_eq_true rfl) rfl dX7_leastTolerance_23 ⟨⟨Nat.le_of_ble_eq_true rfl, Nat.le_of_ble_eq_true rfl⟩, Nat.le_of_ble_eq_true rfl, Nat.le_of_ble_eq_true rfl⟩) rfl rfl (fun r_15 _ H locs hw_16 hP hD hK hS => ?_)
  have hK : va_K D vwCl [] s := hK
  have hP : va_P D vwCl [(w, .inr (7, [.ref st, .ref hi, .ref re, .ref fo, .ref bu, .ref pa])), (st, .inr (6, [.ref la, .ref me, .ref li, .int tol, .int su, .int fa])), (re, .inr (3, [.ref rd, .int nd, .ref rl, .int ldi, .int sot, .int tie, .int 0, .int 0])), (rd, .inr (4, [.ref rdA, .int 0])), (rl, .inr (4, [.ref rlA, .int 0])), (me, .inr (4, [.ref meA, .int 0]))] H := hP
  have hD : va_D A [(w, .inr (7, [.ref st, .ref hi, .ref re, .ref fo, .ref bu, .ref pa])), (st, .inr (6, [.ref la, .ref me, .ref li, .int tol, .int su, .int fa])), (re, .inr (3, [.ref rd, .int nd, .ref rl, .int ldi, .int sot, .int tie, .int 0, .int 0])), (rd, .inr (4, [.ref rdA, .int 0])), (rl, .inr (4, [.ref rlA, .int 0])), (me, .inr (4, [.ref meA, .int 0]))] := hD
  have hw_16 : r_15 = 0 := hw_16
  have hw_16 := hw_16.symm
  subst hw_16
  refine k_nrm (y := 0) rfl ?_
  refine lv_if_eq (tgt := 31) hx hb dX7_leastTolerance_26 (by decide) (fun _ => ?_) (fun c9 => absurd (by decide) c9)
  refine lv_iinc (v := 5) (lv' := [(1, .int 5), (0, .ref w)]) hx hb dX7_leastTolerance_31 hl (k := 0) rfl (by decide) (by decide) rfl (fun ls hl => ?_)
  refine lv_goto (tgt := 2) hx hb dX7_leastTolerance_34 (by decide) ?_
  refine lv_iload_n hx hb dX7_leastTolerance_2 rfl (lv_at hl 0 rfl) ?_
  refine lv_bipush (v := 8) hx hb dX7_leastTolerance_3 (by decide) ?_
  refine lv_icmp_gt (tgt := 37) hx hb dX7_leastTolerance_5 (by decide) (fun c9 => absurd c9 (by decide)) (fun _ => ?_)
  refine lv_aload_n hx hb dX7_leastTolerance_8 rfl (lv_at hl 1 rfl) ?_
  refine va_get (D := D) (ci := 7) (v := .ref re) (C := RX7) (T := TX7) (N := 6) hx hb ht inA_X7 hown hK hP 0 rfl rfl 2 (by decide) (ht _ lf_X7_26) (fun _ h9 => h9) rfl dX7_leastTolerance_9 ?_
  refine lv_aload_n hx hb dX7_leastTolerance_12 rfl (lv_at hl 1 rfl) ?_
  refine va_get (D := D) (ci := 7) (v := .ref st) (C := RX7) (T := TX7) (N := 6) hx hb ht inA_X7 hown hK hP 0 rfl rfl 0 (by decide) (ht _ lf_X7_10) (fun _ h9 => h9) rfl dX7_leastTolerance_13 ?_
  refine va_get (D := D) (ci := 6) (v := .ref me) (C := RX6) (T := TX6) (N := 6) hx hb ht inA_X6 hown hK hP 1 rfl rfl 1 (by decide) (ht _ lf_X7_112) (fun _ h9 => h9) rfl dX7_leastTolerance_16 ?_
  refine lv_iload_n hx hb dX7_leastTolerance_19 rfl (lv_at hl 0 rfl) ?_
  have ct := k_cut_of (wc := [(re, .inr (3, [.ref rd, .int nd, .ref rl, .int ldi, .int sot, .int tie, .int 0, .int 0])), (rd, .inr (4, [.ref rdA, .int 0])), (rl, .inr (4, [.ref rlA, .int 0])), (me, .inr (4, [.ref meA, .int 0]))]) (wr := [(w, .inr (7, [.ref st, .ref hi, .ref re, .ref fo, .ref bu, .ref pa])), (st, .inr (6, [.ref la, .ref me, .ref li, .int tol, .int su, .int fa]))]) (tc := []) hG hS hA hK hP hD [2, 3, 4, 5] [0, 1] [] rfl rfl (by decide) (by decide) (by decide) rfl
  refine k_endi (As := [.ref re, .ref me, .int 5]) ct (k_runV (As := [.ref me, .int 5]) (rest := []) S0 Lv_X7_148 rfl (ci := 3) (q0 := 0) rfl rfl ct (c_resultOf0 l D re rd nd rl ldi sot tie 0 0 rdA 0 rlA 0 me meA 5 H.size) hl.1 rfl (Nat.le_of_ble_eq_true rfl) rfl dX7_leastTolerance_20 ⟨⟨Nat.le_of_ble_eq_true rfl, Nat.le_of_ble_eq_true rfl⟩, Nat.le_of_ble_eq_true rfl, Nat.le_of_ble_eq_true rfl⟩) rfl rfl (fun r_17 _ H locs hw_18 hP hD hK hS => ?_)
  have hK : va_K D vwCl [] s := hK
  have hP : va_P D vwCl [(w, .inr (7, [.ref st, .ref hi, .ref re, .ref fo, .ref bu, .ref pa])), (st, .inr (6, [.ref la, .ref me, .ref li, .int tol, .int su, .int fa])), (re, .inr (3, [.ref rd, .int nd, .ref rl, .int ldi, .int sot, .int tie, .int 0, .int 0])), (rd, .inr (4, [.ref rdA, .int 0])), (rl, .inr (4, [.ref rlA, .int 0])), (me, .inr (4, [.ref meA, .int 0]))] H := hP
  have hD : va_D A [(w, .inr (7, [.ref st, .ref hi, .ref re, .ref fo, .ref bu, .ref pa])), (st, .inr (6, [.ref la, .ref me, .ref li, .int tol, .int su, .int fa])), (re, .inr (3, [.ref rd, .int nd, .ref rl, .int ldi, .int sot, .int tie, .int 0, .int 0])), (rd, .inr (4, [.ref rdA, .int 0])), (rl, .inr (4, [.ref rlA, .int 0])), (me, .inr (4, [.ref meA, .int 0]))] := hD
  have hw_18 : r_17 = 1 := hw_18
  have hw_18 := hw_18.symm
  subst hw_18
  refine k_nrm (y := 1) rfl ?_
  have ct := k_cut_of (wc := []) (wr := [(w, .inr (7, [.ref st, .ref hi, .ref re, .ref fo, .ref bu, .ref pa])), (st, .inr (6, [.ref la, .ref me, .ref li, .int tol, .int su, .int fa])), (re, .inr (3, [.ref rd, .int nd, .ref rl, .int ldi, .int sot, .int tie, .int 0, .int 0])), (rd, .inr (4, [.ref rdA, .int 0])), (rl, .inr (4, [.ref rlA, .int 0])), (me, .inr (4, [.ref meA, .int 0]))]) (tc := []) hG hS hA hK hP hD [] [0, 1, 2, 3, 4, 5] [] rfl rfl (by decide) (by decide) (by decide) rfl
  refine k_endi (As := [.int 1]) ct (k_runS (As := [.int 1]) (rest := []) S0 Ls_X7_158 ct (c_hasSucceeded1 l D H.size) hl.1 rfl (Nat.le_of_ble_eq_true rfl) rfl dX7_leastTolerance_23 ⟨⟨Nat.le_of_ble_eq_true rfl, Nat.le_of_ble_eq_true rfl⟩, Nat.le_of_ble_eq_true rfl, Nat.le_of_ble_eq_true rfl⟩) rfl rfl (fun r_19 _ H locs hw_20 hP hD hK hS => ?_)
  have hK : va_K D vwCl [] s := hK
  have hP : va_P D vwCl [(w, .inr (7, [.ref st, .ref hi, .ref re, .ref fo, .ref bu, .ref pa])), (st, .inr (6, [.ref la, .ref me, .ref li, .int tol, .int su, .int fa])), (re, .inr (3, [.ref rd, .int nd, .ref rl, .int ldi, .int sot, .int tie, .int 0, .int 0])), (rd, .inr (4, [.ref rdA, .int 0])), (rl, .inr (4, [.ref rlA, .int 0])), (me, .inr (4, [.ref meA, .int 0]))] H := hP
  have hD : va_D A [(w, .inr (7, [.ref st, .ref hi, .ref re, .ref fo, .ref bu, .ref pa])), (st, .inr (6, [.ref la, .ref me, .ref li, .int tol, .int su, .int fa])), (re, .inr (3, [.ref rd, .int nd, .ref rl, .int ldi, .int sot, .int tie, .int 0, .int 0])), (rd, .inr (4, [.ref rdA, .int 0])), (rl, .inr (4, [.ref rlA, .int 0])), (me, .inr (4, [.ref meA, .int 0]))] := hD
  have hw_20 : r_19 = 0 := hw_20
  have hw_20 := hw_20.symm
  subst hw_20
  refine k_nrm (y := 0) rfl ?_
  refine lv_if_eq (tgt := 31) hx hb dX7_leastTolerance_26 (by decide) (fun _ => ?_) (fun c9 => absurd (by decide) c9)
  refine lv_iinc (v := 6) (lv' := [(1, .int 6), (0, .ref w)]) hx hb dX7_leastTolerance_31 hl (k := 0) rfl (by decide) (by decide) rfl (fun ls hl => ?_)
  refine lv_goto (tgt := 2) hx hb dX7_leastTolerance_34 (by decide) ?_
  refine lv_iload_n hx hb dX7_leastTolerance_2 rfl (lv_at hl 0 rfl) ?_
  refine lv_bipush (v := 8) hx hb dX7_leastTolerance_3 (by decide) ?_
  refine lv_icmp_gt (tgt := 37) hx hb dX7_leastTolerance_5 (by decide) (fun c9 => absurd c9 (by decide)) (fun _ => ?_)
  refine lv_aload_n hx hb dX7_leastTolerance_8 rfl (lv_at hl 1 rfl) ?_
  refine va_get (D := D) (ci := 7) (v := .ref re) (C := RX7) (T := TX7) (N := 6) hx hb ht inA_X7 hown hK hP 0 rfl rfl 2 (by decide) (ht _ lf_X7_26) (fun _ h9 => h9) rfl dX7_leastTolerance_9 ?_
  refine lv_aload_n hx hb dX7_leastTolerance_12 rfl (lv_at hl 1 rfl) ?_
  refine va_get (D := D) (ci := 7) (v := .ref st) (C := RX7) (T := TX7) (N := 6) hx hb ht inA_X7 hown hK hP 0 rfl rfl 0 (by decide) (ht _ lf_X7_10) (fun _ h9 => h9) rfl dX7_leastTolerance_13 ?_
  refine va_get (D := D) (ci := 6) (v := .ref me) (C := RX6) (T := TX6) (N := 6) hx hb ht inA_X6 hown hK hP 1 rfl rfl 1 (by decide) (ht _ lf_X7_112) (fun _ h9 => h9) rfl dX7_leastTolerance_16 ?_
  refine lv_iload_n hx hb dX7_leastTolerance_19 rfl (lv_at hl 0 rfl) ?_
  have ct := k_cut_of (wc := [(re, .inr (3, [.ref rd, .int nd, .ref rl, .int ldi, .int sot, .int tie, .int 0, .int 0])), (rd, .inr (4, [.ref rdA, .int 0])), (rl, .inr (4, [.ref rlA, .int 0])), (me, .inr (4, [.ref meA, .int 0]))]) (wr := [(w, .inr (7, [.ref st, .ref hi, .ref re, .ref fo, .ref bu, .ref pa])), (st, .inr (6, [.ref la, .ref me, .ref li, .int tol, .int su, .int fa]))]) (tc := []) hG hS hA hK hP hD [2, 3, 4, 5] [0, 1] [] rfl rfl (by decide) (by decide) (by decide) rfl
  refine k_endi (As := [.ref re, .ref me, .int 6]) ct (k_runV (As := [.ref me, .int 6]) (rest := []) S0 Lv_X7_148 rfl (ci := 3) (q0 := 0) rfl rfl ct (c_resultOf0 l D re rd nd rl ldi sot tie 0 0 rdA 0 rlA 0 me meA 6 H.size) hl.1 rfl (Nat.le_of_ble_eq_true rfl) rfl dX7_leastTolerance_20 ⟨⟨Nat.le_of_ble_eq_true rfl, Nat.le_of_ble_eq_true rfl⟩, Nat.le_of_ble_eq_true rfl, Nat.le_of_ble_eq_true rfl⟩) rfl rfl (fun r_21 _ H locs hw_22 hP hD hK hS => ?_)
  have hK : va_K D vwCl [] s := hK
  have hP : va_P D vwCl [(w, .inr (7, [.ref st, .ref hi, .ref re, .ref fo, .ref bu, .ref pa])), (st, .inr (6, [.ref la, .ref me, .ref li, .int tol, .int su, .int fa])), (re, .inr (3, [.ref rd, .int nd, .ref rl, .int ldi, .int sot, .int tie, .int 0, .int 0])), (rd, .inr (4, [.ref rdA, .int 0])), (rl, .inr (4, [.ref rlA, .int 0])), (me, .inr (4, [.ref meA, .int 0]))] H := hP
  have hD : va_D A [(w, .inr (7, [.ref st, .ref hi, .ref re, .ref fo, .ref bu, .ref pa])), (st, .inr (6, [.ref la, .ref me, .ref li, .int tol, .int su, .int fa])), (re, .inr (3, [.ref rd, .int nd, .ref rl, .int ldi, .int sot, .int tie, .int 0, .int 0])), (rd, .inr (4, [.ref rdA, .int 0])), (rl, .inr (4, [.ref rlA, .int 0])), (me, .inr (4, [.ref meA, .int 0]))] := hD
  have hw_22 : r_21 = 1 := hw_22
  have hw_22 := hw_22.symm
  subst hw_22
  refine k_nrm (y := 1) rfl ?_
  have ct := k_cut_of (wc := []) (wr := [(w, .inr (7, [.ref st, .ref hi, .ref re, .ref fo, .ref bu, .ref pa])), (st, .inr (6, [.ref la, .ref me, .ref li, .int tol, .int su, .int fa])), (re, .inr (3, [.ref rd, .int nd, .ref rl, .int ldi, .int sot, .int tie, .int 0, .int 0])), (rd, .inr (4, [.ref rdA, .int 0])), (rl, .inr (4, [.ref rlA, .int 0])), (me, .inr (4, [.ref meA, .int 0]))]) (tc := []) hG hS hA hK hP hD [] [0, 1, 2, 3, 4, 5] [] rfl rfl (by decide) (by decide) (by decide) rfl
  refine k_endi (As := [.int 1]) ct (k_runS (As := [.int 1]) (rest := []) S0 Ls_X7_158 ct (c_hasSucceeded1 l D H.size) hl.1 rfl (Nat.le_of_ble_eq_true rfl) rfl dX7_leastTolerance_23 ⟨⟨Nat.le_of_ble_eq_true rfl, Nat.le_of_ble_eq_true rfl⟩, Nat.le_of_ble_eq_true rfl, Nat.le_of_ble_eq_true rfl⟩) rfl rfl (fun r_23 _ H locs hw_24 hP hD hK hS => ?_)
  have hK : va_K D vwCl [] s := hK
  have hP : va_P D vwCl [(w, .inr (7, [.ref st, .ref hi, .ref re, .ref fo, .ref bu, .ref pa])), (st, .inr (6, [.ref la, .ref me, .ref li, .int tol, .int su, .int fa])), (re, .inr (3, [.ref rd, .int nd, .ref rl, .int ldi, .int sot, .int tie, .int 0, .int 0])), (rd, .inr (4, [.ref rdA, .int 0])), (rl, .inr (4, [.ref rlA, .int 0])), (me, .inr (4, [.ref meA, .int 0]))] H := hP
  have hD : va_D A [(w, .inr (7, [.ref st, .ref hi, .ref re, .ref fo, .ref bu, .ref pa])), (st, .inr (6, [.ref la, .ref me, .ref li, .int tol, .int su, .int fa])), (re, .inr (3, [.ref rd, .int nd, .ref rl, .int ldi, .int sot, .int tie, .int 0, .int 0])), (rd, .inr (4, [.ref rdA, .int 0])), (rl, .inr (4, [.ref rlA, .int 0])), (me, .inr (4, [.ref meA, .int 0]))] := hD
  have hw_24 : r_23 = 0 := hw_24
  have hw_24 := hw_24.symm
  subst hw_24
  refine k_nrm (y := 0) rfl ?_
  refine lv_if_eq (tgt := 31) hx hb dX7_leastTolerance_26 (by decide) (fun _ => ?_) (fun c9 => absurd (by decide) c9)
  refine lv_iinc (v := 7) (lv' := [(1, .int 7), (0, .ref w)]) hx hb dX7_leastTolerance_31 hl (k := 0) rfl (by decide) (by decide) rfl (fun ls hl => ?_)
  refine lv_goto (tgt := 2) hx hb dX7_leastTolerance_34 (by decide) ?_
  refine lv_iload_n hx hb dX7_leastTolerance_2 rfl (lv_at hl 0 rfl) ?_
  refine lv_bipush (v := 8) hx hb dX7_leastTolerance_3 (by decide) ?_
  refine lv_icmp_gt (tgt := 37) hx hb dX7_leastTolerance_5 (by decide) (fun c9 => absurd c9 (by decide)) (fun _ => ?_)
  refine lv_aload_n hx hb dX7_leastTolerance_8 rfl (lv_at hl 1 rfl) ?_
  refine va_get (D := D) (ci := 7) (v := .ref re) (C := RX7) (T := TX7) (N := 6) hx hb ht inA_X7 hown hK hP 0 rfl rfl 2 (by decide) (ht _ lf_X7_26) (fun _ h9 => h9) rfl dX7_leastTolerance_9 ?_
  refine lv_aload_n hx hb dX7_leastTolerance_12 rfl (lv_at hl 1 rfl) ?_
  refine va_get (D := D) (ci := 7) (v := .ref st) (C := RX7) (T := TX7) (N := 6) hx hb ht inA_X7 hown hK hP 0 rfl rfl 0 (by decide) (ht _ lf_X7_10) (fun _ h9 => h9) rfl dX7_leastTolerance_13 ?_
  refine va_get (D := D) (ci := 6) (v := .ref me) (C := RX6) (T := TX6) (N := 6) hx hb ht inA_X6 hown hK hP 1 rfl rfl 1 (by decide) (ht _ lf_X7_112) (fun _ h9 => h9) rfl dX7_leastTolerance_16 ?_
  refine lv_iload_n hx hb dX7_leastTolerance_19 rfl (lv_at hl 0 rfl) ?_
  have ct := k_cut_of (wc := [(re, .inr (3, [.ref rd, .int nd, .ref rl, .int ldi, .int sot, .int tie, .int 0, .int 0])), (rd, .inr (4, [.ref rdA, .int 0])), (rl, .inr (4, [.ref rlA, .int 0])), (me, .inr (4, [.ref meA, .int 0]))]) (wr := [(w, .inr (7, [.ref st, .ref hi, .ref re, .ref fo, .ref bu, .ref pa])), (st, .inr (6, [.ref la, .ref me, .ref li, .int tol, .int su, .int fa]))]) (tc := []) hG hS hA hK hP hD [2, 3, 4, 5] [0, 1] [] rfl rfl (by decide) (by decide) (by decide) rfl
  refine k_endi (As := [.ref re, .ref me, .int 7]) ct (k_runV (As := [.ref me, .int 7]) (rest := []) S0 Lv_X7_148 rfl (ci := 3) (q0 := 0) rfl rfl ct (c_resultOf0 l D re rd nd rl ldi sot tie 0 0 rdA 0 rlA 0 me meA 7 H.size) hl.1 rfl (Nat.le_of_ble_eq_true rfl) rfl dX7_leastTolerance_20 ⟨⟨Nat.le_of_ble_eq_true rfl, Nat.le_of_ble_eq_true rfl⟩, Nat.le_of_ble_eq_true rfl, Nat.le_of_ble_eq_true rfl⟩) rfl rfl (fun r_25 _ H locs hw_26 hP hD hK hS => ?_)
  have hK : va_K D vwCl [] s := hK
  have hP : va_P D vwCl [(w, .inr (7, [.ref st, .ref hi, .ref re, .ref fo, .ref bu, .ref pa])), (st, .inr (6, [.ref la, .ref me, .ref li, .int tol, .int su, .int fa])), (re, .inr (3, [.ref rd, .int nd, .ref rl, .int ldi, .int sot, .int tie, .int 0, .int 0])), (rd, .inr (4, [.ref rdA, .int 0])), (rl, .inr (4, [.ref rlA, .int 0])), (me, .inr (4, [.ref meA, .int 0]))] H := hP
  have hD : va_D A [(w, .inr (7, [.ref st, .ref hi, .ref re, .ref fo, .ref bu, .ref pa])), (st, .inr (6, [.ref la, .ref me, .ref li, .int tol, .int su, .int fa])), (re, .inr (3, [.ref rd, .int nd, .ref rl, .int ldi, .int sot, .int tie, .int 0, .int 0])), (rd, .inr (4, [.ref rdA, .int 0])), (rl, .inr (4, [.ref rlA, .int 0])), (me, .inr (4, [.ref meA, .int 0]))] := hD
  have hw_26 : r_25 = 1 := hw_26
  have hw_26 := hw_26.symm
  subst hw_26
  refine k_nrm (y := 1) rfl ?_
  have ct := k_cut_of (wc := []) (wr := [(w, .inr (7, [.ref st, .ref hi, .ref re, .ref fo, .ref bu, .ref pa])), (st, .inr (6, [.ref la, .ref me, .ref li, .int tol, .int su, .int fa])), (re, .inr (3, [.ref rd, .int nd, .ref rl, .int ldi, .int sot, .int tie, .int 0, .int 0])), (rd, .inr (4, [.ref rdA, .int 0])), (rl, .inr (4, [.ref rlA, .int 0])), (me, .inr (4, [.ref meA, .int 0]))]) (tc := []) hG hS hA hK hP hD [] [0, 1, 2, 3, 4, 5] [] rfl rfl (by decide) (by decide) (by decide) rfl
  refine k_endi (As := [.int 1]) ct (k_runS (As := [.int 1]) (rest := []) S0 Ls_X7_158 ct (c_hasSucceeded1 l D H.size) hl.1 rfl (Nat.le_of_ble_eq_true rfl) rfl dX7_leastTolerance_23 ⟨⟨Nat.le_of_ble_eq_true rfl, Nat.le_of_ble_eq_true rfl⟩, Nat.le_of_ble_eq_true rfl, Nat.le_of_ble_eq_true rfl⟩) rfl rfl (fun r_27 _ H locs hw_28 hP hD hK hS => ?_)
  have hK : va_K D vwCl [] s := hK
  have hP : va_P D vwCl [(w, .inr (7, [.ref st, .ref hi, .ref re, .ref fo, .ref bu, .ref pa])), (st, .inr (6, [.ref la, .ref me, .ref li, .int tol, .int su, .int fa])), (re, .inr (3, [.ref rd, .int nd, .ref rl, .int ldi, .int sot, .int tie, .int 0, .int 0])), (rd, .inr (4, [.ref rdA, .int 0])), (rl, .inr (4, [.ref rlA, .int 0])), (me, .inr (4, [.ref meA, .int 0]))] H := hP
  have hD : va_D A [(w, .inr (7, [.ref st, .ref hi, .ref re, .ref fo, .ref bu, .ref pa])), (st, .inr (6, [.ref la, .ref me, .ref li, .int tol, .int su, .int fa])), (re, .inr (3, [.ref rd, .int nd, .ref rl, .int ldi, .int sot, .int tie, .int 0, .int 0])), (rd, .inr (4, [.ref rdA, .int 0])), (rl, .inr (4, [.ref rlA, .int 0])), (me, .inr (4, [.ref meA, .int 0]))] := hD
  have hw_28 : r_27 = 0 := hw_28
  have hw_28 := hw_28.symm
  subst hw_28
  refine k_nrm (y := 0) rfl ?_
  refine lv_if_eq (tgt := 31) hx hb dX7_leastTolerance_26 (by decide) (fun _ => ?_) (fun c9 => absurd (by decide) c9)
  refine lv_iinc (v := 8) (lv' := [(1, .int 8), (0, .ref w)]) hx hb dX7_leastTolerance_31 hl (k := 0) rfl (by decide) (by decide) rfl (fun ls hl => ?_)
  refine lv_goto (tgt := 2) hx hb dX7_leastTolerance_34 (by decide) ?_
  refine lv_iload_n hx hb dX7_leastTolerance_2 rfl (lv_at hl 0 rfl) ?_
  refine lv_bipush (v := 8) hx hb dX7_leastTolerance_3 (by decide) ?_
  refine lv_icmp_gt (tgt := 37) hx hb dX7_leastTolerance_5 (by decide) (fun c9 => absurd c9 (by decide)) (fun _ => ?_)
  refine lv_aload_n hx hb dX7_leastTolerance_8 rfl (lv_at hl 1 rfl) ?_
  refine va_get (D := D) (ci := 7) (v := .ref re) (C := RX7) (T := TX7) (N := 6) hx hb ht inA_X7 hown hK hP 0 rfl rfl 2 (by decide) (ht _ lf_X7_26) (fun _ h9 => h9) rfl dX7_leastTolerance_9 ?_
  refine lv_aload_n hx hb dX7_leastTolerance_12 rfl (lv_at hl 1 rfl) ?_
  refine va_get (D := D) (ci := 7) (v := .ref st) (C := RX7) (T := TX7) (N := 6) hx hb ht inA_X7 hown hK hP 0 rfl rfl 0 (by decide) (ht _ lf_X7_10) (fun _ h9 => h9) rfl dX7_leastTolerance_13 ?_
  refine va_get (D := D) (ci := 6) (v := .ref me) (C := RX6) (T := TX6) (N := 6) hx hb ht inA_X6 hown hK hP 1 rfl rfl 1 (by decide) (ht _ lf_X7_112) (fun _ h9 => h9) rfl dX7_leastTolerance_16 ?_
  refine lv_iload_n hx hb dX7_leastTolerance_19 rfl (lv_at hl 0 rfl) ?_
  have ct := k_cut_of (wc := [(re, .inr (3, [.ref rd, .int nd, .ref rl, .int ldi, .int sot, .int tie, .int 0, .int 0])), (rd, .inr (4, [.ref rdA, .int 0])), (rl, .inr (4, [.ref rlA, .int 0])), (me, .inr (4, [.ref meA, .int 0]))]) (wr := [(w, .inr (7, [.ref st, .ref hi, .ref re, .ref fo, .ref bu, .ref pa])), (st, .inr (6, [.ref la, .ref me, .ref li, .int tol, .int su, .int fa]))]) (tc := []) hG hS hA hK hP hD [2, 3, 4, 5] [0, 1] [] rfl rfl (by decide) (by decide) (by decide) rfl
  refine k_endi (As := [.ref re, .ref me, .int 8]) ct (k_runV (As := [.ref me, .int 8]) (rest := []) S0 Lv_X7_148 rfl (ci := 3) (q0 := 0) rfl rfl ct (c_resultOf0 l D re rd nd rl ldi sot tie 0 0 rdA 0 rlA 0 me meA 8 H.size) hl.1 rfl (Nat.le_of_ble_eq_true rfl) rfl dX7_leastTolerance_20 ⟨⟨Nat.le_of_ble_eq_true rfl, Nat.le_of_ble_eq_true rfl⟩, Nat.le_of_ble_eq_true rfl, Nat.le_of_ble_eq_true rfl⟩) rfl rfl (fun r_29 _ H locs hw_30 hP hD hK hS => ?_)
  have hK : va_K D vwCl [] s := hK
  have hP : va_P D vwCl [(w, .inr (7, [.ref st, .ref hi, .ref re, .ref fo, .ref bu, .ref pa])), (st, .inr (6, [.ref la, .ref me, .ref li, .int tol, .int su, .int fa])), (re, .inr (3, [.ref rd, .int nd, .ref rl, .int ldi, .int sot, .int tie, .int 0, .int 0])), (rd, .inr (4, [.ref rdA, .int 0])), (rl, .inr (4, [.ref rlA, .int 0])), (me, .inr (4, [.ref meA, .int 0]))] H := hP
  have hD : va_D A [(w, .inr (7, [.ref st, .ref hi, .ref re, .ref fo, .ref bu, .ref pa])), (st, .inr (6, [.ref la, .ref me, .ref li, .int tol, .int su, .int fa])), (re, .inr (3, [.ref rd, .int nd, .ref rl, .int ldi, .int sot, .int tie, .int 0, .int 0])), (rd, .inr (4, [.ref rdA, .int 0])), (rl, .inr (4, [.ref rlA, .int 0])), (me, .inr (4, [.ref meA, .int 0]))] := hD
  have hw_30 : r_29 = 1 := hw_30
  have hw_30 := hw_30.symm
  subst hw_30
  refine k_nrm (y := 1) rfl ?_
  have ct := k_cut_of (wc := []) (wr := [(w, .inr (7, [.ref st, .ref hi, .ref re, .ref fo, .ref bu, .ref pa])), (st, .inr (6, [.ref la, .ref me, .ref li, .int tol, .int su, .int fa])), (re, .inr (3, [.ref rd, .int nd, .ref rl, .int ldi, .int sot, .int tie, .int 0, .int 0])), (rd, .inr (4, [.ref rdA, .int 0])), (rl, .inr (4, [.ref rlA, .int 0])), (me, .inr (4, [.ref meA, .int 0]))]) (tc := []) hG hS hA hK hP hD [] [0, 1, 2, 3, 4, 5] [] rfl rfl (by decide) (by decide) (by decide) rfl
  refine k_endi (As := [.int 1]) ct (k_runS (As := [.int 1]) (rest := []) S0 Ls_X7_158 ct (c_hasSucceeded1 l D H.size) hl.1 rfl (Nat.le_of_ble_eq_true rfl) rfl dX7_leastTolerance_23 ⟨⟨Nat.le_of_ble_eq_true rfl, Nat.le_of_ble_eq_true rfl⟩, Nat.le_of_ble_eq_true rfl, Nat.le_of_ble_eq_true rfl⟩) rfl rfl (fun r_31 _ H locs hw_32 hP hD hK hS => ?_)
  have hK : va_K D vwCl [] s := hK
  have hP : va_P D vwCl [(w, .inr (7, [.ref st, .ref hi, .ref re, .ref fo, .ref bu, .ref pa])), (st, .inr (6, [.ref la, .ref me, .ref li, .int tol, .int su, .int fa])), (re, .inr (3, [.ref rd, .int nd, .ref rl, .int ldi, .int sot, .int tie, .int 0, .int 0])), (rd, .inr (4, [.ref rdA, .int 0])), (rl, .inr (4, [.ref rlA, .int 0])), (me, .inr (4, [.ref meA, .int 0]))] H := hP
  have hD : va_D A [(w, .inr (7, [.ref st, .ref hi, .ref re, .ref fo, .ref bu, .ref pa])), (st, .inr (6, [.ref la, .ref me, .ref li, .int tol, .int su, .int fa])), (re, .inr (3, [.ref rd, .int nd, .ref rl, .int ldi, .int sot, .int tie, .int 0, .int 0])), (rd, .inr (4, [.ref rdA, .int 0])), (rl, .inr (4, [.ref rlA, .int 0])), (me, .inr (4, [.ref meA, .int 0]))] := hD
  have hw_32 : r_31 = 0 := hw_32
  have hw_32 := hw_32.symm
  subst hw_32
  refine k_nrm (y := 0) rfl ?_
  refine lv_if_eq (tgt := 31) hx hb dX7_leastTolerance_26 (by decide) (fun _ => ?_) (fun c9 => absurd (by decide) c9)
  refine lv_iinc (v := 9) (lv' := [(1, .int 9), (0, .ref w)]) hx hb dX7_leastTolerance_31 hl (k := 0) rfl (by decide) (by decide) rfl (fun ls hl => ?_)
  refine lv_goto (tgt := 2) hx hb dX7_leastTolerance_34 (by decide) ?_
  refine lv_iload_n hx hb dX7_leastTolerance_2 rfl (lv_at hl 0 rfl) ?_
  refine lv_bipush (v := 8) hx hb dX7_leastTolerance_3 (by decide) ?_
  refine lv_icmp_gt (tgt := 37) hx hb dX7_leastTolerance_5 (by decide) (fun _ => ?_) (fun c9 => absurd (by decide) c9)
  refine lv_iconst (v := (-1)) hx hb dX7_leastTolerance_37 (by decide) ?_
  have hP9 : va_P D vwCl [(w, .inr (7, [.ref st, .ref hi, .ref re, .ref fo, .ref bu, .ref pa])), (st, .inr (6, [.ref la, .ref me, .ref li, .int tol, .int su, .int fa])), (me, .inr (4, [.ref meA, .int 0])), (re, .inr (3, [.ref rd, .int nd, .ref rl, .int ldi, .int sot, .int tie, .int 0, .int 0])), (rd, .inr (4, [.ref rdA, .int 0])), (rl, .inr (4, [.ref rlA, .int 0]))] H := hP.sub [0, 1, 5, 2, 3, 4] rfl
  have hD9 : va_D A [(w, .inr (7, [.ref st, .ref hi, .ref re, .ref fo, .ref bu, .ref pa])), (st, .inr (6, [.ref la, .ref me, .ref li, .int tol, .int su, .int fa])), (me, .inr (4, [.ref meA, .int 0])), (re, .inr (3, [.ref rd, .int nd, .ref rl, .int ldi, .int sot, .int tie, .int 0, .int 0])), (rd, .inr (4, [.ref rdA, .int 0])), (rl, .inr (4, [.ref rlA, .int 0]))] := hD.sub [0, 1, 5, 2, 3, 4] (by decide) rfl
  have hK9 : va_K D vwCl [] s := hK.sub [] rfl
  exact W.iret (v := (-1)) hx hb hr (fun t ht9 hW9 => ⟨⟨(-1), (), rfl, by first | rfl | trivial | (simp only [if_true, if_false, reduceIte, and_self]; done) | simp_all, ⟨by rw [ht9]; exact hP9, va_K.moved hW9.alike hK9, hD9⟩⟩, hS.F ht9⟩) hS.2.2 dX7_leastTolerance_38
set_option maxHeartbeats 4000000 in
set_option maxRecDepth 100000 in
theorem c_W_clearM (l : Launch) (D : va_G) (w : Nat) (st : Nat) (hi : Nat) (re : Nat) (fo : Nat) (bu : Nat) (pa : Nat) (ri : Nat) (KS : ClassId) (rf : Nat → Option Nat) (zst : Nat) (zla : Nat) (zme : Nat) (zli : Nat) (ztol : Int32) (zsu : Int32) (zfa : Int32) (zld : Nat) (zlz : Nat) (zldA : Nat) (zldN : Int32) (zlzA : Nat) (zlzN : Int32) (zmeA : Nat) (zmeN : Int32) (zln : Nat) (zll : Nat) (zlc : Nat) (zlnA : Nat) (zlnN : Int32) (zllA : Nat) (zllN : Int32) (zlcA : Nat) (zlcN : Int32) (la : Nat) (me : Nat) (li : Nat) (tol : Int32) (su : Int32) (fa : Int32) (ld : Nat) (lz : Nat) (ldA : Nat) (lzA : Nat) (meA : Nat) (ln : Nat) (ll : Nat) (lc : Nat) (lnA : Nat) (llA : Nat) (lcA : Nat) (hrf : rf 0 = some zst) (sz : Nat) : k_Mi (S := Unit) l D yX7_clearMeasurement cX7_clearMeasurement 2 (some .int) 6 0 0 126 [.ref w] [(w, .inr (7, [.ref st, .ref hi, .ref re, .ref fo, .ref bu, .ref pa])), (hi, .inr (5, [.ref ri, .int 0, .int 0])), (ri, .inl (KS, 6, .inr (.inr (.inr (.inr rf))))), (zst, .inr (6, [.ref zla, .ref zme, .ref zli, .int ztol, .int zsu, .int zfa])), (zla, .inr (2, [.ref zld, .ref zlz])), (zld, .inr (4, [.ref zldA, .int zldN])), (zlz, .inr (4, [.ref zlzA, .int zlzN])), (zme, .inr (4, [.ref zmeA, .int zmeN])), (zli, .inr (0, [.ref zln, .ref zll, .ref zlc])), (zln, .inr (4, [.ref zlnA, .int zlnN])), (zll, .inr (4, [.ref zllA, .int zllN])), (zlc, .inr (4, [.ref zlcA, .int zlcN])), (st, .inr (6, [.ref la, .ref me, .ref li, .int tol, .int su, .int fa])), (la, .inr (2, [.ref ld, .ref lz])), (ld, .inr (4, [.ref ldA, .int 0])), (lz, .inr (4, [.ref lzA, .int 0])), (me, .inr (4, [.ref meA, .int 0])), (li, .inr (0, [.ref ln, .ref ll, .ref lc])), (ln, .inr (4, [.ref lnA, .int 0])), (ll, .inr (4, [.ref llA, .int 0])), (lc, .inr (4, [.ref lcA, .int 0]))] [(KS, .object "BarcodeWand$State")] (fun (r : Int32) (_ : Unit) => r = 0) (fun _ => [(w, .inr (7, [.ref st, .ref hi, .ref re, .ref fo, .ref bu, .ref pa])), (hi, .inr (5, [.ref ri, .int 1, .int 1])), (ri, .inl (KS, 6, .inr (.inr (.inr (.inr rf))))), (zst, .inr (6, [.ref zla, .ref zme, .ref zli, .int tol, .int su, .int fa])), (zla, .inr (2, [.ref zld, .ref zlz])), (zld, .inr (4, [.ref zldA, .int 0])), (zlz, .inr (4, [.ref zlzA, .int 0])), (zme, .inr (4, [.ref zmeA, .int 0])), (zli, .inr (0, [.ref zln, .ref zll, .ref zlc])), (zln, .inr (4, [.ref zlnA, .int 0])), (zll, .inr (4, [.ref zllA, .int 0])), (zlc, .inr (4, [.ref zlcA, .int 0])), (st, .inr (6, [.ref la, .ref me, .ref li, .int tol, .int su, .int fa])), (la, .inr (2, [.ref ld, .ref lz])), (ld, .inr (4, [.ref ldA, .int 0])), (lz, .inr (4, [.ref lzA, .int 0])), (me, .inr (4, [.ref meA, .int 0])), (li, .inr (0, [.ref ln, .ref ll, .ref lc])), (ln, .inr (4, [.ref lnA, .int 0])), (ll, .inr (4, [.ref llA, .int 0])), (lc, .inr (4, [.ref lcA, .int 0]))]) (fun _ => []) sz := by
  refine Met.ofW (cc := cX7_clearMeasurement) (maxL := 2) (ret := (some .int)) (by decide) rfl ?_
  intro p e s m args below meth c s₁ B hml hv
  obtain ⟨rfl, hsz, hP, hK, hD0, hG⟩ := hv
  have hx := B.exec
  have hb := B.bytes
  have hr := B.returns
  have ht : ∀ v9 ∈ wsA, v9.before ([.ref w] : List Value).toArray s = true := fun v9 h9 => atoms_spec (ws := k_ws yX7_clearMeasurement cX7_clearMeasurement 2 (some .int)) B.pre v9 (List.mem_cons_of_mem _ h9)
  have hown : s.vm.findClass RX7 = some m.cls := findClass_of_methodNamed B.named
  have S0 : k_C p s m ([.ref w] : List Value).toArray c cX7_clearMeasurement 2 RX7 := ⟨hx, hb, hml, hown, ht⟩
  have hlocks := B.notSynchronized
  subst hsz
  have hD := hD0.self (sz := s.heap.size)
  generalize hAe : va_A [(w, .inr (7, [.ref st, .ref hi, .ref re, .ref fo, .ref bu, .ref pa])), (hi, .inr (5, [.ref ri, .int 0, .int 0])), (ri, .inl (KS, 6, .inr (.inr (.inr (.inr rf))))), (zst, .inr (6, [.ref zla, .ref zme, .ref zli, .int ztol, .int zsu, .int zfa])), (zla, .inr (2, [.ref zld, .ref zlz])), (zld, .inr (4, [.ref zldA, .int zldN])), (zlz, .inr (4, [.ref zlzA, .int zlzN])), (zme, .inr (4, [.ref zmeA, .int zmeN])), (zli, .inr (0, [.ref zln, .ref zll, .ref zlc])), (zln, .inr (4, [.ref zlnA, .int zlnN])), (zll, .inr (4, [.ref zllA, .int zllN])), (zlc, .inr (4, [.ref zlcA, .int zlcN])), (st, .inr (6, [.ref la, .ref me, .ref li, .int tol, .int su, .int fa])), (la, .inr (2, [.ref ld, .ref lz])), (ld, .inr (4, [.ref ldA, .int 0])), (lz, .inr (4, [.ref lzA, .int 0])), (me, .inr (4, [.ref meA, .int 0])), (li, .inr (0, [.ref ln, .ref ll, .ref lc])), (ln, .inr (4, [.ref lnA, .int 0])), (ll, .inr (4, [.ref llA, .int 0])), (lc, .inr (4, [.ref lcA, .int 0]))] s.heap.size = A at hD hG ⊢
  have hA : ∀ q : Nat, s.heap.size ≤ q → A q := fun q h => by rw [← hAe]; exact Or.inr h
  have hS : va_S A s.heap s.heap [] := va_S.rf
  have hl := lv_entry ([.ref w]) (n := 2) (Nat.le_of_ble_eq_true rfl)
  rw [lg_entry_eq]
  generalize (lg_sl ([.ref w]) ++ List.replicate (2 - (lg_sl ([.ref w])).length) Slot.unset).toArray = ls at hl ⊢
  have hl : lv_has ls 2 [(0, .ref w)] := hl
  have hP : va_P D vwCl [(w, .inr (7, [.ref st, .ref hi, .ref re, .ref fo, .ref bu, .ref pa])), (hi, .inr (5, [.ref ri, .int 0, .int 0])), (ri, .inl (KS, 6, .inr (.inr (.inr (.inr rf))))), (zst, .inr (6, [.ref zla, .ref zme, .ref zli, .int ztol, .int zsu, .int zfa])), (zla, .inr (2, [.ref zld, .ref zlz])), (zld, .inr (4, [.ref zldA, .int zldN])), (zlz, .inr (4, [.ref zlzA, .int zlzN])), (zme, .inr (4, [.ref zmeA, .int zmeN])), (zli, .inr (0, [.ref zln, .ref zll, .ref zlc])), (zln, .inr (4, [.ref zlnA, .int zlnN])), (zll, .inr (4, [.ref zllA, .int zllN])), (zlc, .inr (4, [.ref zlcA, .int zlcN])), (st, .inr (6, [.ref la, .ref me, .ref li, .int tol, .int su, .int fa])), (la, .inr (2, [.ref ld, .ref lz])), (ld, .inr (4, [.ref ldA, .int 0])), (lz, .inr (4, [.ref lzA, .int 0])), (me, .inr (4, [.ref meA, .int 0])), (li, .inr (0, [.ref ln, .ref ll, .ref lc])), (ln, .inr (4, [.ref lnA, .int 0])), (ll, .inr (4, [.ref llA, .int 0])), (lc, .inr (4, [.ref lcA, .int 0]))] s.heap := hP
  refine lv_aload_n hx hb dX7_clearMeasurement_0 rfl (lv_at hl 0 rfl) ?_
  refine va_get (D := D) (ci := 7) (v := .ref hi) (C := RX7) (T := TX7) (N := 6) hx hb ht inA_X7 hown hK hP 0 rfl rfl 1 (by decide) (ht _ lf_X7_19) (fun _ h9 => h9) rfl dX7_clearMeasurement_1 ?_
  refine lv_aload_n hx hb dX7_clearMeasurement_4 rfl (lv_at hl 0 rfl) ?_
  refine va_get (D := D) (ci := 7) (v := .ref st) (C := RX7) (T := TX7) (N := 6) hx hb ht inA_X7 hown hK hP 0 rfl rfl 0 (by decide) (ht _ lf_X7_10) (fun _ h9 => h9) rfl dX7_clearMeasurement_5 ?_
  have ct := k_cut_of (wc := [(hi, .inr (5, [.ref ri, .int 0, .int 0])), (ri, .inl (KS, 6, .inr (.inr (.inr (.inr rf))))), (zst, .inr (6, [.ref zla, .ref zme, .ref zli, .int ztol, .int zsu, .int zfa])), (zla, .inr (2, [.ref zld, .ref zlz])), (zld, .inr (4, [.ref zldA, .int zldN])), (zlz, .inr (4, [.ref zlzA, .int zlzN])), (zme, .inr (4, [.ref zmeA, .int zmeN])), (zli, .inr (0, [.ref zln, .ref zll, .ref zlc])), (zln, .inr (4, [.ref zlnA, .int zlnN])), (zll, .inr (4, [.ref zllA, .int zllN])), (zlc, .inr (4, [.ref zlcA, .int zlcN])), (st, .inr (6, [.ref la, .ref me, .ref li, .int tol, .int su, .int fa])), (la, .inr (2, [.ref ld, .ref lz])), (ld, .inr (4, [.ref ldA, .int 0])), (lz, .inr (4, [.ref lzA, .int 0])), (me, .inr (4, [.ref meA, .int 0])), (li, .inr (0, [.ref ln, .ref ll, .ref lc])), (ln, .inr (4, [.ref lnA, .int 0])), (ll, .inr (4, [.ref llA, .int 0])), (lc, .inr (4, [.ref lcA, .int 0]))]) (wr := [(w, .inr (7, [.ref st, .ref hi, .ref re, .ref fo, .ref bu, .ref pa]))]) (tc := [(KS, .object "BarcodeWand$State")]) hG hS hA hK hP hD [1, 2, 3, 4, 5, 6, 7, 8, 9, 10, 11, 12, 13, 14, 15, 16, 17, 18, 19, 20] [0] [0] rfl rfl (by decide) (by decide) (by decide) rfl
  refine k_endv (As := [.ref hi, .ref st]) ct (k_runV (As := [.ref st]) (rest := []) S0 Lv_X7_62 rfl (ci := 5) (q0 := 0) rfl rfl ct (c_Saved_save0 l D hi ri KS rf zst zla zme zli ztol zsu zfa zld zlz zldA zldN zlzA zlzN zmeA zmeN zln zll zlc zlnA zlnN zllA zllN zlcA zlcN st la me li tol su fa ld lz ldA lzA meA ln ll lc lnA llA lcA (by assumption) s.heap.size) hl.1 rfl (Nat.le_of_ble_eq_true rfl) rfl dX7_clearMeasurement_8 ⟨⟨Nat.le_of_ble_eq_true rfl, Nat.le_of_ble_eq_true rfl⟩, Nat.le_of_ble_eq_true rfl, Nat.le_of_ble_eq_true rfl⟩) rfl rfl (fun _ _ H locs hw_2 hP hD hK hS => ?_)
  have hK : va_K D vwCl [(KS, .object "BarcodeWand$State")] s := hK
  have hP : va_P D vwCl [(w, .inr (7, [.ref st, .ref hi, .ref re, .ref fo, .ref bu, .ref pa])), (hi, .inr (5, [.ref ri, .int 1, .int 1])), (ri, .inl (KS, 6, .inr (.inr (.inr (.inr rf))))), (zst, .inr (6, [.ref zla, .ref zme, .ref zli, .int tol, .int su, .int fa])), (zla, .inr (2, [.ref zld, .ref zlz])), (zld, .inr (4, [.ref zldA, .int 0])), (zlz, .inr (4, [.ref zlzA, .int 0])), (zme, .inr (4, [.ref zmeA, .int 0])), (zli, .inr (0, [.ref zln, .ref zll, .ref zlc])), (zln, .inr (4, [.ref zlnA, .int 0])), (zll, .inr (4, [.ref zllA, .int 0])), (zlc, .inr (4, [.ref zlcA, .int 0])), (st, .inr (6, [.ref la, .ref me, .ref li, .int tol, .int su, .int fa])), (la, .inr (2, [.ref ld, .ref lz])), (ld, .inr (4, [.ref ldA, .int 0])), (lz, .inr (4, [.ref lzA, .int 0])), (me, .inr (4, [.ref meA, .int 0])), (li, .inr (0, [.ref ln, .ref ll, .ref lc])), (ln, .inr (4, [.ref lnA, .int 0])), (ll, .inr (4, [.ref llA, .int 0])), (lc, .inr (4, [.ref lcA, .int 0]))] H := hP
  have hD : va_D A [(w, .inr (7, [.ref st, .ref hi, .ref re, .ref fo, .ref bu, .ref pa])), (hi, .inr (5, [.ref ri, .int 1, .int 1])), (ri, .inl (KS, 6, .inr (.inr (.inr (.inr rf))))), (zst, .inr (6, [.ref zla, .ref zme, .ref zli, .int tol, .int su, .int fa])), (zla, .inr (2, [.ref zld, .ref zlz])), (zld, .inr (4, [.ref zldA, .int 0])), (zlz, .inr (4, [.ref zlzA, .int 0])), (zme, .inr (4, [.ref zmeA, .int 0])), (zli, .inr (0, [.ref zln, .ref zll, .ref zlc])), (zln, .inr (4, [.ref zlnA, .int 0])), (zll, .inr (4, [.ref zllA, .int 0])), (zlc, .inr (4, [.ref zlcA, .int 0])), (st, .inr (6, [.ref la, .ref me, .ref li, .int tol, .int su, .int fa])), (la, .inr (2, [.ref ld, .ref lz])), (ld, .inr (4, [.ref ldA, .int 0])), (lz, .inr (4, [.ref lzA, .int 0])), (me, .inr (4, [.ref meA, .int 0])), (li, .inr (0, [.ref ln, .ref ll, .ref lc])), (ln, .inr (4, [.ref lnA, .int 0])), (ll, .inr (4, [.ref llA, .int 0])), (lc, .inr (4, [.ref lcA, .int 0]))] := hD
  refine lv_aload_n hx hb dX7_clearMeasurement_11 rfl (lv_at hl 0 rfl) ?_
  refine va_get (D := D) (ci := 7) (v := .ref st) (C := RX7) (T := TX7) (N := 6) hx hb ht inA_X7 hown hK hP 0 rfl rfl 0 (by decide) (ht _ lf_X7_10) (fun _ h9 => h9) rfl dX7_clearMeasurement_12 ?_
  refine va_get (D := D) (ci := 6) (v := .ref me) (C := RX6) (T := TX6) (N := 6) hx hb ht inA_X6 hown hK hP 12 rfl rfl 1 (by decide) (ht _ lf_X7_112) (fun _ h9 => h9) rfl dX7_clearMeasurement_15 ?_
  have ct := k_cut_of (wc := [(me, .inr (4, [.ref meA, .int 0]))]) (wr := [(w, .inr (7, [.ref st, .ref hi, .ref re, .ref fo, .ref bu, .ref pa])), (hi, .inr (5, [.ref ri, .int 1, .int 1])), (ri, .inl (KS, 6, .inr (.inr (.inr (.inr rf))))), (zst, .inr (6, [.ref zla, .ref zme, .ref zli, .int tol, .int su, .int fa])), (zla, .inr (2, [.ref zld, .ref zlz])), (zld, .inr (4, [.ref zldA, .int 0])), (zlz, .inr (4, [.ref zlzA, .int 0])), (zme, .inr (4, [.ref zmeA, .int 0])), (zli, .inr (0, [.ref zln, .ref zll, .ref zlc])), (zln, .inr (4, [.ref zlnA, .int 0])), (zll, .inr (4, [.ref zllA, .int 0])), (zlc, .inr (4, [.ref zlcA, .int 0])), (st, .inr (6, [.ref la, .ref me, .ref li, .int tol, .int su, .int fa])), (la, .inr (2, [.ref ld, .ref lz])), (ld, .inr (4, [.ref ldA, .int 0])), (lz, .inr (4, [.ref lzA, .int 0])), (li, .inr (0, [.ref ln, .ref ll, .ref lc])), (ln, .inr (4, [.ref lnA, .int 0])), (ll, .inr (4, [.ref llA, .int 0])), (lc, .inr (4, [.ref lcA, .int 0]))]) (tc := []) hG hS hA hK hP hD [16] [0, 1, 2, 3, 4, 5, 6, 7, 8, 9, 10, 11, 12, 13, 14, 15, 17, 18, 19, 20] [] rfl rfl (by decide) (by decide) (by decide) rfl
  refine k_endi (As := [.ref me]) ct (k_runV (As := []) (rest := []) S0 Lv_X7_136 rfl (ci := 4) (q0 := 0) rfl rfl ct (c_Row_size l D me meA 0 H.size) hl.1 rfl (Nat.le_of_ble_eq_true rfl) rfl dX7_clearMeasurement_18 ⟨⟨Nat.le_of_ble_eq_true rfl, Nat.le_of_ble_eq_true rfl⟩, Nat.le_of_ble_eq_true rfl, Nat.le_of_ble_eq_true rfl⟩) rfl rfl (fun r_3 _ H locs hw_4 hP hD hK hS => ?_)
  have hK : va_K D vwCl [(KS, .object "BarcodeWand$State")] s := hK
  have hP : va_P D vwCl [(w, .inr (7, [.ref st, .ref hi, .ref re, .ref fo, .ref bu, .ref pa])), (hi, .inr (5, [.ref ri, .int 1, .int 1])), (ri, .inl (KS, 6, .inr (.inr (.inr (.inr rf))))), (zst, .inr (6, [.ref zla, .ref zme, .ref zli, .int tol, .int su, .int fa])), (zla, .inr (2, [.ref zld, .ref zlz])), (zld, .inr (4, [.ref zldA, .int 0])), (zlz, .inr (4, [.ref zlzA, .int 0])), (zme, .inr (4, [.ref zmeA, .int 0])), (zli, .inr (0, [.ref zln, .ref zll, .ref zlc])), (zln, .inr (4, [.ref zlnA, .int 0])), (zll, .inr (4, [.ref zllA, .int 0])), (zlc, .inr (4, [.ref zlcA, .int 0])), (st, .inr (6, [.ref la, .ref me, .ref li, .int tol, .int su, .int fa])), (la, .inr (2, [.ref ld, .ref lz])), (ld, .inr (4, [.ref ldA, .int 0])), (lz, .inr (4, [.ref lzA, .int 0])), (li, .inr (0, [.ref ln, .ref ll, .ref lc])), (ln, .inr (4, [.ref lnA, .int 0])), (ll, .inr (4, [.ref llA, .int 0])), (lc, .inr (4, [.ref lcA, .int 0])), (me, .inr (4, [.ref meA, .int 0]))] H := hP
  have hD : va_D A [(w, .inr (7, [.ref st, .ref hi, .ref re, .ref fo, .ref bu, .ref pa])), (hi, .inr (5, [.ref ri, .int 1, .int 1])), (ri, .inl (KS, 6, .inr (.inr (.inr (.inr rf))))), (zst, .inr (6, [.ref zla, .ref zme, .ref zli, .int tol, .int su, .int fa])), (zla, .inr (2, [.ref zld, .ref zlz])), (zld, .inr (4, [.ref zldA, .int 0])), (zlz, .inr (4, [.ref zlzA, .int 0])), (zme, .inr (4, [.ref zmeA, .int 0])), (zli, .inr (0, [.ref zln, .ref zll, .ref zlc])), (zln, .inr (4, [.ref zlnA, .int 0])), (zll, .inr (4, [.ref zllA, .int 0])), (zlc, .inr (4, [.ref zlcA, .int 0])), (st, .inr (6, [.ref la, .ref me, .ref li, .int tol, .int su, .int fa])), (la, .inr (2, [.ref ld, .ref lz])), (ld, .inr (4, [.ref ldA, .int 0])), (lz, .inr (4, [.ref lzA, .int 0])), (li, .inr (0, [.ref ln, .ref ll, .ref lc])), (ln, .inr (4, [.ref lnA, .int 0])), (ll, .inr (4, [.ref llA, .int 0])), (lc, .inr (4, [.ref lcA, .int 0])), (me, .inr (4, [.ref meA, .int 0]))] := hD
  have hw_4 : r_3 = 0 := hw_4
  have hw_4 := hw_4.symm
  subst hw_4
  refine k_nrm (y := 0) rfl ?_
  refine lv_istore_n (lv' := [(1, .int 0), (0, .ref w)]) hx hb dX7_clearMeasurement_21 rfl hl (by decide) rfl (fun ls hl => ?_)
  refine lv_aload_n hx hb dX7_clearMeasurement_22 rfl (lv_at hl 1 rfl) ?_
  refine va_get (D := D) (ci := 7) (v := .ref st) (C := RX7) (T := TX7) (N := 6) hx hb ht inA_X7 hown hK hP 0 rfl rfl 0 (by decide) (ht _ lf_X7_10) (fun _ h9 => h9) rfl dX7_clearMeasurement_23 ?_
  refine va_get (D := D) (ci := 6) (v := .ref me) (C := RX6) (T := TX6) (N := 6) hx hb ht inA_X6 hown hK hP 12 rfl rfl 1 (by decide) (ht _ lf_X7_112) (fun _ h9 => h9) rfl dX7_clearMeasurement_26 ?_
  have ct := k_cut_of (wc := [(me, .inr (4, [.ref meA, .int 0]))]) (wr := [(w, .inr (7, [.ref st, .ref hi, .ref re, .ref fo, .ref bu, .ref pa])), (hi, .inr (5, [.ref ri, .int 1, .int 1])), (ri, .inl (KS, 6, .inr (.inr (.inr (.inr rf))))), (zst, .inr (6, [.ref zla, .ref zme, .ref zli, .int tol, .int su, .int fa])), (zla, .inr (2, [.ref zld, .ref zlz])), (zld, .inr (4, [.ref zldA, .int 0])), (zlz, .inr (4, [.ref zlzA, .int 0])), (zme, .inr (4, [.ref zmeA, .int 0])), (zli, .inr (0, [.ref zln, .ref zll, .ref zlc])), (zln, .inr (4, [.ref zlnA, .int 0])), (zll, .inr (4, [.ref zllA, .int 0])), (zlc, .inr (4, [.ref zlcA, .int 0])), (st, .inr (6, [.ref la, .ref me, .ref li, .int tol, .int su, .int fa])), (la, .inr (2, [.ref ld, .ref lz])), (ld, .inr (4, [.ref ldA, .int 0])), (lz, .inr (4, [.ref lzA, .int 0])), (li, .inr (0, [.ref ln, .ref ll, .ref lc])), (ln, .inr (4, [.ref lnA, .int 0])), (ll, .inr (4, [.ref llA, .int 0])), (lc, .inr (4, [.ref lcA, .int 0]))]) (tc := []) hG hS hA hK hP hD [20] [0, 1, 2, 3, 4, 5, 6, 7, 8, 9, 10, 11, 12, 13, 14, 15, 16, 17, 18, 19] [] rfl rfl (by decide) (by decide) (by decide) rfl
  refine k_endv (As := [.ref me]) ct (k_runV (As := []) (rest := []) S0 Lv_X7_137 rfl (ci := 4) (q0 := 0) rfl rfl ct (c_Row_clear l D me meA 0 H.size) hl.1 rfl (Nat.le_of_ble_eq_true rfl) rfl dX7_clearMeasurement_29 ⟨⟨Nat.le_of_ble_eq_true rfl, Nat.le_of_ble_eq_true rfl⟩, Nat.le_of_ble_eq_true rfl, Nat.le_of_ble_eq_true rfl⟩) rfl rfl (fun _ _ H locs hw_6 hP hD hK hS => ?_)
  have hK : va_K D vwCl [(KS, .object "BarcodeWand$State")] s := hK
  have hP : va_P D vwCl [(w, .inr (7, [.ref st, .ref hi, .ref re, .ref fo, .ref bu, .ref pa])), (hi, .inr (5, [.ref ri, .int 1, .int 1])), (ri, .inl (KS, 6, .inr (.inr (.inr (.inr rf))))), (zst, .inr (6, [.ref zla, .ref zme, .ref zli, .int tol, .int su, .int fa])), (zla, .inr (2, [.ref zld, .ref zlz])), (zld, .inr (4, [.ref zldA, .int 0])), (zlz, .inr (4, [.ref zlzA, .int 0])), (zme, .inr (4, [.ref zmeA, .int 0])), (zli, .inr (0, [.ref zln, .ref zll, .ref zlc])), (zln, .inr (4, [.ref zlnA, .int 0])), (zll, .inr (4, [.ref zllA, .int 0])), (zlc, .inr (4, [.ref zlcA, .int 0])), (st, .inr (6, [.ref la, .ref me, .ref li, .int tol, .int su, .int fa])), (la, .inr (2, [.ref ld, .ref lz])), (ld, .inr (4, [.ref ldA, .int 0])), (lz, .inr (4, [.ref lzA, .int 0])), (li, .inr (0, [.ref ln, .ref ll, .ref lc])), (ln, .inr (4, [.ref lnA, .int 0])), (ll, .inr (4, [.ref llA, .int 0])), (lc, .inr (4, [.ref lcA, .int 0])), (me, .inr (4, [.ref meA, .int 0]))] H := hP
  have hD : va_D A [(w, .inr (7, [.ref st, .ref hi, .ref re, .ref fo, .ref bu, .ref pa])), (hi, .inr (5, [.ref ri, .int 1, .int 1])), (ri, .inl (KS, 6, .inr (.inr (.inr (.inr rf))))), (zst, .inr (6, [.ref zla, .ref zme, .ref zli, .int tol, .int su, .int fa])), (zla, .inr (2, [.ref zld, .ref zlz])), (zld, .inr (4, [.ref zldA, .int 0])), (zlz, .inr (4, [.ref zlzA, .int 0])), (zme, .inr (4, [.ref zmeA, .int 0])), (zli, .inr (0, [.ref zln, .ref zll, .ref zlc])), (zln, .inr (4, [.ref zlnA, .int 0])), (zll, .inr (4, [.ref zllA, .int 0])), (zlc, .inr (4, [.ref zlcA, .int 0])), (st, .inr (6, [.ref la, .ref me, .ref li, .int tol, .int su, .int fa])), (la, .inr (2, [.ref ld, .ref lz])), (ld, .inr (4, [.ref ldA, .int 0])), (lz, .inr (4, [.ref lzA, .int 0])), (li, .inr (0, [.ref ln, .ref ll, .ref lc])), (ln, .inr (4, [.ref lnA, .int 0])), (ll, .inr (4, [.ref llA, .int 0])), (lc, .inr (4, [.ref lcA, .int 0])), (me, .inr (4, [.ref meA, .int 0]))] := hD
  refine lv_iload_n hx hb dX7_clearMeasurement_32 rfl (lv_at hl 0 rfl) ?_
  have hP9 : va_P D vwCl [(w, .inr (7, [.ref st, .ref hi, .ref re, .ref fo, .ref bu, .ref pa])), (hi, .inr (5, [.ref ri, .int 1, .int 1])), (ri, .inl (KS, 6, .inr (.inr (.inr (.inr rf))))), (zst, .inr (6, [.ref zla, .ref zme, .ref zli, .int tol, .int su, .int fa])), (zla, .inr (2, [.ref zld, .ref zlz])), (zld, .inr (4, [.ref zldA, .int 0])), (zlz, .inr (4, [.ref zlzA, .int 0])), (zme, .inr (4, [.ref zmeA, .int 0])), (zli, .inr (0, [.ref zln, .ref zll, .ref zlc])), (zln, .inr (4, [.ref zlnA, .int 0])), (zll, .inr (4, [.ref zllA, .int 0])), (zlc, .inr (4, [.ref zlcA, .int 0])), (st, .inr (6, [.ref la, .ref me, .ref li, .int tol, .int su, .int fa])), (la, .inr (2, [.ref ld, .ref lz])), (ld, .inr (4, [.ref ldA, .int 0])), (lz, .inr (4, [.ref lzA, .int 0])), (me, .inr (4, [.ref meA, .int 0])), (li, .inr (0, [.ref ln, .ref ll, .ref lc])), (ln, .inr (4, [.ref lnA, .int 0])), (ll, .inr (4, [.ref llA, .int 0])), (lc, .inr (4, [.ref lcA, .int 0]))] H := hP.sub [0, 1, 2, 3, 4, 5, 6, 7, 8, 9, 10, 11, 12, 13, 14, 15, 20, 16, 17, 18, 19] rfl
  have hD9 : va_D A [(w, .inr (7, [.ref st, .ref hi, .ref re, .ref fo, .ref bu, .ref pa])), (hi, .inr (5, [.ref ri, .int 1, .int 1])), (ri, .inl (KS, 6, .inr (.inr (.inr (.inr rf))))), (zst, .inr (6, [.ref zla, .ref zme, .ref zli, .int tol, .int su, .int fa])), (zla, .inr (2, [.ref zld, .ref zlz])), (zld, .inr (4, [.ref zldA, .int 0])), (zlz, .inr (4, [.ref zlzA, .int 0])), (zme, .inr (4, [.ref zmeA, .int 0])), (zli, .inr (0, [.ref zln, .ref zll, .ref zlc])), (zln, .inr (4, [.ref zlnA, .int 0])), (zll, .inr (4, [.ref zllA, .int 0])), (zlc, .inr (4, [.ref zlcA, .int 0])), (st, .inr (6, [.ref la, .ref me, .ref li, .int tol, .int su, .int fa])), (la, .inr (2, [.ref ld, .ref lz])), (ld, .inr (4, [.ref ldA, .int 0])), (lz, .inr (4, [.ref lzA, .int 0])), (me, .inr (4, [.ref meA, .int 0])), (li, .inr (0, [.ref ln, .ref ll, .ref lc])), (ln, .inr (4, [.ref lnA, .int 0])), (ll, .inr (4, [.ref llA, .int 0])), (lc, .inr (4, [.ref lcA, .int 0]))] := hD.sub [0, 1, 2, 3, 4, 5, 6, 7, 8, 9, 10, 11, 12, 13, 14, 15, 20, 16, 17, 18, 19] (by decide) rfl
  have hK9 : va_K D vwCl [] s := hK.sub [] rfl
  exact W.iret (v := 0) hx hb hr (fun t ht9 hW9 => ⟨⟨0, (), rfl, by first | rfl | trivial | (simp only [if_true, if_false, reduceIte, and_self]; done) | simp_all, ⟨by rw [ht9]; exact hP9, va_K.moved hW9.alike hK9, hD9⟩⟩, hS.F ht9⟩) hS.2.2 dX7_clearMeasurement_33
set_option maxHeartbeats 4000000 in
set_option maxRecDepth 100000 in
theorem c_W_readCount (l : Launch) (D : va_G) (w : Nat) (st : Nat) (hi : Nat) (re : Nat) (fo : Nat) (bu : Nat) (pa : Nat) (la : Nat) (me : Nat) (li : Nat) (tol : Int32) (su : Int32) (fa : Int32) (meA : Nat) (rd : Nat) (nd : Int32) (rl : Nat) (ldi : Int32) (sot : Int32) (tie : Int32) (ff : Int32) (ft : Int32) (rdA : Nat) (rdN : Int32) (rlA : Nat) (rlN : Int32) (sz : Nat) : k_Mi (S := Int32) l D yX7_readAndCount cX7_readAndCount 2 (some .int) 4 0 0 93 [.ref w] [(w, .inr (7, [.ref st, .ref hi, .ref re, .ref fo, .ref bu, .ref pa])), (st, .inr (6, [.ref la, .ref me, .ref li, .int tol, .int su, .int fa])), (me, .inr (4, [.ref meA, .int 0])), (re, .inr (3, [.ref rd, .int nd, .ref rl, .int ldi, .int sot, .int tie, .int ff, .int ft])), (rd, .inr (4, [.ref rdA, .int rdN])), (rl, .inr (4, [.ref rlA, .int rlN]))] [] (fun (r : Int32) (fb : Int32) => r = 1) (fun fb => [(w, .inr (7, [.ref st, .ref hi, .ref re, .ref fo, .ref bu, .ref pa])), (st, .inr (6, [.ref la, .ref me, .ref li, .int tol, .int su, .int fb])), (me, .inr (4, [.ref meA, .int 0])), (re, .inr (3, [.ref rd, .int nd, .ref rl, .int ldi, .int sot, .int tie, .int 0, .int 0])), (rd, .inr (4, [.ref rdA, .int 0])), (rl, .inr (4, [.ref rlA, .int 0]))]) (fun fb => []) sz := by
  refine Met.ofW (cc := cX7_readAndCount) (maxL := 2) (ret := (some .int)) (by decide) rfl ?_
  intro p e s m args below meth c s₁ B hml hv
  obtain ⟨rfl, hsz, hP, hK, hD0, hG⟩ := hv
  have hx := B.exec
  have hb := B.bytes
  have hr := B.returns
  have ht : ∀ v9 ∈ wsA, v9.before ([.ref w] : List Value).toArray s = true := fun v9 h9 => atoms_spec (ws := k_ws yX7_readAndCount cX7_readAndCount 2 (some .int)) B.pre v9 (List.mem_cons_of_mem _ h9)
  have hown : s.vm.findClass RX7 = some m.cls := findClass_of_methodNamed B.named
  have S0 : k_C p s m ([.ref w] : List Value).toArray c cX7_readAndCount 2 RX7 := ⟨hx, hb, hml, hown, ht⟩
  have hlocks := B.notSynchronized
  subst hsz
  have hD := hD0.self (sz := s.heap.size)
  generalize hAe : va_A [(w, .inr (7, [.ref st, .ref hi, .ref re, .ref fo, .ref bu, .ref pa])), (st, .inr (6, [.ref la, .ref me, .ref li, .int tol, .int su, .int fa])), (me, .inr (4, [.ref meA, .int 0])), (re, .inr (3, [.ref rd, .int nd, .ref rl, .int ldi, .int sot, .int tie, .int ff, .int ft])), (rd, .inr (4, [.ref rdA, .int rdN])), (rl, .inr (4, [.ref rlA, .int rlN]))] s.heap.size = A at hD hG ⊢
  have hA : ∀ q : Nat, s.heap.size ≤ q → A q := fun q h => by rw [← hAe]; exact Or.inr h
  have hS : va_S A s.heap s.heap [] := va_S.rf
  have hl := lv_entry ([.ref w]) (n := 2) (Nat.le_of_ble_eq_true rfl)
  rw [lg_entry_eq]
  generalize (lg_sl ([.ref w]) ++ List.replicate (2 - (lg_sl ([.ref w])).length) Slot.unset).toArray = ls at hl ⊢
  have hl : lv_has ls 2 [(0, .ref w)] := hl
  have hP : va_P D vwCl [(w, .inr (7, [.ref st, .ref hi, .ref re, .ref fo, .ref bu, .ref pa])), (st, .inr (6, [.ref la, .ref me, .ref li, .int tol, .int su, .int fa])), (me, .inr (4, [.ref meA, .int 0])), (re, .inr (3, [.ref rd, .int nd, .ref rl, .int ldi, .int sot, .int tie, .int ff, .int ft])), (rd, .inr (4, [.ref rdA, .int rdN])), (rl, .inr (4, [.ref rlA, .int rlN]))] s.heap := hP
  refine lv_aload_n hx hb dX7_readAndCount_0 rfl (lv_at hl 0 rfl) ?_
  refine va_get (D := D) (ci := 7) (v := .ref re) (C := RX7) (T := TX7) (N := 6) hx hb ht inA_X7 hown hK hP 0 rfl rfl 2 (by decide) (ht _ lf_X7_26) (fun _ h9 => h9) rfl dX7_readAndCount_1 ?_
  refine lv_aload_n hx hb dX7_readAndCount_4 rfl (lv_at hl 0 rfl) ?_
  refine va_get (D := D) (ci := 7) (v := .ref st) (C := RX7) (T := TX7) (N := 6) hx hb ht inA_X7 hown hK hP 0 rfl rfl 0 (by decide) (ht _ lf_X7_10) (fun _ h9 => h9) rfl dX7_readAndCount_5 ?_
  refine va_get (D := D) (ci := 6) (v := .ref me) (C := RX6) (T := TX6) (N := 6) hx hb ht inA_X6 hown hK hP 1 rfl rfl 1 (by decide) (ht _ lf_X7_112) (fun _ h9 => h9) rfl dX7_readAndCount_8 ?_
  refine lv_aload_n hx hb dX7_readAndCount_11 rfl (lv_at hl 0 rfl) ?_
  refine va_get (D := D) (ci := 7) (v := .ref st) (C := RX7) (T := TX7) (N := 6) hx hb ht inA_X7 hown hK hP 0 rfl rfl 0 (by decide) (ht _ lf_X7_10) (fun _ h9 => h9) rfl dX7_readAndCount_12 ?_
  refine va_get (D := D) (ci := 6) (v := .int tol) (C := RX6) (T := TX6) (N := 6) hx hb ht inA_X6 hown hK hP 1 rfl rfl 3 (by decide) (ht _ lf_X7_144) (fun _ h9 => h9) rfl dX7_readAndCount_15 ?_
  have ct := k_cut_of (wc := [(re, .inr (3, [.ref rd, .int nd, .ref rl, .int ldi, .int sot, .int tie, .int ff, .int ft])), (rd, .inr (4, [.ref rdA, .int rdN])), (rl, .inr (4, [.ref rlA, .int rlN])), (me, .inr (4, [.ref meA, .int 0]))]) (wr := [(w, .inr (7, [.ref st, .ref hi, .ref re, .ref fo, .ref bu, .ref pa])), (st, .inr (6, [.ref la, .ref me, .ref li, .int tol, .int su, .int fa]))]) (tc := []) hG hS hA hK hP hD [3, 4, 5, 2] [0, 1] [] rfl rfl (by decide) (by decide) (by decide) rfl
  refine k_endi (As := [.ref re, .ref me, .int tol]) ct (k_runV (As := [.ref me, .int tol]) (rest := []) S0 Lv_X7_148 rfl (ci := 3) (q0 := 0) rfl rfl ct (c_resultOf0 l D re rd nd rl ldi sot tie ff ft rdA rdN rlA rlN me meA tol s.heap.size) hl.1 rfl (Nat.le_of_ble_eq_true rfl) rfl dX7_readAndCount_18 ⟨⟨Nat.le_of_ble_eq_true rfl, Nat.le_of_ble_eq_true rfl⟩, Nat.le_of_ble_eq_true rfl, Nat.le_of_ble_eq_true rfl⟩) rfl rfl (fun r_1 _ H locs hw_2 hP hD hK hS => ?_)
  have hK : va_K D vwCl [] s := hK
  have hP : va_P D vwCl [(w, .inr (7, [.ref st, .ref hi, .ref re, .ref fo, .ref bu, .ref pa])), (st, .inr (6, [.ref la, .ref me, .ref li, .int tol, .int su, .int fa])), (re, .inr (3, [.ref rd, .int nd, .ref rl, .int ldi, .int sot, .int tie, .int 0, .int 0])), (rd, .inr (4, [.ref rdA, .int 0])), (rl, .inr (4, [.ref rlA, .int 0])), (me, .inr (4, [.ref meA, .int 0]))] H := hP
  have hD : va_D A [(w, .inr (7, [.ref st, .ref hi, .ref re, .ref fo, .ref bu, .ref pa])), (st, .inr (6, [.ref la, .ref me, .ref li, .int tol, .int su, .int fa])), (re, .inr (3, [.ref rd, .int nd, .ref rl, .int ldi, .int sot, .int tie, .int 0, .int 0])), (rd, .inr (4, [.ref rdA, .int 0])), (rl, .inr (4, [.ref rlA, .int 0])), (me, .inr (4, [.ref meA, .int 0]))] := hD
  have hw_2 : r_1 = 1 := hw_2
  have hw_2 := hw_2.symm
  subst hw_2
  refine k_nrm (y := 1) rfl ?_
  refine lv_istore_n (lv' := [(1, .int 1), (0, .ref w)]) hx hb dX7_readAndCount_21 rfl hl (by decide) rfl (fun ls hl => ?_)
  refine lv_iload_n hx hb dX7_readAndCount_22 rfl (lv_at hl 0 rfl) ?_
  have ct := k_cut_of (wc := []) (wr := [(w, .inr (7, [.ref st, .ref hi, .ref re, .ref fo, .ref bu, .ref pa])), (st, .inr (6, [.ref la, .ref me, .ref li, .int tol, .int su, .int fa])), (re, .inr (3, [.ref rd, .int nd, .ref rl, .int ldi, .int sot, .int tie, .int 0, .int 0])), (rd, .inr (4, [.ref rdA, .int 0])), (rl, .inr (4, [.ref rlA, .int 0])), (me, .inr (4, [.ref meA, .int 0]))]) (tc := []) hG hS hA hK hP hD [] [0, 1, 2, 3, 4, 5] [] rfl rfl (by decide) (by decide) (by decide) rfl
  refine k_endi (As := [.int 1]) ct (k_runS (As := [.int 1]) (rest := []) S0 Ls_X7_158 ct (c_hasSucceeded1 l D H.size) hl.1 rfl (Nat.le_of_ble_eq_true rfl) rfl dX7_readAndCount_23 ⟨⟨Nat.le_of_ble_eq_true rfl, Nat.le_of_ble_eq_true rfl⟩, Nat.le_of_ble_eq_true rfl, Nat.le_of_ble_eq_true rfl⟩) rfl rfl (fun r_3 _ H locs hw_4 hP hD hK hS => ?_)
  have hK : va_K D vwCl [] s := hK
  have hP : va_P D vwCl [(w, .inr (7, [.ref st, .ref hi, .ref re, .ref fo, .ref bu, .ref pa])), (st, .inr (6, [.ref la, .ref me, .ref li, .int tol, .int su, .int fa])), (re, .inr (3, [.ref rd, .int nd, .ref rl, .int ldi, .int sot, .int tie, .int 0, .int 0])), (rd, .inr (4, [.ref rdA, .int 0])), (rl, .inr (4, [.ref rlA, .int 0])), (me, .inr (4, [.ref meA, .int 0]))] H := hP
  have hD : va_D A [(w, .inr (7, [.ref st, .ref hi, .ref re, .ref fo, .ref bu, .ref pa])), (st, .inr (6, [.ref la, .ref me, .ref li, .int tol, .int su, .int fa])), (re, .inr (3, [.ref rd, .int nd, .ref rl, .int ldi, .int sot, .int tie, .int 0, .int 0])), (rd, .inr (4, [.ref rdA, .int 0])), (rl, .inr (4, [.ref rlA, .int 0])), (me, .inr (4, [.ref meA, .int 0]))] := hD
  have hw_4 : r_3 = 0 := hw_4
  have hw_4 := hw_4.symm
  subst hw_4
  refine k_nrm (y := 0) rfl ?_
  refine lv_if_eq (tgt := 75) hx hb dX7_readAndCount_26 (by decide) (fun _ => ?_) (fun c9 => absurd (by decide) c9)
  refine lv_aload_n hx hb dX7_readAndCount_75 rfl (lv_at hl 1 rfl) ?_
  refine va_get (D := D) (ci := 7) (v := .ref st) (C := RX7) (T := TX7) (N := 6) hx hb ht inA_X7 hown hK hP 0 rfl rfl 0 (by decide) (ht _ lf_X7_10) (fun _ h9 => h9) rfl dX7_readAndCount_76 ?_
  refine lv_dup hx hb dX7_readAndCount_79 rfl ?_
  refine va_get (D := D) (ci := 6) (v := .int fa) (C := RX6) (T := TX6) (N := 6) hx hb ht inA_X6 hown hK hP 1 rfl rfl 5 (by decide) (ht _ lf_X7_192) (fun _ h9 => h9) rfl dX7_readAndCount_80 ?_
  refine lv_iconst (v := 1) hx hb dX7_readAndCount_83 (by decide) ?_
  refine lv_iadd hx hb dX7_readAndCount_84 ?_
  refine lv_topi (fun x_5 ex_5 => ?_)
  refine va_put (D := D) (ci := 6) (v := .int x_5) (ty := .int) (C := RX6) (T := TX6) (N := 6) hx hb ht inA_X6 tyX6 tyX6_ok nmX6 hown hK hP hD hS 1 rfl rfl 5 (by decide) (ht _ lf_X7_192) (fun _ h9 => h9) rfl (tyX6_ok 5 (by decide)) rfl rfl (Nat.le_of_ble_eq_true rfl) dX7_readAndCount_85 (fun H locs hP hD hS => ?_)
  have hP : va_P D vwCl [(w, .inr (7, [.ref st, .ref hi, .ref re, .ref fo, .ref bu, .ref pa])), (st, .inr (6, [.ref la, .ref me, .ref li, .int tol, .int su, .int x_5])), (re, .inr (3, [.ref rd, .int nd, .ref rl, .int ldi, .int sot, .int tie, .int 0, .int 0])), (rd, .inr (4, [.ref rdA, .int 0])), (rl, .inr (4, [.ref rlA, .int 0])), (me, .inr (4, [.ref meA, .int 0]))] H := hP
  have hD : va_D A [(w, .inr (7, [.ref st, .ref hi, .ref re, .ref fo, .ref bu, .ref pa])), (st, .inr (6, [.ref la, .ref me, .ref li, .int tol, .int su, .int x_5])), (re, .inr (3, [.ref rd, .int nd, .ref rl, .int ldi, .int sot, .int tie, .int 0, .int 0])), (rd, .inr (4, [.ref rdA, .int 0])), (rl, .inr (4, [.ref rlA, .int 0])), (me, .inr (4, [.ref meA, .int 0]))] := hD
  refine lv_iload_n hx hb dX7_readAndCount_88 rfl (lv_at hl 0 rfl) ?_
  have hP9 : va_P D vwCl [(w, .inr (7, [.ref st, .ref hi, .ref re, .ref fo, .ref bu, .ref pa])), (st, .inr (6, [.ref la, .ref me, .ref li, .int tol, .int su, .int x_5])), (me, .inr (4, [.ref meA, .int 0])), (re, .inr (3, [.ref rd, .int nd, .ref rl, .int ldi, .int sot, .int tie, .int 0, .int 0])), (rd, .inr (4, [.ref rdA, .int 0])), (rl, .inr (4, [.ref rlA, .int 0]))] H := hP.sub [0, 1, 5, 2, 3, 4] rfl
  have hD9 : va_D A [(w, .inr (7, [.ref st, .ref hi, .ref re, .ref fo, .ref bu, .ref pa])), (st, .inr (6, [.ref la, .ref me, .ref li, .int tol, .int su, .int x_5])), (me, .inr (4, [.ref meA, .int 0])), (re, .inr (3, [.ref rd, .int nd, .ref rl, .int ldi, .int sot, .int tie, .int 0, .int 0])), (rd, .inr (4, [.ref rdA, .int 0])), (rl, .inr (4, [.ref rlA, .int 0]))] := hD.sub [0, 1, 5, 2, 3, 4] (by decide) rfl
  have hK9 : va_K D vwCl [] s := hK.sub [] rfl
  exact W.iret (v := 1) hx hb hr (fun t ht9 hW9 => ⟨⟨1, x_5, rfl, by first | rfl | trivial | (simp only [ex_5, if_true, if_false, reduceIte, and_self]; done) | simp_all, ⟨by rw [ht9]; exact hP9, va_K.moved hW9.alike hK9, hD9⟩⟩, hS.F ht9⟩) hS.2.2 dX7_readAndCount_89
set_option maxHeartbeats 4000000 in
set_option maxRecDepth 100000 in
theorem c_W_read (l : Launch) (D : va_G) (w : Nat) (st : Nat) (hi : Nat) (re : Nat) (fo : Nat) (bu : Nat) (pa : Nat) (ri : Nat) (KS : ClassId) (rf : Nat → Option Nat) (zst : Nat) (zla : Nat) (zme : Nat) (zli : Nat) (ztol : Int32) (zsu : Int32) (zfa : Int32) (zld : Nat) (zlz : Nat) (zldA : Nat) (zldN : Int32) (zlzA : Nat) (zlzN : Int32) (zmeA : Nat) (zmeN : Int32) (zln : Nat) (zll : Nat) (zlc : Nat) (zlnA : Nat) (zlnN : Int32) (zllA : Nat) (zllN : Int32) (zlcA : Nat) (zlcN : Int32) (la : Nat) (me : Nat) (li : Nat) (tol : Int32) (su : Int32) (fa : Int32) (ld : Nat) (lz : Nat) (ldA : Nat) (lzA : Nat) (meA : Nat) (ln : Nat) (ll : Nat) (lc : Nat) (lnA : Nat) (llA : Nat) (lcA : Nat) (rd : Nat) (nd : Int32) (rl : Nat) (ldi : Int32) (sot : Int32) (tie : Int32) (ff : Int32) (ft : Int32) (rdA : Nat) (rdN : Int32) (rlA : Nat) (rlN : Int32) (hrf : rf 0 = some zst) (sz : Nat) : k_Mi (S := Int32) l D yX7_read cX7_read 1 (some .int) 6 0 0 126 [.ref w] [(w, .inr (7, [.ref st, .ref hi, .ref re, .ref fo, .ref bu, .ref pa])), (hi, .inr (5, [.ref ri, .int 0, .int 0])), (ri, .inl (KS, 6, .inr (.inr (.inr (.inr rf))))), (zst, .inr (6, [.ref zla, .ref zme, .ref zli, .int ztol, .int zsu, .int zfa])), (zla, .inr (2, [.ref zld, .ref zlz])), (zld, .inr (4, [.ref zldA, .int zldN])), (zlz, .inr (4, [.ref zlzA, .int zlzN])), (zme, .inr (4, [.ref zmeA, .int zmeN])), (zli, .inr (0, [.ref zln, .ref zll, .ref zlc])), (zln, .inr (4, [.ref zlnA, .int zlnN])), (zll, .inr (4, [.ref zllA, .int zllN])), (zlc, .inr (4, [.ref zlcA, .int zlcN])), (st, .inr (6, [.ref la, .ref me, .ref li, .int tol, .int su, .int fa])), (la, .inr (2, [.ref ld, .ref lz])), (ld, .inr (4, [.ref ldA, .int 0])), (lz, .inr (4, [.ref lzA, .int 0])), (me, .inr (4, [.ref meA, .int 0])), (li, .inr (0, [.ref ln, .ref ll, .ref lc])), (ln, .inr (4, [.ref lnA, .int 0])), (ll, .inr (4, [.ref llA, .int 0])), (lc, .inr (4, [.ref lcA, .int 0])), (re, .inr (3, [.ref rd, .int nd, .ref rl, .int ldi, .int sot, .int tie, .int ff, .int ft])), (rd, .inr (4, [.ref rdA, .int rdN])), (rl, .inr (4, [.ref rlA, .int rlN]))] [(KS, .object "BarcodeWand$State")] (fun (r : Int32) (fb : Int32) => r = 1) (fun fb => [(w, .inr (7, [.ref st, .ref hi, .ref re, .ref fo, .ref bu, .ref pa])), (hi, .inr (5, [.ref ri, .int 1, .int 1])), (ri, .inl (KS, 6, .inr (.inr (.inr (.inr rf))))), (zst, .inr (6, [.ref zla, .ref zme, .ref zli, .int tol, .int su, .int fa])), (zla, .inr (2, [.ref zld, .ref zlz])), (zld, .inr (4, [.ref zldA, .int 0])), (zlz, .inr (4, [.ref zlzA, .int 0])), (zme, .inr (4, [.ref zmeA, .int 0])), (zli, .inr (0, [.ref zln, .ref zll, .ref zlc])), (zln, .inr (4, [.ref zlnA, .int 0])), (zll, .inr (4, [.ref zllA, .int 0])), (zlc, .inr (4, [.ref zlcA, .int 0])), (st, .inr (6, [.ref la, .ref me, .ref li, .int tol, .int su, .int fb])), (la, .inr (2, [.ref ld, .ref lz])), (ld, .inr (4, [.ref ldA, .int 0])), (lz, .inr (4, [.ref lzA, .int 0])), (me, .inr (4, [.ref meA, .int 0])), (li, .inr (0, [.ref ln, .ref ll, .ref lc])), (ln, .inr (4, [.ref lnA, .int 0])), (ll, .inr (4, [.ref llA, .int 0])), (lc, .inr (4, [.ref lcA, .int 0])), (re, .inr (3, [.ref rd, .int nd, .ref rl, .int ldi, .int sot, .int tie, .int 0, .int 0])), (rd, .inr (4, [.ref rdA, .int 0])), (rl, .inr (4, [.ref rlA, .int 0]))]) (fun fb => []) sz := by
  refine Met.ofW (cc := cX7_read) (maxL := 1) (ret := (some .int)) (by decide) rfl ?_
  intro p e s m args below meth c s₁ B hml hv
  obtain ⟨rfl, hsz, hP, hK, hD0, hG⟩ := hv
  have hx := B.exec
  have hb := B.bytes
  have hr := B.returns
  have ht : ∀ v9 ∈ wsA, v9.before ([.ref w] : List Value).toArray s = true := fun v9 h9 => atoms_spec (ws := k_ws yX7_read cX7_read 1 (some .int)) B.pre v9 (List.mem_cons_of_mem _ h9)
  have hown : s.vm.findClass RX7 = some m.cls := findClass_of_methodNamed B.named
  have S0 : k_C p s m ([.ref w] : List Value).toArray c cX7_read 1 RX7 := ⟨hx, hb, hml, hown, ht⟩
  have hlocks := B.notSynchronized
  subst hsz
  have hD := hD0.self (sz := s.heap.size)
  generalize hAe : va_A [(w, .inr (7, [.ref st, .ref hi, .ref re, .ref fo, .ref bu, .ref pa])), (hi, .inr (5, [.ref ri, .int 0, .int 0])), (ri, .inl (KS, 6, .inr (.inr (.inr (.inr rf))))), (zst, .inr (6, [.ref zla, .ref zme, .ref zli, .int ztol, .int zsu, .int zfa])), (zla, .inr (2, [.ref zld, .ref zlz])), (zld, .inr (4, [.ref zldA, .int zldN])), (zlz, .inr (4, [.ref zlzA, .int zlzN])), (zme, .inr (4, [.ref zmeA, .int zmeN])), (zli, .inr (0, [.ref zln, .ref zll, .ref zlc])), (zln, .inr (4, [.ref zlnA, .int zlnN])), (zll, .inr (4, [.ref zllA, .int zllN])), (zlc, .inr (4, [.ref zlcA, .int zlcN])), (st, .inr (6, [.ref la, .ref me, .ref li, .int tol, .int su, .int fa])), (la, .inr (2, [.ref ld, .ref lz])), (ld, .inr (4, [.ref ldA, .int 0])), (lz, .inr (4, [.ref lzA, .int 0])), (me, .inr (4, [.ref meA, .int 0])), (li, .inr (0, [.ref ln, .ref ll, .ref lc])), (ln, .inr (4, [.ref lnA, .int 0])), (ll, .inr (4, [.ref llA, .int 0])), (lc, .inr (4, [.ref lcA, .int 0])), (re, .inr (3, [.ref rd, .int nd, .ref rl, .int ldi, .int sot, .int tie, .int ff, .int ft])), (rd, .inr (4, [.ref rdA, .int rdN])), (rl, .inr (4, [.ref rlA, .int rlN]))] s.heap.size = A at hD hG ⊢
  have hA : ∀ q : Nat, s.heap.size ≤ q → A q := fun q h => by rw [← hAe]; exact Or.inr h
  have hS : va_S A s.heap s.heap [] := va_S.rf
  have hl := lv_entry ([.ref w]) (n := 1) (Nat.le_of_ble_eq_true rfl)
  rw [lg_entry_eq]
  generalize (lg_sl ([.ref w]) ++ List.replicate (1 - (lg_sl ([.ref w])).length) Slot.unset).toArray = ls at hl ⊢
  have hl : lv_has ls 1 [(0, .ref w)] := hl
  have hP : va_P D vwCl [(w, .inr (7, [.ref st, .ref hi, .ref re, .ref fo, .ref bu, .ref pa])), (hi, .inr (5, [.ref ri, .int 0, .int 0])), (ri, .inl (KS, 6, .inr (.inr (.inr (.inr rf))))), (zst, .inr (6, [.ref zla, .ref zme, .ref zli, .int ztol, .int zsu, .int zfa])), (zla, .inr (2, [.ref zld, .ref zlz])), (zld, .inr (4, [.ref zldA, .int zldN])), (zlz, .inr (4, [.ref zlzA, .int zlzN])), (zme, .inr (4, [.ref zmeA, .int zmeN])), (zli, .inr (0, [.ref zln, .ref zll, .ref zlc])), (zln, .inr (4, [.ref zlnA, .int zlnN])), (zll, .inr (4, [.ref zllA, .int zllN])), (zlc, .inr (4, [.ref zlcA, .int zlcN])), (st, .inr (6, [.ref la, .ref me, .ref li, .int tol, .int su, .int fa])), (la, .inr (2, [.ref ld, .ref lz])), (ld, .inr (4, [.ref ldA, .int 0])), (lz, .inr (4, [.ref lzA, .int 0])), (me, .inr (4, [.ref meA, .int 0])), (li, .inr (0, [.ref ln, .ref ll, .ref lc])), (ln, .inr (4, [.ref lnA, .int 0])), (ll, .inr (4, [.ref llA, .int 0])), (lc, .inr (4, [.ref lcA, .int 0])), (re, .inr (3, [.ref rd, .int nd, .ref rl, .int ldi, .int sot, .int tie, .int ff, .int ft])), (rd, .inr (4, [.ref rdA, .int rdN])), (rl, .inr (4, [.ref rlA, .int rlN]))] s.heap := hP
  refine lv_aload_n hx hb dX7_read_0 rfl (lv_at hl 0 rfl) ?_
  refine va_get (D := D) (ci := 7) (v := .ref hi) (C := RX7) (T := TX7) (N := 6) hx hb ht inA_X7 hown hK hP 0 rfl rfl 1 (by decide) (ht _ lf_X7_19) (fun _ h9 => h9) rfl dX7_read_1 ?_
  refine lv_aload_n hx hb dX7_read_4 rfl (lv_at hl 0 rfl) ?_
  refine va_get (D := D) (ci := 7) (v := .ref st) (C := RX7) (T := TX7) (N := 6) hx hb ht inA_X7 hown hK hP 0 rfl rfl 0 (by decide) (ht _ lf_X7_10) (fun _ h9 => h9) rfl dX7_read_5 ?_
  have ct := k_cut_of (wc := [(hi, .inr (5, [.ref ri, .int 0, .int 0])), (ri, .inl (KS, 6, .inr (.inr (.inr (.inr rf))))), (zst, .inr (6, [.ref zla, .ref zme, .ref zli, .int ztol, .int zsu, .int zfa])), (zla, .inr (2, [.ref zld, .ref zlz])), (zld, .inr (4, [.ref zldA, .int zldN])), (zlz, .inr (4, [.ref zlzA, .int zlzN])), (zme, .inr (4, [.ref zmeA, .int zmeN])), (zli, .inr (0, [.ref zln, .ref zll, .ref zlc])), (zln, .inr (4, [.ref zlnA, .int zlnN])), (zll, .inr (4, [.ref zllA, .int zllN])), (zlc, .inr (4, [.ref zlcA, .int zlcN])), (st, .inr (6, [.ref la, .ref me, .ref li, .int tol, .int su, .int fa])), (la, .inr (2, [.ref ld, .ref lz])), (ld, .inr (4, [.ref ldA, .int 0])), (lz, .inr (4, [.ref lzA, .int 0])), (me, .inr (4, [.ref meA, .int 0])), (li, .inr (0, [.ref ln, .ref ll, .ref lc])), (ln, .inr (4, [.ref lnA, .int 0])), (ll, .inr (4, [.ref llA, .int 0])), (lc, .inr (4, [.ref lcA, .int 0]))]) (wr := [(w, .inr (7, [.ref st, .ref hi, .ref re, .ref fo, .ref bu, .ref pa])), (re, .inr (3, [.ref rd, .int nd, .ref rl, .int ldi, .int sot, .int tie, .int ff, .int ft])), (rd, .inr (4, [.ref rdA, .int rdN])), (rl, .inr (4, [.ref rlA, .int rlN]))]) (tc := [(KS, .object "BarcodeWand$State")]) hG hS hA hK hP hD [1, 2, 3, 4, 5, 6, 7, 8, 9, 10, 11, 12, 13, 14, 15, 16, 17, 18, 19, 20] [0, 21, 22, 23] [0] rfl rfl (by decide) (by decide) (by decide) rfl
  refine k_endv (As := [.ref hi, .ref st]) ct (k_runV (As := [.ref st]) (rest := []) S0 Lv_X7_62 rfl (ci := 5) (q0 := 0) rfl rfl ct (c_Saved_save0 l D hi ri KS rf zst zla zme zli ztol zsu zfa zld zlz zldA zldN zlzA zlzN zmeA zmeN zln zll zlc zlnA zlnN zllA zllN zlcA zlcN st la me li tol su fa ld lz ldA lzA meA ln ll lc lnA llA lcA (by assumption) s.heap.size) hl.1 rfl (Nat.le_of_ble_eq_true rfl) rfl dX7_read_8 ⟨⟨Nat.le_of_ble_eq_true rfl, Nat.le_of_ble_eq_true rfl⟩, Nat.le_of_ble_eq_true rfl, Nat.le_of_ble_eq_true rfl⟩) rfl rfl (fun _ _ H locs hw_2 hP hD hK hS => ?_)
  have hK : va_K D vwCl [(KS, .object "BarcodeWand$State")] s := hK
  have hP : va_P D vwCl [(w, .inr (7, [.ref st, .ref hi, .ref re, .ref fo, .ref bu, .ref pa])), (re, .inr (3, [.ref rd, .int nd, .ref rl, .int ldi, .int sot, .int tie, .int ff, .int ft])), (rd, .inr (4, [.ref rdA, .int rdN])), (rl, .inr (4, [.ref rlA, .int rlN])), (hi, .inr (5, [.ref ri, .int 1, .int 1])), (ri, .inl (KS, 6, .inr (.inr (.inr (.inr rf))))), (zst, .inr (6, [.ref zla, .ref zme, .ref zli, .int tol, .int su, .int fa])), (zla, .inr (2, [.ref zld, .ref zlz])), (zld, .inr (4, [.ref zldA, .int 0])), (zlz, .inr (4, [.ref zlzA, .int 0])), (zme, .inr (4, [.ref zmeA, .int 0])), (zli, .inr (0, [.ref zln, .ref zll, .ref zlc])), (zln, .inr (4, [.ref zlnA, .int 0])), (zll, .inr (4, [.ref zllA, .int 0])), (zlc, .inr (4, [.ref zlcA, .int 0])), (st, .inr (6, [.ref la, .ref me, .ref li, .int tol, .int su, .int fa])), (la, .inr (2, [.ref ld, .ref lz])), (ld, .inr (4, [.ref ldA, .int 0])), (lz, .inr (4, [.ref lzA, .int 0])), (me, .inr (4, [.ref meA, .int 0])), (li, .inr (0, [.ref ln, .ref ll, .ref lc])), (ln, .inr (4, [.ref lnA, .int 0])), (ll, .inr (4, [.ref llA, .int 0])), (lc, .inr (4, [.ref lcA, .int 0]))] H := hP
  have hD : va_D A [(w, .inr (7, [.ref st, .ref hi, .ref re, .ref fo, .ref bu, .ref pa])), (re, .inr (3, [.ref rd, .int nd, .ref rl, .int ldi, .int sot, .int tie, .int ff, .int ft])), (rd, .inr (4, [.ref rdA, .int rdN])), (rl, .inr (4, [.ref rlA, .int rlN])), (hi, .inr (5, [.ref ri, .int 1, .int 1])), (ri, .inl (KS, 6, .inr (.inr (.inr (.inr rf))))), (zst, .inr (6, [.ref zla, .ref zme, .ref zli, .int tol, .int su, .int fa])), (zla, .inr (2, [.ref zld, .ref zlz])), (zld, .inr (4, [.ref zldA, .int 0])), (zlz, .inr (4, [.ref zlzA, .int 0])), (zme, .inr (4, [.ref zmeA, .int 0])), (zli, .inr (0, [.ref zln, .ref zll, .ref zlc])), (zln, .inr (4, [.ref zlnA, .int 0])), (zll, .inr (4, [.ref zllA, .int 0])), (zlc, .inr (4, [.ref zlcA, .int 0])), (st, .inr (6, [.ref la, .ref me, .ref li, .int tol, .int su, .int fa])), (la, .inr (2, [.ref ld, .ref lz])), (ld, .inr (4, [.ref ldA, .int 0])), (lz, .inr (4, [.ref lzA, .int 0])), (me, .inr (4, [.ref meA, .int 0])), (li, .inr (0, [.ref ln, .ref ll, .ref lc])), (ln, .inr (4, [.ref lnA, .int 0])), (ll, .inr (4, [.ref llA, .int 0])), (lc, .inr (4, [.ref lcA, .int 0]))] := hD
  refine lv_aload_n hx hb dX7_read_11 rfl (lv_at hl 0 rfl) ?_
  have ct := k_cut_of (wc := [(w, .inr (7, [.ref st, .ref hi, .ref re, .ref fo, .ref bu, .ref pa])), (st, .inr (6, [.ref la, .ref me, .ref li, .int tol, .int su, .int fa])), (me, .inr (4, [.ref meA, .int 0])), (re, .inr (3, [.ref rd, .int nd, .ref rl, .int ldi, .int sot, .int tie, .int ff, .int ft])), (rd, .inr (4, [.ref rdA, .int rdN])), (rl, .inr (4, [.ref rlA, .int rlN]))]) (wr := [(hi, .inr (5, [.ref ri, .int 1, .int 1])), (ri, .inl (KS, 6, .inr (.inr (.inr (.inr rf))))), (zst, .inr (6, [.ref zla, .ref zme, .ref zli, .int tol, .int su, .int fa])), (zla, .inr (2, [.ref zld, .ref zlz])), (zld, .inr (4, [.ref zldA, .int 0])), (zlz, .inr (4, [.ref zlzA, .int 0])), (zme, .inr (4, [.ref zmeA, .int 0])), (zli, .inr (0, [.ref zln, .ref zll, .ref zlc])), (zln, .inr (4, [.ref zlnA, .int 0])), (zll, .inr (4, [.ref zllA, .int 0])), (zlc, .inr (4, [.ref zlcA, .int 0])), (la, .inr (2, [.ref ld, .ref lz])), (ld, .inr (4, [.ref ldA, .int 0])), (lz, .inr (4, [.ref lzA, .int 0])), (li, .inr (0, [.ref ln, .ref ll, .ref lc])), (ln, .inr (4, [.ref lnA, .int 0])), (ll, .inr (4, [.ref llA, .int 0])), (lc, .inr (4, [.ref lcA, .int 0]))]) (tc := []) hG hS hA hK hP hD [0, 15, 19, 1, 2, 3] [4, 5, 6, 7, 8, 9, 10, 11, 12, 13, 14, 16, 17, 18, 20, 21, 22, 23] [] rfl rfl (by decide) (by decide) (by decide) rfl
  refine k_endi (As := [.ref w]) ct (k_runV (As := []) (rest := []) S0 Lv_X7_119 rfl (ci := 7) (q0 := 0) rfl rfl ct (c_W_readCount l D w st hi re fo bu pa la me li tol su fa meA rd nd rl ldi sot tie ff ft rdA rdN rlA rlN H.size) hl.1 rfl (Nat.le_of_ble_eq_true rfl) rfl dX7_read_12 ⟨⟨Nat.le_of_ble_eq_true rfl, Nat.le_of_ble_eq_true rfl⟩, Nat.le_of_ble_eq_true rfl, Nat.le_of_ble_eq_true rfl⟩) rfl rfl (fun r_3 fb_4 H locs hw_5 hP hD hK hS => ?_)
  have hK : va_K D vwCl [(KS, .object "BarcodeWand$State")] s := hK
  have hP : va_P D vwCl [(hi, .inr (5, [.ref ri, .int 1, .int 1])), (ri, .inl (KS, 6, .inr (.inr (.inr (.inr rf))))), (zst, .inr (6, [.ref zla, .ref zme, .ref zli, .int tol, .int su, .int fa])), (zla, .inr (2, [.ref zld, .ref zlz])), (zld, .inr (4, [.ref zldA, .int 0])), (zlz, .inr (4, [.ref zlzA, .int 0])), (zme, .inr (4, [.ref zmeA, .int 0])), (zli, .inr (0, [.ref zln, .ref zll, .ref zlc])), (zln, .inr (4, [.ref zlnA, .int 0])), (zll, .inr (4, [.ref zllA, .int 0])), (zlc, .inr (4, [.ref zlcA, .int 0])), (la, .inr (2, [.ref ld, .ref lz])), (ld, .inr (4, [.ref ldA, .int 0])), (lz, .inr (4, [.ref lzA, .int 0])), (li, .inr (0, [.ref ln, .ref ll, .ref lc])), (ln, .inr (4, [.ref lnA, .int 0])), (ll, .inr (4, [.ref llA, .int 0])), (lc, .inr (4, [.ref lcA, .int 0])), (w, .inr (7, [.ref st, .ref hi, .ref re, .ref fo, .ref bu, .ref pa])), (st, .inr (6, [.ref la, .ref me, .ref li, .int tol, .int su, .int fb_4])), (me, .inr (4, [.ref meA, .int 0])), (re, .inr (3, [.ref rd, .int nd, .ref rl, .int ldi, .int sot, .int tie, .int 0, .int 0])), (rd, .inr (4, [.ref rdA, .int 0])), (rl, .inr (4, [.ref rlA, .int 0]))] H := hP
  have hD : va_D A [(hi, .inr (5, [.ref ri, .int 1, .int 1])), (ri, .inl (KS, 6, .inr (.inr (.inr (.inr rf))))), (zst, .inr (6, [.ref zla, .ref zme, .ref zli, .int tol, .int su, .int fa])), (zla, .inr (2, [.ref zld, .ref zlz])), (zld, .inr (4, [.ref zldA, .int 0])), (zlz, .inr (4, [.ref zlzA, .int 0])), (zme, .inr (4, [.ref zmeA, .int 0])), (zli, .inr (0, [.ref zln, .ref zll, .ref zlc])), (zln, .inr (4, [.ref zlnA, .int 0])), (zll, .inr (4, [.ref zllA, .int 0])), (zlc, .inr (4, [.ref zlcA, .int 0])), (la, .inr (2, [.ref ld, .ref lz])), (ld, .inr (4, [.ref ldA, .int 0])), (lz, .inr (4, [.ref lzA, .int 0])), (li, .inr (0, [.ref ln, .ref ll, .ref lc])), (ln, .inr (4, [.ref lnA, .int 0])), (ll, .inr (4, [.ref llA, .int 0])), (lc, .inr (4, [.ref lcA, .int 0])), (w, .inr (7, [.ref st, .ref hi, .ref re, .ref fo, .ref bu, .ref pa])), (st, .inr (6, [.ref la, .ref me, .ref li, .int tol, .int su, .int fb_4])), (me, .inr (4, [.ref meA, .int 0])), (re, .inr (3, [.ref rd, .int nd, .ref rl, .int ldi, .int sot, .int tie, .int 0, .int 0])), (rd, .inr (4, [.ref rdA, .int 0])), (rl, .inr (4, [.ref rlA, .int 0]))] := hD
  have hw_5 : r_3 = 1 := hw_5
  have hw_5 := hw_5.symm
  subst hw_5
  refine k_nrm (y := 1) rfl ?_
  have hP9 : va_P D vwCl [(w, .inr (7, [.ref st, .ref hi, .ref re, .ref fo, .ref bu, .ref pa])), (hi, .inr (5, [.ref ri, .int 1, .int 1])), (ri, .inl (KS, 6, .inr (.inr (.inr (.inr rf))))), (zst, .inr (6, [.ref zla, .ref zme, .ref zli, .int tol, .int su, .int fa])), (zla, .inr (2, [.ref zld, .ref zlz])), (zld, .inr (4, [.ref zldA, .int 0])), (zlz, .inr (4, [.ref zlzA, .int 0])), (zme, .inr (4, [.ref zmeA, .int 0])), (zli, .inr (0, [.ref zln, .ref zll, .ref zlc])), (zln, .inr (4, [.ref zlnA, .int 0])), (zll, .inr (4, [.ref zllA, .int 0])), (zlc, .inr (4, [.ref zlcA, .int 0])), (st, .inr (6, [.ref la, .ref me, .ref li, .int tol, .int su, .int fb_4])), (la, .inr (2, [.ref ld, .ref lz])), (ld, .inr (4, [.ref ldA, .int 0])), (lz, .inr (4, [.ref lzA, .int 0])), (me, .inr (4, [.ref meA, .int 0])), (li, .inr (0, [.ref ln, .ref ll, .ref lc])), (ln, .inr (4, [.ref lnA, .int 0])), (ll, .inr (4, [.ref llA, .int 0])), (lc, .inr (4, [.ref lcA, .int 0])), (re, .inr (3, [.ref rd, .int nd, .ref rl, .int ldi, .int sot, .int tie, .int 0, .int 0])), (rd, .inr (4, [.ref rdA, .int 0])), (rl, .inr (4, [.ref rlA, .int 0]))] H := hP.sub [18, 0, 1, 2, 3, 4, 5, 6, 7, 8, 9, 10, 19, 11, 12, 13, 20, 14, 15, 16, 17, 21, 22, 23] rfl
  have hD9 : va_D A [(w, .inr (7, [.ref st, .ref hi, .ref re, .ref fo, .ref bu, .ref pa])), (hi, .inr (5, [.ref ri, .int 1, .int 1])), (ri, .inl (KS, 6, .inr (.inr (.inr (.inr rf))))), (zst, .inr (6, [.ref zla, .ref zme, .ref zli, .int tol, .int su, .int fa])), (zla, .inr (2, [.ref zld, .ref zlz])), (zld, .inr (4, [.ref zldA, .int 0])), (zlz, .inr (4, [.ref zlzA, .int 0])), (zme, .inr (4, [.ref zmeA, .int 0])), (zli, .inr (0, [.ref zln, .ref zll, .ref zlc])), (zln, .inr (4, [.ref zlnA, .int 0])), (zll, .inr (4, [.ref zllA, .int 0])), (zlc, .inr (4, [.ref zlcA, .int 0])), (st, .inr (6, [.ref la, .ref me, .ref li, .int tol, .int su, .int fb_4])), (la, .inr (2, [.ref ld, .ref lz])), (ld, .inr (4, [.ref ldA, .int 0])), (lz, .inr (4, [.ref lzA, .int 0])), (me, .inr (4, [.ref meA, .int 0])), (li, .inr (0, [.ref ln, .ref ll, .ref lc])), (ln, .inr (4, [.ref lnA, .int 0])), (ll, .inr (4, [.ref llA, .int 0])), (lc, .inr (4, [.ref lcA, .int 0])), (re, .inr (3, [.ref rd, .int nd, .ref rl, .int ldi, .int sot, .int tie, .int 0, .int 0])), (rd, .inr (4, [.ref rdA, .int 0])), (rl, .inr (4, [.ref rlA, .int 0]))] := hD.sub [18, 0, 1, 2, 3, 4, 5, 6, 7, 8, 9, 10, 19, 11, 12, 13, 20, 14, 15, 16, 17, 21, 22, 23] (by decide) rfl
  have hK9 : va_K D vwCl [] s := hK.sub [] rfl
  exact W.iret (v := 1) hx hb hr (fun t ht9 hW9 => ⟨⟨1, fb_4, rfl, by first | rfl | trivial | (simp only [if_true, if_false, reduceIte, and_self]; done) | simp_all, ⟨by rw [ht9]; exact hP9, va_K.moved hW9.alike hK9, hD9⟩⟩, hS.F ht9⟩) hS.2.2 dX7_read_15
set_option maxHeartbeats 4000000 in
set_option maxRecDepth 100000 in
theorem c_W_clearB (l : Launch) (D : va_G) (w : Nat) (st : Nat) (hi : Nat) (re : Nat) (fo : Nat) (bu : Nat) (pa : Nat) (buA : Nat) (sz : Nat) : k_Mi (S := Unit) l D yX7_clearBuffer cX7_clearBuffer 2 (some .int) 1 0 0 20 [.ref w] [(w, .inr (7, [.ref st, .ref hi, .ref re, .ref fo, .ref bu, .ref pa])), (bu, .inr (4, [.ref buA, .int 0]))] [] (fun (r : Int32) (_ : Unit) => r = 0) (fun _ => [(w, .inr (7, [.ref st, .ref hi, .ref re, .ref fo, .ref bu, .ref pa])), (bu, .inr (4, [.ref buA, .int 0]))]) (fun _ => []) sz := by
  refine Met.ofW (cc := cX7_clearBuffer) (maxL := 2) (ret := (some .int)) (by decide) rfl ?_
  intro p e s m args below meth c s₁ B hml hv
  obtain ⟨rfl, hsz, hP, hK, hD0, hG⟩ := hv
  have hx := B.exec
  have hb := B.bytes
  have hr := B.returns
  have ht : ∀ v9 ∈ wsA, v9.before ([.ref w] : List Value).toArray s = true := fun v9 h9 => atoms_spec (ws := k_ws yX7_clearBuffer cX7_clearBuffer 2 (some .int)) B.pre v9 (List.mem_cons_of_mem _ h9)
  have hown : s.vm.findClass RX7 = some m.cls := findClass_of_methodNamed B.named
  have S0 : k_C p s m ([.ref w] : List Value).toArray c cX7_clearBuffer 2 RX7 := ⟨hx, hb, hml, hown, ht⟩
  have hlocks := B.notSynchronized
  subst hsz
  have hD := hD0.self (sz := s.heap.size)
  generalize hAe : va_A [(w, .inr (7, [.ref st, .ref hi, .ref re, .ref fo, .ref bu, .ref pa])), (bu, .inr (4, [.ref buA, .int 0]))] s.heap.size = A at hD hG ⊢
  have hA : ∀ q : Nat, s.heap.size ≤ q → A q := fun q h => by rw [← hAe]; exact Or.inr h
  have hS : va_S A s.heap s.heap [] := va_S.rf
  have hl := lv_entry ([.ref w]) (n := 2) (Nat.le_of_ble_eq_true rfl)
  rw [lg_entry_eq]
  generalize (lg_sl ([.ref w]) ++ List.replicate (2 - (lg_sl ([.ref w])).length) Slot.unset).toArray = ls at hl ⊢
  have hl : lv_has ls 2 [(0, .ref w)] := hl
  have hP : va_P D vwCl [(w, .inr (7, [.ref st, .ref hi, .ref re, .ref fo, .ref bu, .ref pa])), (bu, .inr (4, [.ref buA, .int 0]))] s.heap := hP
  refine lv_aload_n hx hb dX7_clearBuffer_0 rfl (lv_at hl 0 rfl) ?_
  refine va_get (D := D) (ci := 7) (v := .ref bu) (C := RX7) (T := TX7) (N := 6) hx hb ht inA_X7 hown hK hP 0 rfl rfl 4 (by decide) (ht _ lf_X7_39) (fun _ h9 => h9) rfl dX7_clearBuffer_1 ?_
  have ct := k_cut_of (wc := [(bu, .inr (4, [.ref buA, .int 0]))]) (wr := [(w, .inr (7, [.ref st, .ref hi, .ref re, .ref fo, .ref bu, .ref pa]))]) (tc := []) hG hS hA hK hP hD [1] [0] [] rfl rfl (by decide) (by decide) (by decide) rfl
  refine k_endi (As := [.ref bu]) ct (k_runV (As := []) (rest := []) S0 Lv_X7_136 rfl (ci := 4) (q0 := 0) rfl rfl ct (c_Row_size l D bu buA 0 s.heap.size) hl.1 rfl (Nat.le_of_ble_eq_true rfl) rfl dX7_clearBuffer_4 ⟨⟨Nat.le_of_ble_eq_true rfl, Nat.le_of_ble_eq_true rfl⟩, Nat.le_of_ble_eq_true rfl, Nat.le_of_ble_eq_true rfl⟩) rfl rfl (fun r_1 _ H locs hw_2 hP hD hK hS => ?_)
  have hK : va_K D vwCl [] s := hK
  have hP : va_P D vwCl [(w, .inr (7, [.ref st, .ref hi, .ref re, .ref fo, .ref bu, .ref pa])), (bu, .inr (4, [.ref buA, .int 0]))] H := hP
  have hD : va_D A [(w, .inr (7, [.ref st, .ref hi, .ref re, .ref fo, .ref bu, .ref pa])), (bu, .inr (4, [.ref buA, .int 0]))] := hD
  have hw_2 : r_1 = 0 := hw_2
  have hw_2 := hw_2.symm
  subst hw_2
  refine k_nrm (y := 0) rfl ?_
  refine lv_istore_n (lv' := [(1, .int 0), (0, .ref w)]) hx hb dX7_clearBuffer_7 rfl hl (by decide) rfl (fun ls hl => ?_)
  refine lv_aload_n hx hb dX7_clearBuffer_8 rfl (lv_at hl 1 rfl) ?_
  refine va_get (D := D) (ci := 7) (v := .ref bu) (C := RX7) (T := TX7) (N := 6) hx hb ht inA_X7 hown hK hP 0 rfl rfl 4 (by decide) (ht _ lf_X7_39) (fun _ h9 => h9) rfl dX7_clearBuffer_9 ?_
  have ct := k_cut_of (wc := [(bu, .inr (4, [.ref buA, .int 0]))]) (wr := [(w, .inr (7, [.ref st, .ref hi, .ref re, .ref fo, .ref bu, .ref pa]))]) (tc := []) hG hS hA hK hP hD [1] [0] [] rfl rfl (by decide) (by decide) (by decide) rfl
  refine k_endv (As := [.ref bu]) ct (k_runV (As := []) (rest := []) S0 Lv_X7_137 rfl (ci := 4) (q0 := 0) rfl rfl ct (c_Row_clear l D bu buA 0 H.size) hl.1 rfl (Nat.le_of_ble_eq_true rfl) rfl dX7_clearBuffer_12 ⟨⟨Nat.le_of_ble_eq_true rfl, Nat.le_of_ble_eq_true rfl⟩, Nat.le_of_ble_eq_true rfl, Nat.le_of_ble_eq_true rfl⟩) rfl rfl (fun _ _ H locs hw_4 hP hD hK hS => ?_)
  have hK : va_K D vwCl [] s := hK
  have hP : va_P D vwCl [(w, .inr (7, [.ref st, .ref hi, .ref re, .ref fo, .ref bu, .ref pa])), (bu, .inr (4, [.ref buA, .int 0]))] H := hP
  have hD : va_D A [(w, .inr (7, [.ref st, .ref hi, .ref re, .ref fo, .ref bu, .ref pa])), (bu, .inr (4, [.ref buA, .int 0]))] := hD
  refine lv_iload_n hx hb dX7_clearBuffer_15 rfl (lv_at hl 0 rfl) ?_
  have hP9 : va_P D vwCl [(w, .inr (7, [.ref st, .ref hi, .ref re, .ref fo, .ref bu, .ref pa])), (bu, .inr (4, [.ref buA, .int 0]))] H := hP.sub [0, 1] rfl
  have hD9 : va_D A [(w, .inr (7, [.ref st, .ref hi, .ref re, .ref fo, .ref bu, .ref pa])), (bu, .inr (4, [.ref buA, .int 0]))] := hD.sub [0, 1] (by decide) rfl
  have hK9 : va_K D vwCl [] s := hK.sub [] rfl
  exact W.iret (v := 0) hx hb hr (fun t ht9 hW9 => ⟨⟨0, (), rfl, by first | rfl | trivial | (simp only [if_true, if_false, reduceIte, and_self]; done) | simp_all, ⟨by rw [ht9]; exact hP9, va_K.moved hW9.alike hK9, hD9⟩⟩, hS.F ht9⟩) hS.2.2 dX7_clearBuffer_16
set_option maxHeartbeats 4000000 in
set_option maxRecDepth 100000 in
theorem c_restart0 (l : Launch) (D : va_G) (pa : Nat) (sz : Nat) : k_Mv (S := Unit) l D yX1_restart cX1_restart 1 none 0 0 0 0 [.ref pa] [(pa, .inr (1, [.int 0, .int 0, .int 0, .int 0, .int 0, .int 0]))] [] (fun (_ : Unit) => True) (fun _ => [(pa, .inr (1, [.int 0, .int 0, .int 0, .int 0, .int 0, .int 0]))]) (fun _ => []) sz := by
  refine Met.ofW (cc := cX1_restart) (maxL := 1) (ret := none) (by decide) rfl ?_
  intro p e s m args below meth c s₁ B hml hv
  obtain ⟨rfl, hsz, hP, hK, hD0, hG⟩ := hv
  have hx := B.exec
  have hb := B.bytes
  have hr := B.returns
  have ht : ∀ v9 ∈ wsA, v9.before ([.ref pa] : List Value).toArray s = true := fun v9 h9 => atoms_spec (ws := k_ws yX1_restart cX1_restart 1 none) B.pre v9 (List.mem_cons_of_mem _ h9)
  have hown : s.vm.findClass RX1 = some m.cls := findClass_of_methodNamed B.named
  have S0 : k_C p s m ([.ref pa] : List Value).toArray c cX1_restart 1 RX1 := ⟨hx, hb, hml, hown, ht⟩
  have hlocks := B.notSynchronized
  subst hsz
  have hD := hD0.self (sz := s.heap.size)
  generalize hAe : va_A [(pa, .inr (1, [.int 0, .int 0, .int 0, .int 0, .int 0, .int 0]))] s.heap.size = A at hD hG ⊢
  have hA : ∀ q : Nat, s.heap.size ≤ q → A q := fun q h => by rw [← hAe]; exact Or.inr h
  have hS : va_S A s.heap s.heap [] := va_S.rf
  have hl := lv_entry ([.ref pa]) (n := 1) (Nat.le_of_ble_eq_true rfl)
  rw [lg_entry_eq]
  generalize (lg_sl ([.ref pa]) ++ List.replicate (1 - (lg_sl ([.ref pa])).length) Slot.unset).toArray = ls at hl ⊢
  have hl : lv_has ls 1 [(0, .ref pa)] := hl
  have hP : va_P D vwCl [(pa, .inr (1, [.int 0, .int 0, .int 0, .int 0, .int 0, .int 0]))] s.heap := hP
  refine lv_aload_n hx hb dX1_restart_0 rfl (lv_at hl 0 rfl) ?_
  refine lv_iconst (v := 0) hx hb dX1_restart_1 (by decide) ?_
  refine va_put (D := D) (ci := 1) (v := .int 0) (ty := .int) (C := RX1) (T := TX1) (N := 6) hx hb ht inA_X1 tyX1 tyX1_ok nmX1 hown hK hP hD hS 0 rfl rfl 4 (by decide) (ht _ lf_X1_11) (fun _ h9 => h9) rfl (tyX1_ok 4 (by decide)) rfl rfl (Nat.le_of_ble_eq_true rfl) dX1_restart_2 (fun H locs hP hD hS => ?_)
  have hP : va_P D vwCl [(pa, .inr (1, [.int 0, .int 0, .int 0, .int 0, .int 0, .int 0]))] H := hP
  have hD : va_D A [(pa, .inr (1, [.int 0, .int 0, .int 0, .int 0, .int 0, .int 0]))] := hD
  have hP9 : va_P D vwCl [(pa, .inr (1, [.int 0, .int 0, .int 0, .int 0, .int 0, .int 0]))] H := hP.sub [0] rfl
  have hD9 : va_D A [(pa, .inr (1, [.int 0, .int 0, .int 0, .int 0, .int 0, .int 0]))] := hD.sub [0] (by decide) rfl
  have hK9 : va_K D vwCl [] s := hK.sub [] rfl
  exact W.vret hx hb hr (fun t ht9 hW9 => ⟨⟨(), rfl, by first | rfl | trivial | (simp only [if_true, if_false, reduceIte, and_self]; done) | simp_all, ⟨by rw [ht9]; exact hP9, va_K.moved hW9.alike hK9, hD9⟩⟩, hS.F ht9⟩) hS.2.2 dX1_restart_5
set_option maxHeartbeats 4000000 in
set_option maxRecDepth 100000 in
theorem c_atEnd0 (l : Launch) (D : va_G) (pa : Nat) (sz : Nat) : k_Mi (S := Unit) l D yX1_isAtEndOfCommand cX1_isAtEndOfCommand 2 (some .boolean) 0 0 0 0 [.ref pa] [(pa, .inr (1, [.int 0, .int 0, .int 0, .int 0, .int 0, .int 0]))] [] (fun (r : Int32) (_ : Unit) => r = 0) (fun _ => [(pa, .inr (1, [.int 0, .int 0, .int 0, .int 0, .int 0, .int 0]))]) (fun _ => []) sz := by
  refine Met.ofW (cc := cX1_isAtEndOfCommand) (maxL := 2) (ret := (some .boolean)) (by decide) rfl ?_
  intro p e s m args below meth c s₁ B hml hv
  obtain ⟨rfl, hsz, hP, hK, hD0, hG⟩ := hv
  have hx := B.exec
  have hb := B.bytes
  have hr := B.returns
  have ht : ∀ v9 ∈ wsA, v9.before ([.ref pa] : List Value).toArray s = true := fun v9 h9 => atoms_spec (ws := k_ws yX1_isAtEndOfCommand cX1_isAtEndOfCommand 2 (some .boolean)) B.pre v9 (List.mem_cons_of_mem _ h9)
  have hown : s.vm.findClass RX1 = some m.cls := findClass_of_methodNamed B.named
  have S0 : k_C p s m ([.ref pa] : List Value).toArray c cX1_isAtEndOfCommand 2 RX1 := ⟨hx, hb, hml, hown, ht⟩
  have hlocks := B.notSynchronized
  subst hsz
  have hD := hD0.self (sz := s.heap.size)
  generalize hAe : va_A [(pa, .inr (1, [.int 0, .int 0, .int 0, .int 0, .int 0, .int 0]))] s.heap.size = A at hD hG ⊢
  have hA : ∀ q : Nat, s.heap.size ≤ q → A q := fun q h => by rw [← hAe]; exact Or.inr h
  have hS : va_S A s.heap s.heap [] := va_S.rf
  have hl := lv_entry ([.ref pa]) (n := 2) (Nat.le_of_ble_eq_true rfl)
  rw [lg_entry_eq]
  generalize (lg_sl ([.ref pa]) ++ List.replicate (2 - (lg_sl ([.ref pa])).length) Slot.unset).toArray = ls at hl ⊢
  have hl : lv_has ls 2 [(0, .ref pa)] := hl
  have hP : va_P D vwCl [(pa, .inr (1, [.int 0, .int 0, .int 0, .int 0, .int 0, .int 0]))] s.heap := hP
  refine lv_aload_n hx hb dX1_isAtEndOfCommand_0 rfl (lv_at hl 0 rfl) ?_
  refine va_get (D := D) (ci := 1) (v := .int 0) (C := RX1) (T := TX1) (N := 6) hx hb ht inA_X1 hown hK hP 0 rfl rfl 4 (by decide) (ht _ lf_X1_11) (fun _ h9 => h9) rfl dX1_isAtEndOfCommand_1 ?_
  refine lv_iconst (v := 2) hx hb dX1_isAtEndOfCommand_4 (by decide) ?_
  refine lv_icmp_eq (tgt := 25) hx hb dX1_isAtEndOfCommand_5 (by decide) (fun c9 => absurd c9 (by decide)) (fun _ => ?_)
  refine lv_aload_n hx hb dX1_isAtEndOfCommand_8 rfl (lv_at hl 0 rfl) ?_
  refine va_get (D := D) (ci := 1) (v := .int 0) (C := RX1) (T := TX1) (N := 6) hx hb ht inA_X1 hown hK hP 0 rfl rfl 4 (by decide) (ht _ lf_X1_11) (fun _ h9 => h9) rfl dX1_isAtEndOfCommand_9 ?_
  refine lv_iconst (v := 1) hx hb dX1_isAtEndOfCommand_12 (by decide) ?_
  refine lv_icmp_ne (tgt := 29) hx hb dX1_isAtEndOfCommand_13 (by decide) (fun _ => ?_) (fun c9 => absurd c9 (by decide))
  refine lv_iconst (v := 0) hx hb dX1_isAtEndOfCommand_29 (by decide) ?_
  refine lv_istore_n (lv' := [(1, .int 0), (0, .ref pa)]) hx hb dX1_isAtEndOfCommand_30 rfl hl (by decide) rfl (fun ls hl => ?_)
  refine lv_iload_n hx hb dX1_isAtEndOfCommand_31 rfl (lv_at hl 0 rfl) ?_
  refine lv_if_eq (tgt := 46) hx hb dX1_isAtEndOfCommand_32 (by decide) (fun _ => ?_) (fun c9 => absurd (by decide) c9)
  refine lv_iconst (v := 0) hx hb dX1_isAtEndOfCommand_46 (by decide) ?_
  have hP9 : va_P D vwCl [(pa, .inr (1, [.int 0, .int 0, .int 0, .int 0, .int 0, .int 0]))] s.heap := hP.sub [0] rfl
  have hD9 : va_D A [(pa, .inr (1, [.int 0, .int 0, .int 0, .int 0, .int 0, .int 0]))] := hD.sub [0] (by decide) rfl
  have hK9 : va_K D vwCl [] s := hK.sub [] rfl
  exact W.zret (v := 0) hx hb hr (rfl) (fun t ht9 hW9 => ⟨⟨0, (), rfl, by first | rfl | trivial | (simp only [if_true, if_false, reduceIte, and_self]; done) | simp_all, ⟨by rw [ht9]; exact hP9, va_K.moved hW9.alike hK9, hD9⟩⟩, hS.F ht9⟩) hS.2.2 dX1_isAtEndOfCommand_47
set_option maxHeartbeats 4000000 in
set_option maxRecDepth 100000 in
theorem c_W_parse (l : Launch) (D : va_G) (w : Nat) (st : Nat) (hi : Nat) (re : Nat) (fo : Nat) (bu : Nat) (pa : Nat) (buA : Nat) (sz : Nat) : k_Mi (S := Unit) l D yX7_parseBuffer cX7_parseBuffer 2 (some .int) 1 0 0 20 [.ref w] [(w, .inr (7, [.ref st, .ref hi, .ref re, .ref fo, .ref bu, .ref pa])), (bu, .inr (4, [.ref buA, .int 0])), (pa, .inr (1, [.int 0, .int 0, .int 0, .int 0, .int 0, .int 0]))] [] (fun (r : Int32) (_ : Unit) => r = 0) (fun _ => [(w, .inr (7, [.ref st, .ref hi, .ref re, .ref fo, .ref bu, .ref pa])), (bu, .inr (4, [.ref buA, .int 0])), (pa, .inr (1, [.int 0, .int 0, .int 0, .int 0, .int 0, .int 0]))]) (fun _ => []) sz := by
  refine Met.ofW (cc := cX7_parseBuffer) (maxL := 2) (ret := (some .int)) (by decide) rfl ?_
  intro p e s m args below meth c s₁ B hml hv
  obtain ⟨rfl, hsz, hP, hK, hD0, hG⟩ := hv
  have hx := B.exec
  have hb := B.bytes
  have hr := B.returns
  have ht : ∀ v9 ∈ wsA, v9.before ([.ref w] : List Value).toArray s = true := fun v9 h9 => atoms_spec (ws := k_ws yX7_parseBuffer cX7_parseBuffer 2 (some .int)) B.pre v9 (List.mem_cons_of_mem _ h9)
  have hown : s.vm.findClass RX7 = some m.cls := findClass_of_methodNamed B.named
  have S0 : k_C p s m ([.ref w] : List Value).toArray c cX7_parseBuffer 2 RX7 := ⟨hx, hb, hml, hown, ht⟩
  have hlocks := B.notSynchronized
  subst hsz
  have hD := hD0.self (sz := s.heap.size)
  generalize hAe : va_A [(w, .inr (7, [.ref st, .ref hi, .ref re, .ref fo, .ref bu, .ref pa])), (bu, .inr (4, [.ref buA, .int 0])), (pa, .inr (1, [.int 0, .int 0, .int 0, .int 0, .int 0, .int 0]))] s.heap.size = A at hD hG ⊢
  have hA : ∀ q : Nat, s.heap.size ≤ q → A q := fun q h => by rw [← hAe]; exact Or.inr h
  have hS : va_S A s.heap s.heap [] := va_S.rf
  have hl := lv_entry ([.ref w]) (n := 2) (Nat.le_of_ble_eq_true rfl)
  rw [lg_entry_eq]
  generalize (lg_sl ([.ref w]) ++ List.replicate (2 - (lg_sl ([.ref w])).length) Slot.unset).toArray = ls at hl ⊢
  have hl : lv_has ls 2 [(0, .ref w)] := hl
  have hP : va_P D vwCl [(w, .inr (7, [.ref st, .ref hi, .ref re, .ref fo, .ref bu, .ref pa])), (bu, .inr (4, [.ref buA, .int 0])), (pa, .inr (1, [.int 0, .int 0, .int 0, .int 0, .int 0, .int 0]))] s.heap := hP
  refine lv_aload_n hx hb dX7_parseBuffer_0 rfl (lv_at hl 0 rfl) ?_
  refine va_get (D := D) (ci := 7) (v := .ref pa) (C := RX7) (T := TX7) (N := 6) hx hb ht inA_X7 hown hK hP 0 rfl rfl 5 (by decide) (ht _ lf_X7_45) (fun _ h9 => h9) rfl dX7_parseBuffer_1 ?_
  have ct := k_cut_of (wc := [(pa, .inr (1, [.int 0, .int 0, .int 0, .int 0, .int 0, .int 0]))]) (wr := [(w, .inr (7, [.ref st, .ref hi, .ref re, .ref fo, .ref bu, .ref pa])), (bu, .inr (4, [.ref buA, .int 0]))]) (tc := []) hG hS hA hK hP hD [2] [0, 1] [] rfl rfl (by decide) (by decide) (by decide) rfl
  refine k_endv (As := [.ref pa]) ct (k_runV (As := []) (rest := []) S0 Lv_X7_214 rfl (ci := 1) (q0 := 0) rfl rfl ct (c_restart0 l D pa s.heap.size) hl.1 rfl (Nat.le_of_ble_eq_true rfl) rfl dX7_parseBuffer_4 ⟨⟨Nat.le_of_ble_eq_true rfl, Nat.le_of_ble_eq_true rfl⟩, Nat.le_of_ble_eq_true rfl, Nat.le_of_ble_eq_true rfl⟩) rfl rfl (fun _ _ H locs hw_2 hP hD hK hS => ?_)
  have hK : va_K D vwCl [] s := hK
  have hP : va_P D vwCl [(w, .inr (7, [.ref st, .ref hi, .ref re, .ref fo, .ref bu, .ref pa])), (bu, .inr (4, [.ref buA, .int 0])), (pa, .inr (1, [.int 0, .int 0, .int 0, .int 0, .int 0, .int 0]))] H := hP
  have hD : va_D A [(w, .inr (7, [.ref st, .ref hi, .ref re, .ref fo, .ref bu, .ref pa])), (bu, .inr (4, [.ref buA, .int 0])), (pa, .inr (1, [.int 0, .int 0, .int 0, .int 0, .int 0, .int 0]))] := hD
  refine lv_iconst (v := 0) hx hb dX7_parseBuffer_7 (by decide) ?_
  refine lv_istore_n (lv' := [(1, .int 0), (0, .ref w)]) hx hb dX7_parseBuffer_8 rfl hl (by decide) rfl (fun ls hl => ?_)
  refine lv_iload_n hx hb dX7_parseBuffer_9 rfl (lv_at hl 0 rfl) ?_
  refine lv_aload_n hx hb dX7_parseBuffer_10 rfl (lv_at hl 1 rfl) ?_
  refine va_get (D := D) (ci := 7) (v := .ref bu) (C := RX7) (T := TX7) (N := 6) hx hb ht inA_X7 hown hK hP 0 rfl rfl 4 (by decide) (ht _ lf_X7_39) (fun _ h9 => h9) rfl dX7_parseBuffer_11 ?_
  have ct := k_cut_of (wc := [(bu, .inr (4, [.ref buA, .int 0]))]) (wr := [(w, .inr (7, [.ref st, .ref hi, .ref re, .ref fo, .ref bu, .ref pa])), (pa, .inr (1, [.int 0, .int 0, .int 0, .int 0, .int 0, .int 0]))]) (tc := []) hG hS hA hK hP hD [1] [0, 2] [] rfl rfl (by decide) (by decide) (by decide) rfl
  refine k_endi (As := [.ref bu]) ct (k_runV (As := []) (rest := [.int 0]) S0 Lv_X7_136 rfl (ci := 4) (q0 := 0) rfl rfl ct (c_Row_size l D bu buA 0 H.size) hl.1 rfl (Nat.le_of_ble_eq_true rfl) rfl dX7_parseBuffer_14 ⟨⟨Nat.le_of_ble_eq_true rfl, Nat.le_of_ble_eq_true rfl⟩, Nat.le_of_ble_eq_true rfl, Nat.le_of_ble_eq_true rfl⟩) rfl rfl (fun r_3 _ H locs hw_4 hP hD hK hS => ?_)
  have hK : va_K D vwCl [] s := hK
  have hP : va_P D vwCl [(w, .inr (7, [.ref st, .ref hi, .ref re, .ref fo, .ref bu, .ref pa])), (pa, .inr (1, [.int 0, .int 0, .int 0, .int 0, .int 0, .int 0])), (bu, .inr (4, [.ref buA, .int 0]))] H := hP
  have hD : va_D A [(w, .inr (7, [.ref st, .ref hi, .ref re, .ref fo, .ref bu, .ref pa])), (pa, .inr (1, [.int 0, .int 0, .int 0, .int 0, .int 0, .int 0])), (bu, .inr (4, [.ref buA, .int 0]))] := hD
  have hw_4 : r_3 = 0 := hw_4
  have hw_4 := hw_4.symm
  subst hw_4
  refine k_nrm (y := 0) rfl ?_
  refine lv_icmp_ge (tgt := 46) hx hb dX7_parseBuffer_17 (by decide) (fun _ => ?_) (fun c9 => absurd (by decide) c9)
  refine lv_aload_n hx hb dX7_parseBuffer_46 rfl (lv_at hl 1 rfl) ?_
  refine va_get (D := D) (ci := 7) (v := .ref bu) (C := RX7) (T := TX7) (N := 6) hx hb ht inA_X7 hown hK hP 0 rfl rfl 4 (by decide) (ht _ lf_X7_39) (fun _ h9 => h9) rfl dX7_parseBuffer_47 ?_
  have ct := k_cut_of (wc := [(bu, .inr (4, [.ref buA, .int 0]))]) (wr := [(w, .inr (7, [.ref st, .ref hi, .ref re, .ref fo, .ref bu, .ref pa])), (pa, .inr (1, [.int 0, .int 0, .int 0, .int 0, .int 0, .int 0]))]) (tc := []) hG hS hA hK hP hD [2] [0, 1] [] rfl rfl (by decide) (by decide) (by decide) rfl
  refine k_endi (As := [.ref bu]) ct (k_runV (As := []) (rest := []) S0 Lv_X7_136 rfl (ci := 4) (q0 := 0) rfl rfl ct (c_Row_size l D bu buA 0 H.size) hl.1 rfl (Nat.le_of_ble_eq_true rfl) rfl dX7_parseBuffer_50 ⟨⟨Nat.le_of_ble_eq_true rfl, Nat.le_of_ble_eq_true rfl⟩, Nat.le_of_ble_eq_true rfl, Nat.le_of_ble_eq_true rfl⟩) rfl rfl (fun r_5 _ H locs hw_6 hP hD hK hS => ?_)
  have hK : va_K D vwCl [] s := hK
  have hP : va_P D vwCl [(w, .inr (7, [.ref st, .ref hi, .ref re, .ref fo, .ref bu, .ref pa])), (pa, .inr (1, [.int 0, .int 0, .int 0, .int 0, .int 0, .int 0])), (bu, .inr (4, [.ref buA, .int 0]))] H := hP
  have hD : va_D A [(w, .inr (7, [.ref st, .ref hi, .ref re, .ref fo, .ref bu, .ref pa])), (pa, .inr (1, [.int 0, .int 0, .int 0, .int 0, .int 0, .int 0])), (bu, .inr (4, [.ref buA, .int 0]))] := hD
  have hw_6 : r_5 = 0 := hw_6
  have hw_6 := hw_6.symm
  subst hw_6
  refine k_nrm (y := 0) rfl ?_
  have hP9 : va_P D vwCl [(w, .inr (7, [.ref st, .ref hi, .ref re, .ref fo, .ref bu, .ref pa])), (bu, .inr (4, [.ref buA, .int 0])), (pa, .inr (1, [.int 0, .int 0, .int 0, .int 0, .int 0, .int 0]))] H := hP.sub [0, 2, 1] rfl
  have hD9 : va_D A [(w, .inr (7, [.ref st, .ref hi, .ref re, .ref fo, .ref bu, .ref pa])), (bu, .inr (4, [.ref buA, .int 0])), (pa, .inr (1, [.int 0, .int 0, .int 0, .int 0, .int 0, .int 0]))] := hD.sub [0, 2, 1] (by decide) rfl
  have hK9 : va_K D vwCl [] s := hK.sub [] rfl
  exact W.iret (v := 0) hx hb hr (fun t ht9 hW9 => ⟨⟨0, (), rfl, by first | rfl | trivial | (simp only [if_true, if_false, reduceIte, and_self]; done) | simp_all, ⟨by rw [ht9]; exact hP9, va_K.moved hW9.alike hK9, hD9⟩⟩, hS.F ht9⟩) hS.2.2 dX7_parseBuffer_53
set_option maxHeartbeats 4000000 in
set_option maxRecDepth 100000 in
theorem c_W_firstError (l : Launch) (D : va_G) (w : Nat) (st : Nat) (hi : Nat) (re : Nat) (fo : Nat) (bu : Nat) (pa : Nat) (buA : Nat) (sz : Nat) : k_Mi (S := Unit) l D yX7_firstError cX7_firstError 1 (some .int) 2 0 0 41 [.ref w] [(w, .inr (7, [.ref st, .ref hi, .ref re, .ref fo, .ref bu, .ref pa])), (bu, .inr (4, [.ref buA, .int 0])), (pa, .inr (1, [.int 0, .int 0, .int 0, .int 0, .int 0, .int 0]))] [] (fun (r : Int32) (_ : Unit) => r = 0) (fun _ => [(w, .inr (7, [.ref st, .ref hi, .ref re, .ref fo, .ref bu, .ref pa])), (bu, .inr (4, [.ref buA, .int 0])), (pa, .inr (1, [.int 0, .int 0, .int 0, .int 0, .int 0, .int 0]))]) (fun _ => []) sz := by
  refine Met.ofW (cc := cX7_firstError) (maxL := 1) (ret := (some .int)) (by decide) rfl ?_
  intro p e s m args below meth c s₁ B hml hv
  obtain ⟨rfl, hsz, hP, hK, hD0, hG⟩ := hv
  have hx := B.exec
  have hb := B.bytes
  have hr := B.returns
  have ht : ∀ v9 ∈ wsA, v9.before ([.ref w] : List Value).toArray s = true := fun v9 h9 => atoms_spec (ws := k_ws yX7_firstError cX7_firstError 1 (some .int)) B.pre v9 (List.mem_cons_of_mem _ h9)
  have hown : s.vm.findClass RX7 = some m.cls := findClass_of_methodNamed B.named
  have S0 : k_C p s m ([.ref w] : List Value).toArray c cX7_firstError 1 RX7 := ⟨hx, hb, hml, hown, ht⟩
  have hlocks := B.notSynchronized
  subst hsz
  have hD := hD0.self (sz := s.heap.size)
  generalize hAe : va_A [(w, .inr (7, [.ref st, .ref hi, .ref re, .ref fo, .ref bu, .ref pa])), (bu, .inr (4, [.ref buA, .int 0])), (pa, .inr (1, [.int 0, .int 0, .int 0, .int 0, .int 0, .int 0]))] s.heap.size = A at hD hG ⊢
  have hA : ∀ q : Nat, s.heap.size ≤ q → A q := fun q h => by rw [← hAe]; exact Or.inr h
  have hS : va_S A s.heap s.heap [] := va_S.rf
  have hl := lv_entry ([.ref w]) (n := 1) (Nat.le_of_ble_eq_true rfl)
  rw [lg_entry_eq]
  generalize (lg_sl ([.ref w]) ++ List.replicate (1 - (lg_sl ([.ref w])).length) Slot.unset).toArray = ls at hl ⊢
  have hl : lv_has ls 1 [(0, .ref w)] := hl
  have hP : va_P D vwCl [(w, .inr (7, [.ref st, .ref hi, .ref re, .ref fo, .ref bu, .ref pa])), (bu, .inr (4, [.ref buA, .int 0])), (pa, .inr (1, [.int 0, .int 0, .int 0, .int 0, .int 0, .int 0]))] s.heap := hP
  refine lv_aload_n hx hb dX7_firstError_0 rfl (lv_at hl 0 rfl) ?_
  have ct := k_cut_of (wc := [(w, .inr (7, [.ref st, .ref hi, .ref re, .ref fo, .ref bu, .ref pa])), (bu, .inr (4, [.ref buA, .int 0])), (pa, .inr (1, [.int 0, .int 0, .int 0, .int 0, .int 0, .int 0]))]) (wr := []) (tc := []) hG hS hA hK hP hD [0, 1, 2] [] [] rfl rfl (by decide) (by decide) (by decide) rfl
  refine k_endi (As := [.ref w]) ct (k_runV (As := []) (rest := []) S0 Lv_X7_206 rfl (ci := 7) (q0 := 0) rfl rfl ct (c_W_parse l D w st hi re fo bu pa buA s.heap.size) hl.1 rfl (Nat.le_of_ble_eq_true rfl) rfl dX7_firstError_1 ⟨⟨Nat.le_of_ble_eq_true rfl, Nat.le_of_ble_eq_true rfl⟩, Nat.le_of_ble_eq_true rfl, Nat.le_of_ble_eq_true rfl⟩) rfl rfl (fun r_1 _ H locs hw_2 hP hD hK hS => ?_)
  have hK : va_K D vwCl [] s := hK
  have hP : va_P D vwCl [(w, .inr (7, [.ref st, .ref hi, .ref re, .ref fo, .ref bu, .ref pa])), (bu, .inr (4, [.ref buA, .int 0])), (pa, .inr (1, [.int 0, .int 0, .int 0, .int 0, .int 0, .int 0]))] H := hP
  have hD : va_D A [(w, .inr (7, [.ref st, .ref hi, .ref re, .ref fo, .ref bu, .ref pa])), (bu, .inr (4, [.ref buA, .int 0])), (pa, .inr (1, [.int 0, .int 0, .int 0, .int 0, .int 0, .int 0]))] := hD
  have hw_2 : r_1 = 0 := hw_2
  have hw_2 := hw_2.symm
  subst hw_2
  refine k_nrm (y := 0) rfl ?_
  have hP9 : va_P D vwCl [(w, .inr (7, [.ref st, .ref hi, .ref re, .ref fo, .ref bu, .ref pa])), (bu, .inr (4, [.ref buA, .int 0])), (pa, .inr (1, [.int 0, .int 0, .int 0, .int 0, .int 0, .int 0]))] H := hP.sub [0, 1, 2] rfl
  have hD9 : va_D A [(w, .inr (7, [.ref st, .ref hi, .ref re, .ref fo, .ref bu, .ref pa])), (bu, .inr (4, [.ref buA, .int 0])), (pa, .inr (1, [.int 0, .int 0, .int 0, .int 0, .int 0, .int 0]))] := hD.sub [0, 1, 2] (by decide) rfl
  have hK9 : va_K D vwCl [] s := hK.sub [] rfl
  exact W.iret (v := 0) hx hb hr (fun t ht9 hW9 => ⟨⟨0, (), rfl, by first | rfl | trivial | (simp only [if_true, if_false, reduceIte, and_self]; done) | simp_all, ⟨by rw [ht9]; exact hP9, va_K.moved hW9.alike hK9, hD9⟩⟩, hS.F ht9⟩) hS.2.2 dX7_firstError_4
end
