section
-- ===== PART A: goes FIRST, ahead of the names: the tables' words, and 'selects' of the private methods out of them =====
/-- a private method of a class that the tables say can be made, by its rows of tables_1 -/
def lw_okq (q : MethodName × Nat) : Prop := (q.1.cls ≠ "java/lang/invoke/MethodHandle" ∧ q.1.cls ≠ "java/lang/invoke/VarHandle") ∧ Cond.instantiable q.1.cls q.2 ∈ tables_1 ∧ Cond.privateMethod q.1 ∈ tables_1 ∧ Cond.instanceMethod q.1 ∈ tables_1
theorem lw_p0 : lw_okq (⟨"java/lang/Throwable", "fillInStackTrace", "(I)Ljava/lang/Throwable;"⟩, 6) := ⟨⟨by decide +kernel, by decide +kernel⟩, List.mem_of_getElem? (i := 102) (by decide +kernel), List.mem_of_getElem? (i := 100) (by decide +kernel), List.mem_of_getElem? (i := 101) (by decide +kernel)⟩
theorem lw_p1 : lw_okq (⟨"SheetVault", "sheetAt", "(I)LSheetVault$Sheet;"⟩, 7) := ⟨⟨by decide +kernel, by decide +kernel⟩, List.mem_of_getElem? (i := 17) (by decide +kernel), List.mem_of_getElem? (i := 218) (by decide +kernel), List.mem_of_getElem? (i := 219) (by decide +kernel)⟩
theorem lw_p2 : lw_okq (⟨"SheetVault", "revise", "(ILSheetVault$Sheet;ILSheetVault$Entry;)I"⟩, 7) := ⟨⟨by decide +kernel, by decide +kernel⟩, List.mem_of_getElem? (i := 17) (by decide +kernel), List.mem_of_getElem? (i := 274) (by decide +kernel), List.mem_of_getElem? (i := 275) (by decide +kernel)⟩
theorem lw_p3 : lw_okq (⟨"SheetVault", "passesQuota", "(II)Z"⟩, 7) := ⟨⟨by decide +kernel, by decide +kernel⟩, List.mem_of_getElem? (i := 17) (by decide +kernel), List.mem_of_getElem? (i := 293) (by decide +kernel), List.mem_of_getElem? (i := 294) (by decide +kernel)⟩
theorem lw_p4 : lw_okq (⟨"SheetVault", "addUse", "(II)V"⟩, 7) := ⟨⟨by decide +kernel, by decide +kernel⟩, List.mem_of_getElem? (i := 17) (by decide +kernel), List.mem_of_getElem? (i := 303) (by decide +kernel), List.mem_of_getElem? (i := 304) (by decide +kernel)⟩
theorem lw_p5 : lw_okq (⟨"SheetVault$Sheet", "isHead", "(LSheetVault$Version;)Z"⟩, 5) := ⟨⟨by decide +kernel, by decide +kernel⟩, List.mem_of_getElem? (i := 131) (by decide +kernel), List.mem_of_getElem? (i := 365) (by decide +kernel), List.mem_of_getElem? (i := 366) (by decide +kernel)⟩
theorem lw_p6 : lw_okq (⟨"SheetVault$Sheet", "isTied", "(LSheetVault$Version;)Z"⟩, 5) := ⟨⟨by decide +kernel, by decide +kernel⟩, List.mem_of_getElem? (i := 131) (by decide +kernel), List.mem_of_getElem? (i := 369) (by decide +kernel), List.mem_of_getElem? (i := 370) (by decide +kernel)⟩
theorem lw_p7 : lw_okq (⟨"SheetVault$Sheet", "countChildren", "(LSheetVault$Version;)I"⟩, 5) := ⟨⟨by decide +kernel, by decide +kernel⟩, List.mem_of_getElem? (i := 131) (by decide +kernel), List.mem_of_getElem? (i := 373) (by decide +kernel), List.mem_of_getElem? (i := 374) (by decide +kernel)⟩
theorem lw_p8 : lw_okq (⟨"SheetVault", "mend", "(LSheetVault$Sheet;LSheetVault$Version;IIII)I"⟩, 7) := ⟨⟨by decide +kernel, by decide +kernel⟩, List.mem_of_getElem? (i := 17) (by decide +kernel), List.mem_of_getElem? (i := 448) (by decide +kernel), List.mem_of_getElem? (i := 449) (by decide +kernel)⟩
theorem lw_p9 : lw_okq (⟨"SheetVault", "gradeAgain", "(LSheetVault$Sheet;)I"⟩, 7) := ⟨⟨by decide +kernel, by decide +kernel⟩, List.mem_of_getElem? (i := 17) (by decide +kernel), List.mem_of_getElem? (i := 454) (by decide +kernel), List.mem_of_getElem? (i := 455) (by decide +kernel)⟩
theorem lw_p10 : lw_okq (⟨"SheetVault", "grade", "(LSheetVault$Answer;Z)I"⟩, 7) := ⟨⟨by decide +kernel, by decide +kernel⟩, List.mem_of_getElem? (i := 17) (by decide +kernel), List.mem_of_getElem? (i := 458) (by decide +kernel), List.mem_of_getElem? (i := 459) (by decide +kernel)⟩
theorem lw_p11 : lw_okq (⟨"SheetVault", "commonWords", "(ILSheetVault$Said;Z)I"⟩, 7) := ⟨⟨by decide +kernel, by decide +kernel⟩, List.mem_of_getElem? (i := 17) (by decide +kernel), List.mem_of_getElem? (i := 462) (by decide +kernel), List.mem_of_getElem? (i := 463) (by decide +kernel)⟩
theorem lw_p12 : lw_okq (⟨"SheetVault", "longestCommon", "(ILSheetVault$Said;)I"⟩, 7) := ⟨⟨by decide +kernel, by decide +kernel⟩, List.mem_of_getElem? (i := 17) (by decide +kernel), List.mem_of_getElem? (i := 482) (by decide +kernel), List.mem_of_getElem? (i := 483) (by decide +kernel)⟩
theorem lw_p13 : lw_okq (⟨"SheetVault$Entry", "earnedByChoice", "(I)I"⟩, 4) := ⟨⟨by decide +kernel, by decide +kernel⟩, List.mem_of_getElem? (i := 249) (by decide +kernel), List.mem_of_getElem? (i := 496) (by decide +kernel), List.mem_of_getElem? (i := 497) (by decide +kernel)⟩
theorem lw_p14 : lw_okq (⟨"SheetVault$Answer", "findPrintsOf", "(LSheetVault$Said;I)V"⟩, 8) := ⟨⟨by decide +kernel, by decide +kernel⟩, List.mem_of_getElem? (i := 520) (by decide +kernel), List.mem_of_getElem? (i := 518) (by decide +kernel), List.mem_of_getElem? (i := 519) (by decide +kernel)⟩
theorem lw_p15 : lw_okq (⟨"SheetVault$Answer", "insertPrint", "(I)V"⟩, 8) := ⟨⟨by decide +kernel, by decide +kernel⟩, List.mem_of_getElem? (i := 520) (by decide +kernel), List.mem_of_getElem? (i := 534) (by decide +kernel), List.mem_of_getElem? (i := 535) (by decide +kernel)⟩
def lw_privs_1 : List (MethodName × Nat) := [(⟨"java/lang/Throwable", "fillInStackTrace", "(I)Ljava/lang/Throwable;"⟩, 6), (⟨"SheetVault", "sheetAt", "(I)LSheetVault$Sheet;"⟩, 7), (⟨"SheetVault", "revise", "(ILSheetVault$Sheet;ILSheetVault$Entry;)I"⟩, 7), (⟨"SheetVault", "passesQuota", "(II)Z"⟩, 7), (⟨"SheetVault", "addUse", "(II)V"⟩, 7), (⟨"SheetVault$Sheet", "isHead", "(LSheetVault$Version;)Z"⟩, 5), (⟨"SheetVault$Sheet", "isTied", "(LSheetVault$Version;)Z"⟩, 5), (⟨"SheetVault$Sheet", "countChildren", "(LSheetVault$Version;)I"⟩, 5), (⟨"SheetVault", "mend", "(LSheetVault$Sheet;LSheetVault$Version;IIII)I"⟩, 7), (⟨"SheetVault", "gradeAgain", "(LSheetVault$Sheet;)I"⟩, 7), (⟨"SheetVault", "grade", "(LSheetVault$Answer;Z)I"⟩, 7), (⟨"SheetVault", "commonWords", "(ILSheetVault$Said;Z)I"⟩, 7), (⟨"SheetVault", "longestCommon", "(ILSheetVault$Said;)I"⟩, 7), (⟨"SheetVault$Entry", "earnedByChoice", "(I)I"⟩, 4), (⟨"SheetVault$Answer", "findPrintsOf", "(LSheetVault$Said;I)V"⟩, 8), (⟨"SheetVault$Answer", "insertPrint", "(I)V"⟩, 8)]
theorem lw_r1 : ∀ q ∈ lw_privs_1, lw_okq q := List.forall_mem_cons.mpr ⟨lw_p0, List.forall_mem_cons.mpr ⟨lw_p1, List.forall_mem_cons.mpr ⟨lw_p2, List.forall_mem_cons.mpr ⟨lw_p3, List.forall_mem_cons.mpr ⟨lw_p4, List.forall_mem_cons.mpr ⟨lw_p5, List.forall_mem_cons.mpr ⟨lw_p6, List.forall_mem_cons.mpr ⟨lw_p7, List.forall_mem_cons.mpr ⟨lw_p8, List.forall_mem_cons.mpr ⟨lw_p9, List.forall_mem_cons.mpr ⟨lw_p10, List.forall_mem_cons.mpr ⟨lw_p11, List.forall_mem_cons.mpr ⟨lw_p12, List.forall_mem_cons.mpr ⟨lw_p13, List.forall_mem_cons.mpr ⟨lw_p14, List.forall_mem_cons.mpr ⟨lw_p15, fun _ h => absurd h List.not_mem_nil⟩⟩⟩⟩⟩⟩⟩⟩⟩⟩⟩⟩⟩⟩⟩⟩
theorem lw_p16 : lw_okq (⟨"SheetVault$Answer", "placeOf", "(I)I"⟩, 8) := ⟨⟨by decide +kernel, by decide +kernel⟩, List.mem_of_getElem? (i := 520) (by decide +kernel), List.mem_of_getElem? (i := 538) (by decide +kernel), List.mem_of_getElem? (i := 539) (by decide +kernel)⟩
theorem lw_p17 : lw_okq (⟨"SheetVault", "answerAt", "(II)LSheetVault$Answer;"⟩, 7) := ⟨⟨by decide +kernel, by decide +kernel⟩, List.mem_of_getElem? (i := 17) (by decide +kernel), List.mem_of_getElem? (i := 697) (by decide +kernel), List.mem_of_getElem? (i := 698) (by decide +kernel)⟩
theorem lw_p18 : lw_okq (⟨"SheetVault", "collectThrees", "(LSheetVault$Answer;I)V"⟩, 7) := ⟨⟨by decide +kernel, by decide +kernel⟩, List.mem_of_getElem? (i := 17) (by decide +kernel), List.mem_of_getElem? (i := 794) (by decide +kernel), List.mem_of_getElem? (i := 795) (by decide +kernel)⟩
theorem lw_p19 : lw_okq (⟨"SheetVault", "collectThree", "(II)V"⟩, 7) := ⟨⟨by decide +kernel, by decide +kernel⟩, List.mem_of_getElem? (i := 17) (by decide +kernel), List.mem_of_getElem? (i := 801) (by decide +kernel), List.mem_of_getElem? (i := 802) (by decide +kernel)⟩
theorem lw_p20 : lw_okq (⟨"SheetVault", "isCollected", "(II)Z"⟩, 7) := ⟨⟨by decide +kernel, by decide +kernel⟩, List.mem_of_getElem? (i := 17) (by decide +kernel), List.mem_of_getElem? (i := 805) (by decide +kernel), List.mem_of_getElem? (i := 806) (by decide +kernel)⟩
theorem lw_p21 : lw_okq (⟨"SheetVault", "commonThrees", "(II)I"⟩, 7) := ⟨⟨by decide +kernel, by decide +kernel⟩, List.mem_of_getElem? (i := 17) (by decide +kernel), List.mem_of_getElem? (i := 809) (by decide +kernel), List.mem_of_getElem? (i := 810) (by decide +kernel)⟩
theorem lw_p22 : lw_okq (⟨"SheetVaultModel", "refused", "(I)Z"⟩, 27) := ⟨⟨by decide +kernel, by decide +kernel⟩, List.mem_of_getElem? (i := 846) (by decide +kernel), List.mem_of_getElem? (i := 942) (by decide +kernel), List.mem_of_getElem? (i := 943) (by decide +kernel)⟩
theorem lw_p23 : lw_okq (⟨"SheetVaultModel", "canName", "(III)Z"⟩, 27) := ⟨⟨by decide +kernel, by decide +kernel⟩, List.mem_of_getElem? (i := 846) (by decide +kernel), List.mem_of_getElem? (i := 953) (by decide +kernel), List.mem_of_getElem? (i := 954) (by decide +kernel)⟩
theorem lw_p24 : lw_okq (⟨"SheetVaultModel", "isSheet", "(I)Z"⟩, 27) := ⟨⟨by decide +kernel, by decide +kernel⟩, List.mem_of_getElem? (i := 846) (by decide +kernel), List.mem_of_getElem? (i := 960) (by decide +kernel), List.mem_of_getElem? (i := 961) (by decide +kernel)⟩
theorem lw_p25 : lw_okq (⟨"SheetVaultModel", "canRevise", "(III)Z"⟩, 27) := ⟨⟨by decide +kernel, by decide +kernel⟩, List.mem_of_getElem? (i := 846) (by decide +kernel), List.mem_of_getElem? (i := 967) (by decide +kernel), List.mem_of_getElem? (i := 968) (by decide +kernel)⟩
theorem lw_p26 : lw_okq (⟨"SheetVaultModel", "fits", "(II)Z"⟩, 27) := ⟨⟨by decide +kernel, by decide +kernel⟩, List.mem_of_getElem? (i := 846) (by decide +kernel), List.mem_of_getElem? (i := 971) (by decide +kernel), List.mem_of_getElem? (i := 972) (by decide +kernel)⟩
theorem lw_p27 : lw_okq (⟨"SheetVaultModel", "usedBy", "(I)I"⟩, 27) := ⟨⟨by decide +kernel, by decide +kernel⟩, List.mem_of_getElem? (i := 846) (by decide +kernel), List.mem_of_getElem? (i := 975) (by decide +kernel), List.mem_of_getElem? (i := 976) (by decide +kernel)⟩
theorem lw_p28 : lw_okq (⟨"SheetVaultModel", "costOf", "(I)I"⟩, 27) := ⟨⟨by decide +kernel, by decide +kernel⟩, List.mem_of_getElem? (i := 846) (by decide +kernel), List.mem_of_getElem? (i := 979) (by decide +kernel), List.mem_of_getElem? (i := 980) (by decide +kernel)⟩
theorem lw_p29 : lw_okq (⟨"SheetVaultModel", "taken", "(I)I"⟩, 27) := ⟨⟨by decide +kernel, by decide +kernel⟩, List.mem_of_getElem? (i := 846) (by decide +kernel), List.mem_of_getElem? (i := 989) (by decide +kernel), List.mem_of_getElem? (i := 990) (by decide +kernel)⟩
theorem lw_p30 : lw_okq (⟨"SheetVaultModel", "revise", "(IIIIIII)I"⟩, 27) := ⟨⟨by decide +kernel, by decide +kernel⟩, List.mem_of_getElem? (i := 846) (by decide +kernel), List.mem_of_getElem? (i := 993) (by decide +kernel), List.mem_of_getElem? (i := 994) (by decide +kernel)⟩
theorem lw_p31 : lw_okq (⟨"SheetVaultModel", "has", "(III)I"⟩, 27) := ⟨⟨by decide +kernel, by decide +kernel⟩, List.mem_of_getElem? (i := 846) (by decide +kernel), List.mem_of_getElem? (i := 1013) (by decide +kernel), List.mem_of_getElem? (i := 1014) (by decide +kernel)⟩
def lw_privs_2 : List (MethodName × Nat) := [(⟨"SheetVault$Answer", "placeOf", "(I)I"⟩, 8), (⟨"SheetVault", "answerAt", "(II)LSheetVault$Answer;"⟩, 7), (⟨"SheetVault", "collectThrees", "(LSheetVault$Answer;I)V"⟩, 7), (⟨"SheetVault", "collectThree", "(II)V"⟩, 7), (⟨"SheetVault", "isCollected", "(II)Z"⟩, 7), (⟨"SheetVault", "commonThrees", "(II)I"⟩, 7), (⟨"SheetVaultModel", "refused", "(I)Z"⟩, 27), (⟨"SheetVaultModel", "canName", "(III)Z"⟩, 27), (⟨"SheetVaultModel", "isSheet", "(I)Z"⟩, 27), (⟨"SheetVaultModel", "canRevise", "(III)Z"⟩, 27), (⟨"SheetVaultModel", "fits", "(II)Z"⟩, 27), (⟨"SheetVaultModel", "usedBy", "(I)I"⟩, 27), (⟨"SheetVaultModel", "costOf", "(I)I"⟩, 27), (⟨"SheetVaultModel", "taken", "(I)I"⟩, 27), (⟨"SheetVaultModel", "revise", "(IIIIIII)I"⟩, 27), (⟨"SheetVaultModel", "has", "(III)I"⟩, 27)]
theorem lw_r2 : ∀ q ∈ lw_privs_2, lw_okq q := List.forall_mem_cons.mpr ⟨lw_p16, List.forall_mem_cons.mpr ⟨lw_p17, List.forall_mem_cons.mpr ⟨lw_p18, List.forall_mem_cons.mpr ⟨lw_p19, List.forall_mem_cons.mpr ⟨lw_p20, List.forall_mem_cons.mpr ⟨lw_p21, List.forall_mem_cons.mpr ⟨lw_p22, List.forall_mem_cons.mpr ⟨lw_p23, List.forall_mem_cons.mpr ⟨lw_p24, List.forall_mem_cons.mpr ⟨lw_p25, List.forall_mem_cons.mpr ⟨lw_p26, List.forall_mem_cons.mpr ⟨lw_p27, List.forall_mem_cons.mpr ⟨lw_p28, List.forall_mem_cons.mpr ⟨lw_p29, List.forall_mem_cons.mpr ⟨lw_p30, List.forall_mem_cons.mpr ⟨lw_p31, fun _ h => absurd h List.not_mem_nil⟩⟩⟩⟩⟩⟩⟩⟩⟩⟩⟩⟩⟩⟩⟩⟩
theorem lw_p32 : lw_okq (⟨"SheetVaultModel", "entryFor", "(III)I"⟩, 27) := ⟨⟨by decide +kernel, by decide +kernel⟩, List.mem_of_getElem? (i := 846) (by decide +kernel), List.mem_of_getElem? (i := 1017) (by decide +kernel), List.mem_of_getElem? (i := 1018) (by decide +kernel)⟩
theorem lw_p33 : lw_okq (⟨"SheetVaultModel", "isVersion", "(II)Z"⟩, 27) := ⟨⟨by decide +kernel, by decide +kernel⟩, List.mem_of_getElem? (i := 846) (by decide +kernel), List.mem_of_getElem? (i := 1025) (by decide +kernel), List.mem_of_getElem? (i := 1026) (by decide +kernel)⟩
theorem lw_p34 : lw_okq (⟨"SheetVaultModel", "canFold", "(II)Z"⟩, 27) := ⟨⟨by decide +kernel, by decide +kernel⟩, List.mem_of_getElem? (i := 846) (by decide +kernel), List.mem_of_getElem? (i := 1033) (by decide +kernel), List.mem_of_getElem? (i := 1034) (by decide +kernel)⟩
theorem lw_p35 : lw_okq (⟨"SheetVaultModel", "isNeeded", "(II)Z"⟩, 27) := ⟨⟨by decide +kernel, by decide +kernel⟩, List.mem_of_getElem? (i := 846) (by decide +kernel), List.mem_of_getElem? (i := 1037) (by decide +kernel), List.mem_of_getElem? (i := 1038) (by decide +kernel)⟩
theorem lw_p36 : lw_okq (⟨"SheetVaultModel", "child", "(II)I"⟩, 27) := ⟨⟨by decide +kernel, by decide +kernel⟩, List.mem_of_getElem? (i := 846) (by decide +kernel), List.mem_of_getElem? (i := 1041) (by decide +kernel), List.mem_of_getElem? (i := 1042) (by decide +kernel)⟩
theorem lw_p37 : lw_okq (⟨"SheetVaultModel", "passes", "(IIZ)I"⟩, 27) := ⟨⟨by decide +kernel, by decide +kernel⟩, List.mem_of_getElem? (i := 846) (by decide +kernel), List.mem_of_getElem? (i := 1045) (by decide +kernel), List.mem_of_getElem? (i := 1046) (by decide +kernel)⟩
theorem lw_p38 : lw_okq (⟨"SheetVaultModel", "noSheet", "(I)Z"⟩, 27) := ⟨⟨by decide +kernel, by decide +kernel⟩, List.mem_of_getElem? (i := 846) (by decide +kernel), List.mem_of_getElem? (i := 1057) (by decide +kernel), List.mem_of_getElem? (i := 1058) (by decide +kernel)⟩
theorem lw_p39 : lw_okq (⟨"SheetVaultModel", "noTask", "(III)Z"⟩, 27) := ⟨⟨by decide +kernel, by decide +kernel⟩, List.mem_of_getElem? (i := 846) (by decide +kernel), List.mem_of_getElem? (i := 1073) (by decide +kernel), List.mem_of_getElem? (i := 1074) (by decide +kernel)⟩
theorem lw_p40 : lw_okq (⟨"SheetVaultModel", "isNamed", "(III)Z"⟩, 27) := ⟨⟨by decide +kernel, by decide +kernel⟩, List.mem_of_getElem? (i := 846) (by decide +kernel), List.mem_of_getElem? (i := 1089) (by decide +kernel), List.mem_of_getElem? (i := 1090) (by decide +kernel)⟩
theorem lw_p41 : lw_okq (⟨"SheetVaultModel", "mended", "(IIII)I"⟩, 27) := ⟨⟨by decide +kernel, by decide +kernel⟩, List.mem_of_getElem? (i := 846) (by decide +kernel), List.mem_of_getElem? (i := 1093) (by decide +kernel), List.mem_of_getElem? (i := 1094) (by decide +kernel)⟩
theorem lw_p42 : lw_okq (⟨"SheetVaultModel", "mend", "(IIII)I"⟩, 27) := ⟨⟨by decide +kernel, by decide +kernel⟩, List.mem_of_getElem? (i := 846) (by decide +kernel), List.mem_of_getElem? (i := 1097) (by decide +kernel), List.mem_of_getElem? (i := 1098) (by decide +kernel)⟩
theorem lw_p43 : lw_okq (⟨"SheetVaultModel", "dueOf", "(I)I"⟩, 27) := ⟨⟨by decide +kernel, by decide +kernel⟩, List.mem_of_getElem? (i := 846) (by decide +kernel), List.mem_of_getElem? (i := 1101) (by decide +kernel), List.mem_of_getElem? (i := 1102) (by decide +kernel)⟩
theorem lw_p44 : lw_okq (⟨"SheetVaultModel", "gained", "(II)I"⟩, 27) := ⟨⟨by decide +kernel, by decide +kernel⟩, List.mem_of_getElem? (i := 846) (by decide +kernel), List.mem_of_getElem? (i := 1105) (by decide +kernel), List.mem_of_getElem? (i := 1106) (by decide +kernel)⟩
theorem lw_p45 : lw_okq (⟨"SheetVaultModel", "common", "(II)I"⟩, 27) := ⟨⟨by decide +kernel, by decide +kernel⟩, List.mem_of_getElem? (i := 846) (by decide +kernel), List.mem_of_getElem? (i := 1112) (by decide +kernel), List.mem_of_getElem? (i := 1113) (by decide +kernel)⟩
theorem lw_p46 : lw_okq (⟨"SheetVaultModel", "areBoth", "(II)Z"⟩, 27) := ⟨⟨by decide +kernel, by decide +kernel⟩, List.mem_of_getElem? (i := 846) (by decide +kernel), List.mem_of_getElem? (i := 1128) (by decide +kernel), List.mem_of_getElem? (i := 1129) (by decide +kernel)⟩
theorem lw_p47 : lw_okq (⟨"SheetVaultModel", "more", "(III)I"⟩, 27) := ⟨⟨by decide +kernel, by decide +kernel⟩, List.mem_of_getElem? (i := 846) (by decide +kernel), List.mem_of_getElem? (i := 1142) (by decide +kernel), List.mem_of_getElem? (i := 1143) (by decide +kernel)⟩
def lw_privs_3 : List (MethodName × Nat) := [(⟨"SheetVaultModel", "entryFor", "(III)I"⟩, 27), (⟨"SheetVaultModel", "isVersion", "(II)Z"⟩, 27), (⟨"SheetVaultModel", "canFold", "(II)Z"⟩, 27), (⟨"SheetVaultModel", "isNeeded", "(II)Z"⟩, 27), (⟨"SheetVaultModel", "child", "(II)I"⟩, 27), (⟨"SheetVaultModel", "passes", "(IIZ)I"⟩, 27), (⟨"SheetVaultModel", "noSheet", "(I)Z"⟩, 27), (⟨"SheetVaultModel", "noTask", "(III)Z"⟩, 27), (⟨"SheetVaultModel", "isNamed", "(III)Z"⟩, 27), (⟨"SheetVaultModel", "mended", "(IIII)I"⟩, 27), (⟨"SheetVaultModel", "mend", "(IIII)I"⟩, 27), (⟨"SheetVaultModel", "dueOf", "(I)I"⟩, 27), (⟨"SheetVaultModel", "gained", "(II)I"⟩, 27), (⟨"SheetVaultModel", "common", "(II)I"⟩, 27), (⟨"SheetVaultModel", "areBoth", "(II)Z"⟩, 27), (⟨"SheetVaultModel", "more", "(III)I"⟩, 27)]
theorem lw_r3 : ∀ q ∈ lw_privs_3, lw_okq q := List.forall_mem_cons.mpr ⟨lw_p32, List.forall_mem_cons.mpr ⟨lw_p33, List.forall_mem_cons.mpr ⟨lw_p34, List.forall_mem_cons.mpr ⟨lw_p35, List.forall_mem_cons.mpr ⟨lw_p36, List.forall_mem_cons.mpr ⟨lw_p37, List.forall_mem_cons.mpr ⟨lw_p38, List.forall_mem_cons.mpr ⟨lw_p39, List.forall_mem_cons.mpr ⟨lw_p40, List.forall_mem_cons.mpr ⟨lw_p41, List.forall_mem_cons.mpr ⟨lw_p42, List.forall_mem_cons.mpr ⟨lw_p43, List.forall_mem_cons.mpr ⟨lw_p44, List.forall_mem_cons.mpr ⟨lw_p45, List.forall_mem_cons.mpr ⟨lw_p46, List.forall_mem_cons.mpr ⟨lw_p47, fun _ h => absurd h List.not_mem_nil⟩⟩⟩⟩⟩⟩⟩⟩⟩⟩⟩⟩⟩⟩⟩⟩
theorem lw_p48 : lw_okq (⟨"SheetVaultModel", "forget", "(I)V"⟩, 27) := ⟨⟨by decide +kernel, by decide +kernel⟩, List.mem_of_getElem? (i := 846) (by decide +kernel), List.mem_of_getElem? (i := 1154) (by decide +kernel), List.mem_of_getElem? (i := 1155) (by decide +kernel)⟩
theorem lw_p49 : lw_okq (⟨"SheetVaultModel", "noAnswer", "(II)Z"⟩, 27) := ⟨⟨by decide +kernel, by decide +kernel⟩, List.mem_of_getElem? (i := 846) (by decide +kernel), List.mem_of_getElem? (i := 1162) (by decide +kernel), List.mem_of_getElem? (i := 1163) (by decide +kernel)⟩
theorem lw_p50 : lw_okq (⟨"SheetVaultModel", "lay", "(I)V"⟩, 27) := ⟨⟨by decide +kernel, by decide +kernel⟩, List.mem_of_getElem? (i := 846) (by decide +kernel), List.mem_of_getElem? (i := 1186) (by decide +kernel), List.mem_of_getElem? (i := 1187) (by decide +kernel)⟩
theorem lw_p51 : lw_okq (⟨"SheetVaultModel", "isPrint", "(I)Z"⟩, 27) := ⟨⟨by decide +kernel, by decide +kernel⟩, List.mem_of_getElem? (i := 846) (by decide +kernel), List.mem_of_getElem? (i := 1196) (by decide +kernel), List.mem_of_getElem? (i := 1197) (by decide +kernel)⟩
theorem lw_p52 : lw_okq (⟨"SheetVaultModel", "alike", "(II)I"⟩, 27) := ⟨⟨by decide +kernel, by decide +kernel⟩, List.mem_of_getElem? (i := 846) (by decide +kernel), List.mem_of_getElem? (i := 1208) (by decide +kernel), List.mem_of_getElem? (i := 1209) (by decide +kernel)⟩
theorem lw_p53 : lw_okq (⟨"SheetVaultModel", "pairsOf", "(I)I"⟩, 27) := ⟨⟨by decide +kernel, by decide +kernel⟩, List.mem_of_getElem? (i := 846) (by decide +kernel), List.mem_of_getElem? (i := 1216) (by decide +kernel), List.mem_of_getElem? (i := 1217) (by decide +kernel)⟩
theorem lw_p54 : lw_okq (⟨"SheetVaultModel", "isPair", "(III)Z"⟩, 27) := ⟨⟨by decide +kernel, by decide +kernel⟩, List.mem_of_getElem? (i := 846) (by decide +kernel), List.mem_of_getElem? (i := 1220) (by decide +kernel), List.mem_of_getElem? (i := 1221) (by decide +kernel)⟩
def lw_privs_4 : List (MethodName × Nat) := [(⟨"SheetVaultModel", "forget", "(I)V"⟩, 27), (⟨"SheetVaultModel", "noAnswer", "(II)Z"⟩, 27), (⟨"SheetVaultModel", "lay", "(I)V"⟩, 27), (⟨"SheetVaultModel", "isPrint", "(I)Z"⟩, 27), (⟨"SheetVaultModel", "alike", "(II)I"⟩, 27), (⟨"SheetVaultModel", "pairsOf", "(I)I"⟩, 27), (⟨"SheetVaultModel", "isPair", "(III)Z"⟩, 27)]
theorem lw_r4 : ∀ q ∈ lw_privs_4, lw_okq q := List.forall_mem_cons.mpr ⟨lw_p48, List.forall_mem_cons.mpr ⟨lw_p49, List.forall_mem_cons.mpr ⟨lw_p50, List.forall_mem_cons.mpr ⟨lw_p51, List.forall_mem_cons.mpr ⟨lw_p52, List.forall_mem_cons.mpr ⟨lw_p53, List.forall_mem_cons.mpr ⟨lw_p54, fun _ h => absurd h List.not_mem_nil⟩⟩⟩⟩⟩⟩⟩
def lw_privs : List (MethodName × Nat) := lw_privs_1 ++ (lw_privs_2 ++ (lw_privs_3 ++ (lw_privs_4)))
def lw_tbl : List Cond := k2_sels lw_privs ++ tables_1
theorem lw_privs_ok : ∀ q ∈ lw_privs, lw_okq q := by
  show ∀ q ∈ lw_privs_1 ++ (lw_privs_2 ++ (lw_privs_3 ++ (lw_privs_4))), lw_okq q
  exact List.forall_mem_append.mpr ⟨lw_r1, List.forall_mem_append.mpr ⟨lw_r2, List.forall_mem_append.mpr ⟨lw_r3, lw_r4⟩⟩⟩
-- ===== end of PART A; then your names; then what follows =====
/-! ===== BEGIN words of one list among another's, by their places ===== -/
theorem goodIn_r {big : List Cond} (ws : List Cond) (ps : List Nat) (hp : ws = ps.filterMap (fun i => big[i]?)) (h : ws.all goodWord = true) : GoodIn big ws := by
  intro w hw
  have h1 := List.all_eq_true.mp h w hw
  rw [hp] at hw
  obtain ⟨i, -, hi⟩ := List.mem_filterMap.mp hw
  have hm : w ∈ big := by first | exact List.mem_of_getElem? hi | exact List.getElem?_mem hi
  exact ⟨hm, good_of_word h1⟩
theorem goodIn_app {big a b : List Cond} (ha : GoodIn big a) (hb : GoodIn big b) : GoodIn big (a ++ b) := fun w h => (List.mem_append.mp h).elim (ha w) (hb w)
theorem goodIn_ca {big a b : List Cond} {c : Cond} (ha : GoodIn big (c :: a)) (hb : GoodIn big b) : GoodIn big (c :: (a ++ b)) := fun w h => (List.mem_cons.mp h).elim (fun e => ha w (List.mem_cons.mpr (Or.inl e))) (fun h => (List.mem_append.mp h).elim (fun h => ha w (List.mem_cons.mpr (Or.inr h))) (hb w))
theorem goodIn_sub {big ws : List Cond} (hm : ∀ w ∈ ws, w ∈ big) (h : ws.all goodWord = true) : GoodIn big ws := fun w hw => ⟨hm w hw, good_of_word (List.all_eq_true.mp h w hw)⟩
/-! ===== END ===== -/


/-! ===== BEGIN exceptions that leave a method, and their catching by the caller (launches without stack traces) ===== -/
section VXA
/-! The laws vx_back, vx_callV, vx_callS, vx_callSW, vx_throw0, vx_throwS follow proofs of the library, with one case more: JvmDerived/Free/Laws.lean (Back.of_free), Shelf42/LK1.lean (callV, callS), Shelf/KitTraced.lean (throwNew0V, throwNewS). -/
/-- where a method has thrown q: the class by its name, the cell, what was written, the world -/
def vx_T (XC : String → State → State → Prop) (st : State) (q : Addr) (t : State) (mc ms : Nat) (free : Addr → Prop) : Prop :=
  ∃ (E : String) (ce : Cell) (L : List Loc), XC E st t ∧ t.heap[q]? = some ce ∧ ce.vm = .none ∧ st.vm.findClass E = some ce.cls ∧ st.WarmedH t.vm ∧ st.sameButNew ({ t with vm := st.vm } : State) L mc ms ∧ ∀ z ∈ L, free z.base
def vx_Q (Qc : Array Value → State → Outcome → State → Prop) (XC : String → State → State → Prop) (mc ms : Nat) (free : Addr → Prop) : Array Value → State → Outcome → State → Prop := fun a st o t =>
  (Qc a st o t ∧ ∃ L, FrameEnd st o t L mc ms ∧ ∀ q ∈ L, free q.base) ∨ ∃ q, o = .threw q ∧ vx_T XC st q t mc ms free
/-- a callee that returns or throws -/
def vx_Met (l : Launch) (y : MethodName) (ws : List Cond) (rm : Room) (Pc : Array Value → State → Prop) (Qc : Array Value → State → Outcome → State → Prop) (XC : String → State → State → Prop) (mc ms : Nat) (free : Addr → Prop) : Prop :=
  MetFree l y (headSpec ws rm) Pc (fun _ _ _ _ _ => True) (vx_Q Qc XC mc ms free)
def vx_Post (XC : String → State → State → Prop) (mc ms : Nat) (free : Addr → Prop) : Pt → Array Value → Addr → Pt → Prop := fun A a q B =>
  ∃ (g : JFrame) (mk : MethodId) (t : State) (L : List Loc) (E : String) (ce : Cell), B.U.heap = t.heap ∧ B.U.vm = t.vm ∧ XC E (A.U.calling g mk a) t ∧ t.heap[q]? = some ce ∧ ce.vm = .none ∧ A.U.vm.findClass E = some ce.cls ∧ B.locs = A.locs ++ L ∧ (∀ z ∈ L, free z.base) ∧ B.cells = A.cells + mc ∧ B.slots = A.slots + ms
def vx_Back (l : Launch) (R : Room) (p : Program) (e : Env) (below : List Frame) (s : State) (sargs : Array Value) (y : MethodName) (len W9 : Nat)
    (Pre : Pt → Array Value → Prop) (Post : Pt → Array Value → Option Value → Pt → Prop) (PostX : Pt → Array Value → Addr → Pt → Prop) : Prop :=
  ∀ (m : MethodId) (meth : Method) (c : Code) (A : Pt) (g : JFrame) (ig : Instr) (mk : MethodId) (a : Array Value),
    Stand p l e R s m sargs below meth c A.U A.locs A.cells A.slots → g.method = m → g.locals.size = c.maxLocals → decode c.code g.pc = .ok (ig, len) →
    2 * g.monitorRoom + (g.stack.map fun v => v.category).sum ≤ W9 → A.U.methodNamed? y = some mk → Pre A a →
    (∃ (v : Option Value) (B : Pt), Stand p l e R s m sargs below meth c B.U B.locs B.cells B.slots ∧ Post A a v B ∧
      Steps p.tables e below (doInvoke e (A.U.setTop g) [] mk a).1 (B.U.setTop { g with pc := g.pc + len, stack := v.toList ++ g.stack })) ∨
    (∃ (q : Addr) (B : Pt), Stand p l e R s m sargs below meth c B.U B.locs B.cells B.slots ∧ PostX A a q B ∧
      Steps p.tables e below (doInvoke e (A.U.setTop g) [] mk a).1 ((B.U.setTop g).pushFrame (.throwing q)))
section Payer
variable {l : Launch} {R : Room} {p : Program} {e : Env} {below : List Frame} {s : State} {sargs : Array Value} {y : MethodName} {len W9 : Nat}
theorem vx_back {ws : List Cond} {rm : Room} {Pc : Array Value → State → Prop} {Qc : Array Value → State → Outcome → State → Prop} {XC : String → State → State → Prop} {mc ms : Nat} {free : Addr → Prop} {bytes : ByteArray} {maxL : Nat} {ret : Option FieldType}
    (hM : vx_Met l y ws rm Pc Qc XC mc ms free) (hblind : FrameBlind Pc) (hrc : rm.cells = mc) (hrs : rm.slots = ms)
    (hframes : rm.frames + 1 ≤ R.frames) (hlocals : W9 + (maxL + 11) + rm.locals ≤ R.locals)
    (hws : ∀ w ∈ ws, ∀ a' U, s.WarmedH U.vm → w.before a' U = true) (hcode : Cond.code y bytes maxL ret ∈ ws) (hinit : ∀ a' U, s.WarmedH U.vm → (Cond.initialized y.cls).before a' U = true) :
    vx_Back l R p e below s sargs y len W9 (PreOf R mc ms Pc) (PostOf Qc mc ms free) (vx_Post XC mc ms free) := by
  intro m meth c A g ig mk a X hg hsize hdg hW hn hp
  have h1 : (headSpec ws rm).pre.before a A.U = true := atoms_intro fun w hw => hws w hw _ _ X.warmed
  have h2 : (Cond.code y bytes maxL ret).before a A.U = true := hws _ hcode _ _ X.warmed
  have h3 : (Cond.initialized y.cls).before a A.U = true := hinit _ _ X.warmed
  have h4 : A.cells + (headSpec ws rm).room.cells ≤ R.cells := by rw [show (headSpec ws rm).room.cells = mc from hrc]; exact hp.1
  have h5 : A.slots + (headSpec ws rm).room.slots ≤ R.slots := by rw [show (headSpec ws rm).room.slots = ms from hrs]; exact hp.2.1
  have hPc : Pc a (A.U.calling g mk a) := hblind _ _ _ _ hp.2.2
  obtain ⟨U, Ls, c0, s0⟩ := A
  dsimp only [Pt.U, Pt.locs, Pt.cells, Pt.slots] at h1 h2 h3 h4 h5 X hn hPc ⊢
  obtain ⟨methY, cY, hmY, hcY, -, hlY, -, -, -, -⟩ := Cond.code_spec hn h2
  obtain ⟨kY, hkY, -⟩ := className_of_methodNamed hn
  have hinitY : kY.init = .initialized := Cond.initialized_spec (findClass_of_methodNamed hn) hkY h3
  have h : At U g.method c below := by rw [hg]; exact X.here
  have hlocals9 : W9 + (maxL + 11) + (headSpec ws rm).room.locals ≤ R.locals := hlocals
  have happ : (headSpec ws rm).appliesLoose y e.platform (U.calling g mk a) = true :=
    Spec.appliesLoose_calling (g := g) h hdg hn hkY hinitY
      (X.room_calling (g := g) (R' := (headSpec ws rm).room) hsize hmY hcY hframes (by rw [hlY]; omega) h4 h5) h1
  obtain ⟨mid, hmid⟩ := h.above
  have hfr : (U.setTop g).frames = (.java g :: mid) ++ below := by rw [State.frames_setTop' g h.top, hmid]; rfl
  obtain ⟨o, s₂, hsteps, -, hend, hq⟩ := Steps.callFree hM p X.admits X.cas X.clock (acts := []) hfr happ hPc trivial
  have hq' : vx_Q Qc XC mc ms free a (U.calling g mk a) o s₂ := hq
  rw [State.frames_setTop' g h.top] at hend
  obtain ⟨g₀, hg0⟩ := Option.isSome_iff_exists.mp h.top
  obtain ⟨r, hr⟩ := State.topJava?_eq_some.mp hg0
  have hr' : (({ U with heap := s₂.heap, slotsUsed := s₂.slotsUsed } : State).setVm s₂.vm).frames = .java g₀ :: r := hr
  rcases hq' with ⟨hqc, L, hfe, hL⟩ | ⟨q, rfl, E, ce, L, hx, hce, hcv, hcl, hW₂, hsm, hL⟩
  · obtain ⟨⟨v, rfl⟩, hW₂, e2, q2, q3, q4, q5, q6⟩ := id hfe
    have e3 : s₂ = ({ (U.calling g mk a).setFrames s₂.frames with heap := s₂.heap, slotsUsed := s₂.slotsUsed } : State).setVm s₂.vm := by
      have : s₂ = ({ s₂ with vm := (U.calling g mk a).vm } : State).setVm s₂.vm := rfl
      rw [e2] at this
      exact this
    obtain ⟨c₂, i₂, len₂, hc₂, hd₂, hf₂⟩ := hend
    have hW' : U.WarmedH s₂.vm := hW₂
    have hcc : c₂ = c := by
      have h1 : s₂.code? g.method = U.code? g.method := by
        rw [State.code?_eq, State.code?_eq, hW'.alike.method?]
      exact Option.some.inj (hc₂.symm.trans (h1.trans h.code))
    subst hcc
    have hlen : len₂ = len := by rw [hdg] at hd₂; cases hd₂; rfl
    subst hlen
    have hs₂ : s₂ = (({ U with heap := s₂.heap, slotsUsed := s₂.slotsUsed } : State).setVm s₂.vm).setTop { g with pc := g.pc + len₂, stack := v.toList ++ g.stack } := by
      refine e3.trans ?_
      rw [hf₂, State.calling_eq h.top, State.setFrames_setFrames, State.setTop_of_frames _ hr', hr]
      rfl
    have hsame : U.sameButNew ({ U with heap := s₂.heap, slotsUsed := s₂.slotsUsed } : State) L mc ms := by
      refine ⟨?_, q2, q3, q4, q5, q6⟩
      obtain ⟨t, ht, -⟩ := State.frames_cons hr
      show ({ U with heap := s₂.heap, slotsUsed := s₂.slotsUsed } : State) = { U.setFrames U.frames with heap := s₂.heap, slotsUsed := s₂.slotsUsed }
      rw [State.setFrames_self ht]
    subst hg
    refine Or.inl ⟨v, ⟨(({ U with heap := s₂.heap, slotsUsed := s₂.slotsUsed } : State).setVm s₂.vm), Ls ++ L, c0 + mc, s0 + ms⟩,
      ⟨X.admits, X.cas, X.clock, X.frames, X.room, X.hears, X.method, X.code, (X.here.setHeapUsed s₂.heap s₂.slotsUsed).setVm hW'.alike, X.tail, State.WarmedH.trans X.warmed hW', X.limits, X.bytes, X.same.trans (hsame.setVm s.vm)⟩,
      ⟨g, mk, s₂, L, rfl, rfl, hqc, rfl, hL, rfl, rfl⟩, ?_⟩
    show Steps p.tables e below _ ((({ U with heap := s₂.heap, slotsUsed := s₂.slotsUsed } : State).setVm s₂.vm).setTop { g with pc := g.pc + len₂, stack := v.toList ++ g.stack })
    rw [← hs₂]
    exact hsteps
  · obtain ⟨e2, q2, q3, q4, q5, q6⟩ := id hsm
    have e3 : s₂ = ({ (U.calling g mk a).setFrames s₂.frames with heap := s₂.heap, slotsUsed := s₂.slotsUsed } : State).setVm s₂.vm := by
      have : s₂ = ({ s₂ with vm := (U.calling g mk a).vm } : State).setVm s₂.vm := rfl
      rw [e2] at this
      exact this
    have hf₂ : s₂.frames = .throwing q :: .java g :: U.frames.tail := hend
    have hW' : U.WarmedH s₂.vm := hW₂
    have hs₂ : s₂ = ((({ U with heap := s₂.heap, slotsUsed := s₂.slotsUsed } : State).setVm s₂.vm).setTop g).pushFrame (.throwing q) := by
      refine e3.trans ?_
      rw [hf₂, State.calling_eq h.top, State.setFrames_setFrames, State.pushFrame, State.frames_setTop _ hr', State.setTop_of_frames _ hr', State.setFrames_setFrames, hr]
      rfl
    have hsame : U.sameButNew ({ U with heap := s₂.heap, slotsUsed := s₂.slotsUsed } : State) L mc ms := by
      refine ⟨?_, q2, q3, q4, q5, q6⟩
      obtain ⟨t, ht, -⟩ := State.frames_cons hr
      show ({ U with heap := s₂.heap, slotsUsed := s₂.slotsUsed } : State) = { U.setFrames U.frames with heap := s₂.heap, slotsUsed := s₂.slotsUsed }
      rw [State.setFrames_self ht]
    subst hg
    refine Or.inr ⟨q, ⟨(({ U with heap := s₂.heap, slotsUsed := s₂.slotsUsed } : State).setVm s₂.vm), Ls ++ L, c0 + mc, s0 + ms⟩,
      ⟨X.admits, X.cas, X.clock, X.frames, X.room, X.hears, X.method, X.code, (X.here.setHeapUsed s₂.heap s₂.slotsUsed).setVm hW'.alike, X.tail, State.WarmedH.trans X.warmed hW', X.limits, X.bytes, X.same.trans (hsame.setVm s.vm)⟩,
      ⟨g, mk, s₂, L, E, ce, rfl, rfl, hx, hce, hcv, hcl, rfl, hL, rfl, rfl⟩, ?_⟩
    show Steps p.tables e below _ (((({ U with heap := s₂.heap, slotsUsed := s₂.slotsUsed } : State).setVm s₂.vm).setTop g).pushFrame (.throwing q))
    rw [← hs₂]
    exact hsteps
end Payer
section Calls
variable {p : Program} {l : Launch} {e : Env} {R : Room} {s : State} {m : MethodId} {args : Array Value} {below : List Frame} {meth : Method} {c : Code} {T : State} {locs : List Loc} {cells slots : Nat}
theorem vx_callV (X : Stand p l e R s m args below meth c T locs cells slots) (hexec : p.tables.exec = Jvm.exec) {own C : String} {index : Nat} {y : MethodName} {bytes : ByteArray} {maxL : Nat} {ret : Option FieldType}
    (hown : s.vm.findClass own = some m.cls) (hlink : (Cond.methodLink own index y).before args s = true) (hinst : (Cond.instanceMethod y).before args s = true) (hsel : (Cond.selects C y y).before args s = true)
    (hcode : (Cond.code y bytes maxL ret).before args s = true) (hy : y.cls ≠ "java/lang/invoke/MethodHandle" ∧ y.cls ≠ "java/lang/invoke/VarHandle")
    {W9 : Nat} {Pre : Pt → Array Value → Prop} {Post : Pt → Array Value → Option Value → Pt → Prop} {PostX : Pt → Array Value → Addr → Pt → Prop} (hK : vx_Back l R p e below s args y 3 W9 Pre Post PostX)
    {b : Addr} {cellB : Cell} (hcell : T.heap[b]? = some cellB) (hobj : cellB.vm.isStatics = false) (hcls : s.vm.findClass C = some cellB.cls)
    {g : JFrame} (hg : g.method = m) (hsize : g.locals.size = c.maxLocals) {argsL rest : List Value} (hlen : ∀ sig, parseMethodDescriptor y.desc = some sig → argsL.length = sig.parameters.length)
    (hstack : g.stack = argsL.reverse ++ .ref b :: rest) (hW : 2 * g.monitorRoom + (rest.map fun v => v.category).sum ≤ W9) (hdg : decode c.code g.pc = .ok (.invokevirtual index, 3))
    (hpre : ∀ vm₁, s.WarmedH vm₁ → Pre ⟨T.setVm vm₁, locs, cells, slots⟩ (Value.ref b :: argsL).toArray) :
    (∃ (v : Option Value) (vm₁ : Vm) (B : Pt), s.WarmedH vm₁ ∧ Stand p l e R s m args below meth c B.U B.locs B.cells B.slots ∧ Post ⟨T.setVm vm₁, locs, cells, slots⟩ (Value.ref b :: argsL).toArray v B ∧
      ∀ target, Steps p.tables e below (B.U.setTop { g with pc := g.pc + 3, stack := v.toList ++ rest }) target → Steps p.tables e below (T.setTop g) target) ∨
    (∃ (q : Addr) (vm₁ : Vm) (B : Pt), s.WarmedH vm₁ ∧ Stand p l e R s m args below meth c B.U B.locs B.cells B.slots ∧ PostX ⟨T.setVm vm₁, locs, cells, slots⟩ (Value.ref b :: argsL).toArray q B ∧
      Steps p.tables e below (T.setTop g) ((B.U.setTop { g with stack := rest }).pushFrame (.throwing q))) := by
  obtain ⟨mk, methM, hnamed, hmethM, hstM, habM⟩ := Cond.instanceMethod_spec hinst
  obtain ⟨methM', cM, hmethM', -, -, -, -, -, -, hsigM⟩ := Cond.code_spec hnamed hcode
  cases hmethM.symm.trans hmethM'
  obtain ⟨c2, r2, m2, q1, q2, q3, q4, kP, hkP, hkPi⟩ := Cond.selects_spec hsel
  cases hcls.symm.trans q1
  cases (State.methodFound?_of_named hnamed hy).symm.trans q2
  cases hnamed.symm.trans q3
  have hselP : selectMethod e.platform s.vm cellB.cls mk = .method mk := by rw [Launch.admits_selectMethod X.admits]; exact q4
  obtain ⟨vm₁, X₁, hstep₁⟩ := X.invokevirtual hexec hown hlink hnamed hmethM hstM hkP hkPi hy (a := b) (cell := cellB) hcell
    (fun z h => by rw [h] at hobj; cases hobj) hselP hmethM habM hkP hkPi (g := g) hg (argsL := argsL) (rest := rest) (hlen _ hsigM) hstack hdg
  rcases hK m meth c ⟨T.setVm vm₁, locs, cells, slots⟩ { g with stack := rest } (.invokevirtual index) mk (Value.ref b :: argsL).toArray X₁ hg hsize hdg hW (X₁.named hnamed) (hpre vm₁ X₁.warmed) with ⟨v, B, X', hpost, hsteps⟩ | ⟨q, B, X', hpost, hsteps⟩
  · exact Or.inl ⟨v, vm₁, B, X₁.warmed, X', hpost, fun target h => hstep₁ _ fun acts => by rw [doInvoke_state]; exact hsteps.trans h⟩
  · exact Or.inr ⟨q, vm₁, B, X₁.warmed, X', hpost, hstep₁ _ fun acts => by rw [doInvoke_state]; exact hsteps⟩
theorem vx_callS (X : Stand p l e R s m args below meth c T locs cells slots) (hexec : p.tables.exec = Jvm.exec) {own : String} {index : Nat} {y : MethodName} {bytes : ByteArray} {maxL : Nat} {ret : Option FieldType}
    (hown : s.vm.findClass own = some m.cls) (hlink : (Cond.methodLink own index y).before args s = true) (hstat : (Cond.static y).before args s = true) (hinit : (Cond.initialized y.cls).before args s = true)
    (hcode : (Cond.code y bytes maxL ret).before args s = true) (hy : y.cls ≠ "java/lang/invoke/MethodHandle" ∧ y.cls ≠ "java/lang/invoke/VarHandle")
    {W9 : Nat} {Pre : Pt → Array Value → Prop} {Post : Pt → Array Value → Option Value → Pt → Prop} {PostX : Pt → Array Value → Addr → Pt → Prop} (hK : vx_Back l R p e below s args y 3 W9 Pre Post PostX)
    {g : JFrame} (hg : g.method = m) (hsize : g.locals.size = c.maxLocals) {argsL rest : List Value} (hlen : ∀ sig, parseMethodDescriptor y.desc = some sig → argsL.length = sig.parameters.length)
    (hstack : g.stack = argsL.reverse ++ rest) (hW : 2 * g.monitorRoom + (rest.map fun v => v.category).sum ≤ W9) (hdg : decode c.code g.pc = .ok (.invokestatic index, 3))
    (hpre : ∀ vm₁, s.WarmedH vm₁ → Pre ⟨T.setVm vm₁, locs, cells, slots⟩ argsL.toArray) :
    (∃ (v : Option Value) (vm₁ : Vm) (B : Pt), s.WarmedH vm₁ ∧ Stand p l e R s m args below meth c B.U B.locs B.cells B.slots ∧ Post ⟨T.setVm vm₁, locs, cells, slots⟩ argsL.toArray v B ∧
      ∀ target, Steps p.tables e below (B.U.setTop { g with pc := g.pc + 3, stack := v.toList ++ rest }) target → Steps p.tables e below (T.setTop g) target) ∨
    (∃ (q : Addr) (vm₁ : Vm) (B : Pt), s.WarmedH vm₁ ∧ Stand p l e R s m args below meth c B.U B.locs B.cells B.slots ∧ PostX ⟨T.setVm vm₁, locs, cells, slots⟩ argsL.toArray q B ∧
      Steps p.tables e below (T.setTop g) ((B.U.setTop { g with stack := rest }).pushFrame (.throwing q))) := by
  obtain ⟨mk, hnamed⟩ := Cond.code_named hcode
  obtain ⟨methM, cM, hmethM, -, -, -, -, -, -, hsigM⟩ := Cond.code_spec hnamed hcode
  have hstatic : methM.isStatic = true := Cond.static_spec hnamed hmethM hstat
  obtain ⟨kP, hkP, -⟩ := className_of_methodNamed hnamed
  have hinitP : kP.init = .initialized := Cond.initialized_spec (findClass_of_methodNamed hnamed) hkP hinit
  obtain ⟨vm₁, X₁, hstep₁⟩ := X.invokestatic hexec hown hlink hnamed hmethM hstatic hkP hinitP hy (g := g) hg (argsL := argsL) (rest := rest) (hlen _ hsigM) hstack hdg
  rcases hK m meth c ⟨T.setVm vm₁, locs, cells, slots⟩ { g with stack := rest } (.invokestatic index) mk argsL.toArray X₁ hg hsize hdg hW (X₁.named hnamed) (hpre vm₁ X₁.warmed) with ⟨v, B, X', hpost, hsteps⟩ | ⟨q, B, X', hpost, hsteps⟩
  · exact Or.inl ⟨v, vm₁, B, X₁.warmed, X', hpost, fun target h => hstep₁ _ fun acts => by rw [doInvoke_state]; exact hsteps.trans h⟩
  · exact Or.inr ⟨q, vm₁, B, X₁.warmed, X', hpost, hstep₁ _ fun acts => by rw [doInvoke_state]; exact hsteps⟩
end Calls
theorem vx_cls {s : State} {T : State} {vm₁ : Vm} {E : String} {k : ClassId} (hW : s.WarmedH vm₁) (h : (T.setVm vm₁).vm.findClass E = some k) : s.vm.findClass E = some k := by
  have h1 : vm₁.findClass E = some k := h
  rw [hW.alike.findClass] at h1
  exact h1
/-- the method's frame g, with q thrown over it -/
def vx_W (p : Program) (l : Launch) (e : Env) (R : Room) (s : State) (m : MethodId) (args : Array Value) (below : List Frame) (meth : Method) (c : Code) (H : Heap) (locs : List Loc) (cells slots : Nat) (Q : State → Prop) (g : JFrame) (q : Addr) : Prop :=
  ∀ T : State, T.heap = H → Stand p l e R s m args below meth c T locs cells slots → ∃ t, Steps p.tables e below ((T.setTop g).pushFrame (.throwing q)) t ∧ Q t
def vx_Run (p : Program) (l : Launch) (e : Env) (R : Room) (s : State) (m : MethodId) (args : Array Value) (below : List Frame) (meth : Method) (c : Code) (H : Heap) (locs : List Loc) (cells slots mc ms : Nat) (g : JFrame) (rest : List Value) (Qa : State → Outcome → State → Prop) (XC : String → State → State → Prop) (free : Addr → Prop) : Prop :=
  ∀ T : State, T.heap = H → Stand p l e R s m args below meth c T locs cells slots →
    (∃ (v : Option Value) (st₀ t T' : State) (L : List Loc), st₀.heap = H ∧ Stand p l e R s m args below meth c T' (locs ++ L) (cells + mc) (slots + ms) ∧ (∀ q ∈ L, free q.base) ∧ T'.heap = t.heap ∧ T'.vm = t.vm ∧ Qa st₀ (.returned v) t ∧
      Goes p e below T g T' { g with pc := g.pc + 3, stack := v.toList ++ rest }) ∨
    (∃ (q : Addr) (st₀ t T' : State) (L : List Loc) (E : String) (ce : Cell), st₀.heap = H ∧ Stand p l e R s m args below meth c T' (locs ++ L) (cells + mc) (slots + ms) ∧ (∀ z ∈ L, free z.base) ∧ T'.heap = t.heap ∧ T'.vm = t.vm ∧ XC E st₀ t ∧ t.heap[q]? = some ce ∧ ce.vm = .none ∧ s.vm.findClass E = some ce.cls ∧
      Steps p.tables e below (T.setTop g) ((T'.setTop { g with stack := rest }).pushFrame (.throwing q)))
def vx_X {S : Type} (px : S → Prop) (B : String → S → State → Prop) (A : Nat → Prop) : String → State → State → Prop := fun E st t => ∃ u : S, px u ∧ B E u t ∧ va_F A st t
section Runs
variable {p : Program} {l : Launch} {e : Env} {R : Room} {s : State} {m : MethodId} {args : Array Value} {below : List Frame} {meth : Method} {c : Code} {H : Heap} {locs : List Loc} {cells slots : Nat}
variable {y : MethodName} {bytes cc : ByteArray} {maxL nL mc ms n index : Nat} {ret : Option FieldType} {ws : List Cond} {rm : Room} {Pc : Array Value → State → Prop} {Qc : Array Value → State → Outcome → State → Prop} {XC : String → State → State → Prop} {free : Addr → Prop} {Ts : List Cond} {own C : String} {b : Addr} {As rest : List Value} {g : JFrame}
theorem vx_callBack (cb : CallB R s args own index y bytes maxL ret ws rm mc ms n) (hM : vx_Met l y ws rm Pc Qc XC mc ms free) (hbl : FrameBlind Pc) : vx_Back l R p e below s args y 3 8 (PreOf R mc ms Pc) (PostOf Qc mc ms free) (vx_Post XC mc ms free) := by
  obtain ⟨hrc, hrs, hfr, hlo, hws, hcw, -, hini, -⟩ := cb
  exact vx_back (bytes := bytes) (maxL := maxL) (ret := ret) hM hbl hrc hrs hfr hlo hws hcw (fun a' U hW => word_at hW (Or.inl (by first | rfl | simp [Cond.onTables, Cond.keeps, Cond.steady])) hini)
theorem vx_runV (S : CallFix p m c cc nL s args Ts own) (hM : vx_Met l y ws rm Pc Qc XC mc ms free) (cw : CallW R s args own C index y bytes maxL ret ws rm mc ms n) (hp : PreV s H C b Pc As)
    (hg : g.method = m) (hn : As.length = n) (hsize : g.locals.size = nL) (hstack : g.stack = As.reverse ++ .ref b :: rest) (hW : 2 * g.monitorRoom + (rest.map fun v => v.category).sum ≤ 8) (hdg : decode cc g.pc = .ok (.invokevirtual index, 3)) (hf : cells + mc ≤ R.cells ∧ slots + ms ≤ R.slots) :
    vx_Run p l e R s m args below meth c H locs cells slots mc ms g rest (Qc (Value.ref b :: As).toArray) XC free := by
  have hK : vx_Back l R p e below s args y 3 8 (PreOf R mc ms Pc) (PostOf Qc mc ms free) (vx_Post XC mc ms free) := vx_callBack cw.1 hM hp.1
  obtain ⟨⟨-, -, -, -, -, -, hcode, -, hy, hlen, hl⟩, hin, hse⟩ := cw
  obtain ⟨hx, hb, hml, ho, -⟩ := S
  obtain ⟨-, ⟨cellB, hcB, hoB, hclB⟩, hPc⟩ := hp
  intro T hT X
  rcases vx_callV X hx (C := C) (bytes := bytes) (maxL := maxL) (ret := ret) ho hl hin hse hcode hy hK (by rw [hT]; exact hcB) hoB hclB hg (hsize.trans hml.symm) (argsL := As) (rest := rest) (fun sig h => hn.trans (hlen sig h)) hstack hW (by rw [hb]; exact hdg)
    (fun vm₁ hW₁ => ⟨hf.1, hf.2, hPc (T.setVm vm₁) hT hW₁⟩) with ⟨v, vm₁, ⟨U', l2, c2, s2⟩, hW₁, X', ⟨g', mk, t, L, e1, e2, hq, h1, hL, h2, h3⟩, st⟩ | ⟨q, vm₁, ⟨U', l2, c2, s2⟩, hW₁, X', ⟨g', mk, t, L, E, ce, e1, e2, hq, hce, hcv, hcl, h1, hL, h2, h3⟩, st⟩
  · dsimp only [Pt.U, Pt.locs, Pt.cells, Pt.slots] at X' e1 e2 h1 h2 h3 st
    subst h1; subst h2; subst h3
    exact Or.inl ⟨v, (T.setVm vm₁).calling g' mk (Value.ref b :: As).toArray, t, U', L, hT, X', hL, e1, e2, hq, st⟩
  · dsimp only [Pt.U, Pt.locs, Pt.cells, Pt.slots] at X' e1 e2 h1 h2 h3 st hcl
    subst h1; subst h2; subst h3
    exact Or.inr ⟨q, (T.setVm vm₁).calling g' mk (Value.ref b :: As).toArray, t, U', L, E, ce, hT, X', hL, e1, e2, hq, hce, hcv, vx_cls hW₁ hcl, st⟩
theorem vx_runS (S : CallFix p m c cc nL s args Ts own) (hM : vx_Met l y ws rm Pc Qc XC mc ms free) (cw : CallB R s args own index y bytes maxL ret ws rm mc ms n ∧ (Cond.static y).before args s = true) (hp : PreS s H Pc As)
    (hg : g.method = m) (hn : As.length = n) (hsize : g.locals.size = nL) (hstack : g.stack = As.reverse ++ rest) (hW : 2 * g.monitorRoom + (rest.map fun v => v.category).sum ≤ 8) (hdg : decode cc g.pc = .ok (.invokestatic index, 3)) (hf : cells + mc ≤ R.cells ∧ slots + ms ≤ R.slots) :
    vx_Run p l e R s m args below meth c H locs cells slots mc ms g rest (Qc As.toArray) XC free := by
  have hK : vx_Back l R p e below s args y 3 8 (PreOf R mc ms Pc) (PostOf Qc mc ms free) (vx_Post XC mc ms free) := vx_callBack cw.1 hM hp.1
  obtain ⟨⟨-, -, -, -, -, -, hcode, hini, hy, hlen, hl⟩, hstt⟩ := cw
  obtain ⟨hx, hb, hml, ho, -⟩ := S
  intro T hT X
  rcases vx_callS X hx (bytes := bytes) (maxL := maxL) (ret := ret) ho hl hstt hini hcode hy hK hg (hsize.trans hml.symm) (argsL := As) (rest := rest) (fun sig h => hn.trans (hlen sig h)) hstack hW (by rw [hb]; exact hdg)
    (fun vm₁ hW₁ => ⟨hf.1, hf.2, hp.2 (T.setVm vm₁) hT hW₁⟩) with ⟨v, vm₁, ⟨U', l2, c2, s2⟩, hW₁, X', ⟨g', mk, t, L, e1, e2, hq, h1, hL, h2, h3⟩, st⟩ | ⟨q, vm₁, ⟨U', l2, c2, s2⟩, hW₁, X', ⟨g', mk, t, L, E, ce, e1, e2, hq, hce, hcv, hcl, h1, hL, h2, h3⟩, st⟩
  · dsimp only [Pt.U, Pt.locs, Pt.cells, Pt.slots] at X' e1 e2 h1 h2 h3 st
    subst h1; subst h2; subst h3
    exact Or.inl ⟨v, (T.setVm vm₁).calling g' mk As.toArray, t, U', L, hT, X', hL, e1, e2, hq, st⟩
  · dsimp only [Pt.U, Pt.locs, Pt.cells, Pt.slots] at X' e1 e2 h1 h2 h3 st hcl
    subst h1; subst h2; subst h3
    exact Or.inr ⟨q, (T.setVm vm₁).calling g' mk As.toArray, t, U', L, E, ce, hT, X', hL, e1, e2, hq, hce, hcv, vx_cls hW₁ hcl, st⟩
end Runs
section Rows
variable {p : Program} {l : Launch} {e : Env} {R : Room} {s : State} {m : MethodId} {args : Array Value} {below : List Frame} {meth : Method} {c : Code} {H : Heap} {locs : List Loc} {cells slots : Nat} {Q : State → Prop}
variable {mc ms : Nat} {free : Addr → Prop} {A0 A1 : Nat → Prop} {H0 : Heap} {a : Array Value} {pc : Nat} {ls : Array Slot} {st0 rest : List Value}
theorem vx_keep {st₀ t T' : State} {L : List Loc} (h0 : st₀.heap = H) (e1 : T'.heap = t.heap) (hS : va_S A0 H0 H locs) (hA : ∀ q, q < H.size → A1 q → A0 q) (hf : ∀ q, free q → A0 q) (hL : ∀ q ∈ L, free q.base) (hF : va_F A1 st₀ t) :
    H.size ≤ T'.heap.size ∧ (∀ q : Nat, q < H.size → ¬ A1 q → T'.heap[q]? = H[q]?) ∧ va_S A0 H0 T'.heap (locs ++ L) := by
  obtain ⟨hz, hk⟩ := hF
  rw [h0] at hz hk
  exact ⟨by rw [e1]; exact hz, fun q h1 h2 => by rw [e1]; exact hk q h1 h2,
    ⟨Nat.le_trans hS.1 (by rw [e1]; exact hz), fun q h1 h2 => by rw [e1, hk q (Nat.lt_of_lt_of_le h1 hS.1) (fun z => h2 (hA q (Nat.lt_of_lt_of_le h1 hS.1) z))]; exact hS.2.1 q h1 h2, fun q hq => by
      rcases List.mem_append.mp hq with h | h
      · exact hS.2.2 q h
      · exact hf _ (hL q h)⟩⟩
theorem vx_calli {S SX : Type} {post : Int32 → S → Prop} {px : SX → Prop} {B : S → State → Prop} {BX : String → SX → State → Prop} {AX : Nat → Prop} (hr : vx_Run p l e R s m args below meth c H locs cells slots mc ms (F0 m pc ls st0) rest (va_Qi post B A1 a) (vx_X px BX AX) free) (hS : va_S A0 H0 H locs) (hA : ∀ q, q < H.size → A1 q → A0 q) (hf : ∀ q, free q → A0 q) (hAX : ∀ q, q < H.size → AX q → A0 q)
    (kx : ∀ (E : String) (ce : Cell) (q9 : Addr) (u : SX) (t : State) (H1 : Heap) (locs1 : List Loc), t.heap = H1 → s.vm.Alike t.vm → px u → BX E u t → H.size ≤ H1.size → (∀ q : Nat, q < H.size → ¬ AX q → H1[q]? = H[q]?) → va_S A0 H0 H1 locs1 → H1[q9]? = some ce → ce.vm = .none → s.vm.findClass E = some ce.cls → vx_W p l e R s m args below meth c H1 locs1 (cells + mc) (slots + ms) Q (F0 m pc ls rest) q9)
    (kk : ∀ (r : Int32) (u : S) (t : State) (H1 : Heap) (locs1 : List Loc), t.heap = H1 → s.vm.Alike t.vm → post r u → B u t → H.size ≤ H1.size → (∀ q : Nat, q < H.size → ¬ A1 q → H1[q]? = H[q]?) → va_S A0 H0 H1 locs1 → W p l e R s m args below meth c H1 locs1 (cells + mc) (slots + ms) Q (F0 m (pc + 3) ls (.int r :: rest))) : W p l e R s m args below meth c H locs cells slots Q (F0 m pc ls st0) := by
  intro T hT X
  rcases hr T hT X with ⟨v, st₀, t, T', L, h0, X', hL, e1, e2, ⟨⟨r, u, hv, hp, hb⟩, hF⟩, st⟩ | ⟨q, st₀, t, T', L, E, ce, h0, X', hL, e1, e2, ⟨u, hp, hb, hF⟩, hce, hcv, hcl, st⟩
  · cases hv
    obtain ⟨k1, k2, k3⟩ := vx_keep h0 e1 hS hA hf hL hF
    obtain ⟨t2, a1, b1⟩ := kk r u t T'.heap (locs ++ L) e1.symm (by rw [← e2]; exact X'.warmed.alike) hp hb k1 k2 k3 T' rfl X'
    exact ⟨t2, st t2 a1, b1⟩
  · obtain ⟨k1, k2, k3⟩ := vx_keep h0 e1 hS hAX hf hL hF
    obtain ⟨t2, a1, b1⟩ := kx E ce q u t T'.heap (locs ++ L) e1.symm (by rw [← e2]; exact X'.warmed.alike) hp hb k1 k2 k3 (by rw [e1]; exact hce) hcv hcl T' rfl X'
    exact ⟨t2, st.trans a1, b1⟩
theorem vx_calll {S SX : Type} {post : Int64 → S → Prop} {px : SX → Prop} {B : S → State → Prop} {BX : String → SX → State → Prop} {AX : Nat → Prop} (hr : vx_Run p l e R s m args below meth c H locs cells slots mc ms (F0 m pc ls st0) rest (va_Ql post B A1 a) (vx_X px BX AX) free) (hS : va_S A0 H0 H locs) (hA : ∀ q, q < H.size → A1 q → A0 q) (hf : ∀ q, free q → A0 q) (hAX : ∀ q, q < H.size → AX q → A0 q)
    (kx : ∀ (E : String) (ce : Cell) (q9 : Addr) (u : SX) (t : State) (H1 : Heap) (locs1 : List Loc), t.heap = H1 → s.vm.Alike t.vm → px u → BX E u t → H.size ≤ H1.size → (∀ q : Nat, q < H.size → ¬ AX q → H1[q]? = H[q]?) → va_S A0 H0 H1 locs1 → H1[q9]? = some ce → ce.vm = .none → s.vm.findClass E = some ce.cls → vx_W p l e R s m args below meth c H1 locs1 (cells + mc) (slots + ms) Q (F0 m pc ls rest) q9)
    (kk : ∀ (r : Int64) (u : S) (t : State) (H1 : Heap) (locs1 : List Loc), t.heap = H1 → s.vm.Alike t.vm → post r u → B u t → H.size ≤ H1.size → (∀ q : Nat, q < H.size → ¬ A1 q → H1[q]? = H[q]?) → va_S A0 H0 H1 locs1 → W p l e R s m args below meth c H1 locs1 (cells + mc) (slots + ms) Q (F0 m (pc + 3) ls (.long r :: rest))) : W p l e R s m args below meth c H locs cells slots Q (F0 m pc ls st0) := by
  intro T hT X
  rcases hr T hT X with ⟨v, st₀, t, T', L, h0, X', hL, e1, e2, ⟨⟨r, u, hv, hp, hb⟩, hF⟩, st⟩ | ⟨q, st₀, t, T', L, E, ce, h0, X', hL, e1, e2, ⟨u, hp, hb, hF⟩, hce, hcv, hcl, st⟩
  · cases hv
    obtain ⟨k1, k2, k3⟩ := vx_keep h0 e1 hS hA hf hL hF
    obtain ⟨t2, a1, b1⟩ := kk r u t T'.heap (locs ++ L) e1.symm (by rw [← e2]; exact X'.warmed.alike) hp hb k1 k2 k3 T' rfl X'
    exact ⟨t2, st t2 a1, b1⟩
  · obtain ⟨k1, k2, k3⟩ := vx_keep h0 e1 hS hAX hf hL hF
    obtain ⟨t2, a1, b1⟩ := kx E ce q u t T'.heap (locs ++ L) e1.symm (by rw [← e2]; exact X'.warmed.alike) hp hb k1 k2 k3 (by rw [e1]; exact hce) hcv hcl T' rfl X'
    exact ⟨t2, st.trans a1, b1⟩
theorem vx_callf {S SX : Type} {post : UInt32 → S → Prop} {px : SX → Prop} {B : S → State → Prop} {BX : String → SX → State → Prop} {AX : Nat → Prop} (hr : vx_Run p l e R s m args below meth c H locs cells slots mc ms (F0 m pc ls st0) rest (va_Qf post B A1 a) (vx_X px BX AX) free) (hS : va_S A0 H0 H locs) (hA : ∀ q, q < H.size → A1 q → A0 q) (hf : ∀ q, free q → A0 q) (hAX : ∀ q, q < H.size → AX q → A0 q)
    (kx : ∀ (E : String) (ce : Cell) (q9 : Addr) (u : SX) (t : State) (H1 : Heap) (locs1 : List Loc), t.heap = H1 → s.vm.Alike t.vm → px u → BX E u t → H.size ≤ H1.size → (∀ q : Nat, q < H.size → ¬ AX q → H1[q]? = H[q]?) → va_S A0 H0 H1 locs1 → H1[q9]? = some ce → ce.vm = .none → s.vm.findClass E = some ce.cls → vx_W p l e R s m args below meth c H1 locs1 (cells + mc) (slots + ms) Q (F0 m pc ls rest) q9)
    (kk : ∀ (r : UInt32) (u : S) (t : State) (H1 : Heap) (locs1 : List Loc), t.heap = H1 → s.vm.Alike t.vm → post r u → B u t → H.size ≤ H1.size → (∀ q : Nat, q < H.size → ¬ A1 q → H1[q]? = H[q]?) → va_S A0 H0 H1 locs1 → W p l e R s m args below meth c H1 locs1 (cells + mc) (slots + ms) Q (F0 m (pc + 3) ls (.float r :: rest))) : W p l e R s m args below meth c H locs cells slots Q (F0 m pc ls st0) := by
  intro T hT X
  rcases hr T hT X with ⟨v, st₀, t, T', L, h0, X', hL, e1, e2, ⟨⟨r, u, hv, hp, hb⟩, hF⟩, st⟩ | ⟨q, st₀, t, T', L, E, ce, h0, X', hL, e1, e2, ⟨u, hp, hb, hF⟩, hce, hcv, hcl, st⟩
  · cases hv
    obtain ⟨k1, k2, k3⟩ := vx_keep h0 e1 hS hA hf hL hF
    obtain ⟨t2, a1, b1⟩ := kk r u t T'.heap (locs ++ L) e1.symm (by rw [← e2]; exact X'.warmed.alike) hp hb k1 k2 k3 T' rfl X'
    exact ⟨t2, st t2 a1, b1⟩
  · obtain ⟨k1, k2, k3⟩ := vx_keep h0 e1 hS hAX hf hL hF
    obtain ⟨t2, a1, b1⟩ := kx E ce q u t T'.heap (locs ++ L) e1.symm (by rw [← e2]; exact X'.warmed.alike) hp hb k1 k2 k3 (by rw [e1]; exact hce) hcv hcl T' rfl X'
    exact ⟨t2, st.trans a1, b1⟩
theorem vx_calld {S SX : Type} {post : UInt64 → S → Prop} {px : SX → Prop} {B : S → State → Prop} {BX : String → SX → State → Prop} {AX : Nat → Prop} (hr : vx_Run p l e R s m args below meth c H locs cells slots mc ms (F0 m pc ls st0) rest (va_Qd post B A1 a) (vx_X px BX AX) free) (hS : va_S A0 H0 H locs) (hA : ∀ q, q < H.size → A1 q → A0 q) (hf : ∀ q, free q → A0 q) (hAX : ∀ q, q < H.size → AX q → A0 q)
    (kx : ∀ (E : String) (ce : Cell) (q9 : Addr) (u : SX) (t : State) (H1 : Heap) (locs1 : List Loc), t.heap = H1 → s.vm.Alike t.vm → px u → BX E u t → H.size ≤ H1.size → (∀ q : Nat, q < H.size → ¬ AX q → H1[q]? = H[q]?) → va_S A0 H0 H1 locs1 → H1[q9]? = some ce → ce.vm = .none → s.vm.findClass E = some ce.cls → vx_W p l e R s m args below meth c H1 locs1 (cells + mc) (slots + ms) Q (F0 m pc ls rest) q9)
    (kk : ∀ (r : UInt64) (u : S) (t : State) (H1 : Heap) (locs1 : List Loc), t.heap = H1 → s.vm.Alike t.vm → post r u → B u t → H.size ≤ H1.size → (∀ q : Nat, q < H.size → ¬ A1 q → H1[q]? = H[q]?) → va_S A0 H0 H1 locs1 → W p l e R s m args below meth c H1 locs1 (cells + mc) (slots + ms) Q (F0 m (pc + 3) ls (.double r :: rest))) : W p l e R s m args below meth c H locs cells slots Q (F0 m pc ls st0) := by
  intro T hT X
  rcases hr T hT X with ⟨v, st₀, t, T', L, h0, X', hL, e1, e2, ⟨⟨r, u, hv, hp, hb⟩, hF⟩, st⟩ | ⟨q, st₀, t, T', L, E, ce, h0, X', hL, e1, e2, ⟨u, hp, hb, hF⟩, hce, hcv, hcl, st⟩
  · cases hv
    obtain ⟨k1, k2, k3⟩ := vx_keep h0 e1 hS hA hf hL hF
    obtain ⟨t2, a1, b1⟩ := kk r u t T'.heap (locs ++ L) e1.symm (by rw [← e2]; exact X'.warmed.alike) hp hb k1 k2 k3 T' rfl X'
    exact ⟨t2, st t2 a1, b1⟩
  · obtain ⟨k1, k2, k3⟩ := vx_keep h0 e1 hS hAX hf hL hF
    obtain ⟨t2, a1, b1⟩ := kx E ce q u t T'.heap (locs ++ L) e1.symm (by rw [← e2]; exact X'.warmed.alike) hp hb k1 k2 k3 (by rw [e1]; exact hce) hcv hcl T' rfl X'
    exact ⟨t2, st.trans a1, b1⟩
theorem vx_callv {S SX : Type} {post : S → Prop} {px : SX → Prop} {B : S → State → Prop} {BX : String → SX → State → Prop} {AX : Nat → Prop} (hr : vx_Run p l e R s m args below meth c H locs cells slots mc ms (F0 m pc ls st0) rest (va_Qv post B A1 a) (vx_X px BX AX) free) (hS : va_S A0 H0 H locs) (hA : ∀ q, q < H.size → A1 q → A0 q) (hf : ∀ q, free q → A0 q) (hAX : ∀ q, q < H.size → AX q → A0 q)
    (kx : ∀ (E : String) (ce : Cell) (q9 : Addr) (u : SX) (t : State) (H1 : Heap) (locs1 : List Loc), t.heap = H1 → s.vm.Alike t.vm → px u → BX E u t → H.size ≤ H1.size → (∀ q : Nat, q < H.size → ¬ AX q → H1[q]? = H[q]?) → va_S A0 H0 H1 locs1 → H1[q9]? = some ce → ce.vm = .none → s.vm.findClass E = some ce.cls → vx_W p l e R s m args below meth c H1 locs1 (cells + mc) (slots + ms) Q (F0 m pc ls rest) q9)
    (kk : ∀ (u : S) (t : State) (H1 : Heap) (locs1 : List Loc), t.heap = H1 → s.vm.Alike t.vm → post u → B u t → H.size ≤ H1.size → (∀ q : Nat, q < H.size → ¬ A1 q → H1[q]? = H[q]?) → va_S A0 H0 H1 locs1 → W p l e R s m args below meth c H1 locs1 (cells + mc) (slots + ms) Q (F0 m (pc + 3) ls (rest))) : W p l e R s m args below meth c H locs cells slots Q (F0 m pc ls st0) := by
  intro T hT X
  rcases hr T hT X with ⟨v, st₀, t, T', L, h0, X', hL, e1, e2, ⟨⟨u, hv, hp, hb⟩, hF⟩, st⟩ | ⟨q, st₀, t, T', L, E, ce, h0, X', hL, e1, e2, ⟨u, hp, hb, hF⟩, hce, hcv, hcl, st⟩
  · cases hv
    obtain ⟨k1, k2, k3⟩ := vx_keep h0 e1 hS hA hf hL hF
    obtain ⟨t2, a1, b1⟩ := kk u t T'.heap (locs ++ L) e1.symm (by rw [← e2]; exact X'.warmed.alike) hp hb k1 k2 k3 T' rfl X'
    exact ⟨t2, st t2 a1, b1⟩
  · obtain ⟨k1, k2, k3⟩ := vx_keep h0 e1 hS hAX hf hL hF
    obtain ⟨t2, a1, b1⟩ := kx E ce q u t T'.heap (locs ++ L) e1.symm (by rw [← e2]; exact X'.warmed.alike) hp hb k1 k2 k3 (by rw [e1]; exact hce) hcv hcl T' rfl X'
    exact ⟨t2, st.trans a1, b1⟩
/-- caught by the row x of this method's table; the rows ahead don't take it -/
theorem vx_catch {own name : String} {E : String} {ce : Cell} {q : Addr} (hown : s.vm.findClass own = some m.cls) (pre : List ExceptionTableEntry) (x : ExceptionTableEntry) (suf : List ExceptionTableEntry) (hsplit : c.exceptionTable.toList = pre ++ x :: suf)
    (hpass : ∀ z ∈ pre, covers z pc = false ∨ (z.catchType ≠ 0 ∧ ∃ nm : String, (Cond.classLink own z.catchType nm).before args s = true ∧ va_Nc E nm s)) (hx : covers x pc = true) (h0 : x.catchType ≠ 0)
    (hlink : (Cond.classLink own x.catchType name).before args s = true) (hcast : (Cond.castable E name).before args s = true) (hcell : H[q]? = some ce) (hv : ce.vm = .none) (hcl : s.vm.findClass E = some ce.cls)
    (kk : W p l e R s m args below meth c H locs cells slots Q (F0 m x.handlerPc ls [.ref q])) : vx_W p l e R s m args below meth c H locs cells slots Q (F0 m pc ls rest) q := by
  intro T hT X
  have hpl : e.platform.magicAccessors = ({} : Platform).magicAccessors := by rw [X.admits.platform]
  obtain ⟨c3, c4, hc3, hc4, hasg⟩ := Cond.castable_spec hcast
  cases Option.some.inj (hc3.symm.trans hcl)
  obtain ⟨c5, hc5, hcl5⟩ := Cond.classLink_spec hown hlink e.platform hpl
  cases Option.some.inj (hc4.symm.trans hc5)
  obtain ⟨vm', X', st⟩ := X.thenCaughtThrough q (g := F0 m pc ls rest) rfl (Steps.refl _) (by rw [hT]; exact hcell) (by rw [hv]; rfl) (by obtain ⟨k9, h9, -⟩ := Vm.findClass_spec hcl; exact ⟨k9, h9⟩) pre x suf hsplit
    (fun z hz => by
      rcases hpass z hz with h | ⟨hz0, nm, hl1, hn1⟩
      · exact Or.inl h
      · obtain ⟨c6, hc6, hcl6⟩ := Cond.classLink_spec hown hl1 e.platform hpl
        obtain ⟨a8, b8, h1, h2, h3⟩ := hn1
        cases Option.some.inj (h1.symm.trans hcl)
        cases Option.some.inj (h2.symm.trans hc6)
        exact Or.inr ⟨hz0, _, hcl6, h3⟩) hx (Or.inr ⟨h0, c4, hcl5, hasg⟩)
  obtain ⟨t, a1, b1⟩ := kk (T.setVm vm') hT X'
  exact ⟨t, st.trans a1, b1⟩
end Rows
section Ends
variable {p : Program} {l : Launch} {e : Env} {R : Room} {s : State} {m : MethodId} {args : Array Value} {below : List Frame} {meth : Method} {c : Code} {H : Heap} {locs : List Loc} {cells slots : Nat} {Q : State → Prop}
variable {mc ms : Nat} {free : Addr → Prop} {A0 A1 : Nat → Prop} {H0 : Heap} {a : Array Value} {ls : Array Slot} {st0 rest : List Value}
variable {Qc : Array Value → State → Outcome → State → Prop} {XC : String → State → State → Prop}
/-- what a body that may throw owes at its end -/
def vx_MQ (below : List Frame) (Qc : Array Value → State → Outcome → State → Prop) (XC : String → State → State → Prop) (a : Array Value) (s : State) (mc ms : Nat) (free : Addr → Prop) : State → Prop := fun t =>
  ∃ o, t.status = .running ∧ Ended t below o ∧ vx_Q Qc XC mc ms free a s o t
theorem vx_ret {g : JFrame} {mc ms : Nat} (k : W p l e R s m args below meth c H locs cells slots (MQ below Qc args s mc ms free) g) : W p l e R s m args below meth c H locs cells slots (vx_MQ below Qc XC args s mc ms free) g := by
  intro T hT X
  obtain ⟨t, a1, o, b1, b2, b3, b4⟩ := k T hT X
  exact ⟨t, a1, o, b1, b2, Or.inl ⟨b3, b4⟩⟩
/-- not caught here: it goes on to the caller -/
theorem vx_widen {g : JFrame} {q : Addr} {k n : Nat} (h1 : cells ≤ k) (h2 : slots ≤ n) (kk : vx_W p l e R s m args below meth c H locs k n Q g q) : vx_W p l e R s m args below meth c H locs cells slots Q g q := fun T hT X => kk T hT (stand_widen X h1 h2)
theorem vx_out {pc : Nat} {E : String} {ce : Cell} {q : Addr} {mc ms : Nat} (hout : ∀ x ∈ c.exceptionTable.toList, covers x pc = false) (hlocks : meth.locks = false) (hcell : H[q]? = some ce) (hv : ce.vm = .none) (hcl : s.vm.findClass E = some ce.cls)
    (hx : ∀ t : State, t.heap = H → s.vm.Alike t.vm → XC E s t) (hf : ∀ z ∈ locs, free z.base) (hc : cells ≤ mc) (hs : slots ≤ ms) :
    vx_W p l e R s m args below meth c H locs cells slots (vx_MQ below Qc XC args s mc ms free) (F0 m pc ls rest) q := by
  intro T hT X
  obtain ⟨st1, hrun, hend, hW, hsm⟩ := X.leaveThrown q (g := F0 m pc ls rest) rfl rfl rfl hout hlocks
  have hcell9 : (T.setFrames (.throwing q :: below)).heap[q]? = some ce := by
    show T.heap[q]? = some ce
    rw [hT]; exact hcell
  exact ⟨_, st1, .threw q, hrun, hend, Or.inr ⟨q, rfl, E, ce, locs, hx _ hT hW.alike, hcell9, hv, hcl, hW, hsm.mono hc hs, hf⟩⟩
theorem vx_frame {U : State} {k n : Nat} (h : s.sameButNew ({ U with vm := s.vm } : State) locs k n) : s.heap.size ≤ U.heap.size ∧ ∀ q : Nat, q < s.heap.size → (∀ z ∈ locs, z.base ≠ q) → U.heap[q]? = s.heap[q]? := by
  obtain ⟨-, h2, -, -, -, h6⟩ := h
  refine ⟨h2, fun q hq hz => ?_⟩
  obtain ⟨c9, e1, e2, e3, e4⟩ := h6 q _ (Array.getElem?_eq_getElem hq)
  have hs : c9.slots = (s.heap[q]).slots := Array.ext_getElem? fun i => e4 i fun hm => hz _ hm rfl
  have h9 : c9 = s.heap[q] := by
    rw [hs] at e2
    exact e2
  have e5 : U.heap[q]? = some c9 := e1
  rw [e5, h9, Array.getElem?_eq_getElem hq]
/-- the words of a throw but the four that speak of the heap -/
def vx_no (w : Cond) : Bool := decide (w ≠ .isRef (.static Bundle.tN "UNASSIGNED_STACK" Bundle.steD)) && decide (w ≠ .isRef (.static Bundle.tN "SUPPRESSED_SENTINEL" Bundle.listD)) && decide (w ≠ .laysStatic Bundle.tN "UNASSIGNED_STACK" Bundle.steD) && decide (w ≠ .laysStatic Bundle.tN "SUPPRESSED_SENTINEL" Bundle.listD)
def vx_at0 (own : String) (ic : Nat) (X : String) (names : List String) : List Cond := (Bundle.ownAtoms0 own ic X names).filter vx_no
def vx_atS (own : String) (ic : Nat) (X : String) (names : List String) : List Cond := (Bundle.ownAtoms own ic X names).filter vx_no
/-- a word that the tables alone decide, or a good one -/
def vx_ot (w : Cond) : Bool := w.onTables || goodWord w
theorem vx_ot_at {args a' : Array Value} {s U : State} {w : Cond} (hW : s.WarmedH U.vm) (hvm : s.vm = U.vm) (hg : vx_ot w = true) (h : w.before args s = true) : w.before a' U = true := by
  simp only [vx_ot, Bool.or_eq_true] at hg
  rcases hg with hg | hg
  · exact va_tabs hg hvm h
  · exact word_at hW (good_of_word hg) h
/-- a list's words: the good ones out of the method's own list, the others by premises of their own -/
theorem vx_hat {args : Array Value} {s : State} {L B : List Cond} (h1 : ∀ w ∈ L.filter goodWord, w.before args s = true) (h2 : ∀ w ∈ L.filter (fun w => !goodWord w), w ∈ B) (h3 : ∀ w ∈ B, w.before args s = true) : ∀ w ∈ L, w.before args s = true := by
  intro w hw
  by_cases g : goodWord w = true
  · exact h1 w (List.mem_filter.mpr ⟨hw, g⟩)
  · refine h3 w (h2 w (List.mem_filter.mpr ⟨hw, ?_⟩))
    show (!goodWord w) = true
    cases hgw : goodWord w
    · rfl
    · exact absurd hgw g
theorem vx_c {args : Array Value} {s : State} {w : Cond} {B : List Cond} (h : w.before args s = true) (t : ∀ w ∈ B, w.before args s = true) : ∀ w' ∈ w :: B, w'.before args s = true := fun w' h' => (List.mem_cons.mp h').elim (fun e => by rw [e]; exact h) (t w')
theorem vx_n {args : Array Value} {s : State} : ∀ w ∈ ([] : List Cond), w.before args s = true := fun _ h => nomatch h
theorem vx_own {args : Array Value} {s : State} {L : List Cond} (h1 : ∀ w ∈ L.filter vx_no, w.before args s = true)
    (hU : (Cond.isRef (.static Bundle.tN "UNASSIGNED_STACK" Bundle.steD)).before args s = true) (hN : (Cond.isRef (.static Bundle.tN "SUPPRESSED_SENTINEL" Bundle.listD)).before args s = true)
    (lU : (Cond.laysStatic Bundle.tN "UNASSIGNED_STACK" Bundle.steD).before args s = true) (lN : (Cond.laysStatic Bundle.tN "SUPPRESSED_SENTINEL" Bundle.listD).before args s = true) : ∀ w ∈ L, w.before args s = true := by
  intro w hw
  by_cases e1 : w = .isRef (.static Bundle.tN "UNASSIGNED_STACK" Bundle.steD)
  · rw [e1]; exact hU
  · by_cases e2 : w = .isRef (.static Bundle.tN "SUPPRESSED_SENTINEL" Bundle.listD)
    · rw [e2]; exact hN
    · by_cases e3 : w = .laysStatic Bundle.tN "UNASSIGNED_STACK" Bundle.steD
      · rw [e3]; exact lU
      · by_cases e4 : w = .laysStatic Bundle.tN "SUPPRESSED_SENTINEL" Bundle.listD
        · rw [e4]; exact lN
        · exact h1 w (List.mem_filter.mpr ⟨hw, by unfold vx_no; rw [decide_eq_true e1, decide_eq_true e2, decide_eq_true e3, decide_eq_true e4]; rfl⟩)
/-- where a static field lies, its class's statics cell in H -/
def vx_L (C n d : String) (A : Nat → Prop) (U : State) (H : Heap) : Prop := ∃ (c : ClassId) (k : Class) (i : Nat) (f : Field) (a : Nat) (cell : Cell), U.vm.findClass C = some c ∧ U.fieldFound? C n d = some (c, k, i, f) ∧ f.isStatic = true ∧ k.statics = some a ∧ H[a]? = some cell ∧ cell.vm.isStatics = true ∧ cell.cls = c ∧ f.slot < cell.slots.size ∧ k.staticTypes[f.slot]? = some f.type ∧ ¬ A a
theorem vx_L.moved {C n d : String} {A : Nat → Prop} {u U : State} {H : Heap} (hvm : u.vm.Alike U.vm) (h : vx_L C n d A u H) : vx_L C n d A U H := by
  obtain ⟨c, k, i, f, a, cell, h1, h2, h3, h4, h5, h6, h7, h8, h9, h10⟩ := h
  obtain ⟨k', hi', he⟩ := State.fieldFound?_setVm hvm h2
  exact ⟨c, k', i, f, a, cell, by rw [hvm.findClass]; exact h1, hi', h3, by rw [he]; exact h4, h5, h6, h7, h8, by rw [he]; exact h9, h10⟩
theorem vx_L.kept {C n d : String} {A : Nat → Prop} {U : State} {H H1 : Heap} (h : vx_L C n d A U H) (hq : ∀ a : Nat, a < H.size → ¬ A a → H1[a]? = H[a]?) : vx_L C n d A U H1 := by
  obtain ⟨c, k, i, f, a, cell, h1, h2, h3, h4, h5, h6, h7, h8, h9, h10⟩ := h
  exact ⟨c, k, i, f, a, cell, h1, h2, h3, h4, by rw [hq a (Array.getElem?_eq_some_iff.mp h5).1 h10]; exact h5, h6, h7, h8, h9, h10⟩
theorem vx_L.narrow {C n d : String} {A B : Nat → Prop} {U : State} {H : Heap} (h : vx_L C n d A U H) (hAB : ∀ q, B q → A q) : vx_L C n d B U H := by
  obtain ⟨c, k, i, f, a, cell, h1, h2, h3, h4, h5, h6, h7, h8, h9, h10⟩ := h
  exact ⟨c, k, i, f, a, cell, h1, h2, h3, h4, h5, h6, h7, h8, h9, fun z => h10 (hAB _ z)⟩
theorem vx_L.word {C n d : String} {A : Nat → Prop} {s : State} {args : Array Value} (h : vx_L C n d A s s.heap) : (Cond.laysStatic C n d).before args s = true := by
  obtain ⟨c, k, i, f, a, cell, h1, h2, h3, h4, h5, h6, h7, h8, h9, -⟩ := h
  show (Cond.laysStatic C n d).holds args s none s [] = true
  exact Cond.laysStatic_of h1 h2 h3 h4 h5 h6 h7 h8 h9
/-- .. and what it holds: null or some reference -/
def vx_Zq (C n d : String) (A : Nat → Prop) (U : State) (H : Heap) : Prop := va_Zq C n d A U H ∧ vx_L C n d A U H
theorem vx_Zq.moved {C n d : String} {A : Nat → Prop} {u U : State} {H : Heap} (hvm : u.vm.Alike U.vm) (h : vx_Zq C n d A u H) : vx_Zq C n d A U H := ⟨va_Zq.moved hvm h.1, vx_L.moved hvm h.2⟩
theorem vx_Zq.kept {C n d : String} {A : Nat → Prop} {U : State} {H H1 : Heap} (h : vx_Zq C n d A U H) (hq : ∀ a : Nat, a < H.size → ¬ A a → H1[a]? = H[a]?) : vx_Zq C n d A U H1 := ⟨va_Zq.kept h.1 hq, vx_L.kept h.2 hq⟩
theorem vx_Zq.narrow {C n d : String} {A B : Nat → Prop} {U : State} {H : Heap} (h : vx_Zq C n d A U H) (hAB : ∀ q, B q → A q) : vx_Zq C n d B U H := ⟨va_Zq.narrow h.1 hAB, vx_L.narrow h.2 hAB⟩
theorem vx_Zqof {args : Array Value} {s : State} {C n d : String} {A : Nat → Prop} (hl : (Cond.laysStatic C n d).before args s = true) (hini : (Cond.initialized C).before args s = true) (h : (Cond.isRef (.static C n d)).before args s = true) (hA : ∀ a : Nat, a < s.heap.size → ¬ A a) : vx_Zq C n d A s s.heap := by
  refine ⟨va_Zqof hl hini h hA, ?_⟩
  obtain ⟨c, k, i, f, a, cell, h1, h2, h3, h4, h5, h6, h7, h8, h9⟩ := Cond.laysStatic_spec hl
  exact ⟨c, k, i, f, a, cell, h1, h2, h3, h4, h5, h6, h7, h8, h9, hA a (Array.getElem?_eq_some_iff.mp h5).1⟩
theorem vx_isRef {C n d : String} {v : Value} {A : Nat → Prop} {s : State} {args : Array Value} (h : va_Z C n d v A s s.heap) (hv : v.isRef = true) : (Cond.isRef (.static C n d)).before args s = true := by
  obtain ⟨cf, kf, fi, f, a, cell, h1, h2, h3, h4, h5, h6, h7, -⟩ := h
  have he : (Term.static C n d).eval args s none [] s = some v := by
    simp [Term.eval, State.fieldNamed?, h1, h2, h4, h5, h6, h7]
  simp only [Cond.before, Cond.holds, Cond.value, he]
  cases v <;> simp_all [Value.isRef]
theorem vx_isRefq {C n d : String} {A : Nat → Prop} {s : State} {args : Array Value} (h : va_Zq C n d A s s.heap) : (Cond.isRef (.static C n d)).before args s = true := by
  rcases h with h | ⟨t, h⟩
  · exact vx_isRef h rfl
  · exact vx_isRef h rfl
/-- the same frame, seen from here: as if the method were called anew in this heap -/
theorem vx_rebase {T : State} (X : Stand p l e R s m args below meth c T locs cells slots) {R' : Room} (hf : R'.frames ≤ R.frames) (hl : R'.locals ≤ R.locals) (hc : cells + R'.cells ≤ R.cells) (hs : slots + R'.slots ≤ R.slots) :
    Stand p l e R' ((T.setVm s.vm).setFrames (.invoking m args :: below)) m args below meth c T [] 0 0 := by
  have htop : (T.setVm s.vm).topJava?.isSome := X.here.top
  have hF : ((T.setVm s.vm).setFrames (.invoking m args :: below)).frames = .invoking m args :: below := State.frames_setFrames _ (State.cur_lt_of_top htop)
  obtain ⟨g₀, hg0⟩ := Option.isSome_iff_exists.mp htop
  obtain ⟨r, hr⟩ := State.topJava?_eq_some.mp hg0
  have hl9 : e.platform.stackLimits (T.setVm s.vm).me = e.platform.stackLimits s.me := X.limits
  have hb9 : (T.setVm s.vm).me.stackBytes = s.me.stackBytes := X.bytes
  refine ⟨X.admits, X.cas, X.clock, hF, ?_, X.hears, X.method, X.code, X.here, X.tail, X.warmed, ?_, ?_, ?_⟩
  · have h := X.room
    have hU : ((T.setVm s.vm).setFrames (.invoking m args :: below)).localsInUse = s.localsInUse := by
      rw [State.localsInUse_invoking hF (meth := meth) (c := c) X.method X.code, State.localsInUse_invoking X.frames X.method X.code]
    simp only [State.hasRoom, Bool.and_eq_true, decide_eq_true_eq] at h ⊢
    obtain ⟨⟨⟨⟨h1, h2, h3, h4, h5, h6⟩, h7⟩, h8⟩, h9⟩ := h
    rw [X.frames, List.length_cons] at h2 h3
    have q1 := X.heapSize
    have q2 := X.used
    simp only [hF, hU, List.length_cons, State.stackLimits_setFrames, State.stackBytes_setFrames, hl9, hb9]
    refine ⟨⟨⟨⟨by omega, by omega, by omega, by omega, by omega, h6⟩, ?_⟩, ?_⟩, X.book⟩
    · show T.heap.size + R'.cells ≤ e.platform.maxCells
      omega
    · show T.slotsUsed + R'.slots ≤ e.platform.maxSlots
      omega
  · rw [State.stackLimits_setFrames]; rfl
  · rw [State.stackBytes_setFrames]; rfl
  · refine ⟨?_, Nat.le_refl _, Nat.le_refl _, ?_, ?_, fun a c9 h9 => ⟨c9, h9, rfl, rfl, fun _ _ => rfl⟩⟩
    · obtain ⟨t, ht, -⟩ := State.frames_cons hr
      show T.setVm s.vm = { ((T.setVm s.vm).setFrames (.invoking m args :: below)).setFrames (T.setVm s.vm).frames with heap := T.heap, slotsUsed := T.slotsUsed }
      rw [State.setFrames_setFrames, State.setFrames_self ht]
      rfl
    · show T.slotsUsed = T.slotsUsed + ((T.heap.toList.drop T.heap.size).map (·.slots.size)).sum
      rw [List.drop_eq_nil_of_le (Nat.le_of_eq Array.length_toList)]
      rfl
    · show ((T.heap.toList.drop T.heap.size).map (·.slots.size)).sum ≤ 0
      rw [List.drop_eq_nil_of_le (Nat.le_of_eq Array.length_toList)]
      exact Nat.le_refl _
/-- 'throw new E()': new; dup; invokespecial; athrow -/
theorem vx_throw0 {cc : ByteArray} {pc : Nat} (hexec : p.tables.exec = Jvm.exec) (hb : c.code = cc) (hl : l.stackTraces = false) {own cls : String} {names : List String} {ik ic mc ms : Nat} {A : Nat → Prop}
    (hown : s.vm.findClass own = some m.cls) (hcls : Bundle.fit cls = true) (hnames : ∀ n ∈ names, Bundle.fit n = true)
    (hk : (Cond.classLink own ik cls).before args s = true) (hini : (Cond.initialized cls).before args s = true) (hat : ∀ w ∈ vx_at0 own ic cls names, w.before args s = true)
    (hgood : ∀ w ∈ Cond.classLink own ik cls :: Cond.initialized cls :: vx_at0 own ic cls names, vx_ot w = true)
    (hU : vx_Zq Bundle.tN "UNASSIGNED_STACK" Bundle.steD A s s.heap) (hN : vx_Zq Bundle.tN "SUPPRESSED_SENTINEL" Bundle.listD A s s.heap) (hS : va_S A s.heap H locs) (hsize : ls.size = c.maxLocals)
    (d0 : decode cc pc = .ok (.new ik, 3)) (d3 : decode cc (pc + 3) = .ok (.dup, 1)) (d4 : decode cc (pc + 4) = .ok (.invokespecial ic, 3)) (d7 : decode cc (pc + 7) = .ok (.athrow, 1))
    (hout : ∀ x ∈ c.exceptionTable.toList, covers x (pc + 7) = false)
    (hRframes : names.length + 3 < R.frames) (hRlocals : (rest.map fun v => v.category).sum + (13 * (names.length + 1) + 42) ≤ R.locals) (hRcells : cells + 1 ≤ R.cells) (hRslots : slots + 6 ≤ R.slots) (hlocks : meth.locks = false)
    (hx : ∀ t : State, s.vm.Alike t.vm → H.size ≤ t.heap.size → (∀ q : Nat, q < H.size → t.heap[q]? = H[q]?) → XC cls s t)
    (hf : ∀ z ∈ locs, free z.base) (hc : cells + 1 ≤ mc) (hs : slots + 6 ≤ ms) :
    W p l e R s m args below meth c H locs cells slots (vx_MQ below Qc XC args s mc ms free) (F0 m pc ls rest) := by
  intro T hT X
  have htr : e.platform.stackTraces = false := (show e.platform.stackTraces = l.stackTraces by rw [X.admits.platform]).trans hl
  have Y := vx_rebase X (R' := { frames := R.frames, locals := R.locals, cells := 1, slots := 6 }) (Nat.le_refl _) (Nat.le_refl _) hRcells hRslots
  obtain ⟨s', hA⟩ : ∃ z, z = (T.setVm s.vm).setFrames (.invoking m args :: below) := ⟨_, rfl⟩
  rw [← hA] at Y
  have hvm : s'.vm = s.vm := by rw [hA]; rfl
  have hhp : s'.heap = H := by rw [hA]; exact hT
  have hW0 : s.WarmedH s'.vm := by rw [hvm]; exact State.WarmedH.refl s
  have hat' : ∀ w ∈ vx_at0 own ic cls names, w.before args s' = true := fun w hw => vx_ot_at hW0 hvm.symm (hgood w (List.mem_cons_of_mem _ (List.mem_cons_of_mem _ hw))) (hat w hw)
  have hk' : (Cond.classLink own ik cls).before args s' = true := vx_ot_at hW0 hvm.symm (hgood _ List.mem_cons_self) hk
  have hini' : (Cond.initialized cls).before args s' = true := vx_ot_at hW0 hvm.symm (hgood _ (List.mem_cons_of_mem _ List.mem_cons_self)) hini
  have hU' : vx_Zq Bundle.tN "UNASSIGNED_STACK" Bundle.steD A s' s'.heap := by rw [hhp]; exact vx_Zq.moved hW0.alike (hU.kept hS.2.1)
  have hN' : vx_Zq Bundle.tN "SUPPRESSED_SENTINEL" Bundle.listD A s' s'.heap := by rw [hhp]; exact vx_Zq.moved hW0.alike (hN.kept hS.2.1)
  have h : ∀ w ∈ Bundle.ownAtoms0 own ic cls names, w.before args s' = true := vx_own hat' (vx_isRefq hU'.1) (vx_isRefq hN'.1) hU'.2.word hN'.2.word
  have hown' : s'.vm.findClass own = some m.cls := by rw [hvm]; exact hown
  have hins : (Cond.instantiable cls 6).before args s' = true := h _ (by simp [Bundle.ownAtoms0])
  obtain ⟨vm₁, cX, kX, hfX, hkX, -, -, X₁, st1⟩ := Y.newCold hexec (own := own) (C := cls) (index := ik) (n := 6) hown' hk' hins hini'
    (g := F0 m pc ls rest) rfl (by rw [hb]; exact d0) (Nat.le_refl _) (Nat.le_refl _)
  generalize hT1 : (T.setVm vm₁).pushCell { cls := cX, slots := kX.instanceTypes.map defaultValue, vm := .none } = T1 at X₁ st1
  have hcat : (Value.ref T.heap.size).category = 1 := rfl
  have hcellA : T1.heap[T.heap.size]? = some (freshCell cX kX) := by rw [← hT1]; exact State.heap_pushCell_size _ _
  have d3' : decode c.code (pc + 3) = .ok (.dup, 1) := by rw [hb]; exact d3
  obtain ⟨U, hsteps, hrun, hend, hW, hsame, ce, hce, hO⟩ := X₁.ctorThrow0 hexec htr (own := own) (cls := cls) (names := names) (ic := ic) hown' hcls hnames h (fun x hx => nomatch hx) hfX hkX hcellA (by rw [hhp, hT]; exact Nat.le_refl _)
    (g := { method := m, pc := pc + 4, locals := ls, stack := .ref T.heap.size :: .ref T.heap.size :: rest, locked := none }) rfl hsize rfl rfl (rest := rest) rfl
    (by rw [hb]; exact d4) (by rw [hb]; exact d7) hout hRframes (by simp only [List.map_cons, List.sum_cons, hcat]; omega) hlocks
  obtain ⟨f1, f2⟩ := vx_frame hsame
  rw [hhp] at f1 f2
  have hWs : s.WarmedH U.vm := State.WarmedH.trans hW0 hW
  have hcl : s.vm.findClass cls = some ce.cls := by
    have h9 := hO.cls
    rw [hvm] at h9
    exact h9
  have hall : s.sameButNew ({ U with vm := s.vm } : State) locs mc ms := by
    subst hA
    obtain ⟨e1, e2⟩ := hsame
    rw [State.setFrames_setFrames] at e1
    have h2 : (T.setVm s.vm).sameButNew ({ U with vm := s.vm } : State) [] (0 + 1) (0 + 6) := ⟨e1, e2⟩
    have h3 := X.same.trans h2
    rw [List.append_nil] at h3
    exact h3.mono hc hs
  refine ⟨U, ?_, .threw T.heap.size, hrun, hend, Or.inr ⟨T.heap.size, rfl, cls, ce, locs, hx U hWs.alike f1 (fun q hq => f2 q hq (fun z hz => nomatch hz)), hce, hO.vm, hcl, hWs, hall, hf⟩⟩
  refine st1 _ ?_
  show Steps p.tables e below (T1.setTop { method := m, pc := pc + 3, locals := ls, stack := .ref T.heap.size :: rest, locked := none }) _
  jvm_step X₁.here [X₁.here.top, hexec, d3', Value.category]
  exact hsteps
/-- 'throw new E("text")': new; dup; ldc; invokespecial; athrow -/
theorem vx_throwS {cc : ByteArray} {pc : Nat} (hexec : p.tables.exec = Jvm.exec) (hb : c.code = cc) (hl : l.stackTraces = false) {own cls text : String} {names : List String} {ik is ic mc ms sa : Nat} {A : Nat → Prop}
    (hown : s.vm.findClass own = some m.cls) (hcls : Bundle.fit cls = true) (hnames : ∀ n ∈ names, Bundle.fit n = true)
    (hk : (Cond.classLink own ik cls).before args s = true) (hini : (Cond.initialized cls).before args s = true) (hstr : vk_R own is text sa s) (hat : ∀ w ∈ vx_atS own ic cls names, w.before args s = true)
    (hgood : ∀ w ∈ Cond.classLink own ik cls :: Cond.initialized cls :: vx_atS own ic cls names, vx_ot w = true)
    (hU : vx_Zq Bundle.tN "UNASSIGNED_STACK" Bundle.steD A s s.heap) (hN : vx_Zq Bundle.tN "SUPPRESSED_SENTINEL" Bundle.listD A s s.heap) (hS : va_S A s.heap H locs) (hsize : ls.size = c.maxLocals)
    (d0 : decode cc pc = .ok (.new ik, 3)) (d3 : decode cc (pc + 3) = .ok (.dup, 1)) (d4 : decode cc (pc + 4) = .ok (.ldc is, 2)) (d6 : decode cc (pc + 6) = .ok (.invokespecial ic, 3)) (d9 : decode cc (pc + 9) = .ok (.athrow, 1))
    (hout : ∀ x ∈ c.exceptionTable.toList, covers x (pc + 9) = false)
    (hRframes : names.length + 3 < R.frames) (hRlocals : (rest.map fun v => v.category).sum + (13 * (names.length + 1) + 43) ≤ R.locals) (hRcells : cells + 1 ≤ R.cells) (hRslots : slots + 6 ≤ R.slots) (hlocks : meth.locks = false)
    (hx : ∀ t : State, s.vm.Alike t.vm → H.size ≤ t.heap.size → (∀ q : Nat, q < H.size → t.heap[q]? = H[q]?) → XC cls s t)
    (hf : ∀ z ∈ locs, free z.base) (hc : cells + 1 ≤ mc) (hs : slots + 6 ≤ ms) :
    W p l e R s m args below meth c H locs cells slots (vx_MQ below Qc XC args s mc ms free) (F0 m pc ls rest) := by
  intro T hT X
  have htr : e.platform.stackTraces = false := (show e.platform.stackTraces = l.stackTraces by rw [X.admits.platform]).trans hl
  have Y := vx_rebase X (R' := { frames := R.frames, locals := R.locals, cells := 1, slots := 6 }) (Nat.le_refl _) (Nat.le_refl _) hRcells hRslots
  obtain ⟨s', hA⟩ : ∃ z, z = (T.setVm s.vm).setFrames (.invoking m args :: below) := ⟨_, rfl⟩
  rw [← hA] at Y
  have hvm : s'.vm = s.vm := by rw [hA]; rfl
  have hhp : s'.heap = H := by rw [hA]; exact hT
  have hW0 : s.WarmedH s'.vm := by rw [hvm]; exact State.WarmedH.refl s
  have hat' : ∀ w ∈ vx_atS own ic cls names, w.before args s' = true := fun w hw => vx_ot_at hW0 hvm.symm (hgood w (List.mem_cons_of_mem _ (List.mem_cons_of_mem _ hw))) (hat w hw)
  have hk' : (Cond.classLink own ik cls).before args s' = true := vx_ot_at hW0 hvm.symm (hgood _ List.mem_cons_self) hk
  have hini' : (Cond.initialized cls).before args s' = true := vx_ot_at hW0 hvm.symm (hgood _ (List.mem_cons_of_mem _ List.mem_cons_self)) hini
  have hU' : vx_Zq Bundle.tN "UNASSIGNED_STACK" Bundle.steD A s' s'.heap := by rw [hhp]; exact vx_Zq.moved hW0.alike (hU.kept hS.2.1)
  have hN' : vx_Zq Bundle.tN "SUPPRESSED_SENTINEL" Bundle.listD A s' s'.heap := by rw [hhp]; exact vx_Zq.moved hW0.alike (hN.kept hS.2.1)
  have h : ∀ w ∈ Bundle.ownAtoms own ic cls names, w.before args s' = true := vx_own hat' (vx_isRefq hU'.1) (vx_isRefq hN'.1) hU'.2.word hN'.2.word
  have hown' : s'.vm.findClass own = some m.cls := by rw [hvm]; exact hown
  have hins : (Cond.instantiable cls 6).before args s' = true := h _ (by simp [Bundle.ownAtoms])
  obtain ⟨vm₁, cX, kX, hfX, hkX, -, -, X₁, st1⟩ := Y.newCold hexec (own := own) (C := cls) (index := ik) (n := 6) hown' hk' hins hini'
    (g := F0 m pc ls rest) rfl (by rw [hb]; exact d0) (Nat.le_refl _) (Nat.le_refl _)
  generalize hT1 : (T.setVm vm₁).pushCell { cls := cX, slots := kX.instanceTypes.map defaultValue, vm := .none } = T1 at X₁ st1
  have hcat : (Value.ref T.heap.size).category = 1 := rfl
  have hcellA : T1.heap[T.heap.size]? = some (freshCell cX kX) := by rw [← hT1]; exact State.heap_pushCell_size _ _
  have d3' : decode c.code (pc + 3) = .ok (.dup, 1) := by rw [hb]; exact d3
  have d4' : decode c.code (pc + 4) = .ok (.ldc is, 2) := by rw [hb]; exact d4
  have hstr' : vk_R own is text sa s' := vk_R.warm hW0 hstr
  obtain ⟨U, hsteps, hrun, hend, hW, hsame, ce, hce, hO⟩ := X₁.ctorThrowS hexec htr (own := own) (cls := cls) (names := names) (ic := ic) hown' hcls hnames h (fun x hx => nomatch hx) hfX hkX hcellA (by rw [hhp, hT]; exact Nat.le_refl _) (msg := .ref sa) rfl
    (g := { method := m, pc := pc + 6, locals := ls, stack := .ref sa :: .ref T.heap.size :: .ref T.heap.size :: rest, locked := none }) rfl hsize rfl rfl (rest := rest) rfl
    (by rw [hb]; exact d6) (by rw [hb]; exact d9) hout hRframes (by simp only [List.map_cons, List.sum_cons, hcat]; omega) hlocks
  obtain ⟨f1, f2⟩ := vx_frame hsame
  rw [hhp] at f1 f2
  have hWs : s.WarmedH U.vm := State.WarmedH.trans hW0 hW
  have hcl : s.vm.findClass cls = some ce.cls := by
    have h9 := hO.cls
    rw [hvm] at h9
    exact h9
  have hall : s.sameButNew ({ U with vm := s.vm } : State) locs mc ms := by
    subst hA
    obtain ⟨e1, e2⟩ := hsame
    rw [State.setFrames_setFrames] at e1
    have h2 : (T.setVm s.vm).sameButNew ({ U with vm := s.vm } : State) [] (0 + 1) (0 + 6) := ⟨e1, e2⟩
    have h3 := X.same.trans h2
    rw [List.append_nil] at h3
    exact h3.mono hc hs
  refine ⟨U, ?_, .threw T.heap.size, hrun, hend, Or.inr ⟨T.heap.size, rfl, cls, ce, locs, hx U hWs.alike f1 (fun q hq => f2 q hq (fun z hz => nomatch hz)), hce, hO.vm, hcl, hWs, hall, hf⟩⟩
  refine st1 _ ?_
  show Steps p.tables e below (T1.setTop { method := m, pc := pc + 3, locals := ls, stack := .ref T.heap.size :: rest, locked := none }) _
  jvm_step X₁.here [X₁.here.top, hexec, d3', Value.category]
  exact X₁.ldcString hexec (own := own) (text := text) (index := is) (a := sa) hown' hstr'.1 hstr'.2
    (g := { method := m, pc := pc + 4, locals := ls, stack := .ref T.heap.size :: .ref T.heap.size :: rest, locked := none }) rfl d4' _ hsteps
/-- 'throw new E("text")', the text by a wide index -/
theorem vx_throwSW {cc : ByteArray} {pc : Nat} (hexec : p.tables.exec = Jvm.exec) (hb : c.code = cc) (hl : l.stackTraces = false) {own cls text : String} {names : List String} {ik is ic mc ms sa : Nat} {A : Nat → Prop}
    (hown : s.vm.findClass own = some m.cls) (hcls : Bundle.fit cls = true) (hnames : ∀ n ∈ names, Bundle.fit n = true)
    (hk : (Cond.classLink own ik cls).before args s = true) (hini : (Cond.initialized cls).before args s = true) (hstr : vk_R own is text sa s) (hat : ∀ w ∈ vx_atS own ic cls names, w.before args s = true)
    (hgood : ∀ w ∈ Cond.classLink own ik cls :: Cond.initialized cls :: vx_atS own ic cls names, vx_ot w = true)
    (hU : vx_Zq Bundle.tN "UNASSIGNED_STACK" Bundle.steD A s s.heap) (hN : vx_Zq Bundle.tN "SUPPRESSED_SENTINEL" Bundle.listD A s s.heap) (hS : va_S A s.heap H locs) (hsize : ls.size = c.maxLocals)
    (d0 : decode cc pc = .ok (.new ik, 3)) (d3 : decode cc (pc + 3) = .ok (.dup, 1)) (d4 : decode cc (pc + 4) = .ok (.ldc_w is, 3)) (d7 : decode cc (pc + 7) = .ok (.invokespecial ic, 3)) (d10 : decode cc (pc + 10) = .ok (.athrow, 1))
    (hout : ∀ x ∈ c.exceptionTable.toList, covers x (pc + 10) = false)
    (hRframes : names.length + 3 < R.frames) (hRlocals : (rest.map fun v => v.category).sum + (13 * (names.length + 1) + 43) ≤ R.locals) (hRcells : cells + 1 ≤ R.cells) (hRslots : slots + 6 ≤ R.slots) (hlocks : meth.locks = false)
    (hx : ∀ t : State, s.vm.Alike t.vm → H.size ≤ t.heap.size → (∀ q : Nat, q < H.size → t.heap[q]? = H[q]?) → XC cls s t)
    (hf : ∀ z ∈ locs, free z.base) (hc : cells + 1 ≤ mc) (hs : slots + 6 ≤ ms) :
    W p l e R s m args below meth c H locs cells slots (vx_MQ below Qc XC args s mc ms free) (F0 m pc ls rest) := by
  intro T hT X
  have htr : e.platform.stackTraces = false := (show e.platform.stackTraces = l.stackTraces by rw [X.admits.platform]).trans hl
  have Y := vx_rebase X (R' := { frames := R.frames, locals := R.locals, cells := 1, slots := 6 }) (Nat.le_refl _) (Nat.le_refl _) hRcells hRslots
  obtain ⟨s', hA⟩ : ∃ z, z = (T.setVm s.vm).setFrames (.invoking m args :: below) := ⟨_, rfl⟩
  rw [← hA] at Y
  have hvm : s'.vm = s.vm := by rw [hA]; rfl
  have hhp : s'.heap = H := by rw [hA]; exact hT
  have hW0 : s.WarmedH s'.vm := by rw [hvm]; exact State.WarmedH.refl s
  have hat' : ∀ w ∈ vx_atS own ic cls names, w.before args s' = true := fun w hw => vx_ot_at hW0 hvm.symm (hgood w (List.mem_cons_of_mem _ (List.mem_cons_of_mem _ hw))) (hat w hw)
  have hk' : (Cond.classLink own ik cls).before args s' = true := vx_ot_at hW0 hvm.symm (hgood _ List.mem_cons_self) hk
  have hini' : (Cond.initialized cls).before args s' = true := vx_ot_at hW0 hvm.symm (hgood _ (List.mem_cons_of_mem _ List.mem_cons_self)) hini
  have hU' : vx_Zq Bundle.tN "UNASSIGNED_STACK" Bundle.steD A s' s'.heap := by rw [hhp]; exact vx_Zq.moved hW0.alike (hU.kept hS.2.1)
  have hN' : vx_Zq Bundle.tN "SUPPRESSED_SENTINEL" Bundle.listD A s' s'.heap := by rw [hhp]; exact vx_Zq.moved hW0.alike (hN.kept hS.2.1)
  have h : ∀ w ∈ Bundle.ownAtoms own ic cls names, w.before args s' = true := vx_own hat' (vx_isRefq hU'.1) (vx_isRefq hN'.1) hU'.2.word hN'.2.word
  have hown' : s'.vm.findClass own = some m.cls := by rw [hvm]; exact hown
  have hins : (Cond.instantiable cls 6).before args s' = true := h _ (by simp [Bundle.ownAtoms])
  obtain ⟨vm₁, cX, kX, hfX, hkX, -, -, X₁, st1⟩ := Y.newCold hexec (own := own) (C := cls) (index := ik) (n := 6) hown' hk' hins hini'
    (g := F0 m pc ls rest) rfl (by rw [hb]; exact d0) (Nat.le_refl _) (Nat.le_refl _)
  generalize hT1 : (T.setVm vm₁).pushCell { cls := cX, slots := kX.instanceTypes.map defaultValue, vm := .none } = T1 at X₁ st1
  have hcat : (Value.ref T.heap.size).category = 1 := rfl
  have hcellA : T1.heap[T.heap.size]? = some (freshCell cX kX) := by rw [← hT1]; exact State.heap_pushCell_size _ _
  have d3' : decode c.code (pc + 3) = .ok (.dup, 1) := by rw [hb]; exact d3
  have d4' : decode c.code (pc + 4) = .ok (.ldc_w is, 3) := by rw [hb]; exact d4
  have hstr' : vk_R own is text sa s' := vk_R.warm hW0 hstr
  obtain ⟨U, hsteps, hrun, hend, hW, hsame, ce, hce, hO⟩ := X₁.ctorThrowS hexec htr (own := own) (cls := cls) (names := names) (ic := ic) hown' hcls hnames h (fun x hx => nomatch hx) hfX hkX hcellA (by rw [hhp, hT]; exact Nat.le_refl _) (msg := .ref sa) rfl
    (g := { method := m, pc := pc + 7, locals := ls, stack := .ref sa :: .ref T.heap.size :: .ref T.heap.size :: rest, locked := none }) rfl hsize rfl rfl (rest := rest) rfl
    (by rw [hb]; exact d7) (by rw [hb]; exact d10) hout hRframes (by simp only [List.map_cons, List.sum_cons, hcat]; omega) hlocks
  obtain ⟨f1, f2⟩ := vx_frame hsame
  rw [hhp] at f1 f2
  have hWs : s.WarmedH U.vm := State.WarmedH.trans hW0 hW
  have hcl : s.vm.findClass cls = some ce.cls := by
    have h9 := hO.cls
    rw [hvm] at h9
    exact h9
  have hall : s.sameButNew ({ U with vm := s.vm } : State) locs mc ms := by
    subst hA
    obtain ⟨e1, e2⟩ := hsame
    rw [State.setFrames_setFrames] at e1
    have h2 : (T.setVm s.vm).sameButNew ({ U with vm := s.vm } : State) [] (0 + 1) (0 + 6) := ⟨e1, e2⟩
    have h3 := X.same.trans h2
    rw [List.append_nil] at h3
    exact h3.mono hc hs
  refine ⟨U, ?_, .threw T.heap.size, hrun, hend, Or.inr ⟨T.heap.size, rfl, cls, ce, locs, hx U hWs.alike f1 (fun q hq => f2 q hq (fun z hz => nomatch hz)), hce, hO.vm, hcl, hWs, hall, hf⟩⟩
  refine st1 _ ?_
  show Steps p.tables e below (T1.setTop { method := m, pc := pc + 3, locals := ls, stack := .ref T.heap.size :: rest, locked := none }) _
  jvm_step X₁.here [X₁.here.top, hexec, d3', Value.category]
  exact X₁.ldcStringW hexec (own := own) (text := text) (index := is) (a := sa) hown' hstr'.1 hstr'.2
    (g := { method := m, pc := pc + 4, locals := ls, stack := .ref T.heap.size :: .ref T.heap.size :: rest, locked := none }) rfl d4' _ hsteps
end Ends
section Bodies
variable {l : Launch}
theorem vx_ofW {y : MethodName} {ws ws' : List Cond} {rm : Room} {Pc : Array Value → State → Prop} {Qc : Array Value → State → Outcome → State → Prop} {XC : String → State → State → Prop} {mc ms : Nat} {free : Addr → Prop} {cc : ByteArray} {maxL : Nat} {ret : Option FieldType}
    (hy : plainName y.cls = true) (hw : ws = Cond.code y cc maxL ret :: ws')
    (body : ∀ p e s m args below meth c s₁, BodyLoose p l y (headSpec ws rm) cc maxL ret e s m args below meth c s₁ → c.maxLocals = maxL → (∀ x ∈ c.exceptionTable.toList, False) → Pc args s →
      W p l e (headSpec ws rm).room s m args below meth c s.heap [] 0 0 (vx_MQ below Qc XC args s mc ms free) (entryFrame m args maxL)) : vx_Met l y ws rm Pc Qc XC mc ms free := by
  refine MetFree.of_bodyS (code := cc) (maxLocals := maxL) (ret := ret) hy ?_ ?_
  · intro args s m h hn
    obtain ⟨meth, c, h1, h2, h3, h4, h5, h6, -, -⟩ := Cond.code_spec hn (atoms_spec (ws := ws) h _ (by rw [hw]; exact List.mem_cons_self))
    exact ⟨meth, c, h1, h2, h3, h4, h5, h6⟩
  · intro p e s m args below meth c s₁ B hml hP _
    have hh0 : s₁.heap = s.heap := by rw [B.state]; rfl
    have ht : ∀ x ∈ c.exceptionTable.toList, False := by
      obtain ⟨meth9, c9, h1, h2, -, -, -, -, h7, -⟩ := Cond.code_spec B.named (atoms_spec (ws := ws) B.pre _ (by rw [hw]; exact List.mem_cons_self))
      cases Option.some.inj (h1.symm.trans B.method)
      cases Option.some.inj (h2.symm.trans (Stand.of_body B).code)
      intro x hx
      rw [Array.isEmpty_iff.mp h7] at hx
      cases hx
    obtain ⟨t, a1, o, b1, b2, b3⟩ := body p e s m args below meth c s₁ B hml ht hP s₁ hh0 (Stand.of_body B)
    exact ⟨t, o, a1, b1, b2, b3⟩
/-- the table of a body with handlers -/
theorem vx_table {p : Program} {x y : MethodName} {S : Spec} {cc bytes : ByteArray} {maxL maxL' : Nat} {ret ret' : Option FieldType} {e : Env} {s s₁ : State} {m : MethodId} {args : Array Value} {below : List Frame} {meth : Method} {c : Code} {hh : List (Nat × Nat × Nat × Nat)}
    (B : BodyLoose p l y S cc maxL ret e s m args below meth c s₁) (h : (Cond.codeWith y bytes maxL' ret' hh).before args s = true) : c.exceptionTable.toList = tableOf hh := by
  obtain ⟨m9, meth9, c9, hn9, h1, h2, -, -, h6, -⟩ := Cond.codeWith_spec h
  cases Option.some.inj (hn9.symm.trans B.named)
  cases Option.some.inj (h1.symm.trans B.method)
  cases Option.some.inj (h2.symm.trans (Stand.of_body B).code)
  rw [← h6, table_eq]
end Bodies
end VXA
/-! ===== END ===== -/
/-! ===== BEGIN a static call of a method with an exception table ===== -/
section VXS
variable {p : Program} {l : Launch} {e : Env} {R : Room} {s : State} {m : MethodId} {args : Array Value} {below : List Frame} {meth : Method} {c : Code} {T : State} {H : Heap} {locs : List Loc} {cells slots : Nat}
abbrev vx_CSW (R : Room) (s : State) (args : Array Value) (own : String) (index : Nat) (y : MethodName) (bytes : ByteArray) (maxL : Nat) (ret : Option FieldType) (hh : List (Nat × Nat × Nat × Nat)) (ws : List Cond) (rm : Room) (mc ms n : Nat) : Prop :=
  (rm.cells = mc ∧ rm.slots = ms ∧ rm.frames + 1 ≤ R.frames ∧ 8 + (maxL + 11) + rm.locals ≤ R.locals ∧ (∀ w ∈ ws, ∀ (a' : Array Value) (U : State), s.WarmedH U.vm → w.before a' U = true) ∧ Cond.codeWith y bytes maxL ret hh ∈ ws) ∧
  (Cond.codeWith y bytes maxL ret hh).before args s = true ∧ (Cond.initialized y.cls).before args s = true ∧ (y.cls ≠ "java/lang/invoke/MethodHandle" ∧ y.cls ≠ "java/lang/invoke/VarHandle") ∧
  (∀ sig, parseMethodDescriptor y.desc = some sig → n = sig.parameters.length) ∧ (Cond.methodLink own index y).before args s = true ∧ (Cond.static y).before args s = true
theorem vx_cwSW {own : String} {index maxL mc ms : Nat} {y : MethodName} {bytes : ByteArray} {ret : Option FieldType} {hh : List (Nat × Nat × Nat × Nat)} {Ts ws ws' : List Cond} {rm : Room} (n : Nat) (ht : ∀ w ∈ Ts, w.before args s = true) (hT : GoodIn Ts (va_wsS own index y ws)) (hw : ws = Cond.codeWith y bytes maxL ret hh :: ws') (hrc : rm.cells = mc) (hrs : rm.slots = ms)
    (hd : y.cls ≠ "java/lang/invoke/MethodHandle" ∧ y.cls ≠ "java/lang/invoke/VarHandle" ∧ (parseMethodDescriptor y.desc).map (fun d => d.parameters.length) = some n) (hR : rm.frames + 1 ≤ R.frames ∧ 8 + (maxL + 11) + rm.locals ≤ R.locals) :
    vx_CSW R s args own index y bytes maxL ret hh ws rm mc ms n := by
  have ok : ∀ w ∈ va_wsS own index y ws, w.before args s = true := fun w h => ht w (hT w h).1
  have hG : GoodIn Ts ws := fun w h => hT w (by unfold va_wsS; exact List.mem_append_right _ h)
  have hc : Cond.codeWith y bytes maxL ret hh ∈ ws := by rw [hw]; exact List.mem_cons_self
  refine ⟨⟨hrc, hrs, hR.1, hR.2, pay_in ht hG, hc⟩, ht _ (hG _ hc).1, ok _ (by simp [va_wsS]), ⟨hd.1, hd.2.1⟩, fun sig h => ?_, ok _ (by simp [va_wsS]), ok _ (by simp [va_wsS])⟩
  have h2 := hd.2.2
  rw [h] at h2
  exact (Option.some.inj h2).symm
theorem vx_callSW (X : Stand p l e R s m args below meth c T locs cells slots) (hexec : p.tables.exec = Jvm.exec) {own : String} {index : Nat} {y : MethodName} {bytes : ByteArray} {maxL : Nat} {ret : Option FieldType} {hh : List (Nat × Nat × Nat × Nat)}
    (hown : s.vm.findClass own = some m.cls) (hlink : (Cond.methodLink own index y).before args s = true) (hstat : (Cond.static y).before args s = true) (hinit : (Cond.initialized y.cls).before args s = true)
    (hcode : (Cond.codeWith y bytes maxL ret hh).before args s = true) (hy : y.cls ≠ "java/lang/invoke/MethodHandle" ∧ y.cls ≠ "java/lang/invoke/VarHandle")
    {W9 : Nat} {Pre : Pt → Array Value → Prop} {Post : Pt → Array Value → Option Value → Pt → Prop} (hK : Back l R p e below s args y 3 W9 Pre Post)
    {g : JFrame} (hg : g.method = m) (hsize : g.locals.size = c.maxLocals) {argsL rest : List Value} (hlen : ∀ sig, parseMethodDescriptor y.desc = some sig → argsL.length = sig.parameters.length)
    (hstack : g.stack = argsL.reverse ++ rest) (hW : 2 * g.monitorRoom + (rest.map fun v => v.category).sum ≤ W9) (hdg : decode c.code g.pc = .ok (.invokestatic index, 3))
    (hpre : ∀ vm₁, s.WarmedH vm₁ → Pre ⟨T.setVm vm₁, locs, cells, slots⟩ argsL.toArray) :
    ∃ (v : Option Value) (vm₁ : Vm) (B : Pt), s.WarmedH vm₁ ∧ Stand p l e R s m args below meth c B.U B.locs B.cells B.slots ∧ Post ⟨T.setVm vm₁, locs, cells, slots⟩ argsL.toArray v B ∧
      ∀ target, Steps p.tables e below (B.U.setTop { g with pc := g.pc + 3, stack := v.toList ++ rest }) target → Steps p.tables e below (T.setTop g) target := by
  obtain ⟨mk, methM, cM, hnamed, hmethM, -, -, -, -, -, -, hsigM⟩ := Cond.codeWith_spec hcode
  have hstatic : methM.isStatic = true := Cond.static_spec hnamed hmethM hstat
  obtain ⟨kP, hkP, -⟩ := className_of_methodNamed hnamed
  have hinitP : kP.init = .initialized := Cond.initialized_spec (findClass_of_methodNamed hnamed) hkP hinit
  obtain ⟨vm₁, X₁, hstep₁⟩ := X.invokestatic hexec hown hlink hnamed hmethM hstatic hkP hinitP hy (g := g) hg (argsL := argsL) (rest := rest) (hlen _ hsigM) hstack hdg
  obtain ⟨v, B, X', hpost, hsteps⟩ := hK m meth c ⟨T.setVm vm₁, locs, cells, slots⟩ { g with stack := rest } (.invokestatic index) mk argsL.toArray X₁ hg hsize hdg hW (X₁.named hnamed) (hpre vm₁ X₁.warmed)
  exact ⟨v, vm₁, B, X₁.warmed, X', hpost, fun target h => hstep₁ _ fun acts => by rw [doInvoke_state]; exact hsteps.trans h⟩
theorem vx_runSW {y : MethodName} {bytes cc : ByteArray} {maxL nL mc ms n index : Nat} {ret : Option FieldType} {hh : List (Nat × Nat × Nat × Nat)} {ws : List Cond} {rm : Room} {Pc : Array Value → State → Prop} {Qc : Array Value → State → Outcome → State → Prop} {free : Addr → Prop} {Ts : List Cond} {own : String} {As rest : List Value} {g : JFrame}
    (S : CallFix p m c cc nL s args Ts own) (hM : Met l y ws rm Pc Qc mc ms free) (cw : vx_CSW R s args own index y bytes maxL ret hh ws rm mc ms n) (hp : PreS s H Pc As)
    (hg : g.method = m) (hn : As.length = n) (hsize : g.locals.size = nL) (hstack : g.stack = As.reverse ++ rest) (hW : 2 * g.monitorRoom + (rest.map fun v => v.category).sum ≤ 8) (hdg : decode cc g.pc = .ok (.invokestatic index, 3)) (hf : cells + mc ≤ R.cells ∧ slots + ms ≤ R.slots) :
    va_Run p l e R s m args below meth c H locs cells slots mc ms g rest (Qc As.toArray) (free) := by
  obtain ⟨⟨hrc, hrs, hfr, hlo, hws, hcw⟩, hcode, hini, hy, hlen, hl, hstt⟩ := cw
  have hK : Back l R p e below s args y 3 8 (PreOf R mc ms Pc) (PostOf Qc mc ms free) := va_backW (hh := hh) (bytes := bytes) (maxL := maxL) (ret := ret) hM hp.1 hrc hrs hfr hlo hws hcw (fun a' U hW => word_at hW (Or.inl (by first | rfl | simp [Cond.onTables, Cond.keeps, Cond.steady])) hini)
  obtain ⟨hx, hb, hml, ho, -⟩ := S
  intro T hT X
  obtain ⟨v, vm₁, ⟨U', l2, c2, s2⟩, hW₁, X', ⟨g', mk, t, L, e1, e2, hq, h1, hL, h2, h3⟩, st⟩ := vx_callSW X hx (hh := hh) (bytes := bytes) (maxL := maxL) (ret := ret) ho hl hstt hini hcode hy hK hg (hsize.trans hml.symm) (argsL := As) (rest := rest) (fun sig h => hn.trans (hlen sig h)) hstack hW (by rw [hb]; exact hdg)
    (fun vm₁ hW₁ => ⟨hf.1, hf.2, hp.2 (T.setVm vm₁) hT hW₁⟩)
  dsimp only [Pt.U, Pt.locs, Pt.cells, Pt.slots] at X' e1 e2 h1 h2 h3 st
  subst h1; subst h2; subst h3
  exact ⟨v, (T.setVm vm₁).calling g' mk As.toArray, t, U', L, hT, X', hL, e1, e2, hq, st⟩
/-- not caught here, past rows that name other classes: it goes on to the caller -/
theorem vx_outP {p : Program} {l : Launch} {e : Env} {R : Room} {s : State} {m : MethodId} {args : Array Value} {below : List Frame} {meth : Method} {c : Code} {H : Heap} {locs : List Loc} {cells slots : Nat} {free : Addr → Prop} {ls : Array Slot} {rest : List Value} {Qc : Array Value → State → Outcome → State → Prop} {XC : String → State → State → Prop}
    {pc : Nat} {own E : String} {ce : Cell} {q : Addr} {mc ms : Nat} (hown : s.vm.findClass own = some m.cls) (hlocks : meth.locks = false)
    (hpass : ∀ z ∈ c.exceptionTable.toList, covers z pc = false ∨ (z.catchType ≠ 0 ∧ ∃ nm : String, (Cond.classLink own z.catchType nm).before args s = true ∧ va_Nc E nm s)) (hcell : H[q]? = some ce) (hv : ce.vm = .none) (hcl : s.vm.findClass E = some ce.cls)
    (hx : ∀ t : State, t.heap = H → s.vm.Alike t.vm → XC E s t) (hf : ∀ z ∈ locs, free z.base) (hc : cells ≤ mc) (hs : slots ≤ ms) :
    vx_W p l e R s m args below meth c H locs cells slots (vx_MQ below Qc XC args s mc ms free) (F0 m pc ls rest) q := by
  intro T hT X
  have hpl : e.platform.magicAccessors = ({} : Platform).magicAccessors := by rw [X.admits.platform]
  obtain ⟨vm', hW', X', st⟩ := X.outThrough hlocks q (g := F0 m pc ls rest) rfl rfl rfl (cell := ce) (by rw [hT]; exact hcell) (by rw [hv]; rfl)
    (by obtain ⟨k9, h9, -⟩ := Vm.findClass_spec hcl; exact ⟨k9, h9⟩) (fun z hz => by
      rcases hpass z hz with h | ⟨hz0, nm, hl1, hn1⟩
      · exact Or.inl h
      · obtain ⟨c6, hc6, hcl6⟩ := Cond.classLink_spec hown hl1 e.platform hpl
        obtain ⟨a8, b8, h1, h2, h3⟩ := hn1
        cases Option.some.inj (h1.symm.trans hcl)
        cases Option.some.inj (h2.symm.trans hc6)
        exact Or.inr ⟨hz0, _, hcl6, h3⟩)
  obtain ⟨g₀, hfr⟩ := X'.frames_eq
  have hcell9 : ((T.setVm vm').setFrames (.throwing q :: below)).heap[q]? = some ce := by
    show T.heap[q]? = some ce
    rw [hT]; exact hcell
  have hend : Ended ((T.setVm vm').setFrames (.throwing q :: below)) below (.threw q) := State.frames_setFrames _ (State.cur_lt_of_frames hfr)
  refine ⟨(T.setVm vm').setFrames (.throwing q :: below), ?_, .threw q, X'.here.running, hend, Or.inr ⟨q, rfl, E, ce, locs, hx _ hT (X'.ends _).1.alike, hcell9, hv, hcl, (X'.ends _).1, (X'.ends _).2.mono hc hs, hf⟩⟩
  rw [X.pushThrowing_eq]
  exact st
/-- a thing of a world lies in the heap -/
theorem vx_lt {D : va_G} {cl : List vw_C} {ws : va_W} {H1 : Heap} (h : va_P D cl ws H1) {k : Nat} {q : Nat × va_E} (hk : ws[k]? = some q) : q.1 < H1.size := (h k q hk).lt
end VXS
/-! ===== END ===== -/
/-! ===== BEGIN methods with a table of their own: called by a name, returning or throwing ===== -/
section VXH
/-! vx_backW, vx_callVX, vx_callSX, vx_callVW, vx_runVW, vx_runVX, vx_runSX, vx_ofWH follow the same proofs as their sisters above (Free/Laws.lean, Shelf42/LK1.lean); vx_outP calls Shelf42/NT130.lean (outThrough). -/
section
variable {l : Launch} {R : Room} {p : Program} {e : Env} {below : List Frame} {s : State} {sargs : Array Value} {y : MethodName} {len W9 : Nat}
theorem vx_backW {ws : List Cond} {rm : Room} {Pc : Array Value → State → Prop} {Qc : Array Value → State → Outcome → State → Prop} {XC : String → State → State → Prop} {mc ms : Nat} {free : Addr → Prop} {bytes : ByteArray} {maxL : Nat} {ret : Option FieldType} {hh : List (Nat × Nat × Nat × Nat)}
    (hM : vx_Met l y ws rm Pc Qc XC mc ms free) (hblind : FrameBlind Pc) (hrc : rm.cells = mc) (hrs : rm.slots = ms)
    (hframes : rm.frames + 1 ≤ R.frames) (hlocals : W9 + (maxL + 11) + rm.locals ≤ R.locals)
    (hws : ∀ w ∈ ws, ∀ a' U, s.WarmedH U.vm → w.before a' U = true) (hcode : Cond.codeWith y bytes maxL ret hh ∈ ws) (hinit : ∀ a' U, s.WarmedH U.vm → (Cond.initialized y.cls).before a' U = true) :
    vx_Back l R p e below s sargs y len W9 (PreOf R mc ms Pc) (PostOf Qc mc ms free) (vx_Post XC mc ms free) := by
  intro m meth c A g ig mk a X hg hsize hdg hW hn hp
  have h1 : (headSpec ws rm).pre.before a A.U = true := atoms_intro fun w hw => hws w hw _ _ X.warmed
  have h2 : (Cond.codeWith y bytes maxL ret hh).before a A.U = true := hws _ hcode _ _ X.warmed
  have h3 : (Cond.initialized y.cls).before a A.U = true := hinit _ _ X.warmed
  have h4 : A.cells + (headSpec ws rm).room.cells ≤ R.cells := by rw [show (headSpec ws rm).room.cells = mc from hrc]; exact hp.1
  have h5 : A.slots + (headSpec ws rm).room.slots ≤ R.slots := by rw [show (headSpec ws rm).room.slots = ms from hrs]; exact hp.2.1
  have hPc : Pc a (A.U.calling g mk a) := hblind _ _ _ _ hp.2.2
  obtain ⟨U, Ls, c0, s0⟩ := A
  dsimp only [Pt.U, Pt.locs, Pt.cells, Pt.slots] at h1 h2 h3 h4 h5 X hn hPc ⊢
  obtain ⟨m9, methY, cY, hn9, hmY, hcY, -, hlY, -⟩ := Cond.codeWith_spec h2
  cases Option.some.inj (hn9.symm.trans hn)
  obtain ⟨kY, hkY, -⟩ := className_of_methodNamed hn
  have hinitY : kY.init = .initialized := Cond.initialized_spec (findClass_of_methodNamed hn) hkY h3
  have h : At U g.method c below := by rw [hg]; exact X.here
  have hlocals9 : W9 + (maxL + 11) + (headSpec ws rm).room.locals ≤ R.locals := hlocals
  have happ : (headSpec ws rm).appliesLoose y e.platform (U.calling g mk a) = true :=
    Spec.appliesLoose_calling (g := g) h hdg hn hkY hinitY
      (X.room_calling (g := g) (R' := (headSpec ws rm).room) hsize hmY hcY hframes (by rw [hlY]; omega) h4 h5) h1
  obtain ⟨mid, hmid⟩ := h.above
  have hfr : (U.setTop g).frames = (.java g :: mid) ++ below := by rw [State.frames_setTop' g h.top, hmid]; rfl
  obtain ⟨o, s₂, hsteps, -, hend, hq⟩ := Steps.callFree hM p X.admits X.cas X.clock (acts := []) hfr happ hPc trivial
  have hq' : vx_Q Qc XC mc ms free a (U.calling g mk a) o s₂ := hq
  rw [State.frames_setTop' g h.top] at hend
  obtain ⟨g₀, hg0⟩ := Option.isSome_iff_exists.mp h.top
  obtain ⟨r, hr⟩ := State.topJava?_eq_some.mp hg0
  have hr' : (({ U with heap := s₂.heap, slotsUsed := s₂.slotsUsed } : State).setVm s₂.vm).frames = .java g₀ :: r := hr
  rcases hq' with ⟨hqc, L, hfe, hL⟩ | ⟨q, rfl, E, ce, L, hx, hce, hcv, hcl, hW₂, hsm, hL⟩
  · obtain ⟨⟨v, rfl⟩, hW₂, e2, q2, q3, q4, q5, q6⟩ := id hfe
    have e3 : s₂ = ({ (U.calling g mk a).setFrames s₂.frames with heap := s₂.heap, slotsUsed := s₂.slotsUsed } : State).setVm s₂.vm := by
      have : s₂ = ({ s₂ with vm := (U.calling g mk a).vm } : State).setVm s₂.vm := rfl
      rw [e2] at this
      exact this
    obtain ⟨c₂, i₂, len₂, hc₂, hd₂, hf₂⟩ := hend
    have hW' : U.WarmedH s₂.vm := hW₂
    have hcc : c₂ = c := by
      have h1 : s₂.code? g.method = U.code? g.method := by
        rw [State.code?_eq, State.code?_eq, hW'.alike.method?]
      exact Option.some.inj (hc₂.symm.trans (h1.trans h.code))
    subst hcc
    have hlen : len₂ = len := by rw [hdg] at hd₂; cases hd₂; rfl
    subst hlen
    have hs₂ : s₂ = (({ U with heap := s₂.heap, slotsUsed := s₂.slotsUsed } : State).setVm s₂.vm).setTop { g with pc := g.pc + len₂, stack := v.toList ++ g.stack } := by
      refine e3.trans ?_
      rw [hf₂, State.calling_eq h.top, State.setFrames_setFrames, State.setTop_of_frames _ hr', hr]
      rfl
    have hsame : U.sameButNew ({ U with heap := s₂.heap, slotsUsed := s₂.slotsUsed } : State) L mc ms := by
      refine ⟨?_, q2, q3, q4, q5, q6⟩
      obtain ⟨t, ht, -⟩ := State.frames_cons hr
      show ({ U with heap := s₂.heap, slotsUsed := s₂.slotsUsed } : State) = { U.setFrames U.frames with heap := s₂.heap, slotsUsed := s₂.slotsUsed }
      rw [State.setFrames_self ht]
    subst hg
    refine Or.inl ⟨v, ⟨(({ U with heap := s₂.heap, slotsUsed := s₂.slotsUsed } : State).setVm s₂.vm), Ls ++ L, c0 + mc, s0 + ms⟩,
      ⟨X.admits, X.cas, X.clock, X.frames, X.room, X.hears, X.method, X.code, (X.here.setHeapUsed s₂.heap s₂.slotsUsed).setVm hW'.alike, X.tail, State.WarmedH.trans X.warmed hW', X.limits, X.bytes, X.same.trans (hsame.setVm s.vm)⟩,
      ⟨g, mk, s₂, L, rfl, rfl, hqc, rfl, hL, rfl, rfl⟩, ?_⟩
    show Steps p.tables e below _ ((({ U with heap := s₂.heap, slotsUsed := s₂.slotsUsed } : State).setVm s₂.vm).setTop { g with pc := g.pc + len₂, stack := v.toList ++ g.stack })
    rw [← hs₂]
    exact hsteps
  · obtain ⟨e2, q2, q3, q4, q5, q6⟩ := id hsm
    have e3 : s₂ = ({ (U.calling g mk a).setFrames s₂.frames with heap := s₂.heap, slotsUsed := s₂.slotsUsed } : State).setVm s₂.vm := by
      have : s₂ = ({ s₂ with vm := (U.calling g mk a).vm } : State).setVm s₂.vm := rfl
      rw [e2] at this
      exact this
    have hf₂ : s₂.frames = .throwing q :: .java g :: U.frames.tail := hend
    have hW' : U.WarmedH s₂.vm := hW₂
    have hs₂ : s₂ = ((({ U with heap := s₂.heap, slotsUsed := s₂.slotsUsed } : State).setVm s₂.vm).setTop g).pushFrame (.throwing q) := by
      refine e3.trans ?_
      rw [hf₂, State.calling_eq h.top, State.setFrames_setFrames, State.pushFrame, State.frames_setTop _ hr', State.setTop_of_frames _ hr', State.setFrames_setFrames, hr]
      rfl
    have hsame : U.sameButNew ({ U with heap := s₂.heap, slotsUsed := s₂.slotsUsed } : State) L mc ms := by
      refine ⟨?_, q2, q3, q4, q5, q6⟩
      obtain ⟨t, ht, -⟩ := State.frames_cons hr
      show ({ U with heap := s₂.heap, slotsUsed := s₂.slotsUsed } : State) = { U.setFrames U.frames with heap := s₂.heap, slotsUsed := s₂.slotsUsed }
      rw [State.setFrames_self ht]
    subst hg
    refine Or.inr ⟨q, ⟨(({ U with heap := s₂.heap, slotsUsed := s₂.slotsUsed } : State).setVm s₂.vm), Ls ++ L, c0 + mc, s0 + ms⟩,
      ⟨X.admits, X.cas, X.clock, X.frames, X.room, X.hears, X.method, X.code, (X.here.setHeapUsed s₂.heap s₂.slotsUsed).setVm hW'.alike, X.tail, State.WarmedH.trans X.warmed hW', X.limits, X.bytes, X.same.trans (hsame.setVm s.vm)⟩,
      ⟨g, mk, s₂, L, E, ce, rfl, rfl, hx, hce, hcv, hcl, rfl, hL, rfl, rfl⟩, ?_⟩
    show Steps p.tables e below _ (((({ U with heap := s₂.heap, slotsUsed := s₂.slotsUsed } : State).setVm s₂.vm).setTop g).pushFrame (.throwing q))
    rw [← hs₂]
    exact hsteps
end
variable {p : Program} {l : Launch} {e : Env} {R : Room} {s : State} {m : MethodId} {args : Array Value} {below : List Frame} {meth : Method} {c : Code} {T : State} {H : Heap} {locs : List Loc} {cells slots : Nat}
theorem vx_callVX (X : Stand p l e R s m args below meth c T locs cells slots) (hexec : p.tables.exec = Jvm.exec) {own C : String} {index : Nat} {y : MethodName} {bytes : ByteArray} {maxL : Nat} {ret : Option FieldType} {hh : List (Nat × Nat × Nat × Nat)}
    (hown : s.vm.findClass own = some m.cls) (hlink : (Cond.methodLink own index y).before args s = true) (hinst : (Cond.instanceMethod y).before args s = true) (hsel : (Cond.selects C y y).before args s = true)
    (hcode : (Cond.codeWith y bytes maxL ret hh).before args s = true) (hy : y.cls ≠ "java/lang/invoke/MethodHandle" ∧ y.cls ≠ "java/lang/invoke/VarHandle")
    {W9 : Nat} {Pre : Pt → Array Value → Prop} {Post : Pt → Array Value → Option Value → Pt → Prop} {PostX : Pt → Array Value → Addr → Pt → Prop} (hK : vx_Back l R p e below s args y 3 W9 Pre Post PostX)
    {b : Addr} {cellB : Cell} (hcell : T.heap[b]? = some cellB) (hobj : cellB.vm.isStatics = false) (hcls : s.vm.findClass C = some cellB.cls)
    {g : JFrame} (hg : g.method = m) (hsize : g.locals.size = c.maxLocals) {argsL rest : List Value} (hlen : ∀ sig, parseMethodDescriptor y.desc = some sig → argsL.length = sig.parameters.length)
    (hstack : g.stack = argsL.reverse ++ .ref b :: rest) (hW : 2 * g.monitorRoom + (rest.map fun v => v.category).sum ≤ W9) (hdg : decode c.code g.pc = .ok (.invokevirtual index, 3))
    (hpre : ∀ vm₁, s.WarmedH vm₁ → Pre ⟨T.setVm vm₁, locs, cells, slots⟩ (Value.ref b :: argsL).toArray) :
    (∃ (v : Option Value) (vm₁ : Vm) (B : Pt), s.WarmedH vm₁ ∧ Stand p l e R s m args below meth c B.U B.locs B.cells B.slots ∧ Post ⟨T.setVm vm₁, locs, cells, slots⟩ (Value.ref b :: argsL).toArray v B ∧
      ∀ target, Steps p.tables e below (B.U.setTop { g with pc := g.pc + 3, stack := v.toList ++ rest }) target → Steps p.tables e below (T.setTop g) target) ∨
    (∃ (q : Addr) (vm₁ : Vm) (B : Pt), s.WarmedH vm₁ ∧ Stand p l e R s m args below meth c B.U B.locs B.cells B.slots ∧ PostX ⟨T.setVm vm₁, locs, cells, slots⟩ (Value.ref b :: argsL).toArray q B ∧
      Steps p.tables e below (T.setTop g) ((B.U.setTop { g with stack := rest }).pushFrame (.throwing q))) := by
  obtain ⟨mk, methM, hnamed, hmethM, hstM, habM⟩ := Cond.instanceMethod_spec hinst
  obtain ⟨m8, methM', cM, hn8, hmethM', -, -, -, -, -, -, hsigM⟩ := Cond.codeWith_spec hcode
  cases Option.some.inj (hn8.symm.trans hnamed)
  cases hmethM.symm.trans hmethM'
  obtain ⟨c2, r2, m2, q1, q2, q3, q4, kP, hkP, hkPi⟩ := Cond.selects_spec hsel
  cases hcls.symm.trans q1
  cases (State.methodFound?_of_named hnamed hy).symm.trans q2
  cases hnamed.symm.trans q3
  have hselP : selectMethod e.platform s.vm cellB.cls mk = .method mk := by rw [Launch.admits_selectMethod X.admits]; exact q4
  obtain ⟨vm₁, X₁, hstep₁⟩ := X.invokevirtual hexec hown hlink hnamed hmethM hstM hkP hkPi hy (a := b) (cell := cellB) hcell
    (fun z h => by rw [h] at hobj; cases hobj) hselP hmethM habM hkP hkPi (g := g) hg (argsL := argsL) (rest := rest) (hlen _ hsigM) hstack hdg
  rcases hK m meth c ⟨T.setVm vm₁, locs, cells, slots⟩ { g with stack := rest } (.invokevirtual index) mk (Value.ref b :: argsL).toArray X₁ hg hsize hdg hW (X₁.named hnamed) (hpre vm₁ X₁.warmed) with ⟨v, B, X', hpost, hsteps⟩ | ⟨q, B, X', hpost, hsteps⟩
  · exact Or.inl ⟨v, vm₁, B, X₁.warmed, X', hpost, fun target h => hstep₁ _ fun acts => by rw [doInvoke_state]; exact hsteps.trans h⟩
  · exact Or.inr ⟨q, vm₁, B, X₁.warmed, X', hpost, hstep₁ _ fun acts => by rw [doInvoke_state]; exact hsteps⟩
theorem vx_callSX (X : Stand p l e R s m args below meth c T locs cells slots) (hexec : p.tables.exec = Jvm.exec) {own : String} {index : Nat} {y : MethodName} {bytes : ByteArray} {maxL : Nat} {ret : Option FieldType} {hh : List (Nat × Nat × Nat × Nat)}
    (hown : s.vm.findClass own = some m.cls) (hlink : (Cond.methodLink own index y).before args s = true) (hstat : (Cond.static y).before args s = true) (hinit : (Cond.initialized y.cls).before args s = true)
    (hcode : (Cond.codeWith y bytes maxL ret hh).before args s = true) (hy : y.cls ≠ "java/lang/invoke/MethodHandle" ∧ y.cls ≠ "java/lang/invoke/VarHandle")
    {W9 : Nat} {Pre : Pt → Array Value → Prop} {Post : Pt → Array Value → Option Value → Pt → Prop} {PostX : Pt → Array Value → Addr → Pt → Prop} (hK : vx_Back l R p e below s args y 3 W9 Pre Post PostX)
    {g : JFrame} (hg : g.method = m) (hsize : g.locals.size = c.maxLocals) {argsL rest : List Value} (hlen : ∀ sig, parseMethodDescriptor y.desc = some sig → argsL.length = sig.parameters.length)
    (hstack : g.stack = argsL.reverse ++ rest) (hW : 2 * g.monitorRoom + (rest.map fun v => v.category).sum ≤ W9) (hdg : decode c.code g.pc = .ok (.invokestatic index, 3))
    (hpre : ∀ vm₁, s.WarmedH vm₁ → Pre ⟨T.setVm vm₁, locs, cells, slots⟩ argsL.toArray) :
    (∃ (v : Option Value) (vm₁ : Vm) (B : Pt), s.WarmedH vm₁ ∧ Stand p l e R s m args below meth c B.U B.locs B.cells B.slots ∧ Post ⟨T.setVm vm₁, locs, cells, slots⟩ argsL.toArray v B ∧
      ∀ target, Steps p.tables e below (B.U.setTop { g with pc := g.pc + 3, stack := v.toList ++ rest }) target → Steps p.tables e below (T.setTop g) target) ∨
    (∃ (q : Addr) (vm₁ : Vm) (B : Pt), s.WarmedH vm₁ ∧ Stand p l e R s m args below meth c B.U B.locs B.cells B.slots ∧ PostX ⟨T.setVm vm₁, locs, cells, slots⟩ argsL.toArray q B ∧
      Steps p.tables e below (T.setTop g) ((B.U.setTop { g with stack := rest }).pushFrame (.throwing q))) := by
  obtain ⟨mk, methM, cM, hnamed, hmethM, -, -, -, -, -, -, hsigM⟩ := Cond.codeWith_spec hcode
  have hstatic : methM.isStatic = true := Cond.static_spec hnamed hmethM hstat
  obtain ⟨kP, hkP, -⟩ := className_of_methodNamed hnamed
  have hinitP : kP.init = .initialized := Cond.initialized_spec (findClass_of_methodNamed hnamed) hkP hinit
  obtain ⟨vm₁, X₁, hstep₁⟩ := X.invokestatic hexec hown hlink hnamed hmethM hstatic hkP hinitP hy (g := g) hg (argsL := argsL) (rest := rest) (hlen _ hsigM) hstack hdg
  rcases hK m meth c ⟨T.setVm vm₁, locs, cells, slots⟩ { g with stack := rest } (.invokestatic index) mk argsL.toArray X₁ hg hsize hdg hW (X₁.named hnamed) (hpre vm₁ X₁.warmed) with ⟨v, B, X', hpost, hsteps⟩ | ⟨q, B, X', hpost, hsteps⟩
  · exact Or.inl ⟨v, vm₁, B, X₁.warmed, X', hpost, fun target h => hstep₁ _ fun acts => by rw [doInvoke_state]; exact hsteps.trans h⟩
  · exact Or.inr ⟨q, vm₁, B, X₁.warmed, X', hpost, hstep₁ _ fun acts => by rw [doInvoke_state]; exact hsteps⟩
theorem vx_callVW (X : Stand p l e R s m args below meth c T locs cells slots) (hexec : p.tables.exec = Jvm.exec) {own C : String} {index : Nat} {y : MethodName} {bytes : ByteArray} {maxL : Nat} {ret : Option FieldType} {hh : List (Nat × Nat × Nat × Nat)}
    (hown : s.vm.findClass own = some m.cls) (hlink : (Cond.methodLink own index y).before args s = true) (hinst : (Cond.instanceMethod y).before args s = true) (hsel : (Cond.selects C y y).before args s = true)
    (hcode : (Cond.codeWith y bytes maxL ret hh).before args s = true) (hy : y.cls ≠ "java/lang/invoke/MethodHandle" ∧ y.cls ≠ "java/lang/invoke/VarHandle")
    {W9 : Nat} {Pre : Pt → Array Value → Prop} {Post : Pt → Array Value → Option Value → Pt → Prop} (hK : Back l R p e below s args y 3 W9 Pre Post)
    {b : Addr} {cellB : Cell} (hcell : T.heap[b]? = some cellB) (hobj : cellB.vm.isStatics = false) (hcls : s.vm.findClass C = some cellB.cls)
    {g : JFrame} (hg : g.method = m) (hsize : g.locals.size = c.maxLocals) {argsL rest : List Value} (hlen : ∀ sig, parseMethodDescriptor y.desc = some sig → argsL.length = sig.parameters.length)
    (hstack : g.stack = argsL.reverse ++ .ref b :: rest) (hW : 2 * g.monitorRoom + (rest.map fun v => v.category).sum ≤ W9) (hdg : decode c.code g.pc = .ok (.invokevirtual index, 3))
    (hpre : ∀ vm₁, s.WarmedH vm₁ → Pre ⟨T.setVm vm₁, locs, cells, slots⟩ (Value.ref b :: argsL).toArray) :
    ∃ (v : Option Value) (vm₁ : Vm) (B : Pt), s.WarmedH vm₁ ∧ Stand p l e R s m args below meth c B.U B.locs B.cells B.slots ∧ Post ⟨T.setVm vm₁, locs, cells, slots⟩ (Value.ref b :: argsL).toArray v B ∧
      ∀ target, Steps p.tables e below (B.U.setTop { g with pc := g.pc + 3, stack := v.toList ++ rest }) target → Steps p.tables e below (T.setTop g) target := by
  obtain ⟨mk, methM, hnamed, hmethM, hstM, habM⟩ := Cond.instanceMethod_spec hinst
  obtain ⟨m8, methM', cM, hn8, hmethM', -, -, -, -, -, -, hsigM⟩ := Cond.codeWith_spec hcode
  cases Option.some.inj (hn8.symm.trans hnamed)
  cases hmethM.symm.trans hmethM'
  obtain ⟨c2, r2, m2, q1, q2, q3, q4, kP, hkP, hkPi⟩ := Cond.selects_spec hsel
  cases hcls.symm.trans q1
  cases (State.methodFound?_of_named hnamed hy).symm.trans q2
  cases hnamed.symm.trans q3
  have hselP : selectMethod e.platform s.vm cellB.cls mk = .method mk := by rw [Launch.admits_selectMethod X.admits]; exact q4
  obtain ⟨vm₁, X₁, hstep₁⟩ := X.invokevirtual hexec hown hlink hnamed hmethM hstM hkP hkPi hy (a := b) (cell := cellB) hcell
    (fun z h => by rw [h] at hobj; cases hobj) hselP hmethM habM hkP hkPi (g := g) hg (argsL := argsL) (rest := rest) (hlen _ hsigM) hstack hdg
  obtain ⟨v, B, X', hpost, hsteps⟩ := hK m meth c ⟨T.setVm vm₁, locs, cells, slots⟩ { g with stack := rest } (.invokevirtual index) mk (Value.ref b :: argsL).toArray X₁ hg hsize hdg hW (X₁.named hnamed) (hpre vm₁ X₁.warmed)
  exact ⟨v, vm₁, B, X₁.warmed, X', hpost, fun target h => hstep₁ _ fun acts => by rw [doInvoke_state]; exact hsteps.trans h⟩
abbrev vx_CVW (R : Room) (s : State) (args : Array Value) (own C : String) (index : Nat) (y : MethodName) (bytes : ByteArray) (maxL : Nat) (ret : Option FieldType) (hh : List (Nat × Nat × Nat × Nat)) (ws : List Cond) (rm : Room) (mc ms n : Nat) : Prop :=
  (rm.cells = mc ∧ rm.slots = ms ∧ rm.frames + 1 ≤ R.frames ∧ 8 + (maxL + 11) + rm.locals ≤ R.locals ∧ (∀ w ∈ ws, ∀ (a' : Array Value) (U : State), s.WarmedH U.vm → w.before a' U = true) ∧ Cond.codeWith y bytes maxL ret hh ∈ ws) ∧
  (Cond.codeWith y bytes maxL ret hh).before args s = true ∧ (Cond.initialized y.cls).before args s = true ∧ (y.cls ≠ "java/lang/invoke/MethodHandle" ∧ y.cls ≠ "java/lang/invoke/VarHandle") ∧
  (∀ sig, parseMethodDescriptor y.desc = some sig → n = sig.parameters.length) ∧ (Cond.methodLink own index y).before args s = true ∧ (Cond.instanceMethod y).before args s = true ∧ (Cond.selects C y y).before args s = true
theorem vx_cwVW {own C : String} {index maxL mc ms : Nat} {y : MethodName} {bytes : ByteArray} {ret : Option FieldType} {hh : List (Nat × Nat × Nat × Nat)} {Ts ws ws' : List Cond} {rm : Room} (n : Nat) (ht : ∀ w ∈ Ts, w.before args s = true) (hT : GoodIn Ts (wsV own index C y ws)) (hw : ws = Cond.codeWith y bytes maxL ret hh :: ws') (hrc : rm.cells = mc) (hrs : rm.slots = ms)
    (hd : y.cls = C ∧ y.cls ≠ "java/lang/invoke/MethodHandle" ∧ y.cls ≠ "java/lang/invoke/VarHandle" ∧ (parseMethodDescriptor y.desc).map (fun d => d.parameters.length) = some n) (hR : rm.frames + 1 ≤ R.frames ∧ 8 + (maxL + 11) + rm.locals ≤ R.locals) :
    vx_CVW R s args own C index y bytes maxL ret hh ws rm mc ms n := by
  obtain ⟨hC, hd⟩ := hd
  subst hC
  have ok : ∀ w ∈ wsV own index y.cls y ws, w.before args s = true := fun w h => ht w (hT w h).1
  have hG : GoodIn Ts ws := fun w h => hT w (by unfold wsV; exact List.mem_append_right _ h)
  have hc : Cond.codeWith y bytes maxL ret hh ∈ ws := by rw [hw]; exact List.mem_cons_self
  refine ⟨⟨hrc, hrs, hR.1, hR.2, pay_in ht hG, hc⟩, ht _ (hG _ hc).1, ok _ (by simp [wsV]), ⟨hd.1, hd.2.1⟩, fun sig h => ?_, ok _ (by simp [wsV]), ok _ (by simp [wsV]), ok _ (by simp [wsV])⟩
  have h2 := hd.2.2
  rw [h] at h2
  exact (Option.some.inj h2).symm
theorem vx_runVW {y : MethodName} {bytes cc : ByteArray} {maxL nL mc ms n index : Nat} {ret : Option FieldType} {hh : List (Nat × Nat × Nat × Nat)} {ws : List Cond} {rm : Room} {Pc : Array Value → State → Prop} {Qc : Array Value → State → Outcome → State → Prop} {free : Addr → Prop} {Ts : List Cond} {own C : String} {b : Addr} {As rest : List Value} {g : JFrame}
    (S : CallFix p m c cc nL s args Ts own) (hM : Met l y ws rm Pc Qc mc ms free) (cw : vx_CVW R s args own C index y bytes maxL ret hh ws rm mc ms n) (hp : PreV s H C b Pc As)
    (hg : g.method = m) (hn : As.length = n) (hsize : g.locals.size = nL) (hstack : g.stack = As.reverse ++ .ref b :: rest) (hW : 2 * g.monitorRoom + (rest.map fun v => v.category).sum ≤ 8) (hdg : decode cc g.pc = .ok (.invokevirtual index, 3)) (hf : cells + mc ≤ R.cells ∧ slots + ms ≤ R.slots) :
    va_Run p l e R s m args below meth c H locs cells slots mc ms g rest (Qc (Value.ref b :: As).toArray) free := by
  obtain ⟨⟨hrc, hrs, hfr, hlo, hws, hcw⟩, hcode, hini, hy, hlen, hl, hin, hse⟩ := cw
  have hK : Back l R p e below s args y 3 8 (PreOf R mc ms Pc) (PostOf Qc mc ms free) := va_backW (hh := hh) (bytes := bytes) (maxL := maxL) (ret := ret) hM hp.1 hrc hrs hfr hlo hws hcw (fun a' U hW => word_at hW (Or.inl (by first | rfl | simp [Cond.onTables, Cond.keeps, Cond.steady])) hini)
  obtain ⟨hx, hb, hml, ho, -⟩ := S
  obtain ⟨-, ⟨cellB, hcB, hoB, hclB⟩, hPc⟩ := hp
  intro T hT X
  obtain ⟨v, vm₁, ⟨U', l2, c2, s2⟩, hW₁, X', ⟨g', mk, t, L, e1, e2, hq, h1, hL, h2, h3⟩, st⟩ := vx_callVW X hx (C := C) (hh := hh) (bytes := bytes) (maxL := maxL) (ret := ret) ho hl hin hse hcode hy hK (by rw [hT]; exact hcB) hoB hclB hg (hsize.trans hml.symm) (argsL := As) (rest := rest) (fun sig h => hn.trans (hlen sig h)) hstack hW (by rw [hb]; exact hdg)
    (fun vm₁ hW₁ => ⟨hf.1, hf.2, hPc (T.setVm vm₁) hT hW₁⟩)
  dsimp only [Pt.U, Pt.locs, Pt.cells, Pt.slots] at X' e1 e2 h1 h2 h3 st
  subst h1; subst h2; subst h3
  exact ⟨v, (T.setVm vm₁).calling g' mk (Value.ref b :: As).toArray, t, U', L, hT, X', hL, e1, e2, hq, st⟩
section
variable {y : MethodName} {bytes cc : ByteArray} {maxL nL mc ms n index : Nat} {ret : Option FieldType} {ws : List Cond} {rm : Room} {Pc : Array Value → State → Prop} {Qc : Array Value → State → Outcome → State → Prop} {XC : String → State → State → Prop} {free : Addr → Prop} {Ts : List Cond} {own C : String} {b : Addr} {As rest : List Value} {g : JFrame}
theorem vx_runVX {hh : List (Nat × Nat × Nat × Nat)} (S : CallFix p m c cc nL s args Ts own) (hM : vx_Met l y ws rm Pc Qc XC mc ms free) (cw : vx_CVW R s args own C index y bytes maxL ret hh ws rm mc ms n) (hp : PreV s H C b Pc As)
    (hg : g.method = m) (hn : As.length = n) (hsize : g.locals.size = nL) (hstack : g.stack = As.reverse ++ .ref b :: rest) (hW : 2 * g.monitorRoom + (rest.map fun v => v.category).sum ≤ 8) (hdg : decode cc g.pc = .ok (.invokevirtual index, 3)) (hf : cells + mc ≤ R.cells ∧ slots + ms ≤ R.slots) :
    vx_Run p l e R s m args below meth c H locs cells slots mc ms g rest (Qc (Value.ref b :: As).toArray) XC free := by
  obtain ⟨⟨hrc, hrs, hfr, hlo, hws, hcw⟩, hcode, hini, hy, hlen, hl, hin, hse⟩ := cw
  have hK : vx_Back l R p e below s args y 3 8 (PreOf R mc ms Pc) (PostOf Qc mc ms free) (vx_Post XC mc ms free) := vx_backW (hh := hh) (bytes := bytes) (maxL := maxL) (ret := ret) hM hp.1 hrc hrs hfr hlo hws hcw (fun a' U hW => word_at hW (Or.inl (by first | rfl | simp [Cond.onTables, Cond.keeps, Cond.steady])) hini)
  obtain ⟨hx, hb, hml, ho, -⟩ := S
  obtain ⟨-, ⟨cellB, hcB, hoB, hclB⟩, hPc⟩ := hp
  intro T hT X
  rcases vx_callVX X hx (C := C) (hh := hh) (bytes := bytes) (maxL := maxL) (ret := ret) ho hl hin hse hcode hy hK (by rw [hT]; exact hcB) hoB hclB hg (hsize.trans hml.symm) (argsL := As) (rest := rest) (fun sig h => hn.trans (hlen sig h)) hstack hW (by rw [hb]; exact hdg)
    (fun vm₁ hW₁ => ⟨hf.1, hf.2, hPc (T.setVm vm₁) hT hW₁⟩) with ⟨v, vm₁, ⟨U', l2, c2, s2⟩, hW₁, X', ⟨g', mk, t, L, e1, e2, hq, h1, hL, h2, h3⟩, st⟩ | ⟨q, vm₁, ⟨U', l2, c2, s2⟩, hW₁, X', ⟨g', mk, t, L, E, ce, e1, e2, hq, hce, hcv, hcl, h1, hL, h2, h3⟩, st⟩
  · dsimp only [Pt.U, Pt.locs, Pt.cells, Pt.slots] at X' e1 e2 h1 h2 h3 st
    subst h1; subst h2; subst h3
    exact Or.inl ⟨v, (T.setVm vm₁).calling g' mk (Value.ref b :: As).toArray, t, U', L, hT, X', hL, e1, e2, hq, st⟩
  · dsimp only [Pt.U, Pt.locs, Pt.cells, Pt.slots] at X' e1 e2 h1 h2 h3 st hcl
    subst h1; subst h2; subst h3
    exact Or.inr ⟨q, (T.setVm vm₁).calling g' mk (Value.ref b :: As).toArray, t, U', L, E, ce, hT, X', hL, e1, e2, hq, hce, hcv, vx_cls hW₁ hcl, st⟩
theorem vx_runSX {hh : List (Nat × Nat × Nat × Nat)} (S : CallFix p m c cc nL s args Ts own) (hM : vx_Met l y ws rm Pc Qc XC mc ms free) (cw : vx_CSW R s args own index y bytes maxL ret hh ws rm mc ms n) (hp : PreS s H Pc As)
    (hg : g.method = m) (hn : As.length = n) (hsize : g.locals.size = nL) (hstack : g.stack = As.reverse ++ rest) (hW : 2 * g.monitorRoom + (rest.map fun v => v.category).sum ≤ 8) (hdg : decode cc g.pc = .ok (.invokestatic index, 3)) (hf : cells + mc ≤ R.cells ∧ slots + ms ≤ R.slots) :
    vx_Run p l e R s m args below meth c H locs cells slots mc ms g rest (Qc As.toArray) XC free := by
  obtain ⟨⟨hrc, hrs, hfr, hlo, hws, hcw⟩, hcode, hini, hy, hlen, hl, hstt⟩ := cw
  have hK : vx_Back l R p e below s args y 3 8 (PreOf R mc ms Pc) (PostOf Qc mc ms free) (vx_Post XC mc ms free) := vx_backW (hh := hh) (bytes := bytes) (maxL := maxL) (ret := ret) hM hp.1 hrc hrs hfr hlo hws hcw (fun a' U hW => word_at hW (Or.inl (by first | rfl | simp [Cond.onTables, Cond.keeps, Cond.steady])) hini)
  obtain ⟨hx, hb, hml, ho, -⟩ := S
  intro T hT X
  rcases vx_callSX X hx (hh := hh) (bytes := bytes) (maxL := maxL) (ret := ret) ho hl hstt hini hcode hy hK hg (hsize.trans hml.symm) (argsL := As) (rest := rest) (fun sig h => hn.trans (hlen sig h)) hstack hW (by rw [hb]; exact hdg)
    (fun vm₁ hW₁ => ⟨hf.1, hf.2, hp.2 (T.setVm vm₁) hT hW₁⟩) with ⟨v, vm₁, ⟨U', l2, c2, s2⟩, hW₁, X', ⟨g', mk, t, L, e1, e2, hq, h1, hL, h2, h3⟩, st⟩ | ⟨q, vm₁, ⟨U', l2, c2, s2⟩, hW₁, X', ⟨g', mk, t, L, E, ce, e1, e2, hq, hce, hcv, hcl, h1, hL, h2, h3⟩, st⟩
  · dsimp only [Pt.U, Pt.locs, Pt.cells, Pt.slots] at X' e1 e2 h1 h2 h3 st
    subst h1; subst h2; subst h3
    exact Or.inl ⟨v, (T.setVm vm₁).calling g' mk As.toArray, t, U', L, hT, X', hL, e1, e2, hq, st⟩
  · dsimp only [Pt.U, Pt.locs, Pt.cells, Pt.slots] at X' e1 e2 h1 h2 h3 st hcl
    subst h1; subst h2; subst h3
    exact Or.inr ⟨q, (T.setVm vm₁).calling g' mk As.toArray, t, U', L, E, ce, hT, X', hL, e1, e2, hq, hce, hcv, vx_cls hW₁ hcl, st⟩
end
end VXH
theorem vx_ofWH {l : Launch} {y : MethodName} {ws ws' : List Cond} {rm : Room} {Pc : Array Value → State → Prop} {Qc : Array Value → State → Outcome → State → Prop} {XC : String → State → State → Prop} {mc ms : Nat} {free : Addr → Prop} {cc : ByteArray} {maxL : Nat} {ret : Option FieldType} {hh : List (Nat × Nat × Nat × Nat)}
    (hy : plainName y.cls = true) (hw : ws = Cond.codeWith y cc maxL ret hh :: ws')
    (body : ∀ p e s m args below meth c s₁, BodyLoose p l y (headSpec ws rm) cc maxL ret e s m args below meth c s₁ → c.maxLocals = maxL → Pc args s →
      W p l e (headSpec ws rm).room s m args below meth c s.heap [] 0 0 (vx_MQ below Qc XC args s mc ms free) (entryFrame m args maxL)) : vx_Met l y ws rm Pc Qc XC mc ms free := by
  refine MetFree.of_bodyS (code := cc) (maxLocals := maxL) (ret := ret) hy ?_ ?_
  · intro args s m h hn
    obtain ⟨m9, meth, c, hn9, h1, h2, h3, h4, -, h5, h6, -⟩ := Cond.codeWith_spec (atoms_spec (ws := ws) h _ (by rw [hw]; exact List.mem_cons_self))
    cases hn.symm.trans hn9
    exact ⟨meth, c, h1, h2, h3, h4, h5, h6⟩
  · intro p e s m args below meth c s₁ B hml hP _
    have hh0 : s₁.heap = s.heap := by rw [B.state]; rfl
    obtain ⟨t, a1, o, b1, b2, b3⟩ := body p e s m args below meth c s₁ B hml hP s₁ hh0 (Stand.of_body B)
    exact ⟨t, o, a1, b1, b2, b3⟩
/-! ===== END ===== -/
end
section
def RX0 : String := "SheetVault$Answer"
def TX0 : u_T := fun k => match k with
  | 0 => ("SheetVault$Answer", "version", "LSheetVault$Version;", true)
  | 1 => ("SheetVault$Answer", "parts", "[LSheetVault$Said;", true)
  | 2 => ("SheetVault$Answer", "handed", "Z", false)
  | 3 => ("SheetVault$Answer", "mark", "I", false)
  | 4 => ("SheetVault$Answer", "dueMark", "I", false)
  | 5 => ("SheetVault$Answer", "mendsTold", "I", false)
  | 6 => ("SheetVault$Answer", "prints", "[I", true)
  | _ => ("SheetVault$Answer", "printCount", "I", false)
def tyX0 : Nat → FieldType := fun k => match k with
  | 0 => .object "SheetVault$Version"
  | 1 => .array (.object "SheetVault$Said")
  | 2 => .boolean
  | 3 => .int
  | 4 => .int
  | 5 => .int
  | 6 => .array .int
  | _ => .int
abbrev wsX00 : List Cond := u_ws RX0 TX0 8
theorem nmX0 : ∀ a, a < 8 → ∀ b, b < 8 → a ≠ b → (TX0 a).2.1 ≠ (TX0 b).2.1 := by decide +kernel
theorem tyX0_ok : ∀ k, k < 8 → parseFieldDescriptor (TX0 k).2.2.1 = some (tyX0 k) := by decide +kernel
abbrev cX0_init : ByteArray := prog_2_method_1_code
def yX0_init : MethodName := ⟨RX0, "<init>", "(LSheetVault$Version;)V"⟩
abbrev cX0_size : ByteArray := prog_2_method_2_code
def yX0_size : MethodName := ⟨RX0, "size", "()I"⟩
abbrev cX0_isInIndex : ByteArray := prog_2_method_3_code
def yX0_isInIndex : MethodName := ⟨RX0, "isInIndex", "()Z"⟩
abbrev cX0_takeDueMark : ByteArray := prog_2_method_4_code
def yX0_takeDueMark : MethodName := ⟨RX0, "takeDueMark", "(IZ)V"⟩
abbrev cX0_findPrints : ByteArray := prog_2_method_5_code
def yX0_findPrints : MethodName := ⟨RX0, "findPrints", "()V"⟩
abbrev cX0_findPrintsOf : ByteArray := prog_2_method_6_code
def yX0_findPrintsOf : MethodName := ⟨RX0, "findPrintsOf", "(LSheetVault$Said;I)V"⟩
abbrev cX0_insertPrint : ByteArray := prog_2_method_7_code
def yX0_insertPrint : MethodName := ⟨RX0, "insertPrint", "(I)V"⟩
abbrev cX0_placeOf : ByteArray := prog_2_method_8_code
def yX0_placeOf : MethodName := ⟨RX0, "placeOf", "(I)I"⟩
abbrev cX0_hasPrint : ByteArray := prog_2_method_9_code
def yX0_hasPrint : MethodName := ⟨RX0, "hasPrint", "(I)Z"⟩
abbrev cX0_commonPrints : ByteArray := prog_2_method_10_code
def yX0_commonPrints : MethodName := ⟨RX0, "commonPrints", "(LSheetVault$Answer;)I"⟩
def RX1 : String := "SheetVault$Entry"
def TX1 : u_T := fun k => match k with
  | 0 => ("SheetVault$Entry", "kind", "I", true)
  | 1 => ("SheetVault$Entry", "points", "I", true)
  | 2 => ("SheetVault$Entry", "rule", "I", false)
  | _ => ("SheetVault$Entry", "slack", "I", false)
def tyX1 : Nat → FieldType := fun k => match k with
  | 0 => .int
  | 1 => .int
  | 2 => .int
  | _ => .int
abbrev wsX10 : List Cond := u_ws RX1 TX1 4
theorem nmX1 : ∀ a, a < 4 → ∀ b, b < 4 → a ≠ b → (TX1 a).2.1 ≠ (TX1 b).2.1 := by decide +kernel
theorem tyX1_ok : ∀ k, k < 4 → parseFieldDescriptor (TX1 k).2.2.1 = some (tyX1 k) := by decide +kernel
abbrev cX1_init : ByteArray := prog_3_method_1_code
def yX1_init : MethodName := ⟨RX1, "<init>", "(IIII)V"⟩
abbrev cX1_size : ByteArray := prog_3_method_2_code
def yX1_size : MethodName := ⟨RX1, "size", "()I"⟩
abbrev cX1_sizeWith : ByteArray := prog_3_method_3_code
def yX1_sizeWith : MethodName := ⟨RX1, "sizeWith", "(I)I"⟩
abbrev cX1_earned : ByteArray := prog_3_method_4_code
def yX1_earned : MethodName := ⟨RX1, "earned", "(LSheetVault$Said;I)I"⟩
abbrev cX1_earnedByChoice : ByteArray := prog_3_method_5_code
def yX1_earnedByChoice : MethodName := ⟨RX1, "earnedByChoice", "(I)I"⟩
def RX2 : String := "SheetVault$Said"
def TX2 : u_T := fun k => match k with
  | 0 => ("SheetVault$Said", "numberSaid", "Z", false)
  | 1 => ("SheetVault$Said", "number", "I", false)
  | 2 => ("SheetVault$Said", "signs", "I", false)
  | 3 => ("SheetVault$Said", "words", "[I", true)
  | _ => ("SheetVault$Said", "wordCount", "I", false)
def tyX2 : Nat → FieldType := fun k => match k with
  | 0 => .boolean
  | 1 => .int
  | 2 => .int
  | 3 => .array .int
  | _ => .int
abbrev wsX20 : List Cond := u_ws RX2 TX2 5
theorem nmX2 : ∀ a, a < 5 → ∀ b, b < 5 → a ≠ b → (TX2 a).2.1 ≠ (TX2 b).2.1 := by decide +kernel
theorem tyX2_ok : ∀ k, k < 5 → parseFieldDescriptor (TX2 k).2.2.1 = some (tyX2 k) := by decide +kernel
abbrev cX2_init : ByteArray := prog_4_method_1_code
def yX2_init : MethodName := ⟨RX2, "<init>", "()V"⟩
abbrev cX2_size : ByteArray := prog_4_method_2_code
def yX2_size : MethodName := ⟨RX2, "size", "()I"⟩
abbrev cX2_sizeOfSigns : ByteArray := prog_4_method_3_code
def yX2_sizeOfSigns : MethodName := ⟨RX2, "sizeOfSigns", "(I)I"⟩
abbrev cX2_growthBy : ByteArray := prog_4_method_4_code
def yX2_growthBy : MethodName := ⟨RX2, "growthBy", "(II)I"⟩
abbrev cX2_isFull : ByteArray := prog_4_method_5_code
def yX2_isFull : MethodName := ⟨RX2, "isFull", "(I)Z"⟩
abbrev cX2_add : ByteArray := prog_4_method_6_code
def yX2_add : MethodName := ⟨RX2, "add", "(II)V"⟩
abbrev cX2_holdsInOrder : ByteArray := prog_4_method_7_code
def yX2_holdsInOrder : MethodName := ⟨RX2, "holdsInOrder", "(I)Z"⟩
abbrev cX2_printAt : ByteArray := prog_4_method_8_code
def yX2_printAt : MethodName := ⟨RX2, "printAt", "(I)I"⟩
def RX3 : String := "SheetVault$Sheet"
def TX3 : u_T := fun k => match k with
  | 0 => ("SheetVault$Sheet", "versionRow", "[LSheetVault$Version;", true)
  | 1 => ("SheetVault$Sheet", "made", "I", false)
  | 2 => ("SheetVault$Sheet", "heads", "[LSheetVault$Version;", true)
  | 3 => ("SheetVault$Sheet", "closed", "[Z", true)
  | _ => ("SheetVault$Sheet", "answerRow", "[LSheetVault$Answer;", true)
def tyX3 : Nat → FieldType := fun k => match k with
  | 0 => .array (.object "SheetVault$Version")
  | 1 => .int
  | 2 => .array (.object "SheetVault$Version")
  | 3 => .array .boolean
  | _ => .array (.object "SheetVault$Answer")
abbrev wsX30 : List Cond := u_ws RX3 TX3 5
theorem nmX3 : ∀ a, a < 5 → ∀ b, b < 5 → a ≠ b → (TX3 a).2.1 ≠ (TX3 b).2.1 := by decide +kernel
theorem tyX3_ok : ∀ k, k < 5 → parseFieldDescriptor (TX3 k).2.2.1 = some (tyX3 k) := by decide +kernel
abbrev cX3_init : ByteArray := prog_5_method_1_code
def yX3_init : MethodName := ⟨RX3, "<init>", "()V"⟩
abbrev cX3_canFold : ByteArray := prog_5_method_2_code
def yX3_canFold : MethodName := ⟨RX3, "canFold", "(LSheetVault$Version;)Z"⟩
abbrev cX3_isHead : ByteArray := prog_5_method_3_code
def yX3_isHead : MethodName := ⟨RX3, "isHead", "(LSheetVault$Version;)Z"⟩
abbrev cX3_isTied : ByteArray := prog_5_method_4_code
def yX3_isTied : MethodName := ⟨RX3, "isTied", "(LSheetVault$Version;)Z"⟩
abbrev cX3_countChildren : ByteArray := prog_5_method_5_code
def yX3_countChildren : MethodName := ⟨RX3, "countChildren", "(LSheetVault$Version;)I"⟩
abbrev cX3_childOf : ByteArray := prog_5_method_6_code
def yX3_childOf : MethodName := ⟨RX3, "childOf", "(LSheetVault$Version;)LSheetVault$Version;"⟩
abbrev cX3_remove : ByteArray := prog_5_method_7_code
def yX3_remove : MethodName := ⟨RX3, "remove", "(LSheetVault$Version;)V"⟩
abbrev cX3_arePair : ByteArray := prog_5_method_8_code
def yX3_arePair : MethodName := ⟨RX3, "arePair", "(II)Z"⟩
abbrev cX3_sizeOfVersions : ByteArray := prog_5_method_9_code
def yX3_sizeOfVersions : MethodName := ⟨RX3, "sizeOfVersions", "(I)I"⟩
abbrev cX3_sizeOfAnswers : ByteArray := prog_5_method_10_code
def yX3_sizeOfAnswers : MethodName := ⟨RX3, "sizeOfAnswers", "(I)I"⟩
def RX4 : String := "SheetVault$Version"
def TX4 : u_T := fun k => match k with
  | 0 => ("SheetVault$Version", "number", "I", true)
  | 1 => ("SheetVault$Version", "owner", "I", true)
  | 2 => ("SheetVault$Version", "origin", "LSheetVault$Version;", false)
  | _ => ("SheetVault$Version", "entries", "[LSheetVault$Entry;", true)
def tyX4 : Nat → FieldType := fun k => match k with
  | 0 => .int
  | 1 => .int
  | 2 => .object "SheetVault$Version"
  | _ => .array (.object "SheetVault$Entry")
abbrev wsX40 : List Cond := u_ws RX4 TX4 4
theorem nmX4 : ∀ a, a < 4 → ∀ b, b < 4 → a ≠ b → (TX4 a).2.1 ≠ (TX4 b).2.1 := by decide +kernel
theorem tyX4_ok : ∀ k, k < 4 → parseFieldDescriptor (TX4 k).2.2.1 = some (tyX4 k) := by decide +kernel
abbrev cX4_init : ByteArray := prog_6_method_1_code
def yX4_init : MethodName := ⟨RX4, "<init>", "(IILSheetVault$Version;)V"⟩
abbrev cX4_size : ByteArray := prog_6_method_2_code
def yX4_size : MethodName := ⟨RX4, "size", "()I"⟩
abbrev cX4_sizeMissingIn : ByteArray := prog_6_method_3_code
def yX4_sizeMissingIn : MethodName := ⟨RX4, "sizeMissingIn", "(LSheetVault$Version;)I"⟩
abbrev cX4_inherit : ByteArray := prog_6_method_4_code
def yX4_inherit : MethodName := ⟨RX4, "inherit", "(LSheetVault$Version;)V"⟩
def RX5 : String := "SheetVault"
def TX5 : u_T := fun k => match k with
  | 0 => ("SheetVault", "sheetRow", "[LSheetVault$Sheet;", true)
  | 1 => ("SheetVault", "sheetCount", "I", false)
  | 2 => ("SheetVault", "quotas", "[I", true)
  | 3 => ("SheetVault", "uses", "[I", true)
  | 4 => ("SheetVault", "commonLengths", "[I", true)
  | 5 => ("SheetVault", "threeRows", "[[I", true)
  | _ => ("SheetVault", "threeCounts", "[I", true)
def tyX5 : Nat → FieldType := fun k => match k with
  | 0 => .array (.object "SheetVault$Sheet")
  | 1 => .int
  | 2 => .array .int
  | 3 => .array .int
  | 4 => .array .int
  | 5 => .array (.array .int)
  | _ => .array .int
abbrev wsX50 : List Cond := u_ws RX5 TX5 7
theorem nmX5 : ∀ a, a < 7 → ∀ b, b < 7 → a ≠ b → (TX5 a).2.1 ≠ (TX5 b).2.1 := by decide +kernel
theorem tyX5_ok : ∀ k, k < 7 → parseFieldDescriptor (TX5 k).2.2.1 = some (tyX5 k) := by decide +kernel
abbrev cX5_init : ByteArray := prog_1_method_1_code
def yX5_init : MethodName := ⟨RX5, "<init>", "()V"⟩
abbrev cX5_addSheet : ByteArray := prog_1_method_2_code
def yX5_addSheet : MethodName := ⟨RX5, "addSheet", "()I"⟩
abbrev cX5_setNumber : ByteArray := prog_1_method_3_code
def yX5_setNumber : MethodName := ⟨RX5, "setNumber", "(IIIIII)I"⟩
abbrev cX5_setChoice : ByteArray := prog_1_method_4_code
def yX5_setChoice : MethodName := ⟨RX5, "setChoice", "(IIIII)I"⟩
abbrev cX5_setWords : ByteArray := prog_1_method_5_code
def yX5_setWords : MethodName := ⟨RX5, "setWords", "(IIIII)I"⟩
abbrev cX5_drop : ByteArray := prog_1_method_6_code
def yX5_drop : MethodName := ⟨RX5, "drop", "(III)I"⟩
abbrev cX5_adopt : ByteArray := prog_1_method_7_code
def yX5_adopt : MethodName := ⟨RX5, "adopt", "(III)I"⟩
abbrev cX5_fold : ByteArray := prog_1_method_8_code
def yX5_fold : MethodName := ⟨RX5, "fold", "(II)I"⟩
abbrev cX5_sheets : ByteArray := prog_1_method_9_code
def yX5_sheets : MethodName := ⟨RX5, "sheets", "()I"⟩
abbrev cX5_versions : ByteArray := prog_1_method_10_code
def yX5_versions : MethodName := ⟨RX5, "versions", "(I)I"⟩
abbrev cX5_head : ByteArray := prog_1_method_11_code
def yX5_head : MethodName := ⟨RX5, "head", "(II)I"⟩
abbrev cX5_parent : ByteArray := prog_1_method_12_code
def yX5_parent : MethodName := ⟨RX5, "parent", "(II)I"⟩
abbrev cX5_kindOf : ByteArray := prog_1_method_13_code
def yX5_kindOf : MethodName := ⟨RX5, "kindOf", "(III)I"⟩
abbrev cX5_toldIn : ByteArray := prog_1_method_14_code
def yX5_toldIn : MethodName := ⟨RX5, "toldIn", "(III)I"⟩
abbrev cX5_points : ByteArray := prog_1_method_15_code
def yX5_points : MethodName := ⟨RX5, "points", "(II)I"⟩
abbrev cX5_mendNumber : ByteArray := prog_1_method_16_code
def yX5_mendNumber : MethodName := ⟨RX5, "mendNumber", "(IIIII)I"⟩
abbrev cX5_mendChoice : ByteArray := prog_1_method_17_code
def yX5_mendChoice : MethodName := ⟨RX5, "mendChoice", "(IIII)I"⟩
abbrev cX5_mendWords : ByteArray := prog_1_method_18_code
def yX5_mendWords : MethodName := ⟨RX5, "mendWords", "(IIII)I"⟩
abbrev cX5_open : ByteArray := prog_1_method_19_code
def yX5_open : MethodName := ⟨RX5, "open", "(II)I"⟩
abbrev cX5_say : ByteArray := prog_1_method_20_code
def yX5_say : MethodName := ⟨RX5, "say", "(IIII)I"⟩
abbrev cX5_hand : ByteArray := prog_1_method_21_code
def yX5_hand : MethodName := ⟨RX5, "hand", "(II)I"⟩
abbrev cX5_close : ByteArray := prog_1_method_22_code
def yX5_close : MethodName := ⟨RX5, "close", "(II)I"⟩
abbrev cX5_answer : ByteArray := prog_1_method_23_code
def yX5_answer : MethodName := ⟨RX5, "answer", "(II)I"⟩
abbrev cX5_mark : ByteArray := prog_1_method_24_code
def yX5_mark : MethodName := ⟨RX5, "mark", "(II)I"⟩
abbrev cX5_due : ByteArray := prog_1_method_25_code
def yX5_due : MethodName := ⟨RX5, "due", "(II)I"⟩
abbrev cX5_told : ByteArray := prog_1_method_26_code
def yX5_told : MethodName := ⟨RX5, "told", "(II)I"⟩
abbrev cX5_average : ByteArray := prog_1_method_27_code
def yX5_average : MethodName := ⟨RX5, "average", "(II)I"⟩
abbrev cX5_fingerprints : ByteArray := prog_1_method_28_code
def yX5_fingerprints : MethodName := ⟨RX5, "fingerprints", "(II)I"⟩
abbrev cX5_withPrint : ByteArray := prog_1_method_29_code
def yX5_withPrint : MethodName := ⟨RX5, "withPrint", "(II)I"⟩
abbrev cX5_likeness : ByteArray := prog_1_method_30_code
def yX5_likeness : MethodName := ⟨RX5, "likeness", "(III)I"⟩
abbrev cX5_pairs : ByteArray := prog_1_method_31_code
def yX5_pairs : MethodName := ⟨RX5, "pairs", "(I)I"⟩
abbrev cX5_pairAt : ByteArray := prog_1_method_32_code
def yX5_pairAt : MethodName := ⟨RX5, "pairAt", "(II)I"⟩
abbrev cX5_pairsAnew : ByteArray := prog_1_method_33_code
def yX5_pairsAnew : MethodName := ⟨RX5, "pairsAnew", "(I)I"⟩
abbrev cX5_setQuota : ByteArray := prog_1_method_34_code
def yX5_setQuota : MethodName := ⟨RX5, "setQuota", "(II)I"⟩
abbrev cX5_used : ByteArray := prog_1_method_35_code
def yX5_used : MethodName := ⟨RX5, "used", "(I)I"⟩
abbrev cX5_usedAnew : ByteArray := prog_1_method_36_code
def yX5_usedAnew : MethodName := ⟨RX5, "usedAnew", "(I)I"⟩
abbrev cX5_checkClass : ByteArray := prog_1_method_37_code
def yX5_checkClass : MethodName := ⟨RX5, "checkClass", "(I)V"⟩
abbrev cX5_checkPupil : ByteArray := prog_1_method_38_code
def yX5_checkPupil : MethodName := ⟨RX5, "checkPupil", "(I)V"⟩
abbrev cX5_checkTask : ByteArray := prog_1_method_39_code
def yX5_checkTask : MethodName := ⟨RX5, "checkTask", "(I)V"⟩
abbrev cX5_checkRange : ByteArray := prog_1_method_40_code
def yX5_checkRange : MethodName := ⟨RX5, "checkRange", "(III)V"⟩
abbrev cX5_checkNumberRule : ByteArray := prog_1_method_41_code
def yX5_checkNumberRule : MethodName := ⟨RX5, "checkNumberRule", "(II)V"⟩
abbrev cX5_checkWordsRule : ByteArray := prog_1_method_42_code
def yX5_checkWordsRule : MethodName := ⟨RX5, "checkWordsRule", "(I)V"⟩
abbrev cX5_checkSaid : ByteArray := prog_1_method_43_code
def yX5_checkSaid : MethodName := ⟨RX5, "checkSaid", "(II)V"⟩
abbrev cX5_sheetAt : ByteArray := prog_1_method_44_code
def yX5_sheetAt : MethodName := ⟨RX5, "sheetAt", "(I)LSheetVault$Sheet;"⟩
abbrev cX5_versionAt : ByteArray := prog_1_method_45_code
def yX5_versionAt : MethodName := ⟨RX5, "versionAt", "(LSheetVault$Sheet;I)LSheetVault$Version;"⟩
abbrev cX5_answerAt : ByteArray := prog_1_method_46_code
def yX5_answerAt : MethodName := ⟨RX5, "answerAt", "(II)LSheetVault$Answer;"⟩
abbrev cX5_openAnswer : ByteArray := prog_1_method_47_code
def yX5_openAnswer : MethodName := ⟨RX5, "openAnswer", "(LSheetVault$Sheet;I)LSheetVault$Answer;"⟩
abbrev cX5_classOf : ByteArray := prog_1_method_48_code
def yX5_classOf : MethodName := ⟨RX5, "classOf", "(I)I"⟩
abbrev cX5_numberOf : ByteArray := prog_1_method_49_code
def yX5_numberOf : MethodName := ⟨RX5, "numberOf", "(LSheetVault$Version;)I"⟩
abbrev cX5_tellerOf : ByteArray := prog_1_method_50_code
def yX5_tellerOf : MethodName := ⟨RX5, "tellerOf", "(LSheetVault$Version;I)LSheetVault$Version;"⟩
abbrev cX5_taskOf : ByteArray := prog_1_method_51_code
def yX5_taskOf : MethodName := ⟨RX5, "taskOf", "(LSheetVault$Version;I)LSheetVault$Entry;"⟩
abbrev cX5_revise : ByteArray := prog_1_method_52_code
def yX5_revise : MethodName := ⟨RX5, "revise", "(ILSheetVault$Sheet;ILSheetVault$Entry;)I"⟩
abbrev cX5_mend : ByteArray := prog_1_method_53_code
def yX5_mend : MethodName := ⟨RX5, "mend", "(LSheetVault$Sheet;LSheetVault$Version;IIII)I"⟩
abbrev cX5_gradeAgain : ByteArray := prog_1_method_54_code
def yX5_gradeAgain : MethodName := ⟨RX5, "gradeAgain", "(LSheetVault$Sheet;)I"⟩
abbrev cX5_grade : ByteArray := prog_1_method_55_code
def yX5_grade : MethodName := ⟨RX5, "grade", "(LSheetVault$Answer;Z)I"⟩
abbrev cX5_commonWords : ByteArray := prog_1_method_56_code
def yX5_commonWords : MethodName := ⟨RX5, "commonWords", "(ILSheetVault$Said;Z)I"⟩
abbrev cX5_wordAt : ByteArray := prog_1_method_57_code
def yX5_wordAt : MethodName := ⟨RX5, "wordAt", "(II)I"⟩
abbrev cX5_rowLength : ByteArray := prog_1_method_58_code
def yX5_rowLength : MethodName := ⟨RX5, "rowLength", "(I)I"⟩
abbrev cX5_longestCommon : ByteArray := prog_1_method_59_code
def yX5_longestCommon : MethodName := ⟨RX5, "longestCommon", "(ILSheetVault$Said;)I"⟩
abbrev cX5_longestKept : ByteArray := prog_1_method_60_code
def yX5_longestKept : MethodName := ⟨RX5, "longestKept", "(ILSheetVault$Said;)I"⟩
abbrev cX5_keepWords : ByteArray := prog_1_method_61_code
def yX5_keepWords : MethodName := ⟨RX5, "keepWords", "(II)I"⟩
abbrev cX5_printOf : ByteArray := prog_1_method_62_code
def yX5_printOf : MethodName := ⟨RX5, "printOf", "(III)I"⟩
abbrev cX5_ruleHasPrint : ByteArray := prog_1_method_63_code
def yX5_ruleHasPrint : MethodName := ⟨RX5, "ruleHasPrint", "(II)Z"⟩
abbrev cX5_likenessBy : ByteArray := prog_1_method_64_code
def yX5_likenessBy : MethodName := ⟨RX5, "likenessBy", "(III)I"⟩
abbrev cX5_isPairBy : ByteArray := prog_1_method_65_code
def yX5_isPairBy : MethodName := ⟨RX5, "isPairBy", "(III)Z"⟩
abbrev cX5_collectThrees : ByteArray := prog_1_method_66_code
def yX5_collectThrees : MethodName := ⟨RX5, "collectThrees", "(LSheetVault$Answer;I)V"⟩
abbrev cX5_collectThree : ByteArray := prog_1_method_67_code
def yX5_collectThree : MethodName := ⟨RX5, "collectThree", "(II)V"⟩
abbrev cX5_isCollected : ByteArray := prog_1_method_68_code
def yX5_isCollected : MethodName := ⟨RX5, "isCollected", "(II)Z"⟩
abbrev cX5_commonThrees : ByteArray := prog_1_method_69_code
def yX5_commonThrees : MethodName := ⟨RX5, "commonThrees", "(II)I"⟩
abbrev cX5_isClass : ByteArray := prog_1_method_70_code
def yX5_isClass : MethodName := ⟨RX5, "isClass", "(I)Z"⟩
abbrev cX5_passesQuota : ByteArray := prog_1_method_71_code
def yX5_passesQuota : MethodName := ⟨RX5, "passesQuota", "(II)Z"⟩
abbrev cX5_addUse : ByteArray := prog_1_method_72_code
def yX5_addUse : MethodName := ⟨RX5, "addUse", "(II)V"⟩
def RX6 : String := "SheetVaultModel"
def TX6 : u_T := fun k => match k with
  | 0 => ("SheetVaultModel", "refusal", "I", false)
  | 1 => ("SheetVaultModel", "sheets", "I", false)
  | 2 => ("SheetVaultModel", "isThere", "[Z", true)
  | 3 => ("SheetVaultModel", "parents", "[I", true)
  | 4 => ("SheetVaultModel", "owners", "[I", true)
  | 5 => ("SheetVaultModel", "made", "[I", true)
  | 6 => ("SheetVaultModel", "kinds", "[I", true)
  | 7 => ("SheetVaultModel", "pointsOf", "[I", true)
  | 8 => ("SheetVaultModel", "rules", "[I", true)
  | 9 => ("SheetVaultModel", "slacks", "[I", true)
  | 10 => ("SheetVaultModel", "heads", "[I", true)
  | 11 => ("SheetVaultModel", "isClosed", "[Z", true)
  | 12 => ("SheetVaultModel", "quotas", "[I", true)
  | 13 => ("SheetVaultModel", "states", "[I", true)
  | 14 => ("SheetVaultModel", "tied", "[I", true)
  | 15 => ("SheetVaultModel", "marks", "[I", true)
  | 16 => ("SheetVaultModel", "tolds", "[I", true)
  | 17 => ("SheetVaultModel", "hasNumber", "[Z", true)
  | 18 => ("SheetVaultModel", "numbers", "[I", true)
  | 19 => ("SheetVaultModel", "signs", "[I", true)
  | 20 => ("SheetVaultModel", "wordCounts", "[I", true)
  | 21 => ("SheetVaultModel", "words", "[I", true)
  | 22 => ("SheetVaultModel", "lengths", "[I", true)
  | 23 => ("SheetVaultModel", "before", "[I", true)
  | 24 => ("SheetVaultModel", "prints", "[I", true)
  | 25 => ("SheetVaultModel", "printCount", "I", false)
  | _ => ("SheetVaultModel", "others", "[I", true)
def tyX6 : Nat → FieldType := fun k => match k with
  | 0 => .int
  | 1 => .int
  | 2 => .array .boolean
  | 3 => .array .int
  | 4 => .array .int
  | 5 => .array .int
  | 6 => .array .int
  | 7 => .array .int
  | 8 => .array .int
  | 9 => .array .int
  | 10 => .array .int
  | 11 => .array .boolean
  | 12 => .array .int
  | 13 => .array .int
  | 14 => .array .int
  | 15 => .array .int
  | 16 => .array .int
  | 17 => .array .boolean
  | 18 => .array .int
  | 19 => .array .int
  | 20 => .array .int
  | 21 => .array .int
  | 22 => .array .int
  | 23 => .array .int
  | 24 => .array .int
  | 25 => .int
  | _ => .array .int
abbrev wsX60 : List Cond := u_ws RX6 TX6 27
theorem nmX6 : ∀ a, a < 27 → ∀ b, b < 27 → a ≠ b → (TX6 a).2.1 ≠ (TX6 b).2.1 := by decide +kernel
theorem tyX6_ok : ∀ k, k < 27 → parseFieldDescriptor (TX6 k).2.2.1 = some (tyX6 k) := by decide +kernel
abbrev cX6_init : ByteArray := prog_8_method_1_code
def yX6_init : MethodName := ⟨RX6, "<init>", "()V"⟩
abbrev cX6_thrown : ByteArray := prog_8_method_2_code
def yX6_thrown : MethodName := ⟨RX6, "thrown", "()I"⟩
abbrev cX6_refused : ByteArray := prog_8_method_3_code
def yX6_refused : MethodName := ⟨RX6, "refused", "(I)Z"⟩
abbrev cX6_in : ByteArray := prog_8_method_4_code
def yX6_in : MethodName := ⟨RX6, "in", "(III)Z"⟩
abbrev cX6_isClass : ByteArray := prog_8_method_5_code
def yX6_isClass : MethodName := ⟨RX6, "isClass", "(I)Z"⟩
abbrev cX6_isPupil : ByteArray := prog_8_method_6_code
def yX6_isPupil : MethodName := ⟨RX6, "isPupil", "(I)Z"⟩
abbrev cX6_isSheet : ByteArray := prog_8_method_7_code
def yX6_isSheet : MethodName := ⟨RX6, "isSheet", "(I)Z"⟩
abbrev cX6_isVersion : ByteArray := prog_8_method_8_code
def yX6_isVersion : MethodName := ⟨RX6, "isVersion", "(II)Z"⟩
abbrev cX6_isTask : ByteArray := prog_8_method_9_code
def yX6_isTask : MethodName := ⟨RX6, "isTask", "(I)Z"⟩
abbrev cX6_wordAt : ByteArray := prog_8_method_10_code
def yX6_wordAt : MethodName := ⟨RX6, "wordAt", "(II)I"⟩
abbrev cX6_lengthOf : ByteArray := prog_8_method_11_code
def yX6_lengthOf : MethodName := ⟨RX6, "lengthOf", "(I)I"⟩
abbrev cX6_isRow : ByteArray := prog_8_method_12_code
def yX6_isRow : MethodName := ⟨RX6, "isRow", "(I)Z"⟩
abbrev cX6_entryFor : ByteArray := prog_8_method_13_code
def yX6_entryFor : MethodName := ⟨RX6, "entryFor", "(III)I"⟩
abbrev cX6_has : ByteArray := prog_8_method_14_code
def yX6_has : MethodName := ⟨RX6, "has", "(III)I"⟩
abbrev cX6_costOf : ByteArray := prog_8_method_15_code
def yX6_costOf : MethodName := ⟨RX6, "costOf", "(I)I"⟩
abbrev cX6_usedBy : ByteArray := prog_8_method_16_code
def yX6_usedBy : MethodName := ⟨RX6, "usedBy", "(I)I"⟩
abbrev cX6_fits : ByteArray := prog_8_method_17_code
def yX6_fits : MethodName := ⟨RX6, "fits", "(II)Z"⟩
abbrev cX6_addSheet : ByteArray := prog_8_method_18_code
def yX6_addSheet : MethodName := ⟨RX6, "addSheet", "()I"⟩
abbrev cX6_canRevise : ByteArray := prog_8_method_19_code
def yX6_canRevise : MethodName := ⟨RX6, "canRevise", "(III)Z"⟩
abbrev cX6_revise : ByteArray := prog_8_method_20_code
def yX6_revise : MethodName := ⟨RX6, "revise", "(IIIIIII)I"⟩
abbrev cX6_canName : ByteArray := prog_8_method_21_code
def yX6_canName : MethodName := ⟨RX6, "canName", "(III)Z"⟩
abbrev cX6_setNumber : ByteArray := prog_8_method_22_code
def yX6_setNumber : MethodName := ⟨RX6, "setNumber", "(IIIIII)I"⟩
abbrev cX6_setChoice : ByteArray := prog_8_method_23_code
def yX6_setChoice : MethodName := ⟨RX6, "setChoice", "(IIIII)I"⟩
abbrev cX6_setWords : ByteArray := prog_8_method_24_code
def yX6_setWords : MethodName := ⟨RX6, "setWords", "(IIIII)I"⟩
abbrev cX6_drop : ByteArray := prog_8_method_25_code
def yX6_drop : MethodName := ⟨RX6, "drop", "(III)I"⟩
abbrev cX6_adopt : ByteArray := prog_8_method_26_code
def yX6_adopt : MethodName := ⟨RX6, "adopt", "(III)I"⟩
abbrev cX6_child : ByteArray := prog_8_method_27_code
def yX6_child : MethodName := ⟨RX6, "child", "(II)I"⟩
abbrev cX6_isNeeded : ByteArray := prog_8_method_28_code
def yX6_isNeeded : MethodName := ⟨RX6, "isNeeded", "(II)Z"⟩
abbrev cX6_passes : ByteArray := prog_8_method_29_code
def yX6_passes : MethodName := ⟨RX6, "passes", "(IIZ)I"⟩
abbrev cX6_canFold : ByteArray := prog_8_method_30_code
def yX6_canFold : MethodName := ⟨RX6, "canFold", "(II)Z"⟩
abbrev cX6_fold : ByteArray := prog_8_method_31_code
def yX6_fold : MethodName := ⟨RX6, "fold", "(II)I"⟩
abbrev cX6_sheets : ByteArray := prog_8_method_32_code
def yX6_sheets : MethodName := ⟨RX6, "sheets", "()I"⟩
abbrev cX6_noSheet : ByteArray := prog_8_method_33_code
def yX6_noSheet : MethodName := ⟨RX6, "noSheet", "(I)Z"⟩
abbrev cX6_versions : ByteArray := prog_8_method_34_code
def yX6_versions : MethodName := ⟨RX6, "versions", "(I)I"⟩
abbrev cX6_head : ByteArray := prog_8_method_35_code
def yX6_head : MethodName := ⟨RX6, "head", "(II)I"⟩
abbrev cX6_parent : ByteArray := prog_8_method_36_code
def yX6_parent : MethodName := ⟨RX6, "parent", "(II)I"⟩
abbrev cX6_noTask : ByteArray := prog_8_method_37_code
def yX6_noTask : MethodName := ⟨RX6, "noTask", "(III)Z"⟩
abbrev cX6_kindOf : ByteArray := prog_8_method_38_code
def yX6_kindOf : MethodName := ⟨RX6, "kindOf", "(III)I"⟩
abbrev cX6_toldIn : ByteArray := prog_8_method_39_code
def yX6_toldIn : MethodName := ⟨RX6, "toldIn", "(III)I"⟩
abbrev cX6_points : ByteArray := prog_8_method_40_code
def yX6_points : MethodName := ⟨RX6, "points", "(II)I"⟩
abbrev cX6_bits : ByteArray := prog_8_method_41_code
def yX6_bits : MethodName := ⟨RX6, "bits", "(I)I"⟩
abbrev cX6_common : ByteArray := prog_8_method_42_code
def yX6_common : MethodName := ⟨RX6, "common", "(II)I"⟩
abbrev cX6_gained : ByteArray := prog_8_method_43_code
def yX6_gained : MethodName := ⟨RX6, "gained", "(II)I"⟩
abbrev cX6_dueOf : ByteArray := prog_8_method_44_code
def yX6_dueOf : MethodName := ⟨RX6, "dueOf", "(I)I"⟩
abbrev cX6_mended : ByteArray := prog_8_method_45_code
def yX6_mended : MethodName := ⟨RX6, "mended", "(IIII)I"⟩
abbrev cX6_isNamed : ByteArray := prog_8_method_46_code
def yX6_isNamed : MethodName := ⟨RX6, "isNamed", "(III)Z"⟩
abbrev cX6_mend : ByteArray := prog_8_method_47_code
def yX6_mend : MethodName := ⟨RX6, "mend", "(IIII)I"⟩
abbrev cX6_mendNumber : ByteArray := prog_8_method_48_code
def yX6_mendNumber : MethodName := ⟨RX6, "mendNumber", "(IIIII)I"⟩
abbrev cX6_mendChoice : ByteArray := prog_8_method_49_code
def yX6_mendChoice : MethodName := ⟨RX6, "mendChoice", "(IIII)I"⟩
abbrev cX6_mendWords : ByteArray := prog_8_method_50_code
def yX6_mendWords : MethodName := ⟨RX6, "mendWords", "(IIII)I"⟩
abbrev cX6_areBoth : ByteArray := prog_8_method_51_code
def yX6_areBoth : MethodName := ⟨RX6, "areBoth", "(II)Z"⟩
abbrev cX6_taken : ByteArray := prog_8_method_52_code
def yX6_taken : MethodName := ⟨RX6, "taken", "(I)I"⟩
abbrev cX6_forget : ByteArray := prog_8_method_53_code
def yX6_forget : MethodName := ⟨RX6, "forget", "(I)V"⟩
abbrev cX6_open : ByteArray := prog_8_method_54_code
def yX6_open : MethodName := ⟨RX6, "open", "(II)I"⟩
abbrev cX6_isSaid : ByteArray := prog_8_method_55_code
def yX6_isSaid : MethodName := ⟨RX6, "isSaid", "(II)Z"⟩
abbrev cX6_more : ByteArray := prog_8_method_56_code
def yX6_more : MethodName := ⟨RX6, "more", "(III)I"⟩
abbrev cX6_say : ByteArray := prog_8_method_57_code
def yX6_say : MethodName := ⟨RX6, "say", "(IIII)I"⟩
abbrev cX6_hand : ByteArray := prog_8_method_58_code
def yX6_hand : MethodName := ⟨RX6, "hand", "(II)I"⟩
abbrev cX6_close : ByteArray := prog_8_method_59_code
def yX6_close : MethodName := ⟨RX6, "close", "(II)I"⟩
abbrev cX6_noAnswer : ByteArray := prog_8_method_60_code
def yX6_noAnswer : MethodName := ⟨RX6, "noAnswer", "(II)Z"⟩
abbrev cX6_answer : ByteArray := prog_8_method_61_code
def yX6_answer : MethodName := ⟨RX6, "answer", "(II)I"⟩
abbrev cX6_mark : ByteArray := prog_8_method_62_code
def yX6_mark : MethodName := ⟨RX6, "mark", "(II)I"⟩
abbrev cX6_due : ByteArray := prog_8_method_63_code
def yX6_due : MethodName := ⟨RX6, "due", "(II)I"⟩
abbrev cX6_told : ByteArray := prog_8_method_64_code
def yX6_told : MethodName := ⟨RX6, "told", "(II)I"⟩
abbrev cX6_average : ByteArray := prog_8_method_65_code
def yX6_average : MethodName := ⟨RX6, "average", "(II)I"⟩
abbrev cX6_print : ByteArray := prog_8_method_66_code
def yX6_print : MethodName := ⟨RX6, "print", "(III)I"⟩
abbrev cX6_isInRule : ByteArray := prog_8_method_67_code
def yX6_isInRule : MethodName := ⟨RX6, "isInRule", "(II)Z"⟩
abbrev cX6_isPrint : ByteArray := prog_8_method_68_code
def yX6_isPrint : MethodName := ⟨RX6, "isPrint", "(I)Z"⟩
abbrev cX6_lay : ByteArray := prog_8_method_69_code
def yX6_lay : MethodName := ⟨RX6, "lay", "(I)V"⟩
abbrev cX6_fingerprints : ByteArray := prog_8_method_70_code
def yX6_fingerprints : MethodName := ⟨RX6, "fingerprints", "(II)I"⟩
abbrev cX6_withPrint : ByteArray := prog_8_method_71_code
def yX6_withPrint : MethodName := ⟨RX6, "withPrint", "(II)I"⟩
abbrev cX6_alike : ByteArray := prog_8_method_72_code
def yX6_alike : MethodName := ⟨RX6, "alike", "(II)I"⟩
abbrev cX6_likeness : ByteArray := prog_8_method_73_code
def yX6_likeness : MethodName := ⟨RX6, "likeness", "(III)I"⟩
abbrev cX6_isPair : ByteArray := prog_8_method_74_code
def yX6_isPair : MethodName := ⟨RX6, "isPair", "(III)Z"⟩
abbrev cX6_pairsOf : ByteArray := prog_8_method_75_code
def yX6_pairsOf : MethodName := ⟨RX6, "pairsOf", "(I)I"⟩
abbrev cX6_pairs : ByteArray := prog_8_method_76_code
def yX6_pairs : MethodName := ⟨RX6, "pairs", "(I)I"⟩
abbrev cX6_pairAt : ByteArray := prog_8_method_77_code
def yX6_pairAt : MethodName := ⟨RX6, "pairAt", "(II)I"⟩
abbrev cX6_pairsAnew : ByteArray := prog_8_method_78_code
def yX6_pairsAnew : MethodName := ⟨RX6, "pairsAnew", "(I)I"⟩
abbrev cX6_setQuota : ByteArray := prog_8_method_79_code
def yX6_setQuota : MethodName := ⟨RX6, "setQuota", "(II)I"⟩
abbrev cX6_used : ByteArray := prog_8_method_80_code
def yX6_used : MethodName := ⟨RX6, "used", "(I)I"⟩
abbrev cX6_usedAnew : ByteArray := prog_8_method_81_code
def yX6_usedAnew : MethodName := ⟨RX6, "usedAnew", "(I)I"⟩
def RJ6 : String := "java/lang/Integer"
def TJ6 : u_T := fun k => match k with
  | _ => ("", "", "", false)
def tyJ6 : Nat → FieldType := fun k => match k with
  | _ => .int
abbrev wsJ60 : List Cond := u_ws RJ6 TJ6 0
theorem nmJ6 : ∀ a, a < 0 → ∀ b, b < 0 → a ≠ b → (TJ6 a).2.1 ≠ (TJ6 b).2.1 := by decide +kernel
theorem tyJ6_ok : ∀ k, k < 0 → parseFieldDescriptor (TJ6 k).2.2.1 = some (tyJ6 k) := by decide +kernel
abbrev cJ6_bitCount_0f7a4 : ByteArray := prog_13_method_49_code
def yJ6_bitCount_0f7a4 : MethodName := ⟨RJ6, "bitCount", "(I)I"⟩
def RJ9 : String := "java/lang/Math"
def TJ9 : u_T := fun k => match k with
  | _ => ("", "", "", false)
def tyJ9 : Nat → FieldType := fun k => match k with
  | _ => .int
abbrev wsJ90 : List Cond := u_ws RJ9 TJ9 0
theorem nmJ9 : ∀ a, a < 0 → ∀ b, b < 0 → a ≠ b → (TJ9 a).2.1 ≠ (TJ9 b).2.1 := by decide +kernel
theorem tyJ9_ok : ∀ k, k < 0 → parseFieldDescriptor (TJ9 k).2.2.1 = some (tyJ9 k) := by decide +kernel
abbrev cJ9_abs_0f7a4 : ByteArray := prog_14_method_59_code
def yJ9_abs_0f7a4 : MethodName := ⟨RJ9, "abs", "(I)I"⟩
abbrev cJ9_max_7cf53 : ByteArray := prog_14_method_65_code
def yJ9_max_7cf53 : MethodName := ⟨RJ9, "max", "(II)I"⟩
abbrev cJ9_min_7cf53 : ByteArray := prog_14_method_69_code
def yJ9_min_7cf53 : MethodName := ⟨RJ9, "min", "(II)I"⟩
def RJ0 : String := "java/lang/String"
def TJ0 : u_T := fun k => match k with
  | _ => ("", "", "", false)
def tyJ0 : Nat → FieldType := fun k => match k with
  | _ => .int
abbrev wsJ00 : List Cond := u_ws RJ0 TJ0 0
theorem nmJ0 : ∀ a, a < 0 → ∀ b, b < 0 → a ≠ b → (TJ0 a).2.1 ≠ (TJ0 b).2.1 := by decide +kernel
theorem tyJ0_ok : ∀ k, k < 0 → parseFieldDescriptor (TJ0 k).2.2.1 = some (tyJ0 k) := by decide +kernel
def RL : String := "SheetVaultLaw"
abbrev cL_addSheet : ByteArray := method_3_code
def yL_addSheet : MethodName := ⟨RL, "addSheet", "(LSheetVault;[J)I"⟩
abbrev cL_setNumber : ByteArray := method_4_code
def yL_setNumber : MethodName := ⟨RL, "setNumber", "(LSheetVault;IIIIII[J)I"⟩
abbrev cL_setChoice : ByteArray := method_5_code
def yL_setChoice : MethodName := ⟨RL, "setChoice", "(LSheetVault;IIIII[J)I"⟩
abbrev cL_setWords : ByteArray := method_6_code
def yL_setWords : MethodName := ⟨RL, "setWords", "(LSheetVault;IIIII[J)I"⟩
abbrev cL_drop : ByteArray := method_7_code
def yL_drop : MethodName := ⟨RL, "drop", "(LSheetVault;III[J)I"⟩
abbrev cL_adopt : ByteArray := method_8_code
def yL_adopt : MethodName := ⟨RL, "adopt", "(LSheetVault;III[J)I"⟩
abbrev cL_fold : ByteArray := method_9_code
def yL_fold : MethodName := ⟨RL, "fold", "(LSheetVault;II[J)I"⟩
abbrev cL_versions : ByteArray := method_10_code
def yL_versions : MethodName := ⟨RL, "versions", "(LSheetVault;I[J)I"⟩
abbrev cL_head : ByteArray := method_11_code
def yL_head : MethodName := ⟨RL, "head", "(LSheetVault;II[J)I"⟩
abbrev cL_parent : ByteArray := method_12_code
def yL_parent : MethodName := ⟨RL, "parent", "(LSheetVault;II[J)I"⟩
abbrev cL_kindOf : ByteArray := method_13_code
def yL_kindOf : MethodName := ⟨RL, "kindOf", "(LSheetVault;III[J)I"⟩
abbrev cL_toldIn : ByteArray := method_14_code
def yL_toldIn : MethodName := ⟨RL, "toldIn", "(LSheetVault;III[J)I"⟩
abbrev cL_points : ByteArray := method_15_code
def yL_points : MethodName := ⟨RL, "points", "(LSheetVault;II[J)I"⟩
abbrev cL_mendNumber : ByteArray := method_16_code
def yL_mendNumber : MethodName := ⟨RL, "mendNumber", "(LSheetVault;IIIII[J)I"⟩
abbrev cL_mendChoice : ByteArray := method_17_code
def yL_mendChoice : MethodName := ⟨RL, "mendChoice", "(LSheetVault;IIII[J)I"⟩
abbrev cL_mendWords : ByteArray := method_18_code
def yL_mendWords : MethodName := ⟨RL, "mendWords", "(LSheetVault;IIII[J)I"⟩
abbrev cL_open : ByteArray := method_19_code
def yL_open : MethodName := ⟨RL, "open", "(LSheetVault;II[J)I"⟩
abbrev cL_say : ByteArray := method_20_code
def yL_say : MethodName := ⟨RL, "say", "(LSheetVault;IIII[J)I"⟩
abbrev cL_hand : ByteArray := method_21_code
def yL_hand : MethodName := ⟨RL, "hand", "(LSheetVault;II[J)I"⟩
abbrev cL_close : ByteArray := method_22_code
def yL_close : MethodName := ⟨RL, "close", "(LSheetVault;II[J)I"⟩
abbrev cL_answer : ByteArray := method_23_code
def yL_answer : MethodName := ⟨RL, "answer", "(LSheetVault;II[J)I"⟩
abbrev cL_mark : ByteArray := method_24_code
def yL_mark : MethodName := ⟨RL, "mark", "(LSheetVault;II[J)I"⟩
abbrev cL_due : ByteArray := method_25_code
def yL_due : MethodName := ⟨RL, "due", "(LSheetVault;II[J)I"⟩
abbrev cL_told : ByteArray := method_26_code
def yL_told : MethodName := ⟨RL, "told", "(LSheetVault;II[J)I"⟩
abbrev cL_average : ByteArray := method_27_code
def yL_average : MethodName := ⟨RL, "average", "(LSheetVault;II[J)I"⟩
abbrev cL_fingerprints : ByteArray := method_28_code
def yL_fingerprints : MethodName := ⟨RL, "fingerprints", "(LSheetVault;II[J)I"⟩
abbrev cL_withPrint : ByteArray := method_29_code
def yL_withPrint : MethodName := ⟨RL, "withPrint", "(LSheetVault;II[J)I"⟩
abbrev cL_likeness : ByteArray := method_30_code
def yL_likeness : MethodName := ⟨RL, "likeness", "(LSheetVault;III[J)I"⟩
abbrev cL_pairs : ByteArray := method_31_code
def yL_pairs : MethodName := ⟨RL, "pairs", "(LSheetVault;I[J)I"⟩
abbrev cL_pairAt : ByteArray := method_32_code
def yL_pairAt : MethodName := ⟨RL, "pairAt", "(LSheetVault;II[J)I"⟩
abbrev cL_pairsAnew : ByteArray := method_33_code
def yL_pairsAnew : MethodName := ⟨RL, "pairsAnew", "(LSheetVault;I[J)I"⟩
abbrev cL_setQuota : ByteArray := method_34_code
def yL_setQuota : MethodName := ⟨RL, "setQuota", "(LSheetVault;II[J)I"⟩
abbrev cL_used : ByteArray := method_35_code
def yL_used : MethodName := ⟨RL, "used", "(LSheetVault;I[J)I"⟩
abbrev cL_usedAnew : ByteArray := method_36_code
def yL_usedAnew : MethodName := ⟨RL, "usedAnew", "(LSheetVault;I[J)I"⟩
abbrev cL_law : ByteArray := code
def yL_law : MethodName := ⟨RL, "law", "([I)Z"⟩
set_option maxRecDepth 20000 in
theorem inX0 : ∀ w ∈ wsX00, w ∈ lw_tbl := by decide +kernel
set_option maxRecDepth 20000 in
theorem inX1 : ∀ w ∈ wsX10, w ∈ lw_tbl := by decide +kernel
set_option maxRecDepth 20000 in
theorem inX2 : ∀ w ∈ wsX20, w ∈ lw_tbl := by decide +kernel
set_option maxRecDepth 20000 in
theorem inX3 : ∀ w ∈ wsX30, w ∈ lw_tbl := by decide +kernel
set_option maxRecDepth 20000 in
theorem inX4 : ∀ w ∈ wsX40, w ∈ lw_tbl := by decide +kernel
set_option maxRecDepth 20000 in
theorem inX5 : ∀ w ∈ wsX50, w ∈ lw_tbl := by decide +kernel
set_option maxRecDepth 20000 in
theorem inX6 : ∀ w ∈ wsX60, w ∈ lw_tbl := by decide +kernel
theorem inJ6 : ∀ w ∈ wsJ60, w ∈ lw_tbl := by decide +kernel
theorem inJ9 : ∀ w ∈ wsJ90, w ∈ lw_tbl := by decide +kernel
theorem inJ0 : ∀ w ∈ wsJ00, w ∈ lw_tbl := by decide +kernel
abbrev vwCl : List vw_C := [(RX0, TX0, 8), (RX1, TX1, 4), (RX2, TX2, 5), (RX3, TX3, 5), (RX4, TX4, 4), (RX5, TX5, 7), (RX6, TX6, 27)]
end
section
theorem dJ6_bitCount_0f7a4_0 : decode cJ6_bitCount_0f7a4 0 = .ok (.iload_n 0, 1) := by decide +kernel
theorem dJ6_bitCount_0f7a4_1 : decode cJ6_bitCount_0f7a4 1 = .ok (.iload_n 0, 1) := by decide +kernel
theorem dJ6_bitCount_0f7a4_2 : decode cJ6_bitCount_0f7a4 2 = .ok (.iconst 1, 1) := by decide +kernel
theorem dJ6_bitCount_0f7a4_3 : decode cJ6_bitCount_0f7a4 3 = .ok (.iushr, 1) := by decide +kernel
theorem dJ6_bitCount_0f7a4_4 : decode cJ6_bitCount_0f7a4 4 = .ok (.ldc_w 265, 3) := by decide +kernel
theorem dJ6_bitCount_0f7a4_7 : decode cJ6_bitCount_0f7a4 7 = .ok (.iand, 1) := by decide +kernel
theorem dJ6_bitCount_0f7a4_8 : decode cJ6_bitCount_0f7a4 8 = .ok (.isub, 1) := by decide +kernel
theorem dJ6_bitCount_0f7a4_9 : decode cJ6_bitCount_0f7a4 9 = .ok (.istore_n 0, 1) := by decide +kernel
theorem dJ6_bitCount_0f7a4_10 : decode cJ6_bitCount_0f7a4 10 = .ok (.iload_n 0, 1) := by decide +kernel
theorem dJ6_bitCount_0f7a4_11 : decode cJ6_bitCount_0f7a4 11 = .ok (.ldc_w 266, 3) := by decide +kernel
theorem dJ6_bitCount_0f7a4_14 : decode cJ6_bitCount_0f7a4 14 = .ok (.iand, 1) := by decide +kernel
theorem dJ6_bitCount_0f7a4_15 : decode cJ6_bitCount_0f7a4 15 = .ok (.iload_n 0, 1) := by decide +kernel
theorem dJ6_bitCount_0f7a4_16 : decode cJ6_bitCount_0f7a4 16 = .ok (.iconst 2, 1) := by decide +kernel
theorem dJ6_bitCount_0f7a4_17 : decode cJ6_bitCount_0f7a4 17 = .ok (.iushr, 1) := by decide +kernel
theorem dJ6_bitCount_0f7a4_18 : decode cJ6_bitCount_0f7a4 18 = .ok (.ldc_w 266, 3) := by decide +kernel
theorem dJ6_bitCount_0f7a4_21 : decode cJ6_bitCount_0f7a4 21 = .ok (.iand, 1) := by decide +kernel
theorem dJ6_bitCount_0f7a4_22 : decode cJ6_bitCount_0f7a4 22 = .ok (.iadd, 1) := by decide +kernel
theorem dJ6_bitCount_0f7a4_23 : decode cJ6_bitCount_0f7a4 23 = .ok (.istore_n 0, 1) := by decide +kernel
theorem dJ6_bitCount_0f7a4_24 : decode cJ6_bitCount_0f7a4 24 = .ok (.iload_n 0, 1) := by decide +kernel
theorem dJ6_bitCount_0f7a4_25 : decode cJ6_bitCount_0f7a4 25 = .ok (.iload_n 0, 1) := by decide +kernel
theorem dJ6_bitCount_0f7a4_26 : decode cJ6_bitCount_0f7a4 26 = .ok (.iconst 4, 1) := by decide +kernel
theorem dJ6_bitCount_0f7a4_27 : decode cJ6_bitCount_0f7a4 27 = .ok (.iushr, 1) := by decide +kernel
theorem dJ6_bitCount_0f7a4_28 : decode cJ6_bitCount_0f7a4 28 = .ok (.iadd, 1) := by decide +kernel
theorem dJ6_bitCount_0f7a4_29 : decode cJ6_bitCount_0f7a4 29 = .ok (.ldc_w 267, 3) := by decide +kernel
theorem dJ6_bitCount_0f7a4_32 : decode cJ6_bitCount_0f7a4 32 = .ok (.iand, 1) := by decide +kernel
theorem dJ6_bitCount_0f7a4_33 : decode cJ6_bitCount_0f7a4 33 = .ok (.istore_n 0, 1) := by decide +kernel
theorem dJ6_bitCount_0f7a4_34 : decode cJ6_bitCount_0f7a4 34 = .ok (.iload_n 0, 1) := by decide +kernel
theorem dJ6_bitCount_0f7a4_35 : decode cJ6_bitCount_0f7a4 35 = .ok (.iload_n 0, 1) := by decide +kernel
theorem dJ6_bitCount_0f7a4_36 : decode cJ6_bitCount_0f7a4 36 = .ok (.bipush 8, 2) := by decide +kernel
theorem dJ6_bitCount_0f7a4_38 : decode cJ6_bitCount_0f7a4 38 = .ok (.iushr, 1) := by decide +kernel
theorem dJ6_bitCount_0f7a4_39 : decode cJ6_bitCount_0f7a4 39 = .ok (.iadd, 1) := by decide +kernel
theorem dJ6_bitCount_0f7a4_40 : decode cJ6_bitCount_0f7a4 40 = .ok (.istore_n 0, 1) := by decide +kernel
theorem dJ6_bitCount_0f7a4_41 : decode cJ6_bitCount_0f7a4 41 = .ok (.iload_n 0, 1) := by decide +kernel
theorem dJ6_bitCount_0f7a4_42 : decode cJ6_bitCount_0f7a4 42 = .ok (.iload_n 0, 1) := by decide +kernel
theorem dJ6_bitCount_0f7a4_43 : decode cJ6_bitCount_0f7a4 43 = .ok (.bipush 16, 2) := by decide +kernel
theorem dJ6_bitCount_0f7a4_45 : decode cJ6_bitCount_0f7a4 45 = .ok (.iushr, 1) := by decide +kernel
theorem dJ6_bitCount_0f7a4_46 : decode cJ6_bitCount_0f7a4 46 = .ok (.iadd, 1) := by decide +kernel
theorem dJ6_bitCount_0f7a4_47 : decode cJ6_bitCount_0f7a4 47 = .ok (.istore_n 0, 1) := by decide +kernel
theorem dJ6_bitCount_0f7a4_48 : decode cJ6_bitCount_0f7a4 48 = .ok (.iload_n 0, 1) := by decide +kernel
theorem dJ6_bitCount_0f7a4_49 : decode cJ6_bitCount_0f7a4 49 = .ok (.bipush 63, 2) := by decide +kernel
theorem dJ6_bitCount_0f7a4_51 : decode cJ6_bitCount_0f7a4 51 = .ok (.iand, 1) := by decide +kernel
theorem dJ6_bitCount_0f7a4_52 : decode cJ6_bitCount_0f7a4 52 = .ok (.ireturn, 1) := by decide +kernel
theorem dJ9_abs_0f7a4_0 : decode cJ9_abs_0f7a4 0 = .ok (.iload_n 0, 1) := by decide +kernel
theorem dJ9_abs_0f7a4_1 : decode cJ9_abs_0f7a4 1 = .ok (.ifCond .ge 8, 3) := by decide +kernel
theorem dJ9_abs_0f7a4_4 : decode cJ9_abs_0f7a4 4 = .ok (.iload_n 0, 1) := by decide +kernel
theorem dJ9_abs_0f7a4_5 : decode cJ9_abs_0f7a4 5 = .ok (.ineg, 1) := by decide +kernel
theorem dJ9_abs_0f7a4_6 : decode cJ9_abs_0f7a4 6 = .ok (.goto 4, 3) := by decide +kernel
theorem dJ9_abs_0f7a4_9 : decode cJ9_abs_0f7a4 9 = .ok (.iload_n 0, 1) := by decide +kernel
theorem dJ9_abs_0f7a4_10 : decode cJ9_abs_0f7a4 10 = .ok (.ireturn, 1) := by decide +kernel
theorem dJ9_max_7cf53_0 : decode cJ9_max_7cf53 0 = .ok (.iload_n 0, 1) := by decide +kernel
theorem dJ9_max_7cf53_1 : decode cJ9_max_7cf53 1 = .ok (.iload_n 1, 1) := by decide +kernel
theorem dJ9_max_7cf53_2 : decode cJ9_max_7cf53 2 = .ok (.if_icmp .lt 7, 3) := by decide +kernel
theorem dJ9_max_7cf53_5 : decode cJ9_max_7cf53 5 = .ok (.iload_n 0, 1) := by decide +kernel
theorem dJ9_max_7cf53_6 : decode cJ9_max_7cf53 6 = .ok (.goto 4, 3) := by decide +kernel
theorem dJ9_max_7cf53_9 : decode cJ9_max_7cf53 9 = .ok (.iload_n 1, 1) := by decide +kernel
theorem dJ9_max_7cf53_10 : decode cJ9_max_7cf53 10 = .ok (.ireturn, 1) := by decide +kernel
theorem dJ9_min_7cf53_0 : decode cJ9_min_7cf53 0 = .ok (.iload_n 0, 1) := by decide +kernel
theorem dJ9_min_7cf53_1 : decode cJ9_min_7cf53 1 = .ok (.iload_n 1, 1) := by decide +kernel
theorem dJ9_min_7cf53_2 : decode cJ9_min_7cf53 2 = .ok (.if_icmp .gt 7, 3) := by decide +kernel
theorem dJ9_min_7cf53_5 : decode cJ9_min_7cf53 5 = .ok (.iload_n 0, 1) := by decide +kernel
theorem dJ9_min_7cf53_6 : decode cJ9_min_7cf53 6 = .ok (.goto 4, 3) := by decide +kernel
theorem dJ9_min_7cf53_9 : decode cJ9_min_7cf53 9 = .ok (.iload_n 1, 1) := by decide +kernel
theorem dJ9_min_7cf53_10 : decode cJ9_min_7cf53 10 = .ok (.ireturn, 1) := by decide +kernel
theorem dX0_init_0 : decode cX0_init 0 = .ok (.aload_n 0, 1) := by decide +kernel
theorem dX0_init_1 : decode cX0_init 1 = .ok (.invokespecial 3, 3) := by decide +kernel
theorem dX0_init_4 : decode cX0_init 4 = .ok (.aload_n 0, 1) := by decide +kernel
theorem dX0_init_5 : decode cX0_init 5 = .ok (.iconst 5, 1) := by decide +kernel
theorem dX0_init_6 : decode cX0_init 6 = .ok (.anewarray 9, 3) := by decide +kernel
theorem dX0_init_9 : decode cX0_init 9 = .ok (.putfield 11, 3) := by decide +kernel
theorem dX0_init_12 : decode cX0_init 12 = .ok (.aload_n 0, 1) := by decide +kernel
theorem dX0_init_13 : decode cX0_init 13 = .ok (.iconst 0, 1) := by decide +kernel
theorem dX0_init_14 : decode cX0_init 14 = .ok (.putfield 17, 3) := by decide +kernel
theorem dX0_init_17 : decode cX0_init 17 = .ok (.aload_n 0, 1) := by decide +kernel
theorem dX0_init_18 : decode cX0_init 18 = .ok (.iconst (-1), 1) := by decide +kernel
theorem dX0_init_19 : decode cX0_init 19 = .ok (.putfield 21, 3) := by decide +kernel
theorem dX0_init_22 : decode cX0_init 22 = .ok (.aload_n 0, 1) := by decide +kernel
theorem dX0_init_23 : decode cX0_init 23 = .ok (.iconst (-1), 1) := by decide +kernel
theorem dX0_init_24 : decode cX0_init 24 = .ok (.putfield 25, 3) := by decide +kernel
theorem dX0_init_27 : decode cX0_init 27 = .ok (.aload_n 0, 1) := by decide +kernel
theorem dX0_init_28 : decode cX0_init 28 = .ok (.iconst 0, 1) := by decide +kernel
theorem dX0_init_29 : decode cX0_init 29 = .ok (.putfield 28, 3) := by decide +kernel
theorem dX0_init_32 : decode cX0_init 32 = .ok (.aload_n 0, 1) := by decide +kernel
theorem dX0_init_33 : decode cX0_init 33 = .ok (.bipush 50, 2) := by decide +kernel
theorem dX0_init_35 : decode cX0_init 35 = .ok (.newarray .int, 2) := by decide +kernel
theorem dX0_init_37 : decode cX0_init 37 = .ok (.putfield 31, 3) := by decide +kernel
theorem dX0_init_40 : decode cX0_init 40 = .ok (.aload_n 0, 1) := by decide +kernel
theorem dX0_init_41 : decode cX0_init 41 = .ok (.iconst 0, 1) := by decide +kernel
theorem dX0_init_42 : decode cX0_init 42 = .ok (.putfield 35, 3) := by decide +kernel
theorem dX0_init_45 : decode cX0_init 45 = .ok (.aload_n 0, 1) := by decide +kernel
theorem dX0_init_46 : decode cX0_init 46 = .ok (.aload_n 1, 1) := by decide +kernel
theorem dX0_init_47 : decode cX0_init 47 = .ok (.putfield 38, 3) := by decide +kernel
theorem dX0_init_50 : decode cX0_init 50 = .ok (.iconst 0, 1) := by decide +kernel
theorem dX0_init_51 : decode cX0_init 51 = .ok (.istore_n 2, 1) := by decide +kernel
theorem dX0_init_52 : decode cX0_init 52 = .ok (.iload_n 2, 1) := by decide +kernel
theorem dX0_init_53 : decode cX0_init 53 = .ok (.iconst 5, 1) := by decide +kernel
theorem dX0_init_54 : decode cX0_init 54 = .ok (.if_icmp .ge 22, 3) := by decide +kernel
theorem dX0_init_57 : decode cX0_init 57 = .ok (.aload_n 0, 1) := by decide +kernel
theorem dX0_init_58 : decode cX0_init 58 = .ok (.getfield 11, 3) := by decide +kernel
theorem dX0_init_61 : decode cX0_init 61 = .ok (.iload_n 2, 1) := by decide +kernel
theorem dX0_init_62 : decode cX0_init 62 = .ok (.new 9, 3) := by decide +kernel
theorem dX0_init_65 : decode cX0_init 65 = .ok (.dup, 1) := by decide +kernel
theorem dX0_init_66 : decode cX0_init 66 = .ok (.invokespecial 42, 3) := by decide +kernel
theorem dX0_init_69 : decode cX0_init 69 = .ok (.aastore, 1) := by decide +kernel
theorem dX0_init_70 : decode cX0_init 70 = .ok (.iinc 2 1, 3) := by decide +kernel
theorem dX0_init_73 : decode cX0_init 73 = .ok (.goto (-21), 3) := by decide +kernel
theorem dX0_init_76 : decode cX0_init 76 = .ok (.return_, 1) := by decide +kernel
theorem dX0_size_0 : decode cX0_size 0 = .ok (.iconst 0, 1) := by decide +kernel
theorem dX0_size_1 : decode cX0_size 1 = .ok (.istore_n 1, 1) := by decide +kernel
theorem dX0_size_2 : decode cX0_size 2 = .ok (.iconst 0, 1) := by decide +kernel
theorem dX0_size_3 : decode cX0_size 3 = .ok (.istore_n 2, 1) := by decide +kernel
theorem dX0_size_4 : decode cX0_size 4 = .ok (.iload_n 2, 1) := by decide +kernel
theorem dX0_size_5 : decode cX0_size 5 = .ok (.iconst 5, 1) := by decide +kernel
theorem dX0_size_6 : decode cX0_size 6 = .ok (.if_icmp .ge 30, 3) := by decide +kernel
theorem dX0_size_9 : decode cX0_size 9 = .ok (.aload_n 0, 1) := by decide +kernel
theorem dX0_size_10 : decode cX0_size 10 = .ok (.getfield 11, 3) := by decide +kernel
theorem dX0_size_13 : decode cX0_size 13 = .ok (.iload_n 2, 1) := by decide +kernel
theorem dX0_size_14 : decode cX0_size 14 = .ok (.aaload, 1) := by decide +kernel
theorem dX0_size_15 : decode cX0_size 15 = .ok (.ifnull 15, 3) := by decide +kernel
theorem dX0_size_18 : decode cX0_size 18 = .ok (.iload_n 1, 1) := by decide +kernel
theorem dX0_size_19 : decode cX0_size 19 = .ok (.aload_n 0, 1) := by decide +kernel
theorem dX0_size_20 : decode cX0_size 20 = .ok (.getfield 11, 3) := by decide +kernel
theorem dX0_size_23 : decode cX0_size 23 = .ok (.iload_n 2, 1) := by decide +kernel
theorem dX0_size_24 : decode cX0_size 24 = .ok (.aaload, 1) := by decide +kernel
theorem dX0_size_25 : decode cX0_size 25 = .ok (.invokevirtual 43, 3) := by decide +kernel
theorem dX0_size_28 : decode cX0_size 28 = .ok (.iadd, 1) := by decide +kernel
theorem dX0_size_29 : decode cX0_size 29 = .ok (.istore_n 1, 1) := by decide +kernel
theorem dX0_size_30 : decode cX0_size 30 = .ok (.iinc 2 1, 3) := by decide +kernel
theorem dX0_size_33 : decode cX0_size 33 = .ok (.goto (-29), 3) := by decide +kernel
theorem dX0_size_36 : decode cX0_size 36 = .ok (.iload_n 1, 1) := by decide +kernel
theorem dX0_size_37 : decode cX0_size 37 = .ok (.ireturn, 1) := by decide +kernel
theorem dX0_isInIndex_0 : decode cX0_isInIndex 0 = .ok (.aload_n 0, 1) := by decide +kernel
theorem dX0_isInIndex_1 : decode cX0_isInIndex 1 = .ok (.getfield 17, 3) := by decide +kernel
theorem dX0_isInIndex_4 : decode cX0_isInIndex 4 = .ok (.ifCond .eq 14, 3) := by decide +kernel
theorem dX0_isInIndex_7 : decode cX0_isInIndex 7 = .ok (.aload_n 0, 1) := by decide +kernel
theorem dX0_isInIndex_8 : decode cX0_isInIndex 8 = .ok (.getfield 21, 3) := by decide +kernel
theorem dX0_isInIndex_11 : decode cX0_isInIndex 11 = .ok (.ifCond .le 7, 3) := by decide +kernel
theorem dX0_isInIndex_14 : decode cX0_isInIndex 14 = .ok (.iconst 1, 1) := by decide +kernel
theorem dX0_isInIndex_15 : decode cX0_isInIndex 15 = .ok (.goto 4, 3) := by decide +kernel
theorem dX0_isInIndex_18 : decode cX0_isInIndex 18 = .ok (.iconst 0, 1) := by decide +kernel
theorem dX0_isInIndex_19 : decode cX0_isInIndex 19 = .ok (.ireturn, 1) := by decide +kernel
theorem dX0_takeDueMark_0 : decode cX0_takeDueMark 0 = .ok (.aload_n 0, 1) := by decide +kernel
theorem dX0_takeDueMark_1 : decode cX0_takeDueMark 1 = .ok (.iload_n 1, 1) := by decide +kernel
theorem dX0_takeDueMark_2 : decode cX0_takeDueMark 2 = .ok (.putfield 25, 3) := by decide +kernel
theorem dX0_takeDueMark_5 : decode cX0_takeDueMark 5 = .ok (.iload_n 2, 1) := by decide +kernel
theorem dX0_takeDueMark_6 : decode cX0_takeDueMark 6 = .ok (.ifCond .eq 16, 3) := by decide +kernel
theorem dX0_takeDueMark_9 : decode cX0_takeDueMark 9 = .ok (.aload_n 0, 1) := by decide +kernel
theorem dX0_takeDueMark_10 : decode cX0_takeDueMark 10 = .ok (.dup, 1) := by decide +kernel
theorem dX0_takeDueMark_11 : decode cX0_takeDueMark 11 = .ok (.getfield 28, 3) := by decide +kernel
theorem dX0_takeDueMark_14 : decode cX0_takeDueMark 14 = .ok (.iconst 1, 1) := by decide +kernel
theorem dX0_takeDueMark_15 : decode cX0_takeDueMark 15 = .ok (.iadd, 1) := by decide +kernel
theorem dX0_takeDueMark_16 : decode cX0_takeDueMark 16 = .ok (.putfield 28, 3) := by decide +kernel
theorem dX0_takeDueMark_19 : decode cX0_takeDueMark 19 = .ok (.goto 8, 3) := by decide +kernel
theorem dX0_takeDueMark_22 : decode cX0_takeDueMark 22 = .ok (.aload_n 0, 1) := by decide +kernel
theorem dX0_takeDueMark_23 : decode cX0_takeDueMark 23 = .ok (.iload_n 1, 1) := by decide +kernel
theorem dX0_takeDueMark_24 : decode cX0_takeDueMark 24 = .ok (.putfield 21, 3) := by decide +kernel
theorem dX0_takeDueMark_27 : decode cX0_takeDueMark 27 = .ok (.return_, 1) := by decide +kernel
theorem dX0_findPrints_0 : decode cX0_findPrints 0 = .ok (.aload_n 0, 1) := by decide +kernel
theorem dX0_findPrints_1 : decode cX0_findPrints 1 = .ok (.iconst 0, 1) := by decide +kernel
theorem dX0_findPrints_2 : decode cX0_findPrints 2 = .ok (.putfield 35, 3) := by decide +kernel
theorem dX0_findPrints_5 : decode cX0_findPrints 5 = .ok (.aload_n 0, 1) := by decide +kernel
theorem dX0_findPrints_6 : decode cX0_findPrints 6 = .ok (.invokevirtual 47, 3) := by decide +kernel
theorem dX0_findPrints_9 : decode cX0_findPrints 9 = .ok (.ifCond .ne 4, 3) := by decide +kernel
theorem dX0_findPrints_12 : decode cX0_findPrints 12 = .ok (.return_, 1) := by decide +kernel
theorem dX0_findPrints_13 : decode cX0_findPrints 13 = .ok (.iconst 0, 1) := by decide +kernel
theorem dX0_findPrints_14 : decode cX0_findPrints 14 = .ok (.istore_n 1, 1) := by decide +kernel
theorem dX0_findPrints_15 : decode cX0_findPrints 15 = .ok (.iload_n 1, 1) := by decide +kernel
theorem dX0_findPrints_16 : decode cX0_findPrints 16 = .ok (.iconst 5, 1) := by decide +kernel
theorem dX0_findPrints_17 : decode cX0_findPrints 17 = .ok (.if_icmp .ge 53, 3) := by decide +kernel
theorem dX0_findPrints_20 : decode cX0_findPrints 20 = .ok (.aload_n 0, 1) := by decide +kernel
theorem dX0_findPrints_21 : decode cX0_findPrints 21 = .ok (.getfield 38, 3) := by decide +kernel
theorem dX0_findPrints_24 : decode cX0_findPrints 24 = .ok (.iload_n 1, 1) := by decide +kernel
theorem dX0_findPrints_25 : decode cX0_findPrints 25 = .ok (.invokestatic 51, 3) := by decide +kernel
theorem dX0_findPrints_28 : decode cX0_findPrints 28 = .ok (.astore_n 2, 1) := by decide +kernel
theorem dX0_findPrints_29 : decode cX0_findPrints 29 = .ok (.aload_n 2, 1) := by decide +kernel
theorem dX0_findPrints_30 : decode cX0_findPrints 30 = .ok (.ifnull 34, 3) := by decide +kernel
theorem dX0_findPrints_33 : decode cX0_findPrints 33 = .ok (.aload_n 2, 1) := by decide +kernel
theorem dX0_findPrints_34 : decode cX0_findPrints 34 = .ok (.getfield 55, 3) := by decide +kernel
theorem dX0_findPrints_37 : decode cX0_findPrints 37 = .ok (.iconst 2, 1) := by decide +kernel
theorem dX0_findPrints_38 : decode cX0_findPrints 38 = .ok (.if_icmp .ne 26, 3) := by decide +kernel
theorem dX0_findPrints_41 : decode cX0_findPrints 41 = .ok (.aload_n 0, 1) := by decide +kernel
theorem dX0_findPrints_42 : decode cX0_findPrints 42 = .ok (.getfield 11, 3) := by decide +kernel
theorem dX0_findPrints_45 : decode cX0_findPrints 45 = .ok (.iload_n 1, 1) := by decide +kernel
theorem dX0_findPrints_46 : decode cX0_findPrints 46 = .ok (.aaload, 1) := by decide +kernel
theorem dX0_findPrints_47 : decode cX0_findPrints 47 = .ok (.ifnull 17, 3) := by decide +kernel
theorem dX0_findPrints_50 : decode cX0_findPrints 50 = .ok (.aload_n 0, 1) := by decide +kernel
theorem dX0_findPrints_51 : decode cX0_findPrints 51 = .ok (.aload_n 0, 1) := by decide +kernel
theorem dX0_findPrints_52 : decode cX0_findPrints 52 = .ok (.getfield 11, 3) := by decide +kernel
theorem dX0_findPrints_55 : decode cX0_findPrints 55 = .ok (.iload_n 1, 1) := by decide +kernel
theorem dX0_findPrints_56 : decode cX0_findPrints 56 = .ok (.aaload, 1) := by decide +kernel
theorem dX0_findPrints_57 : decode cX0_findPrints 57 = .ok (.aload_n 2, 1) := by decide +kernel
theorem dX0_findPrints_58 : decode cX0_findPrints 58 = .ok (.getfield 60, 3) := by decide +kernel
theorem dX0_findPrints_61 : decode cX0_findPrints 61 = .ok (.invokevirtual 63, 3) := by decide +kernel
theorem dX0_findPrints_64 : decode cX0_findPrints 64 = .ok (.iinc 1 1, 3) := by decide +kernel
theorem dX0_findPrints_67 : decode cX0_findPrints 67 = .ok (.goto (-52), 3) := by decide +kernel
theorem dX0_findPrints_70 : decode cX0_findPrints 70 = .ok (.return_, 1) := by decide +kernel
theorem dX0_findPrintsOf_0 : decode cX0_findPrintsOf 0 = .ok (.iconst 0, 1) := by decide +kernel
theorem dX0_findPrintsOf_1 : decode cX0_findPrintsOf 1 = .ok (.istore_n 3, 1) := by decide +kernel
theorem dX0_findPrintsOf_2 : decode cX0_findPrintsOf 2 = .ok (.iload_n 3, 1) := by decide +kernel
theorem dX0_findPrintsOf_3 : decode cX0_findPrintsOf 3 = .ok (.iconst 3, 1) := by decide +kernel
theorem dX0_findPrintsOf_4 : decode cX0_findPrintsOf 4 = .ok (.iadd, 1) := by decide +kernel
theorem dX0_findPrintsOf_5 : decode cX0_findPrintsOf 5 = .ok (.aload_n 1, 1) := by decide +kernel
theorem dX0_findPrintsOf_6 : decode cX0_findPrintsOf 6 = .ok (.getfield 67, 3) := by decide +kernel
theorem dX0_findPrintsOf_9 : decode cX0_findPrintsOf 9 = .ok (.if_icmp .gt 31, 3) := by decide +kernel
theorem dX0_findPrintsOf_12 : decode cX0_findPrintsOf 12 = .ok (.aload_n 1, 1) := by decide +kernel
theorem dX0_findPrintsOf_13 : decode cX0_findPrintsOf 13 = .ok (.iload_n 3, 1) := by decide +kernel
theorem dX0_findPrintsOf_14 : decode cX0_findPrintsOf 14 = .ok (.invokevirtual 70, 3) := by decide +kernel
theorem dX0_findPrintsOf_17 : decode cX0_findPrintsOf 17 = .ok (.istore 4, 2) := by decide +kernel
theorem dX0_findPrintsOf_19 : decode cX0_findPrintsOf 19 = .ok (.iload_n 2, 1) := by decide +kernel
theorem dX0_findPrintsOf_20 : decode cX0_findPrintsOf 20 = .ok (.iload 4, 2) := by decide +kernel
theorem dX0_findPrintsOf_22 : decode cX0_findPrintsOf 22 = .ok (.invokestatic 74, 3) := by decide +kernel
theorem dX0_findPrintsOf_25 : decode cX0_findPrintsOf 25 = .ok (.ifCond .ne 9, 3) := by decide +kernel
theorem dX0_findPrintsOf_28 : decode cX0_findPrintsOf 28 = .ok (.aload_n 0, 1) := by decide +kernel
theorem dX0_findPrintsOf_29 : decode cX0_findPrintsOf 29 = .ok (.iload 4, 2) := by decide +kernel
theorem dX0_findPrintsOf_31 : decode cX0_findPrintsOf 31 = .ok (.invokevirtual 78, 3) := by decide +kernel
theorem dX0_findPrintsOf_34 : decode cX0_findPrintsOf 34 = .ok (.iinc 3 1, 3) := by decide +kernel
theorem dX0_findPrintsOf_37 : decode cX0_findPrintsOf 37 = .ok (.goto (-35), 3) := by decide +kernel
theorem dX0_findPrintsOf_40 : decode cX0_findPrintsOf 40 = .ok (.return_, 1) := by decide +kernel
theorem dX0_insertPrint_0 : decode cX0_insertPrint 0 = .ok (.aload_n 0, 1) := by decide +kernel
theorem dX0_insertPrint_1 : decode cX0_insertPrint 1 = .ok (.iload_n 1, 1) := by decide +kernel
theorem dX0_insertPrint_2 : decode cX0_insertPrint 2 = .ok (.invokevirtual 82, 3) := by decide +kernel
theorem dX0_insertPrint_5 : decode cX0_insertPrint 5 = .ok (.istore_n 2, 1) := by decide +kernel
theorem dX0_insertPrint_6 : decode cX0_insertPrint 6 = .ok (.iload_n 2, 1) := by decide +kernel
theorem dX0_insertPrint_7 : decode cX0_insertPrint 7 = .ok (.aload_n 0, 1) := by decide +kernel
theorem dX0_insertPrint_8 : decode cX0_insertPrint 8 = .ok (.getfield 35, 3) := by decide +kernel
theorem dX0_insertPrint_11 : decode cX0_insertPrint 11 = .ok (.if_icmp .ge 17, 3) := by decide +kernel
theorem dX0_insertPrint_14 : decode cX0_insertPrint 14 = .ok (.aload_n 0, 1) := by decide +kernel
theorem dX0_insertPrint_15 : decode cX0_insertPrint 15 = .ok (.getfield 31, 3) := by decide +kernel
theorem dX0_insertPrint_18 : decode cX0_insertPrint 18 = .ok (.iload_n 2, 1) := by decide +kernel
theorem dX0_insertPrint_19 : decode cX0_insertPrint 19 = .ok (.iaload, 1) := by decide +kernel
theorem dX0_insertPrint_20 : decode cX0_insertPrint 20 = .ok (.iload_n 1, 1) := by decide +kernel
theorem dX0_insertPrint_21 : decode cX0_insertPrint 21 = .ok (.if_icmp .ne 7, 3) := by decide +kernel
theorem dX0_insertPrint_24 : decode cX0_insertPrint 24 = .ok (.iconst 1, 1) := by decide +kernel
theorem dX0_insertPrint_25 : decode cX0_insertPrint 25 = .ok (.goto 4, 3) := by decide +kernel
theorem dX0_insertPrint_28 : decode cX0_insertPrint 28 = .ok (.iconst 0, 1) := by decide +kernel
theorem dX0_insertPrint_29 : decode cX0_insertPrint 29 = .ok (.istore_n 3, 1) := by decide +kernel
theorem dX0_insertPrint_30 : decode cX0_insertPrint 30 = .ok (.iload_n 3, 1) := by decide +kernel
theorem dX0_insertPrint_31 : decode cX0_insertPrint 31 = .ok (.ifCond .ne 12, 3) := by decide +kernel
theorem dX0_insertPrint_34 : decode cX0_insertPrint 34 = .ok (.aload_n 0, 1) := by decide +kernel
theorem dX0_insertPrint_35 : decode cX0_insertPrint 35 = .ok (.getfield 35, 3) := by decide +kernel
theorem dX0_insertPrint_38 : decode cX0_insertPrint 38 = .ok (.bipush 50, 2) := by decide +kernel
theorem dX0_insertPrint_40 : decode cX0_insertPrint 40 = .ok (.if_icmp .lt 4, 3) := by decide +kernel
theorem dX0_insertPrint_43 : decode cX0_insertPrint 43 = .ok (.return_, 1) := by decide +kernel
theorem dX0_insertPrint_44 : decode cX0_insertPrint 44 = .ok (.aload_n 0, 1) := by decide +kernel
theorem dX0_insertPrint_45 : decode cX0_insertPrint 45 = .ok (.getfield 35, 3) := by decide +kernel
theorem dX0_insertPrint_48 : decode cX0_insertPrint 48 = .ok (.istore 4, 2) := by decide +kernel
theorem dX0_insertPrint_50 : decode cX0_insertPrint 50 = .ok (.iload 4, 2) := by decide +kernel
theorem dX0_insertPrint_52 : decode cX0_insertPrint 52 = .ok (.iload_n 2, 1) := by decide +kernel
theorem dX0_insertPrint_53 : decode cX0_insertPrint 53 = .ok (.if_icmp .le 25, 3) := by decide +kernel
theorem dX0_insertPrint_56 : decode cX0_insertPrint 56 = .ok (.aload_n 0, 1) := by decide +kernel
theorem dX0_insertPrint_57 : decode cX0_insertPrint 57 = .ok (.getfield 31, 3) := by decide +kernel
theorem dX0_insertPrint_60 : decode cX0_insertPrint 60 = .ok (.iload 4, 2) := by decide +kernel
theorem dX0_insertPrint_62 : decode cX0_insertPrint 62 = .ok (.aload_n 0, 1) := by decide +kernel
theorem dX0_insertPrint_63 : decode cX0_insertPrint 63 = .ok (.getfield 31, 3) := by decide +kernel
theorem dX0_insertPrint_66 : decode cX0_insertPrint 66 = .ok (.iload 4, 2) := by decide +kernel
theorem dX0_insertPrint_68 : decode cX0_insertPrint 68 = .ok (.iconst 1, 1) := by decide +kernel
theorem dX0_insertPrint_69 : decode cX0_insertPrint 69 = .ok (.isub, 1) := by decide +kernel
theorem dX0_insertPrint_70 : decode cX0_insertPrint 70 = .ok (.iaload, 1) := by decide +kernel
theorem dX0_insertPrint_71 : decode cX0_insertPrint 71 = .ok (.iastore, 1) := by decide +kernel
theorem dX0_insertPrint_72 : decode cX0_insertPrint 72 = .ok (.iinc 4 (-1), 3) := by decide +kernel
theorem dX0_insertPrint_75 : decode cX0_insertPrint 75 = .ok (.goto (-25), 3) := by decide +kernel
theorem dX0_insertPrint_78 : decode cX0_insertPrint 78 = .ok (.aload_n 0, 1) := by decide +kernel
theorem dX0_insertPrint_79 : decode cX0_insertPrint 79 = .ok (.getfield 31, 3) := by decide +kernel
theorem dX0_insertPrint_82 : decode cX0_insertPrint 82 = .ok (.iload_n 2, 1) := by decide +kernel
theorem dX0_insertPrint_83 : decode cX0_insertPrint 83 = .ok (.iload_n 1, 1) := by decide +kernel
theorem dX0_insertPrint_84 : decode cX0_insertPrint 84 = .ok (.iastore, 1) := by decide +kernel
theorem dX0_insertPrint_85 : decode cX0_insertPrint 85 = .ok (.aload_n 0, 1) := by decide +kernel
theorem dX0_insertPrint_86 : decode cX0_insertPrint 86 = .ok (.dup, 1) := by decide +kernel
theorem dX0_insertPrint_87 : decode cX0_insertPrint 87 = .ok (.getfield 35, 3) := by decide +kernel
theorem dX0_insertPrint_90 : decode cX0_insertPrint 90 = .ok (.iconst 1, 1) := by decide +kernel
theorem dX0_insertPrint_91 : decode cX0_insertPrint 91 = .ok (.iadd, 1) := by decide +kernel
theorem dX0_insertPrint_92 : decode cX0_insertPrint 92 = .ok (.putfield 35, 3) := by decide +kernel
theorem dX0_insertPrint_95 : decode cX0_insertPrint 95 = .ok (.return_, 1) := by decide +kernel
theorem dX0_placeOf_0 : decode cX0_placeOf 0 = .ok (.iconst 0, 1) := by decide +kernel
theorem dX0_placeOf_1 : decode cX0_placeOf 1 = .ok (.istore_n 2, 1) := by decide +kernel
theorem dX0_placeOf_2 : decode cX0_placeOf 2 = .ok (.iload_n 2, 1) := by decide +kernel
theorem dX0_placeOf_3 : decode cX0_placeOf 3 = .ok (.aload_n 0, 1) := by decide +kernel
theorem dX0_placeOf_4 : decode cX0_placeOf 4 = .ok (.getfield 35, 3) := by decide +kernel
theorem dX0_placeOf_7 : decode cX0_placeOf 7 = .ok (.if_icmp .ge 19, 3) := by decide +kernel
theorem dX0_placeOf_10 : decode cX0_placeOf 10 = .ok (.aload_n 0, 1) := by decide +kernel
theorem dX0_placeOf_11 : decode cX0_placeOf 11 = .ok (.getfield 31, 3) := by decide +kernel
theorem dX0_placeOf_14 : decode cX0_placeOf 14 = .ok (.iload_n 2, 1) := by decide +kernel
theorem dX0_placeOf_15 : decode cX0_placeOf 15 = .ok (.iaload, 1) := by decide +kernel
theorem dX0_placeOf_16 : decode cX0_placeOf 16 = .ok (.iload_n 1, 1) := by decide +kernel
theorem dX0_placeOf_17 : decode cX0_placeOf 17 = .ok (.if_icmp .ge 9, 3) := by decide +kernel
theorem dX0_placeOf_20 : decode cX0_placeOf 20 = .ok (.iinc 2 1, 3) := by decide +kernel
theorem dX0_placeOf_23 : decode cX0_placeOf 23 = .ok (.goto (-21), 3) := by decide +kernel
theorem dX0_placeOf_26 : decode cX0_placeOf 26 = .ok (.iload_n 2, 1) := by decide +kernel
theorem dX0_placeOf_27 : decode cX0_placeOf 27 = .ok (.ireturn, 1) := by decide +kernel
theorem dX0_hasPrint_0 : decode cX0_hasPrint 0 = .ok (.aload_n 0, 1) := by decide +kernel
theorem dX0_hasPrint_1 : decode cX0_hasPrint 1 = .ok (.iload_n 1, 1) := by decide +kernel
theorem dX0_hasPrint_2 : decode cX0_hasPrint 2 = .ok (.invokevirtual 82, 3) := by decide +kernel
theorem dX0_hasPrint_5 : decode cX0_hasPrint 5 = .ok (.istore_n 2, 1) := by decide +kernel
theorem dX0_hasPrint_6 : decode cX0_hasPrint 6 = .ok (.iload_n 2, 1) := by decide +kernel
theorem dX0_hasPrint_7 : decode cX0_hasPrint 7 = .ok (.aload_n 0, 1) := by decide +kernel
theorem dX0_hasPrint_8 : decode cX0_hasPrint 8 = .ok (.getfield 35, 3) := by decide +kernel
theorem dX0_hasPrint_11 : decode cX0_hasPrint 11 = .ok (.if_icmp .ge 17, 3) := by decide +kernel
theorem dX0_hasPrint_14 : decode cX0_hasPrint 14 = .ok (.aload_n 0, 1) := by decide +kernel
theorem dX0_hasPrint_15 : decode cX0_hasPrint 15 = .ok (.getfield 31, 3) := by decide +kernel
theorem dX0_hasPrint_18 : decode cX0_hasPrint 18 = .ok (.iload_n 2, 1) := by decide +kernel
theorem dX0_hasPrint_19 : decode cX0_hasPrint 19 = .ok (.iaload, 1) := by decide +kernel
theorem dX0_hasPrint_20 : decode cX0_hasPrint 20 = .ok (.iload_n 1, 1) := by decide +kernel
theorem dX0_hasPrint_21 : decode cX0_hasPrint 21 = .ok (.if_icmp .ne 7, 3) := by decide +kernel
theorem dX0_hasPrint_24 : decode cX0_hasPrint 24 = .ok (.iconst 1, 1) := by decide +kernel
theorem dX0_hasPrint_25 : decode cX0_hasPrint 25 = .ok (.goto 4, 3) := by decide +kernel
theorem dX0_hasPrint_28 : decode cX0_hasPrint 28 = .ok (.iconst 0, 1) := by decide +kernel
theorem dX0_hasPrint_29 : decode cX0_hasPrint 29 = .ok (.ireturn, 1) := by decide +kernel
theorem dX0_commonPrints_0 : decode cX0_commonPrints 0 = .ok (.iconst 0, 1) := by decide +kernel
theorem dX0_commonPrints_1 : decode cX0_commonPrints 1 = .ok (.istore_n 2, 1) := by decide +kernel
theorem dX0_commonPrints_2 : decode cX0_commonPrints 2 = .ok (.iconst 0, 1) := by decide +kernel
theorem dX0_commonPrints_3 : decode cX0_commonPrints 3 = .ok (.istore_n 3, 1) := by decide +kernel
theorem dX0_commonPrints_4 : decode cX0_commonPrints 4 = .ok (.iconst 0, 1) := by decide +kernel
theorem dX0_commonPrints_5 : decode cX0_commonPrints 5 = .ok (.istore 4, 2) := by decide +kernel
theorem dX0_commonPrints_7 : decode cX0_commonPrints 7 = .ok (.iload_n 3, 1) := by decide +kernel
theorem dX0_commonPrints_8 : decode cX0_commonPrints 8 = .ok (.aload_n 0, 1) := by decide +kernel
theorem dX0_commonPrints_9 : decode cX0_commonPrints 9 = .ok (.getfield 35, 3) := by decide +kernel
theorem dX0_commonPrints_12 : decode cX0_commonPrints 12 = .ok (.if_icmp .ge 62, 3) := by decide +kernel
theorem dX0_commonPrints_15 : decode cX0_commonPrints 15 = .ok (.iload 4, 2) := by decide +kernel
theorem dX0_commonPrints_17 : decode cX0_commonPrints 17 = .ok (.aload_n 1, 1) := by decide +kernel
theorem dX0_commonPrints_18 : decode cX0_commonPrints 18 = .ok (.getfield 35, 3) := by decide +kernel
theorem dX0_commonPrints_21 : decode cX0_commonPrints 21 = .ok (.if_icmp .ge 53, 3) := by decide +kernel
theorem dX0_commonPrints_24 : decode cX0_commonPrints 24 = .ok (.aload_n 0, 1) := by decide +kernel
theorem dX0_commonPrints_25 : decode cX0_commonPrints 25 = .ok (.getfield 31, 3) := by decide +kernel
theorem dX0_commonPrints_28 : decode cX0_commonPrints 28 = .ok (.iload_n 3, 1) := by decide +kernel
theorem dX0_commonPrints_29 : decode cX0_commonPrints 29 = .ok (.iaload, 1) := by decide +kernel
theorem dX0_commonPrints_30 : decode cX0_commonPrints 30 = .ok (.istore 5, 2) := by decide +kernel
theorem dX0_commonPrints_32 : decode cX0_commonPrints 32 = .ok (.aload_n 1, 1) := by decide +kernel
theorem dX0_commonPrints_33 : decode cX0_commonPrints 33 = .ok (.getfield 31, 3) := by decide +kernel
theorem dX0_commonPrints_36 : decode cX0_commonPrints 36 = .ok (.iload 4, 2) := by decide +kernel
theorem dX0_commonPrints_38 : decode cX0_commonPrints 38 = .ok (.iaload, 1) := by decide +kernel
theorem dX0_commonPrints_39 : decode cX0_commonPrints 39 = .ok (.istore 6, 2) := by decide +kernel
theorem dX0_commonPrints_41 : decode cX0_commonPrints 41 = .ok (.iload 5, 2) := by decide +kernel
theorem dX0_commonPrints_43 : decode cX0_commonPrints 43 = .ok (.iload 6, 2) := by decide +kernel
theorem dX0_commonPrints_45 : decode cX0_commonPrints 45 = .ok (.if_icmp .ne 6, 3) := by decide +kernel
theorem dX0_commonPrints_48 : decode cX0_commonPrints 48 = .ok (.iinc 2 1, 3) := by decide +kernel
theorem dX0_commonPrints_51 : decode cX0_commonPrints 51 = .ok (.iload 5, 2) := by decide +kernel
theorem dX0_commonPrints_53 : decode cX0_commonPrints 53 = .ok (.iload 6, 2) := by decide +kernel
theorem dX0_commonPrints_55 : decode cX0_commonPrints 55 = .ok (.if_icmp .gt 6, 3) := by decide +kernel
theorem dX0_commonPrints_58 : decode cX0_commonPrints 58 = .ok (.iinc 3 1, 3) := by decide +kernel
theorem dX0_commonPrints_61 : decode cX0_commonPrints 61 = .ok (.iload 6, 2) := by decide +kernel
theorem dX0_commonPrints_63 : decode cX0_commonPrints 63 = .ok (.iload 5, 2) := by decide +kernel
theorem dX0_commonPrints_65 : decode cX0_commonPrints 65 = .ok (.if_icmp .gt 6, 3) := by decide +kernel
theorem dX0_commonPrints_68 : decode cX0_commonPrints 68 = .ok (.iinc 4 1, 3) := by decide +kernel
theorem dX0_commonPrints_71 : decode cX0_commonPrints 71 = .ok (.goto (-64), 3) := by decide +kernel
theorem dX0_commonPrints_74 : decode cX0_commonPrints 74 = .ok (.iload_n 2, 1) := by decide +kernel
theorem dX0_commonPrints_75 : decode cX0_commonPrints 75 = .ok (.ireturn, 1) := by decide +kernel
theorem dX1_init_0 : decode cX1_init 0 = .ok (.aload_n 0, 1) := by decide +kernel
theorem dX1_init_1 : decode cX1_init 1 = .ok (.invokespecial 3, 3) := by decide +kernel
theorem dX1_init_4 : decode cX1_init 4 = .ok (.aload_n 0, 1) := by decide +kernel
theorem dX1_init_5 : decode cX1_init 5 = .ok (.iload_n 1, 1) := by decide +kernel
theorem dX1_init_6 : decode cX1_init 6 = .ok (.putfield 9, 3) := by decide +kernel
theorem dX1_init_9 : decode cX1_init 9 = .ok (.aload_n 0, 1) := by decide +kernel
theorem dX1_init_10 : decode cX1_init 10 = .ok (.iload_n 2, 1) := by decide +kernel
theorem dX1_init_11 : decode cX1_init 11 = .ok (.putfield 15, 3) := by decide +kernel
theorem dX1_init_14 : decode cX1_init 14 = .ok (.aload_n 0, 1) := by decide +kernel
theorem dX1_init_15 : decode cX1_init 15 = .ok (.iload_n 3, 1) := by decide +kernel
theorem dX1_init_16 : decode cX1_init 16 = .ok (.putfield 18, 3) := by decide +kernel
theorem dX1_init_19 : decode cX1_init 19 = .ok (.aload_n 0, 1) := by decide +kernel
theorem dX1_init_20 : decode cX1_init 20 = .ok (.iload 4, 2) := by decide +kernel
theorem dX1_init_22 : decode cX1_init 22 = .ok (.putfield 21, 3) := by decide +kernel
theorem dX1_init_25 : decode cX1_init 25 = .ok (.return_, 1) := by decide +kernel
theorem dX1_size_0 : decode cX1_size 0 = .ok (.aload_n 0, 1) := by decide +kernel
theorem dX1_size_1 : decode cX1_size 1 = .ok (.aload_n 0, 1) := by decide +kernel
theorem dX1_size_2 : decode cX1_size 2 = .ok (.getfield 18, 3) := by decide +kernel
theorem dX1_size_5 : decode cX1_size 5 = .ok (.invokevirtual 24, 3) := by decide +kernel
theorem dX1_size_8 : decode cX1_size 8 = .ok (.ireturn, 1) := by decide +kernel
theorem dX1_sizeWith_0 : decode cX1_sizeWith 0 = .ok (.aload_n 0, 1) := by decide +kernel
theorem dX1_sizeWith_1 : decode cX1_sizeWith 1 = .ok (.getfield 9, 3) := by decide +kernel
theorem dX1_sizeWith_4 : decode cX1_sizeWith 4 = .ok (.ifCond .ne 5, 3) := by decide +kernel
theorem dX1_sizeWith_7 : decode cX1_sizeWith 7 = .ok (.iconst 2, 1) := by decide +kernel
theorem dX1_sizeWith_8 : decode cX1_sizeWith 8 = .ok (.ireturn, 1) := by decide +kernel
theorem dX1_sizeWith_9 : decode cX1_sizeWith 9 = .ok (.aload_n 0, 1) := by decide +kernel
theorem dX1_sizeWith_10 : decode cX1_sizeWith 10 = .ok (.getfield 9, 3) := by decide +kernel
theorem dX1_sizeWith_13 : decode cX1_sizeWith 13 = .ok (.iconst 2, 1) := by decide +kernel
theorem dX1_sizeWith_14 : decode cX1_sizeWith 14 = .ok (.if_icmp .ne 10, 3) := by decide +kernel
theorem dX1_sizeWith_17 : decode cX1_sizeWith 17 = .ok (.iload_n 1, 1) := by decide +kernel
theorem dX1_sizeWith_18 : decode cX1_sizeWith 18 = .ok (.invokestatic 28, 3) := by decide +kernel
theorem dX1_sizeWith_21 : decode cX1_sizeWith 21 = .ok (.goto 4, 3) := by decide +kernel
theorem dX1_sizeWith_24 : decode cX1_sizeWith 24 = .ok (.iconst 1, 1) := by decide +kernel
theorem dX1_sizeWith_25 : decode cX1_sizeWith 25 = .ok (.ireturn, 1) := by decide +kernel
theorem dX1_earned_0 : decode cX1_earned 0 = .ok (.aload_n 0, 1) := by decide +kernel
theorem dX1_earned_1 : decode cX1_earned 1 = .ok (.getfield 9, 3) := by decide +kernel
theorem dX1_earned_4 : decode cX1_earned 4 = .ok (.ifCond .ne 38, 3) := by decide +kernel
theorem dX1_earned_7 : decode cX1_earned 7 = .ok (.aload_n 1, 1) := by decide +kernel
theorem dX1_earned_8 : decode cX1_earned 8 = .ok (.getfield 31, 3) := by decide +kernel
theorem dX1_earned_11 : decode cX1_earned 11 = .ok (.ifCond .eq 29, 3) := by decide +kernel
theorem dX1_earned_14 : decode cX1_earned 14 = .ok (.aload_n 1, 1) := by decide +kernel
theorem dX1_earned_15 : decode cX1_earned 15 = .ok (.getfield 37, 3) := by decide +kernel
theorem dX1_earned_18 : decode cX1_earned 18 = .ok (.aload_n 0, 1) := by decide +kernel
theorem dX1_earned_19 : decode cX1_earned 19 = .ok (.getfield 18, 3) := by decide +kernel
theorem dX1_earned_22 : decode cX1_earned 22 = .ok (.isub, 1) := by decide +kernel
theorem dX1_earned_23 : decode cX1_earned 23 = .ok (.invokestatic 40, 3) := by decide +kernel
theorem dX1_earned_26 : decode cX1_earned 26 = .ok (.aload_n 0, 1) := by decide +kernel
theorem dX1_earned_27 : decode cX1_earned 27 = .ok (.getfield 21, 3) := by decide +kernel
theorem dX1_earned_30 : decode cX1_earned 30 = .ok (.if_icmp .gt 10, 3) := by decide +kernel
theorem dX1_earned_33 : decode cX1_earned 33 = .ok (.aload_n 0, 1) := by decide +kernel
theorem dX1_earned_34 : decode cX1_earned 34 = .ok (.getfield 15, 3) := by decide +kernel
theorem dX1_earned_37 : decode cX1_earned 37 = .ok (.goto 4, 3) := by decide +kernel
theorem dX1_earned_40 : decode cX1_earned 40 = .ok (.iconst 0, 1) := by decide +kernel
theorem dX1_earned_41 : decode cX1_earned 41 = .ok (.ireturn, 1) := by decide +kernel
theorem dX1_earned_42 : decode cX1_earned 42 = .ok (.aload_n 0, 1) := by decide +kernel
theorem dX1_earned_43 : decode cX1_earned 43 = .ok (.getfield 9, 3) := by decide +kernel
theorem dX1_earned_46 : decode cX1_earned 46 = .ok (.iconst 1, 1) := by decide +kernel
theorem dX1_earned_47 : decode cX1_earned 47 = .ok (.if_icmp .ne 12, 3) := by decide +kernel
theorem dX1_earned_50 : decode cX1_earned 50 = .ok (.aload_n 0, 1) := by decide +kernel
theorem dX1_earned_51 : decode cX1_earned 51 = .ok (.aload_n 1, 1) := by decide +kernel
theorem dX1_earned_52 : decode cX1_earned 52 = .ok (.getfield 45, 3) := by decide +kernel
theorem dX1_earned_55 : decode cX1_earned 55 = .ok (.invokevirtual 48, 3) := by decide +kernel
theorem dX1_earned_58 : decode cX1_earned 58 = .ok (.ireturn, 1) := by decide +kernel
theorem dX1_earned_59 : decode cX1_earned 59 = .ok (.aload_n 0, 1) := by decide +kernel
theorem dX1_earned_60 : decode cX1_earned 60 = .ok (.getfield 18, 3) := by decide +kernel
theorem dX1_earned_63 : decode cX1_earned 63 = .ok (.invokestatic 28, 3) := by decide +kernel
theorem dX1_earned_66 : decode cX1_earned 66 = .ok (.istore_n 3, 1) := by decide +kernel
theorem dX1_earned_67 : decode cX1_earned 67 = .ok (.iload_n 3, 1) := by decide +kernel
theorem dX1_earned_68 : decode cX1_earned 68 = .ok (.ifCond .ne 7, 3) := by decide +kernel
theorem dX1_earned_71 : decode cX1_earned 71 = .ok (.iconst 0, 1) := by decide +kernel
theorem dX1_earned_72 : decode cX1_earned 72 = .ok (.goto 11, 3) := by decide +kernel
theorem dX1_earned_75 : decode cX1_earned 75 = .ok (.aload_n 0, 1) := by decide +kernel
theorem dX1_earned_76 : decode cX1_earned 76 = .ok (.getfield 15, 3) := by decide +kernel
theorem dX1_earned_79 : decode cX1_earned 79 = .ok (.iload_n 2, 1) := by decide +kernel
theorem dX1_earned_80 : decode cX1_earned 80 = .ok (.imul, 1) := by decide +kernel
theorem dX1_earned_81 : decode cX1_earned 81 = .ok (.iload_n 3, 1) := by decide +kernel
theorem dX1_earned_82 : decode cX1_earned 82 = .ok (.idiv, 1) := by decide +kernel
theorem dX1_earned_83 : decode cX1_earned 83 = .ok (.ireturn, 1) := by decide +kernel
theorem dX1_earnedByChoice_0 : decode cX1_earnedByChoice 0 = .ok (.aload_n 0, 1) := by decide +kernel
theorem dX1_earnedByChoice_1 : decode cX1_earnedByChoice 1 = .ok (.getfield 18, 3) := by decide +kernel
theorem dX1_earnedByChoice_4 : decode cX1_earnedByChoice 4 = .ok (.invokestatic 51, 3) := by decide +kernel
theorem dX1_earnedByChoice_7 : decode cX1_earnedByChoice 7 = .ok (.istore_n 2, 1) := by decide +kernel
theorem dX1_earnedByChoice_8 : decode cX1_earnedByChoice 8 = .ok (.iload_n 2, 1) := by decide +kernel
theorem dX1_earnedByChoice_9 : decode cX1_earnedByChoice 9 = .ok (.ifCond .ne 16, 3) := by decide +kernel
theorem dX1_earnedByChoice_12 : decode cX1_earnedByChoice 12 = .ok (.iload_n 1, 1) := by decide +kernel
theorem dX1_earnedByChoice_13 : decode cX1_earnedByChoice 13 = .ok (.ifCond .ne 10, 3) := by decide +kernel
theorem dX1_earnedByChoice_16 : decode cX1_earnedByChoice 16 = .ok (.aload_n 0, 1) := by decide +kernel
theorem dX1_earnedByChoice_17 : decode cX1_earnedByChoice 17 = .ok (.getfield 15, 3) := by decide +kernel
theorem dX1_earnedByChoice_20 : decode cX1_earnedByChoice 20 = .ok (.goto 4, 3) := by decide +kernel
theorem dX1_earnedByChoice_23 : decode cX1_earnedByChoice 23 = .ok (.iconst 0, 1) := by decide +kernel
theorem dX1_earnedByChoice_24 : decode cX1_earnedByChoice 24 = .ok (.ireturn, 1) := by decide +kernel
theorem dX1_earnedByChoice_25 : decode cX1_earnedByChoice 25 = .ok (.iload_n 1, 1) := by decide +kernel
theorem dX1_earnedByChoice_26 : decode cX1_earnedByChoice 26 = .ok (.aload_n 0, 1) := by decide +kernel
theorem dX1_earnedByChoice_27 : decode cX1_earnedByChoice 27 = .ok (.getfield 18, 3) := by decide +kernel
theorem dX1_earnedByChoice_30 : decode cX1_earnedByChoice 30 = .ok (.iand, 1) := by decide +kernel
theorem dX1_earnedByChoice_31 : decode cX1_earnedByChoice 31 = .ok (.invokestatic 51, 3) := by decide +kernel
theorem dX1_earnedByChoice_34 : decode cX1_earnedByChoice 34 = .ok (.istore_n 3, 1) := by decide +kernel
theorem dX1_earnedByChoice_35 : decode cX1_earnedByChoice 35 = .ok (.iload_n 1, 1) := by decide +kernel
theorem dX1_earnedByChoice_36 : decode cX1_earnedByChoice 36 = .ok (.aload_n 0, 1) := by decide +kernel
theorem dX1_earnedByChoice_37 : decode cX1_earnedByChoice 37 = .ok (.getfield 18, 3) := by decide +kernel
theorem dX1_earnedByChoice_40 : decode cX1_earnedByChoice 40 = .ok (.iconst (-1), 1) := by decide +kernel
theorem dX1_earnedByChoice_41 : decode cX1_earnedByChoice 41 = .ok (.ixor, 1) := by decide +kernel
theorem dX1_earnedByChoice_42 : decode cX1_earnedByChoice 42 = .ok (.iand, 1) := by decide +kernel
theorem dX1_earnedByChoice_43 : decode cX1_earnedByChoice 43 = .ok (.invokestatic 51, 3) := by decide +kernel
theorem dX1_earnedByChoice_46 : decode cX1_earnedByChoice 46 = .ok (.istore 4, 2) := by decide +kernel
theorem dX1_earnedByChoice_48 : decode cX1_earnedByChoice 48 = .ok (.aload_n 0, 1) := by decide +kernel
theorem dX1_earnedByChoice_49 : decode cX1_earnedByChoice 49 = .ok (.getfield 15, 3) := by decide +kernel
theorem dX1_earnedByChoice_52 : decode cX1_earnedByChoice 52 = .ok (.iload_n 3, 1) := by decide +kernel
theorem dX1_earnedByChoice_53 : decode cX1_earnedByChoice 53 = .ok (.iload 4, 2) := by decide +kernel
theorem dX1_earnedByChoice_55 : decode cX1_earnedByChoice 55 = .ok (.isub, 1) := by decide +kernel
theorem dX1_earnedByChoice_56 : decode cX1_earnedByChoice 56 = .ok (.iconst 0, 1) := by decide +kernel
theorem dX1_earnedByChoice_57 : decode cX1_earnedByChoice 57 = .ok (.invokestatic 56, 3) := by decide +kernel
theorem dX1_earnedByChoice_60 : decode cX1_earnedByChoice 60 = .ok (.imul, 1) := by decide +kernel
theorem dX1_earnedByChoice_61 : decode cX1_earnedByChoice 61 = .ok (.iload_n 2, 1) := by decide +kernel
theorem dX1_earnedByChoice_62 : decode cX1_earnedByChoice 62 = .ok (.idiv, 1) := by decide +kernel
theorem dX1_earnedByChoice_63 : decode cX1_earnedByChoice 63 = .ok (.ireturn, 1) := by decide +kernel
theorem dX2_init_0 : decode cX2_init 0 = .ok (.aload_n 0, 1) := by decide +kernel
theorem dX2_init_1 : decode cX2_init 1 = .ok (.invokespecial 3, 3) := by decide +kernel
theorem dX2_init_4 : decode cX2_init 4 = .ok (.aload_n 0, 1) := by decide +kernel
theorem dX2_init_5 : decode cX2_init 5 = .ok (.iconst 0, 1) := by decide +kernel
theorem dX2_init_6 : decode cX2_init 6 = .ok (.putfield 9, 3) := by decide +kernel
theorem dX2_init_9 : decode cX2_init 9 = .ok (.aload_n 0, 1) := by decide +kernel
theorem dX2_init_10 : decode cX2_init 10 = .ok (.iconst 0, 1) := by decide +kernel
theorem dX2_init_11 : decode cX2_init 11 = .ok (.putfield 15, 3) := by decide +kernel
theorem dX2_init_14 : decode cX2_init 14 = .ok (.aload_n 0, 1) := by decide +kernel
theorem dX2_init_15 : decode cX2_init 15 = .ok (.iconst 0, 1) := by decide +kernel
theorem dX2_init_16 : decode cX2_init 16 = .ok (.putfield 19, 3) := by decide +kernel
theorem dX2_init_19 : decode cX2_init 19 = .ok (.aload_n 0, 1) := by decide +kernel
theorem dX2_init_20 : decode cX2_init 20 = .ok (.bipush 12, 2) := by decide +kernel
theorem dX2_init_22 : decode cX2_init 22 = .ok (.newarray .int, 2) := by decide +kernel
theorem dX2_init_24 : decode cX2_init 24 = .ok (.putfield 22, 3) := by decide +kernel
theorem dX2_init_27 : decode cX2_init 27 = .ok (.aload_n 0, 1) := by decide +kernel
theorem dX2_init_28 : decode cX2_init 28 = .ok (.iconst 0, 1) := by decide +kernel
theorem dX2_init_29 : decode cX2_init 29 = .ok (.putfield 26, 3) := by decide +kernel
theorem dX2_init_32 : decode cX2_init 32 = .ok (.return_, 1) := by decide +kernel
theorem dX2_size_0 : decode cX2_size 0 = .ok (.aload_n 0, 1) := by decide +kernel
theorem dX2_size_1 : decode cX2_size 1 = .ok (.getfield 9, 3) := by decide +kernel
theorem dX2_size_4 : decode cX2_size 4 = .ok (.ifCond .eq 7, 3) := by decide +kernel
theorem dX2_size_7 : decode cX2_size 7 = .ok (.iconst 1, 1) := by decide +kernel
theorem dX2_size_8 : decode cX2_size 8 = .ok (.goto 4, 3) := by decide +kernel
theorem dX2_size_11 : decode cX2_size 11 = .ok (.iconst 0, 1) := by decide +kernel
theorem dX2_size_12 : decode cX2_size 12 = .ok (.aload_n 0, 1) := by decide +kernel
theorem dX2_size_13 : decode cX2_size 13 = .ok (.getfield 19, 3) := by decide +kernel
theorem dX2_size_16 : decode cX2_size 16 = .ok (.invokestatic 29, 3) := by decide +kernel
theorem dX2_size_19 : decode cX2_size 19 = .ok (.iadd, 1) := by decide +kernel
theorem dX2_size_20 : decode cX2_size 20 = .ok (.aload_n 0, 1) := by decide +kernel
theorem dX2_size_21 : decode cX2_size 21 = .ok (.getfield 26, 3) := by decide +kernel
theorem dX2_size_24 : decode cX2_size 24 = .ok (.iadd, 1) := by decide +kernel
theorem dX2_size_25 : decode cX2_size 25 = .ok (.ireturn, 1) := by decide +kernel
theorem dX2_sizeOfSigns_0 : decode cX2_sizeOfSigns 0 = .ok (.iload_n 0, 1) := by decide +kernel
theorem dX2_sizeOfSigns_1 : decode cX2_sizeOfSigns 1 = .ok (.ifCond .ne 7, 3) := by decide +kernel
theorem dX2_sizeOfSigns_4 : decode cX2_sizeOfSigns 4 = .ok (.iconst 0, 1) := by decide +kernel
theorem dX2_sizeOfSigns_5 : decode cX2_sizeOfSigns 5 = .ok (.goto 4, 3) := by decide +kernel
theorem dX2_sizeOfSigns_8 : decode cX2_sizeOfSigns 8 = .ok (.iconst 1, 1) := by decide +kernel
theorem dX2_sizeOfSigns_9 : decode cX2_sizeOfSigns 9 = .ok (.ireturn, 1) := by decide +kernel
theorem dX2_growthBy_0 : decode cX2_growthBy 0 = .ok (.iload_n 1, 1) := by decide +kernel
theorem dX2_growthBy_1 : decode cX2_growthBy 1 = .ok (.ifCond .ne 16, 3) := by decide +kernel
theorem dX2_growthBy_4 : decode cX2_growthBy 4 = .ok (.aload_n 0, 1) := by decide +kernel
theorem dX2_growthBy_5 : decode cX2_growthBy 5 = .ok (.getfield 9, 3) := by decide +kernel
theorem dX2_growthBy_8 : decode cX2_growthBy 8 = .ok (.ifCond .eq 7, 3) := by decide +kernel
theorem dX2_growthBy_11 : decode cX2_growthBy 11 = .ok (.iconst 0, 1) := by decide +kernel
theorem dX2_growthBy_12 : decode cX2_growthBy 12 = .ok (.goto 4, 3) := by decide +kernel
theorem dX2_growthBy_15 : decode cX2_growthBy 15 = .ok (.iconst 1, 1) := by decide +kernel
theorem dX2_growthBy_16 : decode cX2_growthBy 16 = .ok (.ireturn, 1) := by decide +kernel
theorem dX2_growthBy_17 : decode cX2_growthBy 17 = .ok (.iload_n 1, 1) := by decide +kernel
theorem dX2_growthBy_18 : decode cX2_growthBy 18 = .ok (.iconst 1, 1) := by decide +kernel
theorem dX2_growthBy_19 : decode cX2_growthBy 19 = .ok (.if_icmp .ne 23, 3) := by decide +kernel
theorem dX2_growthBy_22 : decode cX2_growthBy 22 = .ok (.aload_n 0, 1) := by decide +kernel
theorem dX2_growthBy_23 : decode cX2_growthBy 23 = .ok (.getfield 19, 3) := by decide +kernel
theorem dX2_growthBy_26 : decode cX2_growthBy 26 = .ok (.iconst 1, 1) := by decide +kernel
theorem dX2_growthBy_27 : decode cX2_growthBy 27 = .ok (.iload_n 2, 1) := by decide +kernel
theorem dX2_growthBy_28 : decode cX2_growthBy 28 = .ok (.ishl, 1) := by decide +kernel
theorem dX2_growthBy_29 : decode cX2_growthBy 29 = .ok (.ixor, 1) := by decide +kernel
theorem dX2_growthBy_30 : decode cX2_growthBy 30 = .ok (.invokestatic 29, 3) := by decide +kernel
theorem dX2_growthBy_33 : decode cX2_growthBy 33 = .ok (.aload_n 0, 1) := by decide +kernel
theorem dX2_growthBy_34 : decode cX2_growthBy 34 = .ok (.getfield 19, 3) := by decide +kernel
theorem dX2_growthBy_37 : decode cX2_growthBy 37 = .ok (.invokestatic 29, 3) := by decide +kernel
theorem dX2_growthBy_40 : decode cX2_growthBy 40 = .ok (.isub, 1) := by decide +kernel
theorem dX2_growthBy_41 : decode cX2_growthBy 41 = .ok (.ireturn, 1) := by decide +kernel
theorem dX2_growthBy_42 : decode cX2_growthBy 42 = .ok (.iconst 1, 1) := by decide +kernel
theorem dX2_growthBy_43 : decode cX2_growthBy 43 = .ok (.ireturn, 1) := by decide +kernel
theorem dX2_isFull_0 : decode cX2_isFull 0 = .ok (.iload_n 1, 1) := by decide +kernel
theorem dX2_isFull_1 : decode cX2_isFull 1 = .ok (.iconst 2, 1) := by decide +kernel
theorem dX2_isFull_2 : decode cX2_isFull 2 = .ok (.if_icmp .ne 16, 3) := by decide +kernel
theorem dX2_isFull_5 : decode cX2_isFull 5 = .ok (.aload_n 0, 1) := by decide +kernel
theorem dX2_isFull_6 : decode cX2_isFull 6 = .ok (.getfield 26, 3) := by decide +kernel
theorem dX2_isFull_9 : decode cX2_isFull 9 = .ok (.bipush 12, 2) := by decide +kernel
theorem dX2_isFull_11 : decode cX2_isFull 11 = .ok (.if_icmp .lt 7, 3) := by decide +kernel
theorem dX2_isFull_14 : decode cX2_isFull 14 = .ok (.iconst 1, 1) := by decide +kernel
theorem dX2_isFull_15 : decode cX2_isFull 15 = .ok (.goto 4, 3) := by decide +kernel
theorem dX2_isFull_18 : decode cX2_isFull 18 = .ok (.iconst 0, 1) := by decide +kernel
theorem dX2_isFull_19 : decode cX2_isFull 19 = .ok (.ireturn, 1) := by decide +kernel
theorem dX2_add_0 : decode cX2_add 0 = .ok (.iload_n 1, 1) := by decide +kernel
theorem dX2_add_1 : decode cX2_add 1 = .ok (.ifCond .ne 16, 3) := by decide +kernel
theorem dX2_add_4 : decode cX2_add 4 = .ok (.aload_n 0, 1) := by decide +kernel
theorem dX2_add_5 : decode cX2_add 5 = .ok (.iconst 1, 1) := by decide +kernel
theorem dX2_add_6 : decode cX2_add 6 = .ok (.putfield 9, 3) := by decide +kernel
theorem dX2_add_9 : decode cX2_add 9 = .ok (.aload_n 0, 1) := by decide +kernel
theorem dX2_add_10 : decode cX2_add 10 = .ok (.iload_n 2, 1) := by decide +kernel
theorem dX2_add_11 : decode cX2_add 11 = .ok (.putfield 15, 3) := by decide +kernel
theorem dX2_add_14 : decode cX2_add 14 = .ok (.goto 52, 3) := by decide +kernel
theorem dX2_add_17 : decode cX2_add 17 = .ok (.iload_n 1, 1) := by decide +kernel
theorem dX2_add_18 : decode cX2_add 18 = .ok (.iconst 1, 1) := by decide +kernel
theorem dX2_add_19 : decode cX2_add 19 = .ok (.if_icmp .ne 18, 3) := by decide +kernel
theorem dX2_add_22 : decode cX2_add 22 = .ok (.aload_n 0, 1) := by decide +kernel
theorem dX2_add_23 : decode cX2_add 23 = .ok (.dup, 1) := by decide +kernel
theorem dX2_add_24 : decode cX2_add 24 = .ok (.getfield 19, 3) := by decide +kernel
theorem dX2_add_27 : decode cX2_add 27 = .ok (.iconst 1, 1) := by decide +kernel
theorem dX2_add_28 : decode cX2_add 28 = .ok (.iload_n 2, 1) := by decide +kernel
theorem dX2_add_29 : decode cX2_add 29 = .ok (.ishl, 1) := by decide +kernel
theorem dX2_add_30 : decode cX2_add 30 = .ok (.ixor, 1) := by decide +kernel
theorem dX2_add_31 : decode cX2_add 31 = .ok (.putfield 19, 3) := by decide +kernel
theorem dX2_add_34 : decode cX2_add 34 = .ok (.goto 32, 3) := by decide +kernel
theorem dX2_add_37 : decode cX2_add 37 = .ok (.aload_n 0, 1) := by decide +kernel
theorem dX2_add_38 : decode cX2_add 38 = .ok (.getfield 26, 3) := by decide +kernel
theorem dX2_add_41 : decode cX2_add 41 = .ok (.bipush 12, 2) := by decide +kernel
theorem dX2_add_43 : decode cX2_add 43 = .ok (.if_icmp .ge 23, 3) := by decide +kernel
theorem dX2_add_46 : decode cX2_add 46 = .ok (.aload_n 0, 1) := by decide +kernel
theorem dX2_add_47 : decode cX2_add 47 = .ok (.getfield 22, 3) := by decide +kernel
theorem dX2_add_50 : decode cX2_add 50 = .ok (.aload_n 0, 1) := by decide +kernel
theorem dX2_add_51 : decode cX2_add 51 = .ok (.getfield 26, 3) := by decide +kernel
theorem dX2_add_54 : decode cX2_add 54 = .ok (.iload_n 2, 1) := by decide +kernel
theorem dX2_add_55 : decode cX2_add 55 = .ok (.iastore, 1) := by decide +kernel
theorem dX2_add_56 : decode cX2_add 56 = .ok (.aload_n 0, 1) := by decide +kernel
theorem dX2_add_57 : decode cX2_add 57 = .ok (.dup, 1) := by decide +kernel
theorem dX2_add_58 : decode cX2_add 58 = .ok (.getfield 26, 3) := by decide +kernel
theorem dX2_add_61 : decode cX2_add 61 = .ok (.iconst 1, 1) := by decide +kernel
theorem dX2_add_62 : decode cX2_add 62 = .ok (.iadd, 1) := by decide +kernel
theorem dX2_add_63 : decode cX2_add 63 = .ok (.putfield 26, 3) := by decide +kernel
theorem dX2_add_66 : decode cX2_add 66 = .ok (.return_, 1) := by decide +kernel
theorem dX2_holdsInOrder_0 : decode cX2_holdsInOrder 0 = .ok (.iload_n 1, 1) := by decide +kernel
theorem dX2_holdsInOrder_1 : decode cX2_holdsInOrder 1 = .ok (.istore_n 2, 1) := by decide +kernel
theorem dX2_holdsInOrder_2 : decode cX2_holdsInOrder 2 = .ok (.iconst 0, 1) := by decide +kernel
theorem dX2_holdsInOrder_3 : decode cX2_holdsInOrder 3 = .ok (.istore_n 3, 1) := by decide +kernel
theorem dX2_holdsInOrder_4 : decode cX2_holdsInOrder 4 = .ok (.iload_n 3, 1) := by decide +kernel
theorem dX2_holdsInOrder_5 : decode cX2_holdsInOrder 5 = .ok (.aload_n 0, 1) := by decide +kernel
theorem dX2_holdsInOrder_6 : decode cX2_holdsInOrder 6 = .ok (.getfield 26, 3) := by decide +kernel
theorem dX2_holdsInOrder_9 : decode cX2_holdsInOrder 9 = .ok (.if_icmp .ge 26, 3) := by decide +kernel
theorem dX2_holdsInOrder_12 : decode cX2_holdsInOrder 12 = .ok (.iload_n 2, 1) := by decide +kernel
theorem dX2_holdsInOrder_13 : decode cX2_holdsInOrder 13 = .ok (.bipush 31, 2) := by decide +kernel
theorem dX2_holdsInOrder_15 : decode cX2_holdsInOrder 15 = .ok (.iand, 1) := by decide +kernel
theorem dX2_holdsInOrder_16 : decode cX2_holdsInOrder 16 = .ok (.aload_n 0, 1) := by decide +kernel
theorem dX2_holdsInOrder_17 : decode cX2_holdsInOrder 17 = .ok (.getfield 22, 3) := by decide +kernel
theorem dX2_holdsInOrder_20 : decode cX2_holdsInOrder 20 = .ok (.iload_n 3, 1) := by decide +kernel
theorem dX2_holdsInOrder_21 : decode cX2_holdsInOrder 21 = .ok (.iaload, 1) := by decide +kernel
theorem dX2_holdsInOrder_22 : decode cX2_holdsInOrder 22 = .ok (.if_icmp .ne 7, 3) := by decide +kernel
theorem dX2_holdsInOrder_25 : decode cX2_holdsInOrder 25 = .ok (.iload_n 2, 1) := by decide +kernel
theorem dX2_holdsInOrder_26 : decode cX2_holdsInOrder 26 = .ok (.iconst 5, 1) := by decide +kernel
theorem dX2_holdsInOrder_27 : decode cX2_holdsInOrder 27 = .ok (.iushr, 1) := by decide +kernel
theorem dX2_holdsInOrder_28 : decode cX2_holdsInOrder 28 = .ok (.istore_n 2, 1) := by decide +kernel
theorem dX2_holdsInOrder_29 : decode cX2_holdsInOrder 29 = .ok (.iinc 3 1, 3) := by decide +kernel
theorem dX2_holdsInOrder_32 : decode cX2_holdsInOrder 32 = .ok (.goto (-28), 3) := by decide +kernel
theorem dX2_holdsInOrder_35 : decode cX2_holdsInOrder 35 = .ok (.iload_n 2, 1) := by decide +kernel
theorem dX2_holdsInOrder_36 : decode cX2_holdsInOrder 36 = .ok (.ifCond .ne 7, 3) := by decide +kernel
theorem dX2_holdsInOrder_39 : decode cX2_holdsInOrder 39 = .ok (.iconst 1, 1) := by decide +kernel
theorem dX2_holdsInOrder_40 : decode cX2_holdsInOrder 40 = .ok (.goto 4, 3) := by decide +kernel
theorem dX2_holdsInOrder_43 : decode cX2_holdsInOrder 43 = .ok (.iconst 0, 1) := by decide +kernel
theorem dX2_holdsInOrder_44 : decode cX2_holdsInOrder 44 = .ok (.ireturn, 1) := by decide +kernel
theorem dX2_printAt_0 : decode cX2_printAt 0 = .ok (.aload_n 0, 1) := by decide +kernel
theorem dX2_printAt_1 : decode cX2_printAt 1 = .ok (.getfield 22, 3) := by decide +kernel
theorem dX2_printAt_4 : decode cX2_printAt 4 = .ok (.iload_n 1, 1) := by decide +kernel
theorem dX2_printAt_5 : decode cX2_printAt 5 = .ok (.iaload, 1) := by decide +kernel
theorem dX2_printAt_6 : decode cX2_printAt 6 = .ok (.aload_n 0, 1) := by decide +kernel
theorem dX2_printAt_7 : decode cX2_printAt 7 = .ok (.getfield 22, 3) := by decide +kernel
theorem dX2_printAt_10 : decode cX2_printAt 10 = .ok (.iload_n 1, 1) := by decide +kernel
theorem dX2_printAt_11 : decode cX2_printAt 11 = .ok (.iconst 1, 1) := by decide +kernel
theorem dX2_printAt_12 : decode cX2_printAt 12 = .ok (.iadd, 1) := by decide +kernel
theorem dX2_printAt_13 : decode cX2_printAt 13 = .ok (.iaload, 1) := by decide +kernel
theorem dX2_printAt_14 : decode cX2_printAt 14 = .ok (.aload_n 0, 1) := by decide +kernel
theorem dX2_printAt_15 : decode cX2_printAt 15 = .ok (.getfield 22, 3) := by decide +kernel
theorem dX2_printAt_18 : decode cX2_printAt 18 = .ok (.iload_n 1, 1) := by decide +kernel
theorem dX2_printAt_19 : decode cX2_printAt 19 = .ok (.iconst 2, 1) := by decide +kernel
theorem dX2_printAt_20 : decode cX2_printAt 20 = .ok (.iadd, 1) := by decide +kernel
theorem dX2_printAt_21 : decode cX2_printAt 21 = .ok (.iaload, 1) := by decide +kernel
theorem dX2_printAt_22 : decode cX2_printAt 22 = .ok (.invokestatic 33, 3) := by decide +kernel
theorem dX2_printAt_25 : decode cX2_printAt 25 = .ok (.ireturn, 1) := by decide +kernel
theorem dX3_init_0 : decode cX3_init 0 = .ok (.aload_n 0, 1) := by decide +kernel
theorem dX3_init_1 : decode cX3_init 1 = .ok (.invokespecial 3, 3) := by decide +kernel
theorem dX3_init_4 : decode cX3_init 4 = .ok (.aload_n 0, 1) := by decide +kernel
theorem dX3_init_5 : decode cX3_init 5 = .ok (.bipush 16, 2) := by decide +kernel
theorem dX3_init_7 : decode cX3_init 7 = .ok (.anewarray 9, 3) := by decide +kernel
theorem dX3_init_10 : decode cX3_init 10 = .ok (.putfield 11, 3) := by decide +kernel
theorem dX3_init_13 : decode cX3_init 13 = .ok (.aload_n 0, 1) := by decide +kernel
theorem dX3_init_14 : decode cX3_init 14 = .ok (.iconst 1, 1) := by decide +kernel
theorem dX3_init_15 : decode cX3_init 15 = .ok (.putfield 17, 3) := by decide +kernel
theorem dX3_init_18 : decode cX3_init 18 = .ok (.aload_n 0, 1) := by decide +kernel
theorem dX3_init_19 : decode cX3_init 19 = .ok (.iconst 4, 1) := by decide +kernel
theorem dX3_init_20 : decode cX3_init 20 = .ok (.anewarray 9, 3) := by decide +kernel
theorem dX3_init_23 : decode cX3_init 23 = .ok (.putfield 21, 3) := by decide +kernel
theorem dX3_init_26 : decode cX3_init 26 = .ok (.aload_n 0, 1) := by decide +kernel
theorem dX3_init_27 : decode cX3_init 27 = .ok (.iconst 4, 1) := by decide +kernel
theorem dX3_init_28 : decode cX3_init 28 = .ok (.newarray .boolean, 2) := by decide +kernel
theorem dX3_init_30 : decode cX3_init 30 = .ok (.putfield 24, 3) := by decide +kernel
theorem dX3_init_33 : decode cX3_init 33 = .ok (.aload_n 0, 1) := by decide +kernel
theorem dX3_init_34 : decode cX3_init 34 = .ok (.bipush 12, 2) := by decide +kernel
theorem dX3_init_36 : decode cX3_init 36 = .ok (.anewarray 28, 3) := by decide +kernel
theorem dX3_init_39 : decode cX3_init 39 = .ok (.putfield 30, 3) := by decide +kernel
theorem dX3_init_42 : decode cX3_init 42 = .ok (.new 9, 3) := by decide +kernel
theorem dX3_init_45 : decode cX3_init 45 = .ok (.dup, 1) := by decide +kernel
theorem dX3_init_46 : decode cX3_init 46 = .ok (.iconst 0, 1) := by decide +kernel
theorem dX3_init_47 : decode cX3_init 47 = .ok (.iconst (-1), 1) := by decide +kernel
theorem dX3_init_48 : decode cX3_init 48 = .ok (.aconst_null, 1) := by decide +kernel
theorem dX3_init_49 : decode cX3_init 49 = .ok (.invokespecial 34, 3) := by decide +kernel
theorem dX3_init_52 : decode cX3_init 52 = .ok (.astore_n 1, 1) := by decide +kernel
theorem dX3_init_53 : decode cX3_init 53 = .ok (.aload_n 0, 1) := by decide +kernel
theorem dX3_init_54 : decode cX3_init 54 = .ok (.getfield 11, 3) := by decide +kernel
theorem dX3_init_57 : decode cX3_init 57 = .ok (.iconst 0, 1) := by decide +kernel
theorem dX3_init_58 : decode cX3_init 58 = .ok (.aload_n 1, 1) := by decide +kernel
theorem dX3_init_59 : decode cX3_init 59 = .ok (.aastore, 1) := by decide +kernel
theorem dX3_init_60 : decode cX3_init 60 = .ok (.iconst 0, 1) := by decide +kernel
theorem dX3_init_61 : decode cX3_init 61 = .ok (.istore_n 2, 1) := by decide +kernel
theorem dX3_init_62 : decode cX3_init 62 = .ok (.iload_n 2, 1) := by decide +kernel
theorem dX3_init_63 : decode cX3_init 63 = .ok (.iconst 4, 1) := by decide +kernel
theorem dX3_init_64 : decode cX3_init 64 = .ok (.if_icmp .ge 16, 3) := by decide +kernel
theorem dX3_init_67 : decode cX3_init 67 = .ok (.aload_n 0, 1) := by decide +kernel
theorem dX3_init_68 : decode cX3_init 68 = .ok (.getfield 21, 3) := by decide +kernel
theorem dX3_init_71 : decode cX3_init 71 = .ok (.iload_n 2, 1) := by decide +kernel
theorem dX3_init_72 : decode cX3_init 72 = .ok (.aload_n 1, 1) := by decide +kernel
theorem dX3_init_73 : decode cX3_init 73 = .ok (.aastore, 1) := by decide +kernel
theorem dX3_init_74 : decode cX3_init 74 = .ok (.iinc 2 1, 3) := by decide +kernel
theorem dX3_init_77 : decode cX3_init 77 = .ok (.goto (-15), 3) := by decide +kernel
theorem dX3_init_80 : decode cX3_init 80 = .ok (.return_, 1) := by decide +kernel
theorem dX3_canFold_0 : decode cX3_canFold 0 = .ok (.aload_n 1, 1) := by decide +kernel
theorem dX3_canFold_1 : decode cX3_canFold 1 = .ok (.getfield 37, 3) := by decide +kernel
theorem dX3_canFold_4 : decode cX3_canFold 4 = .ok (.ifCond .eq 32, 3) := by decide +kernel
theorem dX3_canFold_7 : decode cX3_canFold 7 = .ok (.aload_n 0, 1) := by decide +kernel
theorem dX3_canFold_8 : decode cX3_canFold 8 = .ok (.aload_n 1, 1) := by decide +kernel
theorem dX3_canFold_9 : decode cX3_canFold 9 = .ok (.invokevirtual 40, 3) := by decide +kernel
theorem dX3_canFold_12 : decode cX3_canFold 12 = .ok (.ifCond .ne 24, 3) := by decide +kernel
theorem dX3_canFold_15 : decode cX3_canFold 15 = .ok (.aload_n 0, 1) := by decide +kernel
theorem dX3_canFold_16 : decode cX3_canFold 16 = .ok (.aload_n 1, 1) := by decide +kernel
theorem dX3_canFold_17 : decode cX3_canFold 17 = .ok (.invokevirtual 44, 3) := by decide +kernel
theorem dX3_canFold_20 : decode cX3_canFold 20 = .ok (.ifCond .ne 16, 3) := by decide +kernel
theorem dX3_canFold_23 : decode cX3_canFold 23 = .ok (.aload_n 0, 1) := by decide +kernel
theorem dX3_canFold_24 : decode cX3_canFold 24 = .ok (.aload_n 1, 1) := by decide +kernel
theorem dX3_canFold_25 : decode cX3_canFold 25 = .ok (.invokevirtual 47, 3) := by decide +kernel
theorem dX3_canFold_28 : decode cX3_canFold 28 = .ok (.iconst 1, 1) := by decide +kernel
theorem dX3_canFold_29 : decode cX3_canFold 29 = .ok (.if_icmp .gt 7, 3) := by decide +kernel
theorem dX3_canFold_32 : decode cX3_canFold 32 = .ok (.iconst 1, 1) := by decide +kernel
theorem dX3_canFold_33 : decode cX3_canFold 33 = .ok (.goto 4, 3) := by decide +kernel
theorem dX3_canFold_36 : decode cX3_canFold 36 = .ok (.iconst 0, 1) := by decide +kernel
theorem dX3_canFold_37 : decode cX3_canFold 37 = .ok (.ireturn, 1) := by decide +kernel
theorem dX3_isHead_0 : decode cX3_isHead 0 = .ok (.iconst 0, 1) := by decide +kernel
theorem dX3_isHead_1 : decode cX3_isHead 1 = .ok (.istore_n 2, 1) := by decide +kernel
theorem dX3_isHead_2 : decode cX3_isHead 2 = .ok (.iload_n 2, 1) := by decide +kernel
theorem dX3_isHead_3 : decode cX3_isHead 3 = .ok (.iconst 4, 1) := by decide +kernel
theorem dX3_isHead_4 : decode cX3_isHead 4 = .ok (.if_icmp .ge 21, 3) := by decide +kernel
theorem dX3_isHead_7 : decode cX3_isHead 7 = .ok (.aload_n 0, 1) := by decide +kernel
theorem dX3_isHead_8 : decode cX3_isHead 8 = .ok (.getfield 21, 3) := by decide +kernel
theorem dX3_isHead_11 : decode cX3_isHead 11 = .ok (.iload_n 2, 1) := by decide +kernel
theorem dX3_isHead_12 : decode cX3_isHead 12 = .ok (.aaload, 1) := by decide +kernel
theorem dX3_isHead_13 : decode cX3_isHead 13 = .ok (.aload_n 1, 1) := by decide +kernel
theorem dX3_isHead_14 : decode cX3_isHead 14 = .ok (.if_acmp .ne 5, 3) := by decide +kernel
theorem dX3_isHead_17 : decode cX3_isHead 17 = .ok (.iconst 1, 1) := by decide +kernel
theorem dX3_isHead_18 : decode cX3_isHead 18 = .ok (.ireturn, 1) := by decide +kernel
theorem dX3_isHead_19 : decode cX3_isHead 19 = .ok (.iinc 2 1, 3) := by decide +kernel
theorem dX3_isHead_22 : decode cX3_isHead 22 = .ok (.goto (-20), 3) := by decide +kernel
theorem dX3_isHead_25 : decode cX3_isHead 25 = .ok (.iconst 0, 1) := by decide +kernel
theorem dX3_isHead_26 : decode cX3_isHead 26 = .ok (.ireturn, 1) := by decide +kernel
theorem dX3_isTied_0 : decode cX3_isTied 0 = .ok (.iconst 0, 1) := by decide +kernel
theorem dX3_isTied_1 : decode cX3_isTied 1 = .ok (.istore_n 2, 1) := by decide +kernel
theorem dX3_isTied_2 : decode cX3_isTied 2 = .ok (.iload_n 2, 1) := by decide +kernel
theorem dX3_isTied_3 : decode cX3_isTied 3 = .ok (.bipush 12, 2) := by decide +kernel
theorem dX3_isTied_5 : decode cX3_isTied 5 = .ok (.if_icmp .ge 33, 3) := by decide +kernel
theorem dX3_isTied_8 : decode cX3_isTied 8 = .ok (.aload_n 0, 1) := by decide +kernel
theorem dX3_isTied_9 : decode cX3_isTied 9 = .ok (.getfield 30, 3) := by decide +kernel
theorem dX3_isTied_12 : decode cX3_isTied 12 = .ok (.iload_n 2, 1) := by decide +kernel
theorem dX3_isTied_13 : decode cX3_isTied 13 = .ok (.aaload, 1) := by decide +kernel
theorem dX3_isTied_14 : decode cX3_isTied 14 = .ok (.ifnull 18, 3) := by decide +kernel
theorem dX3_isTied_17 : decode cX3_isTied 17 = .ok (.aload_n 0, 1) := by decide +kernel
theorem dX3_isTied_18 : decode cX3_isTied 18 = .ok (.getfield 30, 3) := by decide +kernel
theorem dX3_isTied_21 : decode cX3_isTied 21 = .ok (.iload_n 2, 1) := by decide +kernel
theorem dX3_isTied_22 : decode cX3_isTied 22 = .ok (.aaload, 1) := by decide +kernel
theorem dX3_isTied_23 : decode cX3_isTied 23 = .ok (.getfield 51, 3) := by decide +kernel
theorem dX3_isTied_26 : decode cX3_isTied 26 = .ok (.aload_n 1, 1) := by decide +kernel
theorem dX3_isTied_27 : decode cX3_isTied 27 = .ok (.if_acmp .ne 5, 3) := by decide +kernel
theorem dX3_isTied_30 : decode cX3_isTied 30 = .ok (.iconst 1, 1) := by decide +kernel
theorem dX3_isTied_31 : decode cX3_isTied 31 = .ok (.ireturn, 1) := by decide +kernel
theorem dX3_isTied_32 : decode cX3_isTied 32 = .ok (.iinc 2 1, 3) := by decide +kernel
theorem dX3_isTied_35 : decode cX3_isTied 35 = .ok (.goto (-33), 3) := by decide +kernel
theorem dX3_isTied_38 : decode cX3_isTied 38 = .ok (.iconst 0, 1) := by decide +kernel
theorem dX3_isTied_39 : decode cX3_isTied 39 = .ok (.ireturn, 1) := by decide +kernel
theorem dX3_countChildren_0 : decode cX3_countChildren 0 = .ok (.iconst 0, 1) := by decide +kernel
theorem dX3_countChildren_1 : decode cX3_countChildren 1 = .ok (.istore_n 2, 1) := by decide +kernel
theorem dX3_countChildren_2 : decode cX3_countChildren 2 = .ok (.iconst 0, 1) := by decide +kernel
theorem dX3_countChildren_3 : decode cX3_countChildren 3 = .ok (.istore_n 3, 1) := by decide +kernel
theorem dX3_countChildren_4 : decode cX3_countChildren 4 = .ok (.iload_n 3, 1) := by decide +kernel
theorem dX3_countChildren_5 : decode cX3_countChildren 5 = .ok (.bipush 16, 2) := by decide +kernel
theorem dX3_countChildren_7 : decode cX3_countChildren 7 = .ok (.if_icmp .ge 34, 3) := by decide +kernel
theorem dX3_countChildren_10 : decode cX3_countChildren 10 = .ok (.aload_n 0, 1) := by decide +kernel
theorem dX3_countChildren_11 : decode cX3_countChildren 11 = .ok (.getfield 11, 3) := by decide +kernel
theorem dX3_countChildren_14 : decode cX3_countChildren 14 = .ok (.iload_n 3, 1) := by decide +kernel
theorem dX3_countChildren_15 : decode cX3_countChildren 15 = .ok (.aaload, 1) := by decide +kernel
theorem dX3_countChildren_16 : decode cX3_countChildren 16 = .ok (.ifnull 19, 3) := by decide +kernel
theorem dX3_countChildren_19 : decode cX3_countChildren 19 = .ok (.aload_n 0, 1) := by decide +kernel
theorem dX3_countChildren_20 : decode cX3_countChildren 20 = .ok (.getfield 11, 3) := by decide +kernel
theorem dX3_countChildren_23 : decode cX3_countChildren 23 = .ok (.iload_n 3, 1) := by decide +kernel
theorem dX3_countChildren_24 : decode cX3_countChildren 24 = .ok (.aaload, 1) := by decide +kernel
theorem dX3_countChildren_25 : decode cX3_countChildren 25 = .ok (.getfield 55, 3) := by decide +kernel
theorem dX3_countChildren_28 : decode cX3_countChildren 28 = .ok (.aload_n 1, 1) := by decide +kernel
theorem dX3_countChildren_29 : decode cX3_countChildren 29 = .ok (.if_acmp .ne 6, 3) := by decide +kernel
theorem dX3_countChildren_32 : decode cX3_countChildren 32 = .ok (.iinc 2 1, 3) := by decide +kernel
theorem dX3_countChildren_35 : decode cX3_countChildren 35 = .ok (.iinc 3 1, 3) := by decide +kernel
theorem dX3_countChildren_38 : decode cX3_countChildren 38 = .ok (.goto (-34), 3) := by decide +kernel
theorem dX3_countChildren_41 : decode cX3_countChildren 41 = .ok (.iload_n 2, 1) := by decide +kernel
theorem dX3_countChildren_42 : decode cX3_countChildren 42 = .ok (.ireturn, 1) := by decide +kernel
theorem dX3_childOf_0 : decode cX3_childOf 0 = .ok (.iconst 0, 1) := by decide +kernel
theorem dX3_childOf_1 : decode cX3_childOf 1 = .ok (.istore_n 2, 1) := by decide +kernel
theorem dX3_childOf_2 : decode cX3_childOf 2 = .ok (.iload_n 2, 1) := by decide +kernel
theorem dX3_childOf_3 : decode cX3_childOf 3 = .ok (.bipush 16, 2) := by decide +kernel
theorem dX3_childOf_5 : decode cX3_childOf 5 = .ok (.if_icmp .ge 38, 3) := by decide +kernel
theorem dX3_childOf_8 : decode cX3_childOf 8 = .ok (.aload_n 0, 1) := by decide +kernel
theorem dX3_childOf_9 : decode cX3_childOf 9 = .ok (.getfield 11, 3) := by decide +kernel
theorem dX3_childOf_12 : decode cX3_childOf 12 = .ok (.iload_n 2, 1) := by decide +kernel
theorem dX3_childOf_13 : decode cX3_childOf 13 = .ok (.aaload, 1) := by decide +kernel
theorem dX3_childOf_14 : decode cX3_childOf 14 = .ok (.ifnull 23, 3) := by decide +kernel
theorem dX3_childOf_17 : decode cX3_childOf 17 = .ok (.aload_n 0, 1) := by decide +kernel
theorem dX3_childOf_18 : decode cX3_childOf 18 = .ok (.getfield 11, 3) := by decide +kernel
theorem dX3_childOf_21 : decode cX3_childOf 21 = .ok (.iload_n 2, 1) := by decide +kernel
theorem dX3_childOf_22 : decode cX3_childOf 22 = .ok (.aaload, 1) := by decide +kernel
theorem dX3_childOf_23 : decode cX3_childOf 23 = .ok (.getfield 55, 3) := by decide +kernel
theorem dX3_childOf_26 : decode cX3_childOf 26 = .ok (.aload_n 1, 1) := by decide +kernel
theorem dX3_childOf_27 : decode cX3_childOf 27 = .ok (.if_acmp .ne 10, 3) := by decide +kernel
theorem dX3_childOf_30 : decode cX3_childOf 30 = .ok (.aload_n 0, 1) := by decide +kernel
theorem dX3_childOf_31 : decode cX3_childOf 31 = .ok (.getfield 11, 3) := by decide +kernel
theorem dX3_childOf_34 : decode cX3_childOf 34 = .ok (.iload_n 2, 1) := by decide +kernel
theorem dX3_childOf_35 : decode cX3_childOf 35 = .ok (.aaload, 1) := by decide +kernel
theorem dX3_childOf_36 : decode cX3_childOf 36 = .ok (.areturn, 1) := by decide +kernel
theorem dX3_childOf_37 : decode cX3_childOf 37 = .ok (.iinc 2 1, 3) := by decide +kernel
theorem dX3_childOf_40 : decode cX3_childOf 40 = .ok (.goto (-38), 3) := by decide +kernel
theorem dX3_childOf_43 : decode cX3_childOf 43 = .ok (.aconst_null, 1) := by decide +kernel
theorem dX3_childOf_44 : decode cX3_childOf 44 = .ok (.areturn, 1) := by decide +kernel
theorem dX3_remove_0 : decode cX3_remove 0 = .ok (.aload_n 1, 1) := by decide +kernel
theorem dX3_remove_1 : decode cX3_remove 1 = .ok (.getfield 37, 3) := by decide +kernel
theorem dX3_remove_4 : decode cX3_remove 4 = .ok (.ifCond .lt 22, 3) := by decide +kernel
theorem dX3_remove_7 : decode cX3_remove 7 = .ok (.aload_n 1, 1) := by decide +kernel
theorem dX3_remove_8 : decode cX3_remove 8 = .ok (.getfield 37, 3) := by decide +kernel
theorem dX3_remove_11 : decode cX3_remove 11 = .ok (.bipush 16, 2) := by decide +kernel
theorem dX3_remove_13 : decode cX3_remove 13 = .ok (.if_icmp .ge 13, 3) := by decide +kernel
theorem dX3_remove_16 : decode cX3_remove 16 = .ok (.aload_n 0, 1) := by decide +kernel
theorem dX3_remove_17 : decode cX3_remove 17 = .ok (.getfield 11, 3) := by decide +kernel
theorem dX3_remove_20 : decode cX3_remove 20 = .ok (.aload_n 1, 1) := by decide +kernel
theorem dX3_remove_21 : decode cX3_remove 21 = .ok (.getfield 37, 3) := by decide +kernel
theorem dX3_remove_24 : decode cX3_remove 24 = .ok (.aconst_null, 1) := by decide +kernel
theorem dX3_remove_25 : decode cX3_remove 25 = .ok (.aastore, 1) := by decide +kernel
theorem dX3_remove_26 : decode cX3_remove 26 = .ok (.return_, 1) := by decide +kernel
theorem dX3_arePair_0 : decode cX3_arePair 0 = .ok (.aload_n 0, 1) := by decide +kernel
theorem dX3_arePair_1 : decode cX3_arePair 1 = .ok (.getfield 30, 3) := by decide +kernel
theorem dX3_arePair_4 : decode cX3_arePair 4 = .ok (.iload_n 1, 1) := by decide +kernel
theorem dX3_arePair_5 : decode cX3_arePair 5 = .ok (.aaload, 1) := by decide +kernel
theorem dX3_arePair_6 : decode cX3_arePair 6 = .ok (.astore_n 3, 1) := by decide +kernel
theorem dX3_arePair_7 : decode cX3_arePair 7 = .ok (.aload_n 0, 1) := by decide +kernel
theorem dX3_arePair_8 : decode cX3_arePair 8 = .ok (.getfield 30, 3) := by decide +kernel
theorem dX3_arePair_11 : decode cX3_arePair 11 = .ok (.iload_n 2, 1) := by decide +kernel
theorem dX3_arePair_12 : decode cX3_arePair 12 = .ok (.aaload, 1) := by decide +kernel
theorem dX3_arePair_13 : decode cX3_arePair 13 = .ok (.astore 4, 2) := by decide +kernel
theorem dX3_arePair_15 : decode cX3_arePair 15 = .ok (.aload_n 3, 1) := by decide +kernel
theorem dX3_arePair_16 : decode cX3_arePair 16 = .ok (.ifnull 33, 3) := by decide +kernel
theorem dX3_arePair_19 : decode cX3_arePair 19 = .ok (.aload 4, 2) := by decide +kernel
theorem dX3_arePair_21 : decode cX3_arePair 21 = .ok (.ifnull 28, 3) := by decide +kernel
theorem dX3_arePair_24 : decode cX3_arePair 24 = .ok (.aload_n 3, 1) := by decide +kernel
theorem dX3_arePair_25 : decode cX3_arePair 25 = .ok (.aload 4, 2) := by decide +kernel
theorem dX3_arePair_27 : decode cX3_arePair 27 = .ok (.invokevirtual 58, 3) := by decide +kernel
theorem dX3_arePair_30 : decode cX3_arePair 30 = .ok (.aload_n 3, 1) := by decide +kernel
theorem dX3_arePair_31 : decode cX3_arePair 31 = .ok (.getfield 62, 3) := by decide +kernel
theorem dX3_arePair_34 : decode cX3_arePair 34 = .ok (.aload 4, 2) := by decide +kernel
theorem dX3_arePair_36 : decode cX3_arePair 36 = .ok (.getfield 62, 3) := by decide +kernel
theorem dX3_arePair_39 : decode cX3_arePair 39 = .ok (.invokestatic 65, 3) := by decide +kernel
theorem dX3_arePair_42 : decode cX3_arePair 42 = .ok (.ifCond .eq 7, 3) := by decide +kernel
theorem dX3_arePair_45 : decode cX3_arePair 45 = .ok (.iconst 1, 1) := by decide +kernel
theorem dX3_arePair_46 : decode cX3_arePair 46 = .ok (.goto 4, 3) := by decide +kernel
theorem dX3_arePair_49 : decode cX3_arePair 49 = .ok (.iconst 0, 1) := by decide +kernel
theorem dX3_arePair_50 : decode cX3_arePair 50 = .ok (.ireturn, 1) := by decide +kernel
theorem dX3_sizeOfVersions_0 : decode cX3_sizeOfVersions 0 = .ok (.iconst 0, 1) := by decide +kernel
theorem dX3_sizeOfVersions_1 : decode cX3_sizeOfVersions 1 = .ok (.istore_n 2, 1) := by decide +kernel
theorem dX3_sizeOfVersions_2 : decode cX3_sizeOfVersions 2 = .ok (.iconst 0, 1) := by decide +kernel
theorem dX3_sizeOfVersions_3 : decode cX3_sizeOfVersions 3 = .ok (.istore_n 3, 1) := by decide +kernel
theorem dX3_sizeOfVersions_4 : decode cX3_sizeOfVersions 4 = .ok (.iload_n 3, 1) := by decide +kernel
theorem dX3_sizeOfVersions_5 : decode cX3_sizeOfVersions 5 = .ok (.bipush 16, 2) := by decide +kernel
theorem dX3_sizeOfVersions_7 : decode cX3_sizeOfVersions 7 = .ok (.if_icmp .ge 43, 3) := by decide +kernel
theorem dX3_sizeOfVersions_10 : decode cX3_sizeOfVersions 10 = .ok (.aload_n 0, 1) := by decide +kernel
theorem dX3_sizeOfVersions_11 : decode cX3_sizeOfVersions 11 = .ok (.getfield 11, 3) := by decide +kernel
theorem dX3_sizeOfVersions_14 : decode cX3_sizeOfVersions 14 = .ok (.iload_n 3, 1) := by decide +kernel
theorem dX3_sizeOfVersions_15 : decode cX3_sizeOfVersions 15 = .ok (.aaload, 1) := by decide +kernel
theorem dX3_sizeOfVersions_16 : decode cX3_sizeOfVersions 16 = .ok (.ifnull 28, 3) := by decide +kernel
theorem dX3_sizeOfVersions_19 : decode cX3_sizeOfVersions 19 = .ok (.aload_n 0, 1) := by decide +kernel
theorem dX3_sizeOfVersions_20 : decode cX3_sizeOfVersions 20 = .ok (.getfield 11, 3) := by decide +kernel
theorem dX3_sizeOfVersions_23 : decode cX3_sizeOfVersions 23 = .ok (.iload_n 3, 1) := by decide +kernel
theorem dX3_sizeOfVersions_24 : decode cX3_sizeOfVersions 24 = .ok (.aaload, 1) := by decide +kernel
theorem dX3_sizeOfVersions_25 : decode cX3_sizeOfVersions 25 = .ok (.getfield 69, 3) := by decide +kernel
theorem dX3_sizeOfVersions_28 : decode cX3_sizeOfVersions 28 = .ok (.iload_n 1, 1) := by decide +kernel
theorem dX3_sizeOfVersions_29 : decode cX3_sizeOfVersions 29 = .ok (.if_icmp .ne 15, 3) := by decide +kernel
theorem dX3_sizeOfVersions_32 : decode cX3_sizeOfVersions 32 = .ok (.iload_n 2, 1) := by decide +kernel
theorem dX3_sizeOfVersions_33 : decode cX3_sizeOfVersions 33 = .ok (.aload_n 0, 1) := by decide +kernel
theorem dX3_sizeOfVersions_34 : decode cX3_sizeOfVersions 34 = .ok (.getfield 11, 3) := by decide +kernel
theorem dX3_sizeOfVersions_37 : decode cX3_sizeOfVersions 37 = .ok (.iload_n 3, 1) := by decide +kernel
theorem dX3_sizeOfVersions_38 : decode cX3_sizeOfVersions 38 = .ok (.aaload, 1) := by decide +kernel
theorem dX3_sizeOfVersions_39 : decode cX3_sizeOfVersions 39 = .ok (.invokevirtual 72, 3) := by decide +kernel
theorem dX3_sizeOfVersions_42 : decode cX3_sizeOfVersions 42 = .ok (.iadd, 1) := by decide +kernel
theorem dX3_sizeOfVersions_43 : decode cX3_sizeOfVersions 43 = .ok (.istore_n 2, 1) := by decide +kernel
theorem dX3_sizeOfVersions_44 : decode cX3_sizeOfVersions 44 = .ok (.iinc 3 1, 3) := by decide +kernel
theorem dX3_sizeOfVersions_47 : decode cX3_sizeOfVersions 47 = .ok (.goto (-43), 3) := by decide +kernel
theorem dX3_sizeOfVersions_50 : decode cX3_sizeOfVersions 50 = .ok (.iload_n 2, 1) := by decide +kernel
theorem dX3_sizeOfVersions_51 : decode cX3_sizeOfVersions 51 = .ok (.ireturn, 1) := by decide +kernel
theorem dX3_sizeOfAnswers_0 : decode cX3_sizeOfAnswers 0 = .ok (.iconst 0, 1) := by decide +kernel
theorem dX3_sizeOfAnswers_1 : decode cX3_sizeOfAnswers 1 = .ok (.istore_n 2, 1) := by decide +kernel
theorem dX3_sizeOfAnswers_2 : decode cX3_sizeOfAnswers 2 = .ok (.iconst 0, 1) := by decide +kernel
theorem dX3_sizeOfAnswers_3 : decode cX3_sizeOfAnswers 3 = .ok (.istore_n 3, 1) := by decide +kernel
theorem dX3_sizeOfAnswers_4 : decode cX3_sizeOfAnswers 4 = .ok (.iload_n 3, 1) := by decide +kernel
theorem dX3_sizeOfAnswers_5 : decode cX3_sizeOfAnswers 5 = .ok (.bipush 12, 2) := by decide +kernel
theorem dX3_sizeOfAnswers_7 : decode cX3_sizeOfAnswers 7 = .ok (.if_icmp .ge 38, 3) := by decide +kernel
theorem dX3_sizeOfAnswers_10 : decode cX3_sizeOfAnswers 10 = .ok (.aload_n 0, 1) := by decide +kernel
theorem dX3_sizeOfAnswers_11 : decode cX3_sizeOfAnswers 11 = .ok (.getfield 30, 3) := by decide +kernel
theorem dX3_sizeOfAnswers_14 : decode cX3_sizeOfAnswers 14 = .ok (.iload_n 3, 1) := by decide +kernel
theorem dX3_sizeOfAnswers_15 : decode cX3_sizeOfAnswers 15 = .ok (.aaload, 1) := by decide +kernel
theorem dX3_sizeOfAnswers_16 : decode cX3_sizeOfAnswers 16 = .ok (.ifnull 23, 3) := by decide +kernel
theorem dX3_sizeOfAnswers_19 : decode cX3_sizeOfAnswers 19 = .ok (.iload_n 3, 1) := by decide +kernel
theorem dX3_sizeOfAnswers_20 : decode cX3_sizeOfAnswers 20 = .ok (.invokestatic 76, 3) := by decide +kernel
theorem dX3_sizeOfAnswers_23 : decode cX3_sizeOfAnswers 23 = .ok (.iload_n 1, 1) := by decide +kernel
theorem dX3_sizeOfAnswers_24 : decode cX3_sizeOfAnswers 24 = .ok (.if_icmp .ne 15, 3) := by decide +kernel
theorem dX3_sizeOfAnswers_27 : decode cX3_sizeOfAnswers 27 = .ok (.iload_n 2, 1) := by decide +kernel
theorem dX3_sizeOfAnswers_28 : decode cX3_sizeOfAnswers 28 = .ok (.aload_n 0, 1) := by decide +kernel
theorem dX3_sizeOfAnswers_29 : decode cX3_sizeOfAnswers 29 = .ok (.getfield 30, 3) := by decide +kernel
theorem dX3_sizeOfAnswers_32 : decode cX3_sizeOfAnswers 32 = .ok (.iload_n 3, 1) := by decide +kernel
theorem dX3_sizeOfAnswers_33 : decode cX3_sizeOfAnswers 33 = .ok (.aaload, 1) := by decide +kernel
theorem dX3_sizeOfAnswers_34 : decode cX3_sizeOfAnswers 34 = .ok (.invokevirtual 80, 3) := by decide +kernel
theorem dX3_sizeOfAnswers_37 : decode cX3_sizeOfAnswers 37 = .ok (.iadd, 1) := by decide +kernel
theorem dX3_sizeOfAnswers_38 : decode cX3_sizeOfAnswers 38 = .ok (.istore_n 2, 1) := by decide +kernel
theorem dX3_sizeOfAnswers_39 : decode cX3_sizeOfAnswers 39 = .ok (.iinc 3 1, 3) := by decide +kernel
theorem dX3_sizeOfAnswers_42 : decode cX3_sizeOfAnswers 42 = .ok (.goto (-38), 3) := by decide +kernel
theorem dX3_sizeOfAnswers_45 : decode cX3_sizeOfAnswers 45 = .ok (.iload_n 2, 1) := by decide +kernel
theorem dX3_sizeOfAnswers_46 : decode cX3_sizeOfAnswers 46 = .ok (.ireturn, 1) := by decide +kernel
theorem dX4_init_0 : decode cX4_init 0 = .ok (.aload_n 0, 1) := by decide +kernel
theorem dX4_init_1 : decode cX4_init 1 = .ok (.invokespecial 3, 3) := by decide +kernel
theorem dX4_init_4 : decode cX4_init 4 = .ok (.aload_n 0, 1) := by decide +kernel
theorem dX4_init_5 : decode cX4_init 5 = .ok (.iconst 5, 1) := by decide +kernel
theorem dX4_init_6 : decode cX4_init 6 = .ok (.anewarray 9, 3) := by decide +kernel
theorem dX4_init_9 : decode cX4_init 9 = .ok (.putfield 11, 3) := by decide +kernel
theorem dX4_init_12 : decode cX4_init 12 = .ok (.aload_n 0, 1) := by decide +kernel
theorem dX4_init_13 : decode cX4_init 13 = .ok (.iload_n 1, 1) := by decide +kernel
theorem dX4_init_14 : decode cX4_init 14 = .ok (.putfield 17, 3) := by decide +kernel
theorem dX4_init_17 : decode cX4_init 17 = .ok (.aload_n 0, 1) := by decide +kernel
theorem dX4_init_18 : decode cX4_init 18 = .ok (.iload_n 2, 1) := by decide +kernel
theorem dX4_init_19 : decode cX4_init 19 = .ok (.putfield 21, 3) := by decide +kernel
theorem dX4_init_22 : decode cX4_init 22 = .ok (.aload_n 0, 1) := by decide +kernel
theorem dX4_init_23 : decode cX4_init 23 = .ok (.aload_n 3, 1) := by decide +kernel
theorem dX4_init_24 : decode cX4_init 24 = .ok (.putfield 24, 3) := by decide +kernel
theorem dX4_init_27 : decode cX4_init 27 = .ok (.return_, 1) := by decide +kernel
theorem dX4_size_0 : decode cX4_size 0 = .ok (.iconst 0, 1) := by decide +kernel
theorem dX4_size_1 : decode cX4_size 1 = .ok (.istore_n 1, 1) := by decide +kernel
theorem dX4_size_2 : decode cX4_size 2 = .ok (.iconst 0, 1) := by decide +kernel
theorem dX4_size_3 : decode cX4_size 3 = .ok (.istore_n 2, 1) := by decide +kernel
theorem dX4_size_4 : decode cX4_size 4 = .ok (.iload_n 2, 1) := by decide +kernel
theorem dX4_size_5 : decode cX4_size 5 = .ok (.iconst 5, 1) := by decide +kernel
theorem dX4_size_6 : decode cX4_size 6 = .ok (.if_icmp .ge 30, 3) := by decide +kernel
theorem dX4_size_9 : decode cX4_size 9 = .ok (.aload_n 0, 1) := by decide +kernel
theorem dX4_size_10 : decode cX4_size 10 = .ok (.getfield 11, 3) := by decide +kernel
theorem dX4_size_13 : decode cX4_size 13 = .ok (.iload_n 2, 1) := by decide +kernel
theorem dX4_size_14 : decode cX4_size 14 = .ok (.aaload, 1) := by decide +kernel
theorem dX4_size_15 : decode cX4_size 15 = .ok (.ifnull 15, 3) := by decide +kernel
theorem dX4_size_18 : decode cX4_size 18 = .ok (.iload_n 1, 1) := by decide +kernel
theorem dX4_size_19 : decode cX4_size 19 = .ok (.aload_n 0, 1) := by decide +kernel
theorem dX4_size_20 : decode cX4_size 20 = .ok (.getfield 11, 3) := by decide +kernel
theorem dX4_size_23 : decode cX4_size 23 = .ok (.iload_n 2, 1) := by decide +kernel
theorem dX4_size_24 : decode cX4_size 24 = .ok (.aaload, 1) := by decide +kernel
theorem dX4_size_25 : decode cX4_size 25 = .ok (.invokevirtual 28, 3) := by decide +kernel
theorem dX4_size_28 : decode cX4_size 28 = .ok (.iadd, 1) := by decide +kernel
theorem dX4_size_29 : decode cX4_size 29 = .ok (.istore_n 1, 1) := by decide +kernel
theorem dX4_size_30 : decode cX4_size 30 = .ok (.iinc 2 1, 3) := by decide +kernel
theorem dX4_size_33 : decode cX4_size 33 = .ok (.goto (-29), 3) := by decide +kernel
theorem dX4_size_36 : decode cX4_size 36 = .ok (.iload_n 1, 1) := by decide +kernel
theorem dX4_size_37 : decode cX4_size 37 = .ok (.ireturn, 1) := by decide +kernel
theorem dX4_sizeMissingIn_0 : decode cX4_sizeMissingIn 0 = .ok (.iconst 0, 1) := by decide +kernel
theorem dX4_sizeMissingIn_1 : decode cX4_sizeMissingIn 1 = .ok (.istore_n 2, 1) := by decide +kernel
theorem dX4_sizeMissingIn_2 : decode cX4_sizeMissingIn 2 = .ok (.iconst 0, 1) := by decide +kernel
theorem dX4_sizeMissingIn_3 : decode cX4_sizeMissingIn 3 = .ok (.istore_n 3, 1) := by decide +kernel
theorem dX4_sizeMissingIn_4 : decode cX4_sizeMissingIn 4 = .ok (.iload_n 3, 1) := by decide +kernel
theorem dX4_sizeMissingIn_5 : decode cX4_sizeMissingIn 5 = .ok (.iconst 5, 1) := by decide +kernel
theorem dX4_sizeMissingIn_6 : decode cX4_sizeMissingIn 6 = .ok (.if_icmp .ge 39, 3) := by decide +kernel
theorem dX4_sizeMissingIn_9 : decode cX4_sizeMissingIn 9 = .ok (.aload_n 0, 1) := by decide +kernel
theorem dX4_sizeMissingIn_10 : decode cX4_sizeMissingIn 10 = .ok (.getfield 11, 3) := by decide +kernel
theorem dX4_sizeMissingIn_13 : decode cX4_sizeMissingIn 13 = .ok (.iload_n 3, 1) := by decide +kernel
theorem dX4_sizeMissingIn_14 : decode cX4_sizeMissingIn 14 = .ok (.aaload, 1) := by decide +kernel
theorem dX4_sizeMissingIn_15 : decode cX4_sizeMissingIn 15 = .ok (.ifnull 24, 3) := by decide +kernel
theorem dX4_sizeMissingIn_18 : decode cX4_sizeMissingIn 18 = .ok (.aload_n 1, 1) := by decide +kernel
theorem dX4_sizeMissingIn_19 : decode cX4_sizeMissingIn 19 = .ok (.getfield 11, 3) := by decide +kernel
theorem dX4_sizeMissingIn_22 : decode cX4_sizeMissingIn 22 = .ok (.iload_n 3, 1) := by decide +kernel
theorem dX4_sizeMissingIn_23 : decode cX4_sizeMissingIn 23 = .ok (.aaload, 1) := by decide +kernel
theorem dX4_sizeMissingIn_24 : decode cX4_sizeMissingIn 24 = .ok (.ifnonnull 15, 3) := by decide +kernel
theorem dX4_sizeMissingIn_27 : decode cX4_sizeMissingIn 27 = .ok (.iload_n 2, 1) := by decide +kernel
theorem dX4_sizeMissingIn_28 : decode cX4_sizeMissingIn 28 = .ok (.aload_n 0, 1) := by decide +kernel
theorem dX4_sizeMissingIn_29 : decode cX4_sizeMissingIn 29 = .ok (.getfield 11, 3) := by decide +kernel
theorem dX4_sizeMissingIn_32 : decode cX4_sizeMissingIn 32 = .ok (.iload_n 3, 1) := by decide +kernel
theorem dX4_sizeMissingIn_33 : decode cX4_sizeMissingIn 33 = .ok (.aaload, 1) := by decide +kernel
theorem dX4_sizeMissingIn_34 : decode cX4_sizeMissingIn 34 = .ok (.invokevirtual 28, 3) := by decide +kernel
theorem dX4_sizeMissingIn_37 : decode cX4_sizeMissingIn 37 = .ok (.iadd, 1) := by decide +kernel
theorem dX4_sizeMissingIn_38 : decode cX4_sizeMissingIn 38 = .ok (.istore_n 2, 1) := by decide +kernel
theorem dX4_sizeMissingIn_39 : decode cX4_sizeMissingIn 39 = .ok (.iinc 3 1, 3) := by decide +kernel
theorem dX4_sizeMissingIn_42 : decode cX4_sizeMissingIn 42 = .ok (.goto (-38), 3) := by decide +kernel
theorem dX4_sizeMissingIn_45 : decode cX4_sizeMissingIn 45 = .ok (.iload_n 2, 1) := by decide +kernel
theorem dX4_sizeMissingIn_46 : decode cX4_sizeMissingIn 46 = .ok (.ireturn, 1) := by decide +kernel
theorem dX4_inherit_0 : decode cX4_inherit 0 = .ok (.iconst 0, 1) := by decide +kernel
theorem dX4_inherit_1 : decode cX4_inherit 1 = .ok (.istore_n 2, 1) := by decide +kernel
theorem dX4_inherit_2 : decode cX4_inherit 2 = .ok (.iload_n 2, 1) := by decide +kernel
theorem dX4_inherit_3 : decode cX4_inherit 3 = .ok (.iconst 5, 1) := by decide +kernel
theorem dX4_inherit_4 : decode cX4_inherit 4 = .ok (.if_icmp .ge 30, 3) := by decide +kernel
theorem dX4_inherit_7 : decode cX4_inherit 7 = .ok (.aload_n 0, 1) := by decide +kernel
theorem dX4_inherit_8 : decode cX4_inherit 8 = .ok (.getfield 11, 3) := by decide +kernel
theorem dX4_inherit_11 : decode cX4_inherit 11 = .ok (.iload_n 2, 1) := by decide +kernel
theorem dX4_inherit_12 : decode cX4_inherit 12 = .ok (.aaload, 1) := by decide +kernel
theorem dX4_inherit_13 : decode cX4_inherit 13 = .ok (.ifnonnull 15, 3) := by decide +kernel
theorem dX4_inherit_16 : decode cX4_inherit 16 = .ok (.aload_n 0, 1) := by decide +kernel
theorem dX4_inherit_17 : decode cX4_inherit 17 = .ok (.getfield 11, 3) := by decide +kernel
theorem dX4_inherit_20 : decode cX4_inherit 20 = .ok (.iload_n 2, 1) := by decide +kernel
theorem dX4_inherit_21 : decode cX4_inherit 21 = .ok (.aload_n 1, 1) := by decide +kernel
theorem dX4_inherit_22 : decode cX4_inherit 22 = .ok (.getfield 11, 3) := by decide +kernel
theorem dX4_inherit_25 : decode cX4_inherit 25 = .ok (.iload_n 2, 1) := by decide +kernel
theorem dX4_inherit_26 : decode cX4_inherit 26 = .ok (.aaload, 1) := by decide +kernel
theorem dX4_inherit_27 : decode cX4_inherit 27 = .ok (.aastore, 1) := by decide +kernel
theorem dX4_inherit_28 : decode cX4_inherit 28 = .ok (.iinc 2 1, 3) := by decide +kernel
theorem dX4_inherit_31 : decode cX4_inherit 31 = .ok (.goto (-29), 3) := by decide +kernel
theorem dX4_inherit_34 : decode cX4_inherit 34 = .ok (.aload_n 0, 1) := by decide +kernel
theorem dX4_inherit_35 : decode cX4_inherit 35 = .ok (.aload_n 1, 1) := by decide +kernel
theorem dX4_inherit_36 : decode cX4_inherit 36 = .ok (.getfield 24, 3) := by decide +kernel
theorem dX4_inherit_39 : decode cX4_inherit 39 = .ok (.putfield 24, 3) := by decide +kernel
theorem dX4_inherit_42 : decode cX4_inherit 42 = .ok (.return_, 1) := by decide +kernel
theorem dX5_init_0 : decode cX5_init 0 = .ok (.aload_n 0, 1) := by decide +kernel
theorem dX5_init_1 : decode cX5_init 1 = .ok (.invokespecial 3, 3) := by decide +kernel
theorem dX5_init_4 : decode cX5_init 4 = .ok (.aload_n 0, 1) := by decide +kernel
theorem dX5_init_5 : decode cX5_init 5 = .ok (.iconst 4, 1) := by decide +kernel
theorem dX5_init_6 : decode cX5_init 6 = .ok (.anewarray 9, 3) := by decide +kernel
theorem dX5_init_9 : decode cX5_init 9 = .ok (.putfield 11, 3) := by decide +kernel
theorem dX5_init_12 : decode cX5_init 12 = .ok (.aload_n 0, 1) := by decide +kernel
theorem dX5_init_13 : decode cX5_init 13 = .ok (.iconst 0, 1) := by decide +kernel
theorem dX5_init_14 : decode cX5_init 14 = .ok (.putfield 15, 3) := by decide +kernel
theorem dX5_init_17 : decode cX5_init 17 = .ok (.aload_n 0, 1) := by decide +kernel
theorem dX5_init_18 : decode cX5_init 18 = .ok (.iconst 4, 1) := by decide +kernel
theorem dX5_init_19 : decode cX5_init 19 = .ok (.newarray .int, 2) := by decide +kernel
theorem dX5_init_21 : decode cX5_init 21 = .ok (.putfield 19, 3) := by decide +kernel
theorem dX5_init_24 : decode cX5_init 24 = .ok (.aload_n 0, 1) := by decide +kernel
theorem dX5_init_25 : decode cX5_init 25 = .ok (.iconst 4, 1) := by decide +kernel
theorem dX5_init_26 : decode cX5_init 26 = .ok (.newarray .int, 2) := by decide +kernel
theorem dX5_init_28 : decode cX5_init 28 = .ok (.putfield 23, 3) := by decide +kernel
theorem dX5_init_31 : decode cX5_init 31 = .ok (.aload_n 0, 1) := by decide +kernel
theorem dX5_init_32 : decode cX5_init 32 = .ok (.bipush 7, 2) := by decide +kernel
theorem dX5_init_34 : decode cX5_init 34 = .ok (.newarray .int, 2) := by decide +kernel
theorem dX5_init_36 : decode cX5_init 36 = .ok (.putfield 26, 3) := by decide +kernel
theorem dX5_init_39 : decode cX5_init 39 = .ok (.aload_n 0, 1) := by decide +kernel
theorem dX5_init_40 : decode cX5_init 40 = .ok (.bipush 12, 2) := by decide +kernel
theorem dX5_init_42 : decode cX5_init 42 = .ok (.bipush 50, 2) := by decide +kernel
theorem dX5_init_44 : decode cX5_init 44 = .ok (.multianewarray 29 2, 4) := by decide +kernel
theorem dX5_init_48 : decode cX5_init 48 = .ok (.putfield 31, 3) := by decide +kernel
theorem dX5_init_51 : decode cX5_init 51 = .ok (.aload_n 0, 1) := by decide +kernel
theorem dX5_init_52 : decode cX5_init 52 = .ok (.bipush 12, 2) := by decide +kernel
theorem dX5_init_54 : decode cX5_init 54 = .ok (.newarray .int, 2) := by decide +kernel
theorem dX5_init_56 : decode cX5_init 56 = .ok (.putfield 34, 3) := by decide +kernel
theorem dX5_init_59 : decode cX5_init 59 = .ok (.iconst 0, 1) := by decide +kernel
theorem dX5_init_60 : decode cX5_init 60 = .ok (.istore_n 1, 1) := by decide +kernel
theorem dX5_init_61 : decode cX5_init 61 = .ok (.iload_n 1, 1) := by decide +kernel
theorem dX5_init_62 : decode cX5_init 62 = .ok (.iconst 4, 1) := by decide +kernel
theorem dX5_init_63 : decode cX5_init 63 = .ok (.if_icmp .ge 17, 3) := by decide +kernel
theorem dX5_init_66 : decode cX5_init 66 = .ok (.aload_n 0, 1) := by decide +kernel
theorem dX5_init_67 : decode cX5_init 67 = .ok (.getfield 19, 3) := by decide +kernel
theorem dX5_init_70 : decode cX5_init 70 = .ok (.iload_n 1, 1) := by decide +kernel
theorem dX5_init_71 : decode cX5_init 71 = .ok (.bipush 100, 2) := by decide +kernel
theorem dX5_init_73 : decode cX5_init 73 = .ok (.iastore, 1) := by decide +kernel
theorem dX5_init_74 : decode cX5_init 74 = .ok (.iinc 1 1, 3) := by decide +kernel
theorem dX5_init_77 : decode cX5_init 77 = .ok (.goto (-16), 3) := by decide +kernel
theorem dX5_init_80 : decode cX5_init 80 = .ok (.return_, 1) := by decide +kernel
theorem dX5_addSheet_0 : decode cX5_addSheet 0 = .ok (.aload_n 0, 1) := by decide +kernel
theorem dX5_addSheet_1 : decode cX5_addSheet 1 = .ok (.getfield 15, 3) := by decide +kernel
theorem dX5_addSheet_4 : decode cX5_addSheet 4 = .ok (.iconst 4, 1) := by decide +kernel
theorem dX5_addSheet_5 : decode cX5_addSheet 5 = .ok (.if_icmp .lt 13, 3) := by decide +kernel
theorem dX5_addSheet_8 : decode cX5_addSheet 8 = .ok (.new 37, 3) := by decide +kernel
theorem dX5_addSheet_11 : decode cX5_addSheet 11 = .ok (.dup, 1) := by decide +kernel
theorem dX5_addSheet_12 : decode cX5_addSheet 12 = .ok (.ldc 39, 2) := by decide +kernel
theorem dX5_addSheet_14 : decode cX5_addSheet 14 = .ok (.invokespecial 41, 3) := by decide +kernel
theorem dX5_addSheet_17 : decode cX5_addSheet 17 = .ok (.athrow, 1) := by decide +kernel
theorem dX5_addSheet_18 : decode cX5_addSheet 18 = .ok (.aload_n 0, 1) := by decide +kernel
theorem dX5_addSheet_19 : decode cX5_addSheet 19 = .ok (.getfield 15, 3) := by decide +kernel
theorem dX5_addSheet_22 : decode cX5_addSheet 22 = .ok (.istore_n 1, 1) := by decide +kernel
theorem dX5_addSheet_23 : decode cX5_addSheet 23 = .ok (.aload_n 0, 1) := by decide +kernel
theorem dX5_addSheet_24 : decode cX5_addSheet 24 = .ok (.getfield 11, 3) := by decide +kernel
theorem dX5_addSheet_27 : decode cX5_addSheet 27 = .ok (.iload_n 1, 1) := by decide +kernel
theorem dX5_addSheet_28 : decode cX5_addSheet 28 = .ok (.new 9, 3) := by decide +kernel
theorem dX5_addSheet_31 : decode cX5_addSheet 31 = .ok (.dup, 1) := by decide +kernel
theorem dX5_addSheet_32 : decode cX5_addSheet 32 = .ok (.invokespecial 44, 3) := by decide +kernel
theorem dX5_addSheet_35 : decode cX5_addSheet 35 = .ok (.aastore, 1) := by decide +kernel
theorem dX5_addSheet_36 : decode cX5_addSheet 36 = .ok (.aload_n 0, 1) := by decide +kernel
theorem dX5_addSheet_37 : decode cX5_addSheet 37 = .ok (.dup, 1) := by decide +kernel
theorem dX5_addSheet_38 : decode cX5_addSheet 38 = .ok (.getfield 15, 3) := by decide +kernel
theorem dX5_addSheet_41 : decode cX5_addSheet 41 = .ok (.iconst 1, 1) := by decide +kernel
theorem dX5_addSheet_42 : decode cX5_addSheet 42 = .ok (.iadd, 1) := by decide +kernel
theorem dX5_addSheet_43 : decode cX5_addSheet 43 = .ok (.putfield 15, 3) := by decide +kernel
theorem dX5_addSheet_46 : decode cX5_addSheet 46 = .ok (.iload_n 1, 1) := by decide +kernel
theorem dX5_addSheet_47 : decode cX5_addSheet 47 = .ok (.ireturn, 1) := by decide +kernel
theorem dX5_setNumber_0 : decode cX5_setNumber 0 = .ok (.iload_n 1, 1) := by decide +kernel
theorem dX5_setNumber_1 : decode cX5_setNumber 1 = .ok (.invokestatic 45, 3) := by decide +kernel
theorem dX5_setNumber_4 : decode cX5_setNumber 4 = .ok (.aload_n 0, 1) := by decide +kernel
theorem dX5_setNumber_5 : decode cX5_setNumber 5 = .ok (.iload_n 2, 1) := by decide +kernel
theorem dX5_setNumber_6 : decode cX5_setNumber 6 = .ok (.invokevirtual 49, 3) := by decide +kernel
theorem dX5_setNumber_9 : decode cX5_setNumber 9 = .ok (.astore 7, 2) := by decide +kernel
theorem dX5_setNumber_11 : decode cX5_setNumber 11 = .ok (.iload_n 3, 1) := by decide +kernel
theorem dX5_setNumber_12 : decode cX5_setNumber 12 = .ok (.invokestatic 53, 3) := by decide +kernel
theorem dX5_setNumber_15 : decode cX5_setNumber 15 = .ok (.iload 4, 2) := by decide +kernel
theorem dX5_setNumber_17 : decode cX5_setNumber 17 = .ok (.iconst 1, 1) := by decide +kernel
theorem dX5_setNumber_18 : decode cX5_setNumber 18 = .ok (.bipush 10, 2) := by decide +kernel
theorem dX5_setNumber_20 : decode cX5_setNumber 20 = .ok (.invokestatic 56, 3) := by decide +kernel
theorem dX5_setNumber_23 : decode cX5_setNumber 23 = .ok (.iload 5, 2) := by decide +kernel
theorem dX5_setNumber_25 : decode cX5_setNumber 25 = .ok (.iload 6, 2) := by decide +kernel
theorem dX5_setNumber_27 : decode cX5_setNumber 27 = .ok (.invokestatic 60, 3) := by decide +kernel
theorem dX5_setNumber_30 : decode cX5_setNumber 30 = .ok (.aload_n 0, 1) := by decide +kernel
theorem dX5_setNumber_31 : decode cX5_setNumber 31 = .ok (.iload_n 1, 1) := by decide +kernel
theorem dX5_setNumber_32 : decode cX5_setNumber 32 = .ok (.aload 7, 2) := by decide +kernel
theorem dX5_setNumber_34 : decode cX5_setNumber 34 = .ok (.iload_n 3, 1) := by decide +kernel
theorem dX5_setNumber_35 : decode cX5_setNumber 35 = .ok (.new 64, 3) := by decide +kernel
theorem dX5_setNumber_38 : decode cX5_setNumber 38 = .ok (.dup, 1) := by decide +kernel
theorem dX5_setNumber_39 : decode cX5_setNumber 39 = .ok (.iconst 0, 1) := by decide +kernel
theorem dX5_setNumber_40 : decode cX5_setNumber 40 = .ok (.iload 4, 2) := by decide +kernel
theorem dX5_setNumber_42 : decode cX5_setNumber 42 = .ok (.iload 5, 2) := by decide +kernel
theorem dX5_setNumber_44 : decode cX5_setNumber 44 = .ok (.iload 6, 2) := by decide +kernel
theorem dX5_setNumber_46 : decode cX5_setNumber 46 = .ok (.invokespecial 66, 3) := by decide +kernel
theorem dX5_setNumber_49 : decode cX5_setNumber 49 = .ok (.invokevirtual 69, 3) := by decide +kernel
theorem dX5_setNumber_52 : decode cX5_setNumber 52 = .ok (.ireturn, 1) := by decide +kernel
theorem dX5_setChoice_0 : decode cX5_setChoice 0 = .ok (.iload_n 1, 1) := by decide +kernel
theorem dX5_setChoice_1 : decode cX5_setChoice 1 = .ok (.invokestatic 45, 3) := by decide +kernel
theorem dX5_setChoice_4 : decode cX5_setChoice 4 = .ok (.aload_n 0, 1) := by decide +kernel
theorem dX5_setChoice_5 : decode cX5_setChoice 5 = .ok (.iload_n 2, 1) := by decide +kernel
theorem dX5_setChoice_6 : decode cX5_setChoice 6 = .ok (.invokevirtual 49, 3) := by decide +kernel
theorem dX5_setChoice_9 : decode cX5_setChoice 9 = .ok (.astore 6, 2) := by decide +kernel
theorem dX5_setChoice_11 : decode cX5_setChoice 11 = .ok (.iload_n 3, 1) := by decide +kernel
theorem dX5_setChoice_12 : decode cX5_setChoice 12 = .ok (.invokestatic 53, 3) := by decide +kernel
theorem dX5_setChoice_15 : decode cX5_setChoice 15 = .ok (.iload 4, 2) := by decide +kernel
theorem dX5_setChoice_17 : decode cX5_setChoice 17 = .ok (.iconst 1, 1) := by decide +kernel
theorem dX5_setChoice_18 : decode cX5_setChoice 18 = .ok (.bipush 10, 2) := by decide +kernel
theorem dX5_setChoice_20 : decode cX5_setChoice 20 = .ok (.invokestatic 56, 3) := by decide +kernel
theorem dX5_setChoice_23 : decode cX5_setChoice 23 = .ok (.iload 5, 2) := by decide +kernel
theorem dX5_setChoice_25 : decode cX5_setChoice 25 = .ok (.iconst 0, 1) := by decide +kernel
theorem dX5_setChoice_26 : decode cX5_setChoice 26 = .ok (.bipush 31, 2) := by decide +kernel
theorem dX5_setChoice_28 : decode cX5_setChoice 28 = .ok (.invokestatic 56, 3) := by decide +kernel
theorem dX5_setChoice_31 : decode cX5_setChoice 31 = .ok (.aload_n 0, 1) := by decide +kernel
theorem dX5_setChoice_32 : decode cX5_setChoice 32 = .ok (.iload_n 1, 1) := by decide +kernel
theorem dX5_setChoice_33 : decode cX5_setChoice 33 = .ok (.aload 6, 2) := by decide +kernel
theorem dX5_setChoice_35 : decode cX5_setChoice 35 = .ok (.iload_n 3, 1) := by decide +kernel
theorem dX5_setChoice_36 : decode cX5_setChoice 36 = .ok (.new 64, 3) := by decide +kernel
theorem dX5_setChoice_39 : decode cX5_setChoice 39 = .ok (.dup, 1) := by decide +kernel
theorem dX5_setChoice_40 : decode cX5_setChoice 40 = .ok (.iconst 1, 1) := by decide +kernel
theorem dX5_setChoice_41 : decode cX5_setChoice 41 = .ok (.iload 4, 2) := by decide +kernel
theorem dX5_setChoice_43 : decode cX5_setChoice 43 = .ok (.iload 5, 2) := by decide +kernel
theorem dX5_setChoice_45 : decode cX5_setChoice 45 = .ok (.iconst 0, 1) := by decide +kernel
theorem dX5_setChoice_46 : decode cX5_setChoice 46 = .ok (.invokespecial 66, 3) := by decide +kernel
theorem dX5_setChoice_49 : decode cX5_setChoice 49 = .ok (.invokevirtual 69, 3) := by decide +kernel
theorem dX5_setChoice_52 : decode cX5_setChoice 52 = .ok (.ireturn, 1) := by decide +kernel
theorem dX5_setWords_0 : decode cX5_setWords 0 = .ok (.iload_n 1, 1) := by decide +kernel
theorem dX5_setWords_1 : decode cX5_setWords 1 = .ok (.invokestatic 45, 3) := by decide +kernel
theorem dX5_setWords_4 : decode cX5_setWords 4 = .ok (.aload_n 0, 1) := by decide +kernel
theorem dX5_setWords_5 : decode cX5_setWords 5 = .ok (.iload_n 2, 1) := by decide +kernel
theorem dX5_setWords_6 : decode cX5_setWords 6 = .ok (.invokevirtual 49, 3) := by decide +kernel
theorem dX5_setWords_9 : decode cX5_setWords 9 = .ok (.astore 6, 2) := by decide +kernel
theorem dX5_setWords_11 : decode cX5_setWords 11 = .ok (.iload_n 3, 1) := by decide +kernel
theorem dX5_setWords_12 : decode cX5_setWords 12 = .ok (.invokestatic 53, 3) := by decide +kernel
theorem dX5_setWords_15 : decode cX5_setWords 15 = .ok (.iload 4, 2) := by decide +kernel
theorem dX5_setWords_17 : decode cX5_setWords 17 = .ok (.iconst 1, 1) := by decide +kernel
theorem dX5_setWords_18 : decode cX5_setWords 18 = .ok (.bipush 10, 2) := by decide +kernel
theorem dX5_setWords_20 : decode cX5_setWords 20 = .ok (.invokestatic 56, 3) := by decide +kernel
theorem dX5_setWords_23 : decode cX5_setWords 23 = .ok (.iload 5, 2) := by decide +kernel
theorem dX5_setWords_25 : decode cX5_setWords 25 = .ok (.invokestatic 73, 3) := by decide +kernel
theorem dX5_setWords_28 : decode cX5_setWords 28 = .ok (.aload_n 0, 1) := by decide +kernel
theorem dX5_setWords_29 : decode cX5_setWords 29 = .ok (.iload_n 1, 1) := by decide +kernel
theorem dX5_setWords_30 : decode cX5_setWords 30 = .ok (.aload 6, 2) := by decide +kernel
theorem dX5_setWords_32 : decode cX5_setWords 32 = .ok (.iload_n 3, 1) := by decide +kernel
theorem dX5_setWords_33 : decode cX5_setWords 33 = .ok (.new 64, 3) := by decide +kernel
theorem dX5_setWords_36 : decode cX5_setWords 36 = .ok (.dup, 1) := by decide +kernel
theorem dX5_setWords_37 : decode cX5_setWords 37 = .ok (.iconst 2, 1) := by decide +kernel
theorem dX5_setWords_38 : decode cX5_setWords 38 = .ok (.iload 4, 2) := by decide +kernel
theorem dX5_setWords_40 : decode cX5_setWords 40 = .ok (.iload 5, 2) := by decide +kernel
theorem dX5_setWords_42 : decode cX5_setWords 42 = .ok (.iconst 0, 1) := by decide +kernel
theorem dX5_setWords_43 : decode cX5_setWords 43 = .ok (.invokespecial 66, 3) := by decide +kernel
theorem dX5_setWords_46 : decode cX5_setWords 46 = .ok (.invokevirtual 69, 3) := by decide +kernel
theorem dX5_setWords_49 : decode cX5_setWords 49 = .ok (.ireturn, 1) := by decide +kernel
theorem dX5_drop_0 : decode cX5_drop 0 = .ok (.iload_n 1, 1) := by decide +kernel
theorem dX5_drop_1 : decode cX5_drop 1 = .ok (.invokestatic 45, 3) := by decide +kernel
theorem dX5_drop_4 : decode cX5_drop 4 = .ok (.aload_n 0, 1) := by decide +kernel
theorem dX5_drop_5 : decode cX5_drop 5 = .ok (.iload_n 2, 1) := by decide +kernel
theorem dX5_drop_6 : decode cX5_drop 6 = .ok (.invokevirtual 49, 3) := by decide +kernel
theorem dX5_drop_9 : decode cX5_drop 9 = .ok (.astore 4, 2) := by decide +kernel
theorem dX5_drop_11 : decode cX5_drop 11 = .ok (.iload_n 3, 1) := by decide +kernel
theorem dX5_drop_12 : decode cX5_drop 12 = .ok (.invokestatic 53, 3) := by decide +kernel
theorem dX5_drop_15 : decode cX5_drop 15 = .ok (.aload 4, 2) := by decide +kernel
theorem dX5_drop_17 : decode cX5_drop 17 = .ok (.getfield 76, 3) := by decide +kernel
theorem dX5_drop_20 : decode cX5_drop 20 = .ok (.iload_n 1, 1) := by decide +kernel
theorem dX5_drop_21 : decode cX5_drop 21 = .ok (.aaload, 1) := by decide +kernel
theorem dX5_drop_22 : decode cX5_drop 22 = .ok (.iload_n 3, 1) := by decide +kernel
theorem dX5_drop_23 : decode cX5_drop 23 = .ok (.invokestatic 80, 3) := by decide +kernel
theorem dX5_drop_26 : decode cX5_drop 26 = .ok (.ifnonnull 13, 3) := by decide +kernel
theorem dX5_drop_29 : decode cX5_drop 29 = .ok (.new 37, 3) := by decide +kernel
theorem dX5_drop_32 : decode cX5_drop 32 = .ok (.dup, 1) := by decide +kernel
theorem dX5_drop_33 : decode cX5_drop 33 = .ok (.ldc 84, 2) := by decide +kernel
theorem dX5_drop_35 : decode cX5_drop 35 = .ok (.invokespecial 41, 3) := by decide +kernel
theorem dX5_drop_38 : decode cX5_drop 38 = .ok (.athrow, 1) := by decide +kernel
theorem dX5_drop_39 : decode cX5_drop 39 = .ok (.aload_n 0, 1) := by decide +kernel
theorem dX5_drop_40 : decode cX5_drop 40 = .ok (.iload_n 1, 1) := by decide +kernel
theorem dX5_drop_41 : decode cX5_drop 41 = .ok (.aload 4, 2) := by decide +kernel
theorem dX5_drop_43 : decode cX5_drop 43 = .ok (.iload_n 3, 1) := by decide +kernel
theorem dX5_drop_44 : decode cX5_drop 44 = .ok (.new 64, 3) := by decide +kernel
theorem dX5_drop_47 : decode cX5_drop 47 = .ok (.dup, 1) := by decide +kernel
theorem dX5_drop_48 : decode cX5_drop 48 = .ok (.iconst (-1), 1) := by decide +kernel
theorem dX5_drop_49 : decode cX5_drop 49 = .ok (.iconst 0, 1) := by decide +kernel
theorem dX5_drop_50 : decode cX5_drop 50 = .ok (.iconst 0, 1) := by decide +kernel
theorem dX5_drop_51 : decode cX5_drop 51 = .ok (.iconst 0, 1) := by decide +kernel
theorem dX5_drop_52 : decode cX5_drop 52 = .ok (.invokespecial 66, 3) := by decide +kernel
theorem dX5_drop_55 : decode cX5_drop 55 = .ok (.invokevirtual 69, 3) := by decide +kernel
theorem dX5_drop_58 : decode cX5_drop 58 = .ok (.ireturn, 1) := by decide +kernel
theorem dX5_adopt_0 : decode cX5_adopt 0 = .ok (.iload_n 1, 1) := by decide +kernel
theorem dX5_adopt_1 : decode cX5_adopt 1 = .ok (.invokestatic 45, 3) := by decide +kernel
theorem dX5_adopt_4 : decode cX5_adopt 4 = .ok (.aload_n 0, 1) := by decide +kernel
theorem dX5_adopt_5 : decode cX5_adopt 5 = .ok (.iload_n 2, 1) := by decide +kernel
theorem dX5_adopt_6 : decode cX5_adopt 6 = .ok (.invokevirtual 49, 3) := by decide +kernel
theorem dX5_adopt_9 : decode cX5_adopt 9 = .ok (.astore 4, 2) := by decide +kernel
theorem dX5_adopt_11 : decode cX5_adopt 11 = .ok (.aload 4, 2) := by decide +kernel
theorem dX5_adopt_13 : decode cX5_adopt 13 = .ok (.iload_n 3, 1) := by decide +kernel
theorem dX5_adopt_14 : decode cX5_adopt 14 = .ok (.invokestatic 86, 3) := by decide +kernel
theorem dX5_adopt_17 : decode cX5_adopt 17 = .ok (.astore 5, 2) := by decide +kernel
theorem dX5_adopt_19 : decode cX5_adopt 19 = .ok (.aload 4, 2) := by decide +kernel
theorem dX5_adopt_21 : decode cX5_adopt 21 = .ok (.getfield 76, 3) := by decide +kernel
theorem dX5_adopt_24 : decode cX5_adopt 24 = .ok (.iload_n 1, 1) := by decide +kernel
theorem dX5_adopt_25 : decode cX5_adopt 25 = .ok (.aaload, 1) := by decide +kernel
theorem dX5_adopt_26 : decode cX5_adopt 26 = .ok (.invokestatic 90, 3) := by decide +kernel
theorem dX5_adopt_29 : decode cX5_adopt 29 = .ok (.istore 6, 2) := by decide +kernel
theorem dX5_adopt_31 : decode cX5_adopt 31 = .ok (.aload 4, 2) := by decide +kernel
theorem dX5_adopt_33 : decode cX5_adopt 33 = .ok (.getfield 76, 3) := by decide +kernel
theorem dX5_adopt_36 : decode cX5_adopt 36 = .ok (.iload_n 1, 1) := by decide +kernel
theorem dX5_adopt_37 : decode cX5_adopt 37 = .ok (.aload 5, 2) := by decide +kernel
theorem dX5_adopt_39 : decode cX5_adopt 39 = .ok (.aastore, 1) := by decide +kernel
theorem dX5_adopt_40 : decode cX5_adopt 40 = .ok (.iload 6, 2) := by decide +kernel
theorem dX5_adopt_42 : decode cX5_adopt 42 = .ok (.ireturn, 1) := by decide +kernel
theorem dX5_fold_0 : decode cX5_fold 0 = .ok (.aload_n 0, 1) := by decide +kernel
theorem dX5_fold_1 : decode cX5_fold 1 = .ok (.iload_n 1, 1) := by decide +kernel
theorem dX5_fold_2 : decode cX5_fold 2 = .ok (.invokevirtual 49, 3) := by decide +kernel
theorem dX5_fold_5 : decode cX5_fold 5 = .ok (.astore_n 3, 1) := by decide +kernel
theorem dX5_fold_6 : decode cX5_fold 6 = .ok (.aload_n 3, 1) := by decide +kernel
theorem dX5_fold_7 : decode cX5_fold 7 = .ok (.iload_n 2, 1) := by decide +kernel
theorem dX5_fold_8 : decode cX5_fold 8 = .ok (.invokestatic 86, 3) := by decide +kernel
theorem dX5_fold_11 : decode cX5_fold 11 = .ok (.astore 4, 2) := by decide +kernel
theorem dX5_fold_13 : decode cX5_fold 13 = .ok (.aload_n 3, 1) := by decide +kernel
theorem dX5_fold_14 : decode cX5_fold 14 = .ok (.aload 4, 2) := by decide +kernel
theorem dX5_fold_16 : decode cX5_fold 16 = .ok (.invokevirtual 94, 3) := by decide +kernel
theorem dX5_fold_19 : decode cX5_fold 19 = .ok (.ifCond .ne 13, 3) := by decide +kernel
theorem dX5_fold_22 : decode cX5_fold 22 = .ok (.new 37, 3) := by decide +kernel
theorem dX5_fold_25 : decode cX5_fold 25 = .ok (.dup, 1) := by decide +kernel
theorem dX5_fold_26 : decode cX5_fold 26 = .ok (.ldc 98, 2) := by decide +kernel
theorem dX5_fold_28 : decode cX5_fold 28 = .ok (.invokespecial 41, 3) := by decide +kernel
theorem dX5_fold_31 : decode cX5_fold 31 = .ok (.athrow, 1) := by decide +kernel
theorem dX5_fold_32 : decode cX5_fold 32 = .ok (.aload_n 3, 1) := by decide +kernel
theorem dX5_fold_33 : decode cX5_fold 33 = .ok (.aload 4, 2) := by decide +kernel
theorem dX5_fold_35 : decode cX5_fold 35 = .ok (.invokevirtual 100, 3) := by decide +kernel
theorem dX5_fold_38 : decode cX5_fold 38 = .ok (.astore 5, 2) := by decide +kernel
theorem dX5_fold_40 : decode cX5_fold 40 = .ok (.aload 4, 2) := by decide +kernel
theorem dX5_fold_42 : decode cX5_fold 42 = .ok (.invokevirtual 104, 3) := by decide +kernel
theorem dX5_fold_45 : decode cX5_fold 45 = .ok (.istore 6, 2) := by decide +kernel
theorem dX5_fold_47 : decode cX5_fold 47 = .ok (.iconst 0, 1) := by decide +kernel
theorem dX5_fold_48 : decode cX5_fold 48 = .ok (.istore 7, 2) := by decide +kernel
theorem dX5_fold_50 : decode cX5_fold 50 = .ok (.aload 5, 2) := by decide +kernel
theorem dX5_fold_52 : decode cX5_fold 52 = .ok (.ifnull 67, 3) := by decide +kernel
theorem dX5_fold_55 : decode cX5_fold 55 = .ok (.aload 4, 2) := by decide +kernel
theorem dX5_fold_57 : decode cX5_fold 57 = .ok (.aload 5, 2) := by decide +kernel
theorem dX5_fold_59 : decode cX5_fold 59 = .ok (.invokevirtual 110, 3) := by decide +kernel
theorem dX5_fold_62 : decode cX5_fold 62 = .ok (.istore 7, 2) := by decide +kernel
theorem dX5_fold_64 : decode cX5_fold 64 = .ok (.aload 5, 2) := by decide +kernel
theorem dX5_fold_66 : decode cX5_fold 66 = .ok (.getfield 113, 3) := by decide +kernel
theorem dX5_fold_69 : decode cX5_fold 69 = .ok (.aload 4, 2) := by decide +kernel
theorem dX5_fold_71 : decode cX5_fold 71 = .ok (.getfield 113, 3) := by decide +kernel
theorem dX5_fold_74 : decode cX5_fold 74 = .ok (.if_icmp .eq 27, 3) := by decide +kernel
theorem dX5_fold_77 : decode cX5_fold 77 = .ok (.aload_n 0, 1) := by decide +kernel
theorem dX5_fold_78 : decode cX5_fold 78 = .ok (.aload 5, 2) := by decide +kernel
theorem dX5_fold_80 : decode cX5_fold 80 = .ok (.getfield 113, 3) := by decide +kernel
theorem dX5_fold_83 : decode cX5_fold 83 = .ok (.iload 7, 2) := by decide +kernel
theorem dX5_fold_85 : decode cX5_fold 85 = .ok (.invokevirtual 116, 3) := by decide +kernel
theorem dX5_fold_88 : decode cX5_fold 88 = .ok (.ifCond .eq 13, 3) := by decide +kernel
theorem dX5_fold_91 : decode cX5_fold 91 = .ok (.new 37, 3) := by decide +kernel
theorem dX5_fold_94 : decode cX5_fold 94 = .ok (.dup, 1) := by decide +kernel
theorem dX5_fold_95 : decode cX5_fold 95 = .ok (.ldc 120, 2) := by decide +kernel
theorem dX5_fold_97 : decode cX5_fold 97 = .ok (.invokespecial 41, 3) := by decide +kernel
theorem dX5_fold_100 : decode cX5_fold 100 = .ok (.athrow, 1) := by decide +kernel
theorem dX5_fold_101 : decode cX5_fold 101 = .ok (.aload_n 0, 1) := by decide +kernel
theorem dX5_fold_102 : decode cX5_fold 102 = .ok (.aload 5, 2) := by decide +kernel
theorem dX5_fold_104 : decode cX5_fold 104 = .ok (.getfield 113, 3) := by decide +kernel
theorem dX5_fold_107 : decode cX5_fold 107 = .ok (.iload 7, 2) := by decide +kernel
theorem dX5_fold_109 : decode cX5_fold 109 = .ok (.invokevirtual 122, 3) := by decide +kernel
theorem dX5_fold_112 : decode cX5_fold 112 = .ok (.aload 5, 2) := by decide +kernel
theorem dX5_fold_114 : decode cX5_fold 114 = .ok (.aload 4, 2) := by decide +kernel
theorem dX5_fold_116 : decode cX5_fold 116 = .ok (.invokevirtual 125, 3) := by decide +kernel
theorem dX5_fold_119 : decode cX5_fold 119 = .ok (.aload_n 0, 1) := by decide +kernel
theorem dX5_fold_120 : decode cX5_fold 120 = .ok (.aload 4, 2) := by decide +kernel
theorem dX5_fold_122 : decode cX5_fold 122 = .ok (.getfield 113, 3) := by decide +kernel
theorem dX5_fold_125 : decode cX5_fold 125 = .ok (.iload 6, 2) := by decide +kernel
theorem dX5_fold_127 : decode cX5_fold 127 = .ok (.ineg, 1) := by decide +kernel
theorem dX5_fold_128 : decode cX5_fold 128 = .ok (.invokevirtual 122, 3) := by decide +kernel
theorem dX5_fold_131 : decode cX5_fold 131 = .ok (.aload_n 3, 1) := by decide +kernel
theorem dX5_fold_132 : decode cX5_fold 132 = .ok (.aload 4, 2) := by decide +kernel
theorem dX5_fold_134 : decode cX5_fold 134 = .ok (.invokevirtual 129, 3) := by decide +kernel
theorem dX5_fold_137 : decode cX5_fold 137 = .ok (.iload 6, 2) := by decide +kernel
theorem dX5_fold_139 : decode cX5_fold 139 = .ok (.iload 7, 2) := by decide +kernel
theorem dX5_fold_141 : decode cX5_fold 141 = .ok (.isub, 1) := by decide +kernel
theorem dX5_fold_142 : decode cX5_fold 142 = .ok (.ireturn, 1) := by decide +kernel
theorem dX5_sheets_0 : decode cX5_sheets 0 = .ok (.aload_n 0, 1) := by decide +kernel
theorem dX5_sheets_1 : decode cX5_sheets 1 = .ok (.getfield 15, 3) := by decide +kernel
theorem dX5_sheets_4 : decode cX5_sheets 4 = .ok (.ireturn, 1) := by decide +kernel
theorem dX5_versions_0 : decode cX5_versions 0 = .ok (.aload_n 0, 1) := by decide +kernel
theorem dX5_versions_1 : decode cX5_versions 1 = .ok (.iload_n 1, 1) := by decide +kernel
theorem dX5_versions_2 : decode cX5_versions 2 = .ok (.invokevirtual 49, 3) := by decide +kernel
theorem dX5_versions_5 : decode cX5_versions 5 = .ok (.astore_n 2, 1) := by decide +kernel
theorem dX5_versions_6 : decode cX5_versions 6 = .ok (.iconst 0, 1) := by decide +kernel
theorem dX5_versions_7 : decode cX5_versions 7 = .ok (.istore_n 3, 1) := by decide +kernel
theorem dX5_versions_8 : decode cX5_versions 8 = .ok (.iconst 0, 1) := by decide +kernel
theorem dX5_versions_9 : decode cX5_versions 9 = .ok (.istore 4, 2) := by decide +kernel
theorem dX5_versions_11 : decode cX5_versions 11 = .ok (.iload 4, 2) := by decide +kernel
theorem dX5_versions_13 : decode cX5_versions 13 = .ok (.bipush 16, 2) := by decide +kernel
theorem dX5_versions_15 : decode cX5_versions 15 = .ok (.if_icmp .ge 22, 3) := by decide +kernel
theorem dX5_versions_18 : decode cX5_versions 18 = .ok (.aload_n 2, 1) := by decide +kernel
theorem dX5_versions_19 : decode cX5_versions 19 = .ok (.getfield 132, 3) := by decide +kernel
theorem dX5_versions_22 : decode cX5_versions 22 = .ok (.iload 4, 2) := by decide +kernel
theorem dX5_versions_24 : decode cX5_versions 24 = .ok (.aaload, 1) := by decide +kernel
theorem dX5_versions_25 : decode cX5_versions 25 = .ok (.ifnull 6, 3) := by decide +kernel
theorem dX5_versions_28 : decode cX5_versions 28 = .ok (.iinc 3 1, 3) := by decide +kernel
theorem dX5_versions_31 : decode cX5_versions 31 = .ok (.iinc 4 1, 3) := by decide +kernel
theorem dX5_versions_34 : decode cX5_versions 34 = .ok (.goto (-23), 3) := by decide +kernel
theorem dX5_versions_37 : decode cX5_versions 37 = .ok (.iload_n 3, 1) := by decide +kernel
theorem dX5_versions_38 : decode cX5_versions 38 = .ok (.ireturn, 1) := by decide +kernel
theorem dX5_head_0 : decode cX5_head 0 = .ok (.iload_n 1, 1) := by decide +kernel
theorem dX5_head_1 : decode cX5_head 1 = .ok (.invokestatic 45, 3) := by decide +kernel
theorem dX5_head_4 : decode cX5_head 4 = .ok (.aload_n 0, 1) := by decide +kernel
theorem dX5_head_5 : decode cX5_head 5 = .ok (.iload_n 2, 1) := by decide +kernel
theorem dX5_head_6 : decode cX5_head 6 = .ok (.invokevirtual 49, 3) := by decide +kernel
theorem dX5_head_9 : decode cX5_head 9 = .ok (.getfield 76, 3) := by decide +kernel
theorem dX5_head_12 : decode cX5_head 12 = .ok (.iload_n 1, 1) := by decide +kernel
theorem dX5_head_13 : decode cX5_head 13 = .ok (.aaload, 1) := by decide +kernel
theorem dX5_head_14 : decode cX5_head 14 = .ok (.invokestatic 90, 3) := by decide +kernel
theorem dX5_head_17 : decode cX5_head 17 = .ok (.ireturn, 1) := by decide +kernel
theorem dX5_parent_0 : decode cX5_parent 0 = .ok (.aload_n 0, 1) := by decide +kernel
theorem dX5_parent_1 : decode cX5_parent 1 = .ok (.iload_n 1, 1) := by decide +kernel
theorem dX5_parent_2 : decode cX5_parent 2 = .ok (.invokevirtual 49, 3) := by decide +kernel
theorem dX5_parent_5 : decode cX5_parent 5 = .ok (.iload_n 2, 1) := by decide +kernel
theorem dX5_parent_6 : decode cX5_parent 6 = .ok (.invokestatic 86, 3) := by decide +kernel
theorem dX5_parent_9 : decode cX5_parent 9 = .ok (.getfield 135, 3) := by decide +kernel
theorem dX5_parent_12 : decode cX5_parent 12 = .ok (.invokestatic 90, 3) := by decide +kernel
theorem dX5_parent_15 : decode cX5_parent 15 = .ok (.ireturn, 1) := by decide +kernel
theorem dX5_kindOf_0 : decode cX5_kindOf 0 = .ok (.aload_n 0, 1) := by decide +kernel
theorem dX5_kindOf_1 : decode cX5_kindOf 1 = .ok (.iload_n 1, 1) := by decide +kernel
theorem dX5_kindOf_2 : decode cX5_kindOf 2 = .ok (.invokevirtual 49, 3) := by decide +kernel
theorem dX5_kindOf_5 : decode cX5_kindOf 5 = .ok (.iload_n 2, 1) := by decide +kernel
theorem dX5_kindOf_6 : decode cX5_kindOf 6 = .ok (.invokestatic 86, 3) := by decide +kernel
theorem dX5_kindOf_9 : decode cX5_kindOf 9 = .ok (.astore 4, 2) := by decide +kernel
theorem dX5_kindOf_11 : decode cX5_kindOf 11 = .ok (.iload_n 3, 1) := by decide +kernel
theorem dX5_kindOf_12 : decode cX5_kindOf 12 = .ok (.invokestatic 53, 3) := by decide +kernel
theorem dX5_kindOf_15 : decode cX5_kindOf 15 = .ok (.aload 4, 2) := by decide +kernel
theorem dX5_kindOf_17 : decode cX5_kindOf 17 = .ok (.iload_n 3, 1) := by decide +kernel
theorem dX5_kindOf_18 : decode cX5_kindOf 18 = .ok (.invokestatic 80, 3) := by decide +kernel
theorem dX5_kindOf_21 : decode cX5_kindOf 21 = .ok (.astore 5, 2) := by decide +kernel
theorem dX5_kindOf_23 : decode cX5_kindOf 23 = .ok (.aload 5, 2) := by decide +kernel
theorem dX5_kindOf_25 : decode cX5_kindOf 25 = .ok (.ifnonnull 7, 3) := by decide +kernel
theorem dX5_kindOf_28 : decode cX5_kindOf 28 = .ok (.iconst (-1), 1) := by decide +kernel
theorem dX5_kindOf_29 : decode cX5_kindOf 29 = .ok (.goto 8, 3) := by decide +kernel
theorem dX5_kindOf_32 : decode cX5_kindOf 32 = .ok (.aload 5, 2) := by decide +kernel
theorem dX5_kindOf_34 : decode cX5_kindOf 34 = .ok (.getfield 139, 3) := by decide +kernel
theorem dX5_kindOf_37 : decode cX5_kindOf 37 = .ok (.ireturn, 1) := by decide +kernel
theorem dX5_toldIn_0 : decode cX5_toldIn 0 = .ok (.aload_n 0, 1) := by decide +kernel
theorem dX5_toldIn_1 : decode cX5_toldIn 1 = .ok (.iload_n 1, 1) := by decide +kernel
theorem dX5_toldIn_2 : decode cX5_toldIn 2 = .ok (.invokevirtual 49, 3) := by decide +kernel
theorem dX5_toldIn_5 : decode cX5_toldIn 5 = .ok (.iload_n 2, 1) := by decide +kernel
theorem dX5_toldIn_6 : decode cX5_toldIn 6 = .ok (.invokestatic 86, 3) := by decide +kernel
theorem dX5_toldIn_9 : decode cX5_toldIn 9 = .ok (.astore 4, 2) := by decide +kernel
theorem dX5_toldIn_11 : decode cX5_toldIn 11 = .ok (.iload_n 3, 1) := by decide +kernel
theorem dX5_toldIn_12 : decode cX5_toldIn 12 = .ok (.invokestatic 53, 3) := by decide +kernel
theorem dX5_toldIn_15 : decode cX5_toldIn 15 = .ok (.aload 4, 2) := by decide +kernel
theorem dX5_toldIn_17 : decode cX5_toldIn 17 = .ok (.iload_n 3, 1) := by decide +kernel
theorem dX5_toldIn_18 : decode cX5_toldIn 18 = .ok (.invokestatic 142, 3) := by decide +kernel
theorem dX5_toldIn_21 : decode cX5_toldIn 21 = .ok (.invokestatic 90, 3) := by decide +kernel
theorem dX5_toldIn_24 : decode cX5_toldIn 24 = .ok (.ireturn, 1) := by decide +kernel
theorem dX5_points_0 : decode cX5_points 0 = .ok (.aload_n 0, 1) := by decide +kernel
theorem dX5_points_1 : decode cX5_points 1 = .ok (.iload_n 1, 1) := by decide +kernel
theorem dX5_points_2 : decode cX5_points 2 = .ok (.invokevirtual 49, 3) := by decide +kernel
theorem dX5_points_5 : decode cX5_points 5 = .ok (.iload_n 2, 1) := by decide +kernel
theorem dX5_points_6 : decode cX5_points 6 = .ok (.invokestatic 86, 3) := by decide +kernel
theorem dX5_points_9 : decode cX5_points 9 = .ok (.astore_n 3, 1) := by decide +kernel
theorem dX5_points_10 : decode cX5_points 10 = .ok (.iconst 0, 1) := by decide +kernel
theorem dX5_points_11 : decode cX5_points 11 = .ok (.istore 4, 2) := by decide +kernel
theorem dX5_points_13 : decode cX5_points 13 = .ok (.iconst 0, 1) := by decide +kernel
theorem dX5_points_14 : decode cX5_points 14 = .ok (.istore 5, 2) := by decide +kernel
theorem dX5_points_16 : decode cX5_points 16 = .ok (.iload 5, 2) := by decide +kernel
theorem dX5_points_18 : decode cX5_points 18 = .ok (.iconst 5, 1) := by decide +kernel
theorem dX5_points_19 : decode cX5_points 19 = .ok (.if_icmp .ge 32, 3) := by decide +kernel
theorem dX5_points_22 : decode cX5_points 22 = .ok (.aload_n 3, 1) := by decide +kernel
theorem dX5_points_23 : decode cX5_points 23 = .ok (.iload 5, 2) := by decide +kernel
theorem dX5_points_25 : decode cX5_points 25 = .ok (.invokestatic 80, 3) := by decide +kernel
theorem dX5_points_28 : decode cX5_points 28 = .ok (.astore 6, 2) := by decide +kernel
theorem dX5_points_30 : decode cX5_points 30 = .ok (.aload 6, 2) := by decide +kernel
theorem dX5_points_32 : decode cX5_points 32 = .ok (.ifnull 13, 3) := by decide +kernel
theorem dX5_points_35 : decode cX5_points 35 = .ok (.iload 4, 2) := by decide +kernel
theorem dX5_points_37 : decode cX5_points 37 = .ok (.aload 6, 2) := by decide +kernel
theorem dX5_points_39 : decode cX5_points 39 = .ok (.getfield 146, 3) := by decide +kernel
theorem dX5_points_42 : decode cX5_points 42 = .ok (.iadd, 1) := by decide +kernel
theorem dX5_points_43 : decode cX5_points 43 = .ok (.istore 4, 2) := by decide +kernel
theorem dX5_points_45 : decode cX5_points 45 = .ok (.iinc 5 1, 3) := by decide +kernel
theorem dX5_points_48 : decode cX5_points 48 = .ok (.goto (-32), 3) := by decide +kernel
theorem dX5_points_51 : decode cX5_points 51 = .ok (.iload 4, 2) := by decide +kernel
theorem dX5_points_53 : decode cX5_points 53 = .ok (.ireturn, 1) := by decide +kernel
theorem dX5_mendNumber_0 : decode cX5_mendNumber 0 = .ok (.aload_n 0, 1) := by decide +kernel
theorem dX5_mendNumber_1 : decode cX5_mendNumber 1 = .ok (.iload_n 1, 1) := by decide +kernel
theorem dX5_mendNumber_2 : decode cX5_mendNumber 2 = .ok (.invokevirtual 49, 3) := by decide +kernel
theorem dX5_mendNumber_5 : decode cX5_mendNumber 5 = .ok (.astore 6, 2) := by decide +kernel
theorem dX5_mendNumber_7 : decode cX5_mendNumber 7 = .ok (.aload 6, 2) := by decide +kernel
theorem dX5_mendNumber_9 : decode cX5_mendNumber 9 = .ok (.iload_n 2, 1) := by decide +kernel
theorem dX5_mendNumber_10 : decode cX5_mendNumber 10 = .ok (.invokestatic 86, 3) := by decide +kernel
theorem dX5_mendNumber_13 : decode cX5_mendNumber 13 = .ok (.astore 7, 2) := by decide +kernel
theorem dX5_mendNumber_15 : decode cX5_mendNumber 15 = .ok (.iload_n 3, 1) := by decide +kernel
theorem dX5_mendNumber_16 : decode cX5_mendNumber 16 = .ok (.invokestatic 53, 3) := by decide +kernel
theorem dX5_mendNumber_19 : decode cX5_mendNumber 19 = .ok (.iload 4, 2) := by decide +kernel
theorem dX5_mendNumber_21 : decode cX5_mendNumber 21 = .ok (.iload 5, 2) := by decide +kernel
theorem dX5_mendNumber_23 : decode cX5_mendNumber 23 = .ok (.invokestatic 60, 3) := by decide +kernel
theorem dX5_mendNumber_26 : decode cX5_mendNumber 26 = .ok (.aload_n 0, 1) := by decide +kernel
theorem dX5_mendNumber_27 : decode cX5_mendNumber 27 = .ok (.aload 6, 2) := by decide +kernel
theorem dX5_mendNumber_29 : decode cX5_mendNumber 29 = .ok (.aload 7, 2) := by decide +kernel
theorem dX5_mendNumber_31 : decode cX5_mendNumber 31 = .ok (.iload_n 3, 1) := by decide +kernel
theorem dX5_mendNumber_32 : decode cX5_mendNumber 32 = .ok (.iconst 0, 1) := by decide +kernel
theorem dX5_mendNumber_33 : decode cX5_mendNumber 33 = .ok (.iload 4, 2) := by decide +kernel
theorem dX5_mendNumber_35 : decode cX5_mendNumber 35 = .ok (.iload 5, 2) := by decide +kernel
theorem dX5_mendNumber_37 : decode cX5_mendNumber 37 = .ok (.invokevirtual 149, 3) := by decide +kernel
theorem dX5_mendNumber_40 : decode cX5_mendNumber 40 = .ok (.ireturn, 1) := by decide +kernel
theorem dX5_mendChoice_0 : decode cX5_mendChoice 0 = .ok (.aload_n 0, 1) := by decide +kernel
theorem dX5_mendChoice_1 : decode cX5_mendChoice 1 = .ok (.iload_n 1, 1) := by decide +kernel
theorem dX5_mendChoice_2 : decode cX5_mendChoice 2 = .ok (.invokevirtual 49, 3) := by decide +kernel
theorem dX5_mendChoice_5 : decode cX5_mendChoice 5 = .ok (.astore 5, 2) := by decide +kernel
theorem dX5_mendChoice_7 : decode cX5_mendChoice 7 = .ok (.aload 5, 2) := by decide +kernel
theorem dX5_mendChoice_9 : decode cX5_mendChoice 9 = .ok (.iload_n 2, 1) := by decide +kernel
theorem dX5_mendChoice_10 : decode cX5_mendChoice 10 = .ok (.invokestatic 86, 3) := by decide +kernel
theorem dX5_mendChoice_13 : decode cX5_mendChoice 13 = .ok (.astore 6, 2) := by decide +kernel
theorem dX5_mendChoice_15 : decode cX5_mendChoice 15 = .ok (.iload_n 3, 1) := by decide +kernel
theorem dX5_mendChoice_16 : decode cX5_mendChoice 16 = .ok (.invokestatic 53, 3) := by decide +kernel
theorem dX5_mendChoice_19 : decode cX5_mendChoice 19 = .ok (.iload 4, 2) := by decide +kernel
theorem dX5_mendChoice_21 : decode cX5_mendChoice 21 = .ok (.iconst 0, 1) := by decide +kernel
theorem dX5_mendChoice_22 : decode cX5_mendChoice 22 = .ok (.bipush 31, 2) := by decide +kernel
theorem dX5_mendChoice_24 : decode cX5_mendChoice 24 = .ok (.invokestatic 56, 3) := by decide +kernel
theorem dX5_mendChoice_27 : decode cX5_mendChoice 27 = .ok (.aload_n 0, 1) := by decide +kernel
theorem dX5_mendChoice_28 : decode cX5_mendChoice 28 = .ok (.aload 5, 2) := by decide +kernel
theorem dX5_mendChoice_30 : decode cX5_mendChoice 30 = .ok (.aload 6, 2) := by decide +kernel
theorem dX5_mendChoice_32 : decode cX5_mendChoice 32 = .ok (.iload_n 3, 1) := by decide +kernel
theorem dX5_mendChoice_33 : decode cX5_mendChoice 33 = .ok (.iconst 1, 1) := by decide +kernel
theorem dX5_mendChoice_34 : decode cX5_mendChoice 34 = .ok (.iload 4, 2) := by decide +kernel
theorem dX5_mendChoice_36 : decode cX5_mendChoice 36 = .ok (.iconst 0, 1) := by decide +kernel
theorem dX5_mendChoice_37 : decode cX5_mendChoice 37 = .ok (.invokevirtual 149, 3) := by decide +kernel
theorem dX5_mendChoice_40 : decode cX5_mendChoice 40 = .ok (.ireturn, 1) := by decide +kernel
theorem dX5_mendWords_0 : decode cX5_mendWords 0 = .ok (.aload_n 0, 1) := by decide +kernel
theorem dX5_mendWords_1 : decode cX5_mendWords 1 = .ok (.iload_n 1, 1) := by decide +kernel
theorem dX5_mendWords_2 : decode cX5_mendWords 2 = .ok (.invokevirtual 49, 3) := by decide +kernel
theorem dX5_mendWords_5 : decode cX5_mendWords 5 = .ok (.astore 5, 2) := by decide +kernel
theorem dX5_mendWords_7 : decode cX5_mendWords 7 = .ok (.aload 5, 2) := by decide +kernel
theorem dX5_mendWords_9 : decode cX5_mendWords 9 = .ok (.iload_n 2, 1) := by decide +kernel
theorem dX5_mendWords_10 : decode cX5_mendWords 10 = .ok (.invokestatic 86, 3) := by decide +kernel
theorem dX5_mendWords_13 : decode cX5_mendWords 13 = .ok (.astore 6, 2) := by decide +kernel
theorem dX5_mendWords_15 : decode cX5_mendWords 15 = .ok (.iload_n 3, 1) := by decide +kernel
theorem dX5_mendWords_16 : decode cX5_mendWords 16 = .ok (.invokestatic 53, 3) := by decide +kernel
theorem dX5_mendWords_19 : decode cX5_mendWords 19 = .ok (.iload 4, 2) := by decide +kernel
theorem dX5_mendWords_21 : decode cX5_mendWords 21 = .ok (.invokestatic 73, 3) := by decide +kernel
theorem dX5_mendWords_24 : decode cX5_mendWords 24 = .ok (.aload_n 0, 1) := by decide +kernel
theorem dX5_mendWords_25 : decode cX5_mendWords 25 = .ok (.aload 5, 2) := by decide +kernel
theorem dX5_mendWords_27 : decode cX5_mendWords 27 = .ok (.aload 6, 2) := by decide +kernel
theorem dX5_mendWords_29 : decode cX5_mendWords 29 = .ok (.iload_n 3, 1) := by decide +kernel
theorem dX5_mendWords_30 : decode cX5_mendWords 30 = .ok (.iconst 2, 1) := by decide +kernel
theorem dX5_mendWords_31 : decode cX5_mendWords 31 = .ok (.iload 4, 2) := by decide +kernel
theorem dX5_mendWords_33 : decode cX5_mendWords 33 = .ok (.iconst 0, 1) := by decide +kernel
theorem dX5_mendWords_34 : decode cX5_mendWords 34 = .ok (.invokevirtual 149, 3) := by decide +kernel
theorem dX5_mendWords_37 : decode cX5_mendWords 37 = .ok (.ireturn, 1) := by decide +kernel
theorem dX5_open_0 : decode cX5_open 0 = .ok (.iload_n 1, 1) := by decide +kernel
theorem dX5_open_1 : decode cX5_open 1 = .ok (.invokestatic 153, 3) := by decide +kernel
theorem dX5_open_4 : decode cX5_open 4 = .ok (.aload_n 0, 1) := by decide +kernel
theorem dX5_open_5 : decode cX5_open 5 = .ok (.iload_n 2, 1) := by decide +kernel
theorem dX5_open_6 : decode cX5_open 6 = .ok (.invokevirtual 49, 3) := by decide +kernel
theorem dX5_open_9 : decode cX5_open 9 = .ok (.astore_n 3, 1) := by decide +kernel
theorem dX5_open_10 : decode cX5_open 10 = .ok (.iload_n 1, 1) := by decide +kernel
theorem dX5_open_11 : decode cX5_open 11 = .ok (.invokestatic 156, 3) := by decide +kernel
theorem dX5_open_14 : decode cX5_open 14 = .ok (.istore 4, 2) := by decide +kernel
theorem dX5_open_16 : decode cX5_open 16 = .ok (.aload_n 3, 1) := by decide +kernel
theorem dX5_open_17 : decode cX5_open 17 = .ok (.getfield 160, 3) := by decide +kernel
theorem dX5_open_20 : decode cX5_open 20 = .ok (.iload_n 1, 1) := by decide +kernel
theorem dX5_open_21 : decode cX5_open 21 = .ok (.aaload, 1) := by decide +kernel
theorem dX5_open_22 : decode cX5_open 22 = .ok (.ifnull 13, 3) := by decide +kernel
theorem dX5_open_25 : decode cX5_open 25 = .ok (.new 37, 3) := by decide +kernel
theorem dX5_open_28 : decode cX5_open 28 = .ok (.dup, 1) := by decide +kernel
theorem dX5_open_29 : decode cX5_open 29 = .ok (.ldc 164, 2) := by decide +kernel
theorem dX5_open_31 : decode cX5_open 31 = .ok (.invokespecial 41, 3) := by decide +kernel
theorem dX5_open_34 : decode cX5_open 34 = .ok (.athrow, 1) := by decide +kernel
theorem dX5_open_35 : decode cX5_open 35 = .ok (.aload_n 3, 1) := by decide +kernel
theorem dX5_open_36 : decode cX5_open 36 = .ok (.getfield 166, 3) := by decide +kernel
theorem dX5_open_39 : decode cX5_open 39 = .ok (.iload 4, 2) := by decide +kernel
theorem dX5_open_41 : decode cX5_open 41 = .ok (.baload, 1) := by decide +kernel
theorem dX5_open_42 : decode cX5_open 42 = .ok (.ifCond .eq 13, 3) := by decide +kernel
theorem dX5_open_45 : decode cX5_open 45 = .ok (.new 37, 3) := by decide +kernel
theorem dX5_open_48 : decode cX5_open 48 = .ok (.dup, 1) := by decide +kernel
theorem dX5_open_49 : decode cX5_open 49 = .ok (.ldc 170, 2) := by decide +kernel
theorem dX5_open_51 : decode cX5_open 51 = .ok (.invokespecial 41, 3) := by decide +kernel
theorem dX5_open_54 : decode cX5_open 54 = .ok (.athrow, 1) := by decide +kernel
theorem dX5_open_55 : decode cX5_open 55 = .ok (.aload_n 3, 1) := by decide +kernel
theorem dX5_open_56 : decode cX5_open 56 = .ok (.getfield 76, 3) := by decide +kernel
theorem dX5_open_59 : decode cX5_open 59 = .ok (.iload 4, 2) := by decide +kernel
theorem dX5_open_61 : decode cX5_open 61 = .ok (.aaload, 1) := by decide +kernel
theorem dX5_open_62 : decode cX5_open 62 = .ok (.astore 5, 2) := by decide +kernel
theorem dX5_open_64 : decode cX5_open 64 = .ok (.aload_n 3, 1) := by decide +kernel
theorem dX5_open_65 : decode cX5_open 65 = .ok (.getfield 160, 3) := by decide +kernel
theorem dX5_open_68 : decode cX5_open 68 = .ok (.iload_n 1, 1) := by decide +kernel
theorem dX5_open_69 : decode cX5_open 69 = .ok (.new 172, 3) := by decide +kernel
theorem dX5_open_72 : decode cX5_open 72 = .ok (.dup, 1) := by decide +kernel
theorem dX5_open_73 : decode cX5_open 73 = .ok (.aload 5, 2) := by decide +kernel
theorem dX5_open_75 : decode cX5_open 75 = .ok (.invokespecial 174, 3) := by decide +kernel
theorem dX5_open_78 : decode cX5_open 78 = .ok (.aastore, 1) := by decide +kernel
theorem dX5_open_79 : decode cX5_open 79 = .ok (.aload 5, 2) := by decide +kernel
theorem dX5_open_81 : decode cX5_open 81 = .ok (.invokestatic 90, 3) := by decide +kernel
theorem dX5_open_84 : decode cX5_open 84 = .ok (.ireturn, 1) := by decide +kernel
theorem dX5_say_0 : decode cX5_say 0 = .ok (.iload_n 1, 1) := by decide +kernel
theorem dX5_say_1 : decode cX5_say 1 = .ok (.invokestatic 153, 3) := by decide +kernel
theorem dX5_say_4 : decode cX5_say 4 = .ok (.aload_n 0, 1) := by decide +kernel
theorem dX5_say_5 : decode cX5_say 5 = .ok (.iload_n 2, 1) := by decide +kernel
theorem dX5_say_6 : decode cX5_say 6 = .ok (.invokevirtual 49, 3) := by decide +kernel
theorem dX5_say_9 : decode cX5_say 9 = .ok (.astore 5, 2) := by decide +kernel
theorem dX5_say_11 : decode cX5_say 11 = .ok (.iload_n 3, 1) := by decide +kernel
theorem dX5_say_12 : decode cX5_say 12 = .ok (.invokestatic 53, 3) := by decide +kernel
theorem dX5_say_15 : decode cX5_say 15 = .ok (.aload 5, 2) := by decide +kernel
theorem dX5_say_17 : decode cX5_say 17 = .ok (.iload_n 1, 1) := by decide +kernel
theorem dX5_say_18 : decode cX5_say 18 = .ok (.invokestatic 176, 3) := by decide +kernel
theorem dX5_say_21 : decode cX5_say 21 = .ok (.astore 6, 2) := by decide +kernel
theorem dX5_say_23 : decode cX5_say 23 = .ok (.aload 6, 2) := by decide +kernel
theorem dX5_say_25 : decode cX5_say 25 = .ok (.getfield 180, 3) := by decide +kernel
theorem dX5_say_28 : decode cX5_say 28 = .ok (.iload_n 3, 1) := by decide +kernel
theorem dX5_say_29 : decode cX5_say 29 = .ok (.invokestatic 80, 3) := by decide +kernel
theorem dX5_say_32 : decode cX5_say 32 = .ok (.astore 7, 2) := by decide +kernel
theorem dX5_say_34 : decode cX5_say 34 = .ok (.aload 6, 2) := by decide +kernel
theorem dX5_say_36 : decode cX5_say 36 = .ok (.getfield 183, 3) := by decide +kernel
theorem dX5_say_39 : decode cX5_say 39 = .ok (.iload_n 3, 1) := by decide +kernel
theorem dX5_say_40 : decode cX5_say 40 = .ok (.aaload, 1) := by decide +kernel
theorem dX5_say_41 : decode cX5_say 41 = .ok (.astore 8, 2) := by decide +kernel
theorem dX5_say_43 : decode cX5_say 43 = .ok (.aload 7, 2) := by decide +kernel
theorem dX5_say_45 : decode cX5_say 45 = .ok (.ifnull 8, 3) := by decide +kernel
theorem dX5_say_48 : decode cX5_say 48 = .ok (.aload 8, 2) := by decide +kernel
theorem dX5_say_50 : decode cX5_say 50 = .ok (.ifnonnull 13, 3) := by decide +kernel
theorem dX5_say_53 : decode cX5_say 53 = .ok (.new 37, 3) := by decide +kernel
theorem dX5_say_56 : decode cX5_say 56 = .ok (.dup, 1) := by decide +kernel
theorem dX5_say_57 : decode cX5_say 57 = .ok (.ldc 187, 2) := by decide +kernel
theorem dX5_say_59 : decode cX5_say 59 = .ok (.invokespecial 41, 3) := by decide +kernel
theorem dX5_say_62 : decode cX5_say 62 = .ok (.athrow, 1) := by decide +kernel
theorem dX5_say_63 : decode cX5_say 63 = .ok (.aload 7, 2) := by decide +kernel
theorem dX5_say_65 : decode cX5_say 65 = .ok (.getfield 139, 3) := by decide +kernel
theorem dX5_say_68 : decode cX5_say 68 = .ok (.iload 4, 2) := by decide +kernel
theorem dX5_say_70 : decode cX5_say 70 = .ok (.invokestatic 189, 3) := by decide +kernel
theorem dX5_say_73 : decode cX5_say 73 = .ok (.aload 8, 2) := by decide +kernel
theorem dX5_say_75 : decode cX5_say 75 = .ok (.aload 7, 2) := by decide +kernel
theorem dX5_say_77 : decode cX5_say 77 = .ok (.getfield 139, 3) := by decide +kernel
theorem dX5_say_80 : decode cX5_say 80 = .ok (.iload 4, 2) := by decide +kernel
theorem dX5_say_82 : decode cX5_say 82 = .ok (.invokevirtual 192, 3) := by decide +kernel
theorem dX5_say_85 : decode cX5_say 85 = .ok (.istore 9, 2) := by decide +kernel
theorem dX5_say_87 : decode cX5_say 87 = .ok (.aload 8, 2) := by decide +kernel
theorem dX5_say_89 : decode cX5_say 89 = .ok (.aload 7, 2) := by decide +kernel
theorem dX5_say_91 : decode cX5_say 91 = .ok (.getfield 139, 3) := by decide +kernel
theorem dX5_say_94 : decode cX5_say 94 = .ok (.invokevirtual 198, 3) := by decide +kernel
theorem dX5_say_97 : decode cX5_say 97 = .ok (.ifCond .eq 13, 3) := by decide +kernel
theorem dX5_say_100 : decode cX5_say 100 = .ok (.new 37, 3) := by decide +kernel
theorem dX5_say_103 : decode cX5_say 103 = .ok (.dup, 1) := by decide +kernel
theorem dX5_say_104 : decode cX5_say 104 = .ok (.ldc 202, 2) := by decide +kernel
theorem dX5_say_106 : decode cX5_say 106 = .ok (.invokespecial 41, 3) := by decide +kernel
theorem dX5_say_109 : decode cX5_say 109 = .ok (.athrow, 1) := by decide +kernel
theorem dX5_say_110 : decode cX5_say 110 = .ok (.aload_n 0, 1) := by decide +kernel
theorem dX5_say_111 : decode cX5_say 111 = .ok (.iload_n 1, 1) := by decide +kernel
theorem dX5_say_112 : decode cX5_say 112 = .ok (.invokestatic 156, 3) := by decide +kernel
theorem dX5_say_115 : decode cX5_say 115 = .ok (.iload 9, 2) := by decide +kernel
theorem dX5_say_117 : decode cX5_say 117 = .ok (.invokevirtual 116, 3) := by decide +kernel
theorem dX5_say_120 : decode cX5_say 120 = .ok (.ifCond .eq 13, 3) := by decide +kernel
theorem dX5_say_123 : decode cX5_say 123 = .ok (.new 37, 3) := by decide +kernel
theorem dX5_say_126 : decode cX5_say 126 = .ok (.dup, 1) := by decide +kernel
theorem dX5_say_127 : decode cX5_say 127 = .ok (.ldc 120, 2) := by decide +kernel
theorem dX5_say_129 : decode cX5_say 129 = .ok (.invokespecial 41, 3) := by decide +kernel
theorem dX5_say_132 : decode cX5_say 132 = .ok (.athrow, 1) := by decide +kernel
theorem dX5_say_133 : decode cX5_say 133 = .ok (.aload 8, 2) := by decide +kernel
theorem dX5_say_135 : decode cX5_say 135 = .ok (.aload 7, 2) := by decide +kernel
theorem dX5_say_137 : decode cX5_say 137 = .ok (.getfield 139, 3) := by decide +kernel
theorem dX5_say_140 : decode cX5_say 140 = .ok (.iload 4, 2) := by decide +kernel
theorem dX5_say_142 : decode cX5_say 142 = .ok (.invokevirtual 204, 3) := by decide +kernel
theorem dX5_say_145 : decode cX5_say 145 = .ok (.aload_n 0, 1) := by decide +kernel
theorem dX5_say_146 : decode cX5_say 146 = .ok (.iload_n 1, 1) := by decide +kernel
theorem dX5_say_147 : decode cX5_say 147 = .ok (.invokestatic 156, 3) := by decide +kernel
theorem dX5_say_150 : decode cX5_say 150 = .ok (.iload 9, 2) := by decide +kernel
theorem dX5_say_152 : decode cX5_say 152 = .ok (.invokevirtual 122, 3) := by decide +kernel
theorem dX5_say_155 : decode cX5_say 155 = .ok (.aload 6, 2) := by decide +kernel
theorem dX5_say_157 : decode cX5_say 157 = .ok (.invokevirtual 207, 3) := by decide +kernel
theorem dX5_say_160 : decode cX5_say 160 = .ok (.ireturn, 1) := by decide +kernel
theorem dX5_hand_0 : decode cX5_hand 0 = .ok (.iload_n 1, 1) := by decide +kernel
theorem dX5_hand_1 : decode cX5_hand 1 = .ok (.invokestatic 153, 3) := by decide +kernel
theorem dX5_hand_4 : decode cX5_hand 4 = .ok (.aload_n 0, 1) := by decide +kernel
theorem dX5_hand_5 : decode cX5_hand 5 = .ok (.iload_n 2, 1) := by decide +kernel
theorem dX5_hand_6 : decode cX5_hand 6 = .ok (.invokevirtual 49, 3) := by decide +kernel
theorem dX5_hand_9 : decode cX5_hand 9 = .ok (.astore_n 3, 1) := by decide +kernel
theorem dX5_hand_10 : decode cX5_hand 10 = .ok (.aload_n 3, 1) := by decide +kernel
theorem dX5_hand_11 : decode cX5_hand 11 = .ok (.iload_n 1, 1) := by decide +kernel
theorem dX5_hand_12 : decode cX5_hand 12 = .ok (.invokestatic 176, 3) := by decide +kernel
theorem dX5_hand_15 : decode cX5_hand 15 = .ok (.astore 4, 2) := by decide +kernel
theorem dX5_hand_17 : decode cX5_hand 17 = .ok (.aload 4, 2) := by decide +kernel
theorem dX5_hand_19 : decode cX5_hand 19 = .ok (.iconst 1, 1) := by decide +kernel
theorem dX5_hand_20 : decode cX5_hand 20 = .ok (.putfield 208, 3) := by decide +kernel
theorem dX5_hand_23 : decode cX5_hand 23 = .ok (.aload 4, 2) := by decide +kernel
theorem dX5_hand_25 : decode cX5_hand 25 = .ok (.aload_n 0, 1) := by decide +kernel
theorem dX5_hand_26 : decode cX5_hand 26 = .ok (.aload 4, 2) := by decide +kernel
theorem dX5_hand_28 : decode cX5_hand 28 = .ok (.iconst 0, 1) := by decide +kernel
theorem dX5_hand_29 : decode cX5_hand 29 = .ok (.invokevirtual 212, 3) := by decide +kernel
theorem dX5_hand_32 : decode cX5_hand 32 = .ok (.putfield 216, 3) := by decide +kernel
theorem dX5_hand_35 : decode cX5_hand 35 = .ok (.aload 4, 2) := by decide +kernel
theorem dX5_hand_37 : decode cX5_hand 37 = .ok (.aload 4, 2) := by decide +kernel
theorem dX5_hand_39 : decode cX5_hand 39 = .ok (.getfield 216, 3) := by decide +kernel
theorem dX5_hand_42 : decode cX5_hand 42 = .ok (.putfield 219, 3) := by decide +kernel
theorem dX5_hand_45 : decode cX5_hand 45 = .ok (.aload 4, 2) := by decide +kernel
theorem dX5_hand_47 : decode cX5_hand 47 = .ok (.invokevirtual 222, 3) := by decide +kernel
theorem dX5_hand_50 : decode cX5_hand 50 = .ok (.aload 4, 2) := by decide +kernel
theorem dX5_hand_52 : decode cX5_hand 52 = .ok (.getfield 219, 3) := by decide +kernel
theorem dX5_hand_55 : decode cX5_hand 55 = .ok (.ireturn, 1) := by decide +kernel
theorem dX5_close_0 : decode cX5_close 0 = .ok (.iload_n 1, 1) := by decide +kernel
theorem dX5_close_1 : decode cX5_close 1 = .ok (.invokestatic 45, 3) := by decide +kernel
theorem dX5_close_4 : decode cX5_close 4 = .ok (.aload_n 0, 1) := by decide +kernel
theorem dX5_close_5 : decode cX5_close 5 = .ok (.iload_n 2, 1) := by decide +kernel
theorem dX5_close_6 : decode cX5_close 6 = .ok (.invokevirtual 49, 3) := by decide +kernel
theorem dX5_close_9 : decode cX5_close 9 = .ok (.astore_n 3, 1) := by decide +kernel
theorem dX5_close_10 : decode cX5_close 10 = .ok (.aload_n 3, 1) := by decide +kernel
theorem dX5_close_11 : decode cX5_close 11 = .ok (.getfield 166, 3) := by decide +kernel
theorem dX5_close_14 : decode cX5_close 14 = .ok (.iload_n 1, 1) := by decide +kernel
theorem dX5_close_15 : decode cX5_close 15 = .ok (.baload, 1) := by decide +kernel
theorem dX5_close_16 : decode cX5_close 16 = .ok (.ifCond .eq 13, 3) := by decide +kernel
theorem dX5_close_19 : decode cX5_close 19 = .ok (.new 37, 3) := by decide +kernel
theorem dX5_close_22 : decode cX5_close 22 = .ok (.dup, 1) := by decide +kernel
theorem dX5_close_23 : decode cX5_close 23 = .ok (.ldc 170, 2) := by decide +kernel
theorem dX5_close_25 : decode cX5_close 25 = .ok (.invokespecial 41, 3) := by decide +kernel
theorem dX5_close_28 : decode cX5_close 28 = .ok (.athrow, 1) := by decide +kernel
theorem dX5_close_29 : decode cX5_close 29 = .ok (.aload_n 3, 1) := by decide +kernel
theorem dX5_close_30 : decode cX5_close 30 = .ok (.getfield 166, 3) := by decide +kernel
theorem dX5_close_33 : decode cX5_close 33 = .ok (.iload_n 1, 1) := by decide +kernel
theorem dX5_close_34 : decode cX5_close 34 = .ok (.iconst 1, 1) := by decide +kernel
theorem dX5_close_35 : decode cX5_close 35 = .ok (.bastore, 1) := by decide +kernel
theorem dX5_close_36 : decode cX5_close 36 = .ok (.iconst 0, 1) := by decide +kernel
theorem dX5_close_37 : decode cX5_close 37 = .ok (.istore 4, 2) := by decide +kernel
theorem dX5_close_39 : decode cX5_close 39 = .ok (.iconst 0, 1) := by decide +kernel
theorem dX5_close_40 : decode cX5_close 40 = .ok (.istore 5, 2) := by decide +kernel
theorem dX5_close_42 : decode cX5_close 42 = .ok (.iload 5, 2) := by decide +kernel
theorem dX5_close_44 : decode cX5_close 44 = .ok (.bipush 12, 2) := by decide +kernel
theorem dX5_close_46 : decode cX5_close 46 = .ok (.if_icmp .ge 68, 3) := by decide +kernel
theorem dX5_close_49 : decode cX5_close 49 = .ok (.aload_n 3, 1) := by decide +kernel
theorem dX5_close_50 : decode cX5_close 50 = .ok (.getfield 160, 3) := by decide +kernel
theorem dX5_close_53 : decode cX5_close 53 = .ok (.iload 5, 2) := by decide +kernel
theorem dX5_close_55 : decode cX5_close 55 = .ok (.aaload, 1) := by decide +kernel
theorem dX5_close_56 : decode cX5_close 56 = .ok (.astore 6, 2) := by decide +kernel
theorem dX5_close_58 : decode cX5_close 58 = .ok (.aload 6, 2) := by decide +kernel
theorem dX5_close_60 : decode cX5_close 60 = .ok (.ifnull 48, 3) := by decide +kernel
theorem dX5_close_63 : decode cX5_close 63 = .ok (.iload 5, 2) := by decide +kernel
theorem dX5_close_65 : decode cX5_close 65 = .ok (.invokestatic 156, 3) := by decide +kernel
theorem dX5_close_68 : decode cX5_close 68 = .ok (.iload_n 1, 1) := by decide +kernel
theorem dX5_close_69 : decode cX5_close 69 = .ok (.if_icmp .eq 6, 3) := by decide +kernel
theorem dX5_close_72 : decode cX5_close 72 = .ok (.goto 36, 3) := by decide +kernel
theorem dX5_close_75 : decode cX5_close 75 = .ok (.aload 6, 2) := by decide +kernel
theorem dX5_close_77 : decode cX5_close 77 = .ok (.getfield 208, 3) := by decide +kernel
theorem dX5_close_80 : decode cX5_close 80 = .ok (.ifCond .eq 9, 3) := by decide +kernel
theorem dX5_close_83 : decode cX5_close 83 = .ok (.iinc 4 1, 3) := by decide +kernel
theorem dX5_close_86 : decode cX5_close 86 = .ok (.goto 22, 3) := by decide +kernel
theorem dX5_close_89 : decode cX5_close 89 = .ok (.aload_n 0, 1) := by decide +kernel
theorem dX5_close_90 : decode cX5_close 90 = .ok (.iload_n 1, 1) := by decide +kernel
theorem dX5_close_91 : decode cX5_close 91 = .ok (.aload 6, 2) := by decide +kernel
theorem dX5_close_93 : decode cX5_close 93 = .ok (.invokevirtual 207, 3) := by decide +kernel
theorem dX5_close_96 : decode cX5_close 96 = .ok (.ineg, 1) := by decide +kernel
theorem dX5_close_97 : decode cX5_close 97 = .ok (.invokevirtual 122, 3) := by decide +kernel
theorem dX5_close_100 : decode cX5_close 100 = .ok (.aload_n 3, 1) := by decide +kernel
theorem dX5_close_101 : decode cX5_close 101 = .ok (.getfield 160, 3) := by decide +kernel
theorem dX5_close_104 : decode cX5_close 104 = .ok (.iload 5, 2) := by decide +kernel
theorem dX5_close_106 : decode cX5_close 106 = .ok (.aconst_null, 1) := by decide +kernel
theorem dX5_close_107 : decode cX5_close 107 = .ok (.aastore, 1) := by decide +kernel
theorem dX5_close_108 : decode cX5_close 108 = .ok (.iinc 5 1, 3) := by decide +kernel
theorem dX5_close_111 : decode cX5_close 111 = .ok (.goto (-69), 3) := by decide +kernel
theorem dX5_close_114 : decode cX5_close 114 = .ok (.iload 4, 2) := by decide +kernel
theorem dX5_close_116 : decode cX5_close 116 = .ok (.ireturn, 1) := by decide +kernel
theorem dX5_answer_0 : decode cX5_answer 0 = .ok (.aload_n 0, 1) := by decide +kernel
theorem dX5_answer_1 : decode cX5_answer 1 = .ok (.iload_n 1, 1) := by decide +kernel
theorem dX5_answer_2 : decode cX5_answer 2 = .ok (.iload_n 2, 1) := by decide +kernel
theorem dX5_answer_3 : decode cX5_answer 3 = .ok (.invokevirtual 225, 3) := by decide +kernel
theorem dX5_answer_6 : decode cX5_answer 6 = .ok (.astore_n 3, 1) := by decide +kernel
theorem dX5_answer_7 : decode cX5_answer 7 = .ok (.aload_n 3, 1) := by decide +kernel
theorem dX5_answer_8 : decode cX5_answer 8 = .ok (.ifnonnull 5, 3) := by decide +kernel
theorem dX5_answer_11 : decode cX5_answer 11 = .ok (.iconst 0, 1) := by decide +kernel
theorem dX5_answer_12 : decode cX5_answer 12 = .ok (.ireturn, 1) := by decide +kernel
theorem dX5_answer_13 : decode cX5_answer 13 = .ok (.aload_n 3, 1) := by decide +kernel
theorem dX5_answer_14 : decode cX5_answer 14 = .ok (.getfield 208, 3) := by decide +kernel
theorem dX5_answer_17 : decode cX5_answer 17 = .ok (.ifCond .eq 7, 3) := by decide +kernel
theorem dX5_answer_20 : decode cX5_answer 20 = .ok (.iconst 2, 1) := by decide +kernel
theorem dX5_answer_21 : decode cX5_answer 21 = .ok (.goto 4, 3) := by decide +kernel
theorem dX5_answer_24 : decode cX5_answer 24 = .ok (.iconst 1, 1) := by decide +kernel
theorem dX5_answer_25 : decode cX5_answer 25 = .ok (.ireturn, 1) := by decide +kernel
theorem dX5_mark_0 : decode cX5_mark 0 = .ok (.aload_n 0, 1) := by decide +kernel
theorem dX5_mark_1 : decode cX5_mark 1 = .ok (.iload_n 1, 1) := by decide +kernel
theorem dX5_mark_2 : decode cX5_mark 2 = .ok (.iload_n 2, 1) := by decide +kernel
theorem dX5_mark_3 : decode cX5_mark 3 = .ok (.invokevirtual 225, 3) := by decide +kernel
theorem dX5_mark_6 : decode cX5_mark 6 = .ok (.astore_n 3, 1) := by decide +kernel
theorem dX5_mark_7 : decode cX5_mark 7 = .ok (.aload_n 3, 1) := by decide +kernel
theorem dX5_mark_8 : decode cX5_mark 8 = .ok (.ifnonnull 7, 3) := by decide +kernel
theorem dX5_mark_11 : decode cX5_mark 11 = .ok (.iconst (-1), 1) := by decide +kernel
theorem dX5_mark_12 : decode cX5_mark 12 = .ok (.goto 7, 3) := by decide +kernel
theorem dX5_mark_15 : decode cX5_mark 15 = .ok (.aload_n 3, 1) := by decide +kernel
theorem dX5_mark_16 : decode cX5_mark 16 = .ok (.getfield 219, 3) := by decide +kernel
theorem dX5_mark_19 : decode cX5_mark 19 = .ok (.ireturn, 1) := by decide +kernel
theorem dX5_due_0 : decode cX5_due 0 = .ok (.aload_n 0, 1) := by decide +kernel
theorem dX5_due_1 : decode cX5_due 1 = .ok (.iload_n 1, 1) := by decide +kernel
theorem dX5_due_2 : decode cX5_due 2 = .ok (.iload_n 2, 1) := by decide +kernel
theorem dX5_due_3 : decode cX5_due 3 = .ok (.invokevirtual 225, 3) := by decide +kernel
theorem dX5_due_6 : decode cX5_due 6 = .ok (.astore_n 3, 1) := by decide +kernel
theorem dX5_due_7 : decode cX5_due 7 = .ok (.aload_n 3, 1) := by decide +kernel
theorem dX5_due_8 : decode cX5_due 8 = .ok (.ifnonnull 7, 3) := by decide +kernel
theorem dX5_due_11 : decode cX5_due 11 = .ok (.iconst (-1), 1) := by decide +kernel
theorem dX5_due_12 : decode cX5_due 12 = .ok (.goto 9, 3) := by decide +kernel
theorem dX5_due_15 : decode cX5_due 15 = .ok (.aload_n 0, 1) := by decide +kernel
theorem dX5_due_16 : decode cX5_due 16 = .ok (.aload_n 3, 1) := by decide +kernel
theorem dX5_due_17 : decode cX5_due 17 = .ok (.iconst 1, 1) := by decide +kernel
theorem dX5_due_18 : decode cX5_due 18 = .ok (.invokevirtual 212, 3) := by decide +kernel
theorem dX5_due_21 : decode cX5_due 21 = .ok (.ireturn, 1) := by decide +kernel
theorem dX5_told_0 : decode cX5_told 0 = .ok (.aload_n 0, 1) := by decide +kernel
theorem dX5_told_1 : decode cX5_told 1 = .ok (.iload_n 1, 1) := by decide +kernel
theorem dX5_told_2 : decode cX5_told 2 = .ok (.iload_n 2, 1) := by decide +kernel
theorem dX5_told_3 : decode cX5_told 3 = .ok (.invokevirtual 225, 3) := by decide +kernel
theorem dX5_told_6 : decode cX5_told 6 = .ok (.astore_n 3, 1) := by decide +kernel
theorem dX5_told_7 : decode cX5_told 7 = .ok (.aload_n 3, 1) := by decide +kernel
theorem dX5_told_8 : decode cX5_told 8 = .ok (.ifnonnull 7, 3) := by decide +kernel
theorem dX5_told_11 : decode cX5_told 11 = .ok (.iconst 0, 1) := by decide +kernel
theorem dX5_told_12 : decode cX5_told 12 = .ok (.goto 7, 3) := by decide +kernel
theorem dX5_told_15 : decode cX5_told 15 = .ok (.aload_n 3, 1) := by decide +kernel
theorem dX5_told_16 : decode cX5_told 16 = .ok (.getfield 229, 3) := by decide +kernel
theorem dX5_told_19 : decode cX5_told 19 = .ok (.ireturn, 1) := by decide +kernel
theorem dX5_average_0 : decode cX5_average 0 = .ok (.iload_n 1, 1) := by decide +kernel
theorem dX5_average_1 : decode cX5_average 1 = .ok (.invokestatic 45, 3) := by decide +kernel
theorem dX5_average_4 : decode cX5_average 4 = .ok (.aload_n 0, 1) := by decide +kernel
theorem dX5_average_5 : decode cX5_average 5 = .ok (.iload_n 2, 1) := by decide +kernel
theorem dX5_average_6 : decode cX5_average 6 = .ok (.invokevirtual 49, 3) := by decide +kernel
theorem dX5_average_9 : decode cX5_average 9 = .ok (.astore_n 3, 1) := by decide +kernel
theorem dX5_average_10 : decode cX5_average 10 = .ok (.iconst 0, 1) := by decide +kernel
theorem dX5_average_11 : decode cX5_average 11 = .ok (.istore 4, 2) := by decide +kernel
theorem dX5_average_13 : decode cX5_average 13 = .ok (.iconst 0, 1) := by decide +kernel
theorem dX5_average_14 : decode cX5_average 14 = .ok (.istore 5, 2) := by decide +kernel
theorem dX5_average_16 : decode cX5_average 16 = .ok (.iconst 0, 1) := by decide +kernel
theorem dX5_average_17 : decode cX5_average 17 = .ok (.istore 6, 2) := by decide +kernel
theorem dX5_average_19 : decode cX5_average 19 = .ok (.iload 6, 2) := by decide +kernel
theorem dX5_average_21 : decode cX5_average 21 = .ok (.bipush 12, 2) := by decide +kernel
theorem dX5_average_23 : decode cX5_average 23 = .ok (.if_icmp .ge 53, 3) := by decide +kernel
theorem dX5_average_26 : decode cX5_average 26 = .ok (.aload_n 3, 1) := by decide +kernel
theorem dX5_average_27 : decode cX5_average 27 = .ok (.getfield 160, 3) := by decide +kernel
theorem dX5_average_30 : decode cX5_average 30 = .ok (.iload 6, 2) := by decide +kernel
theorem dX5_average_32 : decode cX5_average 32 = .ok (.aaload, 1) := by decide +kernel
theorem dX5_average_33 : decode cX5_average 33 = .ok (.astore 7, 2) := by decide +kernel
theorem dX5_average_35 : decode cX5_average 35 = .ok (.aload 7, 2) := by decide +kernel
theorem dX5_average_37 : decode cX5_average 37 = .ok (.ifnull 33, 3) := by decide +kernel
theorem dX5_average_40 : decode cX5_average 40 = .ok (.aload 7, 2) := by decide +kernel
theorem dX5_average_42 : decode cX5_average 42 = .ok (.getfield 208, 3) := by decide +kernel
theorem dX5_average_45 : decode cX5_average 45 = .ok (.ifCond .eq 25, 3) := by decide +kernel
theorem dX5_average_48 : decode cX5_average 48 = .ok (.iload 6, 2) := by decide +kernel
theorem dX5_average_50 : decode cX5_average 50 = .ok (.invokestatic 156, 3) := by decide +kernel
theorem dX5_average_53 : decode cX5_average 53 = .ok (.iload_n 1, 1) := by decide +kernel
theorem dX5_average_54 : decode cX5_average 54 = .ok (.if_icmp .ne 16, 3) := by decide +kernel
theorem dX5_average_57 : decode cX5_average 57 = .ok (.iload 4, 2) := by decide +kernel
theorem dX5_average_59 : decode cX5_average 59 = .ok (.aload 7, 2) := by decide +kernel
theorem dX5_average_61 : decode cX5_average 61 = .ok (.getfield 219, 3) := by decide +kernel
theorem dX5_average_64 : decode cX5_average 64 = .ok (.iadd, 1) := by decide +kernel
theorem dX5_average_65 : decode cX5_average 65 = .ok (.istore 4, 2) := by decide +kernel
theorem dX5_average_67 : decode cX5_average 67 = .ok (.iinc 5 1, 3) := by decide +kernel
theorem dX5_average_70 : decode cX5_average 70 = .ok (.iinc 6 1, 3) := by decide +kernel
theorem dX5_average_73 : decode cX5_average 73 = .ok (.goto (-54), 3) := by decide +kernel
theorem dX5_average_76 : decode cX5_average 76 = .ok (.iload 5, 2) := by decide +kernel
theorem dX5_average_78 : decode cX5_average 78 = .ok (.ifCond .ne 7, 3) := by decide +kernel
theorem dX5_average_81 : decode cX5_average 81 = .ok (.iconst (-1), 1) := by decide +kernel
theorem dX5_average_82 : decode cX5_average 82 = .ok (.goto 11, 3) := by decide +kernel
theorem dX5_average_85 : decode cX5_average 85 = .ok (.iload 4, 2) := by decide +kernel
theorem dX5_average_87 : decode cX5_average 87 = .ok (.bipush 100, 2) := by decide +kernel
theorem dX5_average_89 : decode cX5_average 89 = .ok (.imul, 1) := by decide +kernel
theorem dX5_average_90 : decode cX5_average 90 = .ok (.iload 5, 2) := by decide +kernel
theorem dX5_average_92 : decode cX5_average 92 = .ok (.idiv, 1) := by decide +kernel
theorem dX5_average_93 : decode cX5_average 93 = .ok (.ireturn, 1) := by decide +kernel
theorem dX5_fingerprints_0 : decode cX5_fingerprints 0 = .ok (.aload_n 0, 1) := by decide +kernel
theorem dX5_fingerprints_1 : decode cX5_fingerprints 1 = .ok (.iload_n 1, 1) := by decide +kernel
theorem dX5_fingerprints_2 : decode cX5_fingerprints 2 = .ok (.iload_n 2, 1) := by decide +kernel
theorem dX5_fingerprints_3 : decode cX5_fingerprints 3 = .ok (.invokevirtual 225, 3) := by decide +kernel
theorem dX5_fingerprints_6 : decode cX5_fingerprints 6 = .ok (.astore_n 3, 1) := by decide +kernel
theorem dX5_fingerprints_7 : decode cX5_fingerprints 7 = .ok (.aload_n 3, 1) := by decide +kernel
theorem dX5_fingerprints_8 : decode cX5_fingerprints 8 = .ok (.ifnonnull 7, 3) := by decide +kernel
theorem dX5_fingerprints_11 : decode cX5_fingerprints 11 = .ok (.iconst 0, 1) := by decide +kernel
theorem dX5_fingerprints_12 : decode cX5_fingerprints 12 = .ok (.goto 7, 3) := by decide +kernel
theorem dX5_fingerprints_15 : decode cX5_fingerprints 15 = .ok (.aload_n 3, 1) := by decide +kernel
theorem dX5_fingerprints_16 : decode cX5_fingerprints 16 = .ok (.getfield 232, 3) := by decide +kernel
theorem dX5_fingerprints_19 : decode cX5_fingerprints 19 = .ok (.ireturn, 1) := by decide +kernel
theorem dX5_withPrint_0 : decode cX5_withPrint 0 = .ok (.aload_n 0, 1) := by decide +kernel
theorem dX5_withPrint_1 : decode cX5_withPrint 1 = .ok (.iload_n 1, 1) := by decide +kernel
theorem dX5_withPrint_2 : decode cX5_withPrint 2 = .ok (.invokevirtual 49, 3) := by decide +kernel
theorem dX5_withPrint_5 : decode cX5_withPrint 5 = .ok (.astore_n 3, 1) := by decide +kernel
theorem dX5_withPrint_6 : decode cX5_withPrint 6 = .ok (.iconst 0, 1) := by decide +kernel
theorem dX5_withPrint_7 : decode cX5_withPrint 7 = .ok (.istore 4, 2) := by decide +kernel
theorem dX5_withPrint_9 : decode cX5_withPrint 9 = .ok (.iconst 0, 1) := by decide +kernel
theorem dX5_withPrint_10 : decode cX5_withPrint 10 = .ok (.istore 5, 2) := by decide +kernel
theorem dX5_withPrint_12 : decode cX5_withPrint 12 = .ok (.iload 5, 2) := by decide +kernel
theorem dX5_withPrint_14 : decode cX5_withPrint 14 = .ok (.bipush 12, 2) := by decide +kernel
theorem dX5_withPrint_16 : decode cX5_withPrint 16 = .ok (.if_icmp .ge 41, 3) := by decide +kernel
theorem dX5_withPrint_19 : decode cX5_withPrint 19 = .ok (.aload_n 3, 1) := by decide +kernel
theorem dX5_withPrint_20 : decode cX5_withPrint 20 = .ok (.getfield 160, 3) := by decide +kernel
theorem dX5_withPrint_23 : decode cX5_withPrint 23 = .ok (.iload 5, 2) := by decide +kernel
theorem dX5_withPrint_25 : decode cX5_withPrint 25 = .ok (.aaload, 1) := by decide +kernel
theorem dX5_withPrint_26 : decode cX5_withPrint 26 = .ok (.astore 6, 2) := by decide +kernel
theorem dX5_withPrint_28 : decode cX5_withPrint 28 = .ok (.aload 6, 2) := by decide +kernel
theorem dX5_withPrint_30 : decode cX5_withPrint 30 = .ok (.ifnull 21, 3) := by decide +kernel
theorem dX5_withPrint_33 : decode cX5_withPrint 33 = .ok (.aload 6, 2) := by decide +kernel
theorem dX5_withPrint_35 : decode cX5_withPrint 35 = .ok (.iload_n 2, 1) := by decide +kernel
theorem dX5_withPrint_36 : decode cX5_withPrint 36 = .ok (.invokevirtual 235, 3) := by decide +kernel
theorem dX5_withPrint_39 : decode cX5_withPrint 39 = .ok (.ifCond .eq 12, 3) := by decide +kernel
theorem dX5_withPrint_42 : decode cX5_withPrint 42 = .ok (.iload 4, 2) := by decide +kernel
theorem dX5_withPrint_44 : decode cX5_withPrint 44 = .ok (.iconst 1, 1) := by decide +kernel
theorem dX5_withPrint_45 : decode cX5_withPrint 45 = .ok (.iload 5, 2) := by decide +kernel
theorem dX5_withPrint_47 : decode cX5_withPrint 47 = .ok (.ishl, 1) := by decide +kernel
theorem dX5_withPrint_48 : decode cX5_withPrint 48 = .ok (.ior, 1) := by decide +kernel
theorem dX5_withPrint_49 : decode cX5_withPrint 49 = .ok (.istore 4, 2) := by decide +kernel
theorem dX5_withPrint_51 : decode cX5_withPrint 51 = .ok (.iinc 5 1, 3) := by decide +kernel
theorem dX5_withPrint_54 : decode cX5_withPrint 54 = .ok (.goto (-42), 3) := by decide +kernel
theorem dX5_withPrint_57 : decode cX5_withPrint 57 = .ok (.iload 4, 2) := by decide +kernel
theorem dX5_withPrint_59 : decode cX5_withPrint 59 = .ok (.ireturn, 1) := by decide +kernel
theorem dX5_likeness_0 : decode cX5_likeness 0 = .ok (.aload_n 0, 1) := by decide +kernel
theorem dX5_likeness_1 : decode cX5_likeness 1 = .ok (.iload_n 1, 1) := by decide +kernel
theorem dX5_likeness_2 : decode cX5_likeness 2 = .ok (.invokevirtual 49, 3) := by decide +kernel
theorem dX5_likeness_5 : decode cX5_likeness 5 = .ok (.astore 4, 2) := by decide +kernel
theorem dX5_likeness_7 : decode cX5_likeness 7 = .ok (.iload_n 2, 1) := by decide +kernel
theorem dX5_likeness_8 : decode cX5_likeness 8 = .ok (.invokestatic 153, 3) := by decide +kernel
theorem dX5_likeness_11 : decode cX5_likeness 11 = .ok (.iload_n 3, 1) := by decide +kernel
theorem dX5_likeness_12 : decode cX5_likeness 12 = .ok (.invokestatic 153, 3) := by decide +kernel
theorem dX5_likeness_15 : decode cX5_likeness 15 = .ok (.aload 4, 2) := by decide +kernel
theorem dX5_likeness_17 : decode cX5_likeness 17 = .ok (.getfield 160, 3) := by decide +kernel
theorem dX5_likeness_20 : decode cX5_likeness 20 = .ok (.iload_n 2, 1) := by decide +kernel
theorem dX5_likeness_21 : decode cX5_likeness 21 = .ok (.aaload, 1) := by decide +kernel
theorem dX5_likeness_22 : decode cX5_likeness 22 = .ok (.astore 5, 2) := by decide +kernel
theorem dX5_likeness_24 : decode cX5_likeness 24 = .ok (.aload 4, 2) := by decide +kernel
theorem dX5_likeness_26 : decode cX5_likeness 26 = .ok (.getfield 160, 3) := by decide +kernel
theorem dX5_likeness_29 : decode cX5_likeness 29 = .ok (.iload_n 3, 1) := by decide +kernel
theorem dX5_likeness_30 : decode cX5_likeness 30 = .ok (.aaload, 1) := by decide +kernel
theorem dX5_likeness_31 : decode cX5_likeness 31 = .ok (.astore 6, 2) := by decide +kernel
theorem dX5_likeness_33 : decode cX5_likeness 33 = .ok (.iload_n 2, 1) := by decide +kernel
theorem dX5_likeness_34 : decode cX5_likeness 34 = .ok (.iload_n 3, 1) := by decide +kernel
theorem dX5_likeness_35 : decode cX5_likeness 35 = .ok (.if_icmp .eq 13, 3) := by decide +kernel
theorem dX5_likeness_38 : decode cX5_likeness 38 = .ok (.aload 5, 2) := by decide +kernel
theorem dX5_likeness_40 : decode cX5_likeness 40 = .ok (.ifnull 8, 3) := by decide +kernel
theorem dX5_likeness_43 : decode cX5_likeness 43 = .ok (.aload 6, 2) := by decide +kernel
theorem dX5_likeness_45 : decode cX5_likeness 45 = .ok (.ifnonnull 5, 3) := by decide +kernel
theorem dX5_likeness_48 : decode cX5_likeness 48 = .ok (.iconst 0, 1) := by decide +kernel
theorem dX5_likeness_49 : decode cX5_likeness 49 = .ok (.ireturn, 1) := by decide +kernel
theorem dX5_likeness_50 : decode cX5_likeness 50 = .ok (.aload 5, 2) := by decide +kernel
theorem dX5_likeness_52 : decode cX5_likeness 52 = .ok (.aload 6, 2) := by decide +kernel
theorem dX5_likeness_54 : decode cX5_likeness 54 = .ok (.invokevirtual 238, 3) := by decide +kernel
theorem dX5_likeness_57 : decode cX5_likeness 57 = .ok (.aload 5, 2) := by decide +kernel
theorem dX5_likeness_59 : decode cX5_likeness 59 = .ok (.getfield 232, 3) := by decide +kernel
theorem dX5_likeness_62 : decode cX5_likeness 62 = .ok (.aload 6, 2) := by decide +kernel
theorem dX5_likeness_64 : decode cX5_likeness 64 = .ok (.getfield 232, 3) := by decide +kernel
theorem dX5_likeness_67 : decode cX5_likeness 67 = .ok (.invokestatic 242, 3) := by decide +kernel
theorem dX5_likeness_70 : decode cX5_likeness 70 = .ok (.ireturn, 1) := by decide +kernel
theorem dX5_pairs_0 : decode cX5_pairs 0 = .ok (.aload_n 0, 1) := by decide +kernel
theorem dX5_pairs_1 : decode cX5_pairs 1 = .ok (.iload_n 1, 1) := by decide +kernel
theorem dX5_pairs_2 : decode cX5_pairs 2 = .ok (.invokevirtual 49, 3) := by decide +kernel
theorem dX5_pairs_5 : decode cX5_pairs 5 = .ok (.astore_n 2, 1) := by decide +kernel
theorem dX5_pairs_6 : decode cX5_pairs 6 = .ok (.iconst 0, 1) := by decide +kernel
theorem dX5_pairs_7 : decode cX5_pairs 7 = .ok (.istore_n 3, 1) := by decide +kernel
theorem dX5_pairs_8 : decode cX5_pairs 8 = .ok (.iconst 0, 1) := by decide +kernel
theorem dX5_pairs_9 : decode cX5_pairs 9 = .ok (.istore 4, 2) := by decide +kernel
theorem dX5_pairs_11 : decode cX5_pairs 11 = .ok (.iload 4, 2) := by decide +kernel
theorem dX5_pairs_13 : decode cX5_pairs 13 = .ok (.bipush 12, 2) := by decide +kernel
theorem dX5_pairs_15 : decode cX5_pairs 15 = .ok (.if_icmp .ge 42, 3) := by decide +kernel
theorem dX5_pairs_18 : decode cX5_pairs 18 = .ok (.iload 4, 2) := by decide +kernel
theorem dX5_pairs_20 : decode cX5_pairs 20 = .ok (.iconst 1, 1) := by decide +kernel
theorem dX5_pairs_21 : decode cX5_pairs 21 = .ok (.iadd, 1) := by decide +kernel
theorem dX5_pairs_22 : decode cX5_pairs 22 = .ok (.istore 5, 2) := by decide +kernel
theorem dX5_pairs_24 : decode cX5_pairs 24 = .ok (.iload 5, 2) := by decide +kernel
theorem dX5_pairs_26 : decode cX5_pairs 26 = .ok (.bipush 12, 2) := by decide +kernel
theorem dX5_pairs_28 : decode cX5_pairs 28 = .ok (.if_icmp .ge 23, 3) := by decide +kernel
theorem dX5_pairs_31 : decode cX5_pairs 31 = .ok (.aload_n 2, 1) := by decide +kernel
theorem dX5_pairs_32 : decode cX5_pairs 32 = .ok (.iload 4, 2) := by decide +kernel
theorem dX5_pairs_34 : decode cX5_pairs 34 = .ok (.iload 5, 2) := by decide +kernel
theorem dX5_pairs_36 : decode cX5_pairs 36 = .ok (.invokevirtual 246, 3) := by decide +kernel
theorem dX5_pairs_39 : decode cX5_pairs 39 = .ok (.ifCond .eq 6, 3) := by decide +kernel
theorem dX5_pairs_42 : decode cX5_pairs 42 = .ok (.iinc 3 1, 3) := by decide +kernel
theorem dX5_pairs_45 : decode cX5_pairs 45 = .ok (.iinc 5 1, 3) := by decide +kernel
theorem dX5_pairs_48 : decode cX5_pairs 48 = .ok (.goto (-24), 3) := by decide +kernel
theorem dX5_pairs_51 : decode cX5_pairs 51 = .ok (.iinc 4 1, 3) := by decide +kernel
theorem dX5_pairs_54 : decode cX5_pairs 54 = .ok (.goto (-43), 3) := by decide +kernel
theorem dX5_pairs_57 : decode cX5_pairs 57 = .ok (.iload_n 3, 1) := by decide +kernel
theorem dX5_pairs_58 : decode cX5_pairs 58 = .ok (.ireturn, 1) := by decide +kernel
theorem dX5_pairAt_0 : decode cX5_pairAt 0 = .ok (.aload_n 0, 1) := by decide +kernel
theorem dX5_pairAt_1 : decode cX5_pairAt 1 = .ok (.iload_n 1, 1) := by decide +kernel
theorem dX5_pairAt_2 : decode cX5_pairAt 2 = .ok (.invokevirtual 49, 3) := by decide +kernel
theorem dX5_pairAt_5 : decode cX5_pairAt 5 = .ok (.astore_n 3, 1) := by decide +kernel
theorem dX5_pairAt_6 : decode cX5_pairAt 6 = .ok (.iconst 0, 1) := by decide +kernel
theorem dX5_pairAt_7 : decode cX5_pairAt 7 = .ok (.istore 4, 2) := by decide +kernel
theorem dX5_pairAt_9 : decode cX5_pairAt 9 = .ok (.iconst 0, 1) := by decide +kernel
theorem dX5_pairAt_10 : decode cX5_pairAt 10 = .ok (.istore 5, 2) := by decide +kernel
theorem dX5_pairAt_12 : decode cX5_pairAt 12 = .ok (.iload 5, 2) := by decide +kernel
theorem dX5_pairAt_14 : decode cX5_pairAt 14 = .ok (.bipush 12, 2) := by decide +kernel
theorem dX5_pairAt_16 : decode cX5_pairAt 16 = .ok (.if_icmp .ge 57, 3) := by decide +kernel
theorem dX5_pairAt_19 : decode cX5_pairAt 19 = .ok (.iload 5, 2) := by decide +kernel
theorem dX5_pairAt_21 : decode cX5_pairAt 21 = .ok (.iconst 1, 1) := by decide +kernel
theorem dX5_pairAt_22 : decode cX5_pairAt 22 = .ok (.iadd, 1) := by decide +kernel
theorem dX5_pairAt_23 : decode cX5_pairAt 23 = .ok (.istore 6, 2) := by decide +kernel
theorem dX5_pairAt_25 : decode cX5_pairAt 25 = .ok (.iload 6, 2) := by decide +kernel
theorem dX5_pairAt_27 : decode cX5_pairAt 27 = .ok (.bipush 12, 2) := by decide +kernel
theorem dX5_pairAt_29 : decode cX5_pairAt 29 = .ok (.if_icmp .ge 38, 3) := by decide +kernel
theorem dX5_pairAt_32 : decode cX5_pairAt 32 = .ok (.aload_n 3, 1) := by decide +kernel
theorem dX5_pairAt_33 : decode cX5_pairAt 33 = .ok (.iload 5, 2) := by decide +kernel
theorem dX5_pairAt_35 : decode cX5_pairAt 35 = .ok (.iload 6, 2) := by decide +kernel
theorem dX5_pairAt_37 : decode cX5_pairAt 37 = .ok (.invokevirtual 246, 3) := by decide +kernel
theorem dX5_pairAt_40 : decode cX5_pairAt 40 = .ok (.ifCond .eq 21, 3) := by decide +kernel
theorem dX5_pairAt_43 : decode cX5_pairAt 43 = .ok (.iload 4, 2) := by decide +kernel
theorem dX5_pairAt_45 : decode cX5_pairAt 45 = .ok (.iload_n 2, 1) := by decide +kernel
theorem dX5_pairAt_46 : decode cX5_pairAt 46 = .ok (.if_icmp .ne 12, 3) := by decide +kernel
theorem dX5_pairAt_49 : decode cX5_pairAt 49 = .ok (.bipush 100, 2) := by decide +kernel
theorem dX5_pairAt_51 : decode cX5_pairAt 51 = .ok (.iload 5, 2) := by decide +kernel
theorem dX5_pairAt_53 : decode cX5_pairAt 53 = .ok (.imul, 1) := by decide +kernel
theorem dX5_pairAt_54 : decode cX5_pairAt 54 = .ok (.iload 6, 2) := by decide +kernel
theorem dX5_pairAt_56 : decode cX5_pairAt 56 = .ok (.iadd, 1) := by decide +kernel
theorem dX5_pairAt_57 : decode cX5_pairAt 57 = .ok (.ireturn, 1) := by decide +kernel
theorem dX5_pairAt_58 : decode cX5_pairAt 58 = .ok (.iinc 4 1, 3) := by decide +kernel
theorem dX5_pairAt_61 : decode cX5_pairAt 61 = .ok (.iinc 6 1, 3) := by decide +kernel
theorem dX5_pairAt_64 : decode cX5_pairAt 64 = .ok (.goto (-39), 3) := by decide +kernel
theorem dX5_pairAt_67 : decode cX5_pairAt 67 = .ok (.iinc 5 1, 3) := by decide +kernel
theorem dX5_pairAt_70 : decode cX5_pairAt 70 = .ok (.goto (-58), 3) := by decide +kernel
theorem dX5_pairAt_73 : decode cX5_pairAt 73 = .ok (.new 249, 3) := by decide +kernel
theorem dX5_pairAt_76 : decode cX5_pairAt 76 = .ok (.dup, 1) := by decide +kernel
theorem dX5_pairAt_77 : decode cX5_pairAt 77 = .ok (.ldc 251, 2) := by decide +kernel
theorem dX5_pairAt_79 : decode cX5_pairAt 79 = .ok (.invokespecial 253, 3) := by decide +kernel
theorem dX5_pairAt_82 : decode cX5_pairAt 82 = .ok (.athrow, 1) := by decide +kernel
theorem dX5_pairsAnew_0 : decode cX5_pairsAnew 0 = .ok (.aload_n 0, 1) := by decide +kernel
theorem dX5_pairsAnew_1 : decode cX5_pairsAnew 1 = .ok (.iload_n 1, 1) := by decide +kernel
theorem dX5_pairsAnew_2 : decode cX5_pairsAnew 2 = .ok (.invokevirtual 49, 3) := by decide +kernel
theorem dX5_pairsAnew_5 : decode cX5_pairsAnew 5 = .ok (.astore_n 2, 1) := by decide +kernel
theorem dX5_pairsAnew_6 : decode cX5_pairsAnew 6 = .ok (.iconst 0, 1) := by decide +kernel
theorem dX5_pairsAnew_7 : decode cX5_pairsAnew 7 = .ok (.istore_n 3, 1) := by decide +kernel
theorem dX5_pairsAnew_8 : decode cX5_pairsAnew 8 = .ok (.iload_n 3, 1) := by decide +kernel
theorem dX5_pairsAnew_9 : decode cX5_pairsAnew 9 = .ok (.bipush 12, 2) := by decide +kernel
theorem dX5_pairsAnew_11 : decode cX5_pairsAnew 11 = .ok (.if_icmp .ge 20, 3) := by decide +kernel
theorem dX5_pairsAnew_14 : decode cX5_pairsAnew 14 = .ok (.aload_n 0, 1) := by decide +kernel
theorem dX5_pairsAnew_15 : decode cX5_pairsAnew 15 = .ok (.aload_n 2, 1) := by decide +kernel
theorem dX5_pairsAnew_16 : decode cX5_pairsAnew 16 = .ok (.getfield 160, 3) := by decide +kernel
theorem dX5_pairsAnew_19 : decode cX5_pairsAnew 19 = .ok (.iload_n 3, 1) := by decide +kernel
theorem dX5_pairsAnew_20 : decode cX5_pairsAnew 20 = .ok (.aaload, 1) := by decide +kernel
theorem dX5_pairsAnew_21 : decode cX5_pairsAnew 21 = .ok (.iload_n 3, 1) := by decide +kernel
theorem dX5_pairsAnew_22 : decode cX5_pairsAnew 22 = .ok (.invokevirtual 254, 3) := by decide +kernel
theorem dX5_pairsAnew_25 : decode cX5_pairsAnew 25 = .ok (.iinc 3 1, 3) := by decide +kernel
theorem dX5_pairsAnew_28 : decode cX5_pairsAnew 28 = .ok (.goto (-20), 3) := by decide +kernel
theorem dX5_pairsAnew_31 : decode cX5_pairsAnew 31 = .ok (.iconst 0, 1) := by decide +kernel
theorem dX5_pairsAnew_32 : decode cX5_pairsAnew 32 = .ok (.istore_n 3, 1) := by decide +kernel
theorem dX5_pairsAnew_33 : decode cX5_pairsAnew 33 = .ok (.iconst 0, 1) := by decide +kernel
theorem dX5_pairsAnew_34 : decode cX5_pairsAnew 34 = .ok (.istore 4, 2) := by decide +kernel
theorem dX5_pairsAnew_36 : decode cX5_pairsAnew 36 = .ok (.iload 4, 2) := by decide +kernel
theorem dX5_pairsAnew_38 : decode cX5_pairsAnew 38 = .ok (.bipush 12, 2) := by decide +kernel
theorem dX5_pairsAnew_40 : decode cX5_pairsAnew 40 = .ok (.if_icmp .ge 59, 3) := by decide +kernel
theorem dX5_pairsAnew_43 : decode cX5_pairsAnew 43 = .ok (.iload 4, 2) := by decide +kernel
theorem dX5_pairsAnew_45 : decode cX5_pairsAnew 45 = .ok (.iconst 1, 1) := by decide +kernel
theorem dX5_pairsAnew_46 : decode cX5_pairsAnew 46 = .ok (.iadd, 1) := by decide +kernel
theorem dX5_pairsAnew_47 : decode cX5_pairsAnew 47 = .ok (.istore 5, 2) := by decide +kernel
theorem dX5_pairsAnew_49 : decode cX5_pairsAnew 49 = .ok (.iload 5, 2) := by decide +kernel
theorem dX5_pairsAnew_51 : decode cX5_pairsAnew 51 = .ok (.bipush 12, 2) := by decide +kernel
theorem dX5_pairsAnew_53 : decode cX5_pairsAnew 53 = .ok (.if_icmp .ge 40, 3) := by decide +kernel
theorem dX5_pairsAnew_56 : decode cX5_pairsAnew 56 = .ok (.aload_n 0, 1) := by decide +kernel
theorem dX5_pairsAnew_57 : decode cX5_pairsAnew 57 = .ok (.iload 4, 2) := by decide +kernel
theorem dX5_pairsAnew_59 : decode cX5_pairsAnew 59 = .ok (.iload 5, 2) := by decide +kernel
theorem dX5_pairsAnew_61 : decode cX5_pairsAnew 61 = .ok (.invokevirtual 258, 3) := by decide +kernel
theorem dX5_pairsAnew_64 : decode cX5_pairsAnew 64 = .ok (.aload_n 0, 1) := by decide +kernel
theorem dX5_pairsAnew_65 : decode cX5_pairsAnew 65 = .ok (.getfield 34, 3) := by decide +kernel
theorem dX5_pairsAnew_68 : decode cX5_pairsAnew 68 = .ok (.iload 4, 2) := by decide +kernel
theorem dX5_pairsAnew_70 : decode cX5_pairsAnew 70 = .ok (.iaload, 1) := by decide +kernel
theorem dX5_pairsAnew_71 : decode cX5_pairsAnew 71 = .ok (.aload_n 0, 1) := by decide +kernel
theorem dX5_pairsAnew_72 : decode cX5_pairsAnew 72 = .ok (.getfield 34, 3) := by decide +kernel
theorem dX5_pairsAnew_75 : decode cX5_pairsAnew 75 = .ok (.iload 5, 2) := by decide +kernel
theorem dX5_pairsAnew_77 : decode cX5_pairsAnew 77 = .ok (.iaload, 1) := by decide +kernel
theorem dX5_pairsAnew_78 : decode cX5_pairsAnew 78 = .ok (.invokestatic 261, 3) := by decide +kernel
theorem dX5_pairsAnew_81 : decode cX5_pairsAnew 81 = .ok (.ifCond .eq 6, 3) := by decide +kernel
theorem dX5_pairsAnew_84 : decode cX5_pairsAnew 84 = .ok (.iinc 3 1, 3) := by decide +kernel
theorem dX5_pairsAnew_87 : decode cX5_pairsAnew 87 = .ok (.iinc 5 1, 3) := by decide +kernel
theorem dX5_pairsAnew_90 : decode cX5_pairsAnew 90 = .ok (.goto (-41), 3) := by decide +kernel
theorem dX5_pairsAnew_93 : decode cX5_pairsAnew 93 = .ok (.iinc 4 1, 3) := by decide +kernel
theorem dX5_pairsAnew_96 : decode cX5_pairsAnew 96 = .ok (.goto (-60), 3) := by decide +kernel
theorem dX5_pairsAnew_99 : decode cX5_pairsAnew 99 = .ok (.iload_n 3, 1) := by decide +kernel
theorem dX5_pairsAnew_100 : decode cX5_pairsAnew 100 = .ok (.ireturn, 1) := by decide +kernel
theorem dX5_setQuota_0 : decode cX5_setQuota 0 = .ok (.iload_n 1, 1) := by decide +kernel
theorem dX5_setQuota_1 : decode cX5_setQuota 1 = .ok (.invokestatic 45, 3) := by decide +kernel
theorem dX5_setQuota_4 : decode cX5_setQuota 4 = .ok (.iload_n 2, 1) := by decide +kernel
theorem dX5_setQuota_5 : decode cX5_setQuota 5 = .ok (.iconst 0, 1) := by decide +kernel
theorem dX5_setQuota_6 : decode cX5_setQuota 6 = .ok (.sipush 1000, 3) := by decide +kernel
theorem dX5_setQuota_9 : decode cX5_setQuota 9 = .ok (.invokestatic 56, 3) := by decide +kernel
theorem dX5_setQuota_12 : decode cX5_setQuota 12 = .ok (.aload_n 0, 1) := by decide +kernel
theorem dX5_setQuota_13 : decode cX5_setQuota 13 = .ok (.getfield 19, 3) := by decide +kernel
theorem dX5_setQuota_16 : decode cX5_setQuota 16 = .ok (.iload_n 1, 1) := by decide +kernel
theorem dX5_setQuota_17 : decode cX5_setQuota 17 = .ok (.iaload, 1) := by decide +kernel
theorem dX5_setQuota_18 : decode cX5_setQuota 18 = .ok (.istore_n 3, 1) := by decide +kernel
theorem dX5_setQuota_19 : decode cX5_setQuota 19 = .ok (.aload_n 0, 1) := by decide +kernel
theorem dX5_setQuota_20 : decode cX5_setQuota 20 = .ok (.getfield 19, 3) := by decide +kernel
theorem dX5_setQuota_23 : decode cX5_setQuota 23 = .ok (.iload_n 1, 1) := by decide +kernel
theorem dX5_setQuota_24 : decode cX5_setQuota 24 = .ok (.iload_n 2, 1) := by decide +kernel
theorem dX5_setQuota_25 : decode cX5_setQuota 25 = .ok (.iastore, 1) := by decide +kernel
theorem dX5_setQuota_26 : decode cX5_setQuota 26 = .ok (.iload_n 3, 1) := by decide +kernel
theorem dX5_setQuota_27 : decode cX5_setQuota 27 = .ok (.ireturn, 1) := by decide +kernel
theorem dX5_used_0 : decode cX5_used 0 = .ok (.iload_n 1, 1) := by decide +kernel
theorem dX5_used_1 : decode cX5_used 1 = .ok (.invokestatic 45, 3) := by decide +kernel
theorem dX5_used_4 : decode cX5_used 4 = .ok (.aload_n 0, 1) := by decide +kernel
theorem dX5_used_5 : decode cX5_used 5 = .ok (.getfield 23, 3) := by decide +kernel
theorem dX5_used_8 : decode cX5_used 8 = .ok (.iload_n 1, 1) := by decide +kernel
theorem dX5_used_9 : decode cX5_used 9 = .ok (.iaload, 1) := by decide +kernel
theorem dX5_used_10 : decode cX5_used 10 = .ok (.ireturn, 1) := by decide +kernel
theorem dX5_usedAnew_0 : decode cX5_usedAnew 0 = .ok (.iload_n 1, 1) := by decide +kernel
theorem dX5_usedAnew_1 : decode cX5_usedAnew 1 = .ok (.invokestatic 45, 3) := by decide +kernel
theorem dX5_usedAnew_4 : decode cX5_usedAnew 4 = .ok (.iconst 0, 1) := by decide +kernel
theorem dX5_usedAnew_5 : decode cX5_usedAnew 5 = .ok (.istore_n 2, 1) := by decide +kernel
theorem dX5_usedAnew_6 : decode cX5_usedAnew 6 = .ok (.iconst 0, 1) := by decide +kernel
theorem dX5_usedAnew_7 : decode cX5_usedAnew 7 = .ok (.istore_n 3, 1) := by decide +kernel
theorem dX5_usedAnew_8 : decode cX5_usedAnew 8 = .ok (.iload_n 3, 1) := by decide +kernel
theorem dX5_usedAnew_9 : decode cX5_usedAnew 9 = .ok (.iconst 4, 1) := by decide +kernel
theorem dX5_usedAnew_10 : decode cX5_usedAnew 10 = .ok (.if_icmp .ge 38, 3) := by decide +kernel
theorem dX5_usedAnew_13 : decode cX5_usedAnew 13 = .ok (.aload_n 0, 1) := by decide +kernel
theorem dX5_usedAnew_14 : decode cX5_usedAnew 14 = .ok (.getfield 11, 3) := by decide +kernel
theorem dX5_usedAnew_17 : decode cX5_usedAnew 17 = .ok (.iload_n 3, 1) := by decide +kernel
theorem dX5_usedAnew_18 : decode cX5_usedAnew 18 = .ok (.aaload, 1) := by decide +kernel
theorem dX5_usedAnew_19 : decode cX5_usedAnew 19 = .ok (.astore 4, 2) := by decide +kernel
theorem dX5_usedAnew_21 : decode cX5_usedAnew 21 = .ok (.aload 4, 2) := by decide +kernel
theorem dX5_usedAnew_23 : decode cX5_usedAnew 23 = .ok (.ifnull 19, 3) := by decide +kernel
theorem dX5_usedAnew_26 : decode cX5_usedAnew 26 = .ok (.iload_n 2, 1) := by decide +kernel
theorem dX5_usedAnew_27 : decode cX5_usedAnew 27 = .ok (.aload 4, 2) := by decide +kernel
theorem dX5_usedAnew_29 : decode cX5_usedAnew 29 = .ok (.iload_n 1, 1) := by decide +kernel
theorem dX5_usedAnew_30 : decode cX5_usedAnew 30 = .ok (.invokevirtual 265, 3) := by decide +kernel
theorem dX5_usedAnew_33 : decode cX5_usedAnew 33 = .ok (.aload 4, 2) := by decide +kernel
theorem dX5_usedAnew_35 : decode cX5_usedAnew 35 = .ok (.iload_n 1, 1) := by decide +kernel
theorem dX5_usedAnew_36 : decode cX5_usedAnew 36 = .ok (.invokevirtual 268, 3) := by decide +kernel
theorem dX5_usedAnew_39 : decode cX5_usedAnew 39 = .ok (.iadd, 1) := by decide +kernel
theorem dX5_usedAnew_40 : decode cX5_usedAnew 40 = .ok (.iadd, 1) := by decide +kernel
theorem dX5_usedAnew_41 : decode cX5_usedAnew 41 = .ok (.istore_n 2, 1) := by decide +kernel
theorem dX5_usedAnew_42 : decode cX5_usedAnew 42 = .ok (.iinc 3 1, 3) := by decide +kernel
theorem dX5_usedAnew_45 : decode cX5_usedAnew 45 = .ok (.goto (-37), 3) := by decide +kernel
theorem dX5_usedAnew_48 : decode cX5_usedAnew 48 = .ok (.iload_n 2, 1) := by decide +kernel
theorem dX5_usedAnew_49 : decode cX5_usedAnew 49 = .ok (.ireturn, 1) := by decide +kernel
theorem dX5_checkClass_0 : decode cX5_checkClass 0 = .ok (.iload_n 0, 1) := by decide +kernel
theorem dX5_checkClass_1 : decode cX5_checkClass 1 = .ok (.ifCond .lt 8, 3) := by decide +kernel
theorem dX5_checkClass_4 : decode cX5_checkClass 4 = .ok (.iload_n 0, 1) := by decide +kernel
theorem dX5_checkClass_5 : decode cX5_checkClass 5 = .ok (.iconst 4, 1) := by decide +kernel
theorem dX5_checkClass_6 : decode cX5_checkClass 6 = .ok (.if_icmp .lt 14, 3) := by decide +kernel
theorem dX5_checkClass_9 : decode cX5_checkClass 9 = .ok (.new 249, 3) := by decide +kernel
theorem dX5_checkClass_12 : decode cX5_checkClass 12 = .ok (.dup, 1) := by decide +kernel
theorem dX5_checkClass_13 : decode cX5_checkClass 13 = .ok (.ldc_w 271, 3) := by decide +kernel
theorem dX5_checkClass_16 : decode cX5_checkClass 16 = .ok (.invokespecial 253, 3) := by decide +kernel
theorem dX5_checkClass_19 : decode cX5_checkClass 19 = .ok (.athrow, 1) := by decide +kernel
theorem dX5_checkClass_20 : decode cX5_checkClass 20 = .ok (.return_, 1) := by decide +kernel
theorem dX5_checkPupil_0 : decode cX5_checkPupil 0 = .ok (.iload_n 0, 1) := by decide +kernel
theorem dX5_checkPupil_1 : decode cX5_checkPupil 1 = .ok (.ifCond .lt 9, 3) := by decide +kernel
theorem dX5_checkPupil_4 : decode cX5_checkPupil 4 = .ok (.iload_n 0, 1) := by decide +kernel
theorem dX5_checkPupil_5 : decode cX5_checkPupil 5 = .ok (.bipush 12, 2) := by decide +kernel
theorem dX5_checkPupil_7 : decode cX5_checkPupil 7 = .ok (.if_icmp .lt 14, 3) := by decide +kernel
theorem dX5_checkPupil_10 : decode cX5_checkPupil 10 = .ok (.new 249, 3) := by decide +kernel
theorem dX5_checkPupil_13 : decode cX5_checkPupil 13 = .ok (.dup, 1) := by decide +kernel
theorem dX5_checkPupil_14 : decode cX5_checkPupil 14 = .ok (.ldc_w 273, 3) := by decide +kernel
theorem dX5_checkPupil_17 : decode cX5_checkPupil 17 = .ok (.invokespecial 253, 3) := by decide +kernel
theorem dX5_checkPupil_20 : decode cX5_checkPupil 20 = .ok (.athrow, 1) := by decide +kernel
theorem dX5_checkPupil_21 : decode cX5_checkPupil 21 = .ok (.return_, 1) := by decide +kernel
theorem dX5_checkTask_0 : decode cX5_checkTask 0 = .ok (.iload_n 0, 1) := by decide +kernel
theorem dX5_checkTask_1 : decode cX5_checkTask 1 = .ok (.ifCond .lt 8, 3) := by decide +kernel
theorem dX5_checkTask_4 : decode cX5_checkTask 4 = .ok (.iload_n 0, 1) := by decide +kernel
theorem dX5_checkTask_5 : decode cX5_checkTask 5 = .ok (.iconst 5, 1) := by decide +kernel
theorem dX5_checkTask_6 : decode cX5_checkTask 6 = .ok (.if_icmp .lt 14, 3) := by decide +kernel
theorem dX5_checkTask_9 : decode cX5_checkTask 9 = .ok (.new 249, 3) := by decide +kernel
theorem dX5_checkTask_12 : decode cX5_checkTask 12 = .ok (.dup, 1) := by decide +kernel
theorem dX5_checkTask_13 : decode cX5_checkTask 13 = .ok (.ldc_w 275, 3) := by decide +kernel
theorem dX5_checkTask_16 : decode cX5_checkTask 16 = .ok (.invokespecial 253, 3) := by decide +kernel
theorem dX5_checkTask_19 : decode cX5_checkTask 19 = .ok (.athrow, 1) := by decide +kernel
theorem dX5_checkTask_20 : decode cX5_checkTask 20 = .ok (.return_, 1) := by decide +kernel
theorem dX5_checkRange_0 : decode cX5_checkRange 0 = .ok (.iload_n 0, 1) := by decide +kernel
theorem dX5_checkRange_1 : decode cX5_checkRange 1 = .ok (.iload_n 1, 1) := by decide +kernel
theorem dX5_checkRange_2 : decode cX5_checkRange 2 = .ok (.if_icmp .lt 8, 3) := by decide +kernel
theorem dX5_checkRange_5 : decode cX5_checkRange 5 = .ok (.iload_n 0, 1) := by decide +kernel
theorem dX5_checkRange_6 : decode cX5_checkRange 6 = .ok (.iload_n 2, 1) := by decide +kernel
theorem dX5_checkRange_7 : decode cX5_checkRange 7 = .ok (.if_icmp .le 14, 3) := by decide +kernel
theorem dX5_checkRange_10 : decode cX5_checkRange 10 = .ok (.new 277, 3) := by decide +kernel
theorem dX5_checkRange_13 : decode cX5_checkRange 13 = .ok (.dup, 1) := by decide +kernel
theorem dX5_checkRange_14 : decode cX5_checkRange 14 = .ok (.ldc_w 279, 3) := by decide +kernel
theorem dX5_checkRange_17 : decode cX5_checkRange 17 = .ok (.invokespecial 281, 3) := by decide +kernel
theorem dX5_checkRange_20 : decode cX5_checkRange 20 = .ok (.athrow, 1) := by decide +kernel
theorem dX5_checkRange_21 : decode cX5_checkRange 21 = .ok (.return_, 1) := by decide +kernel
theorem dX5_checkNumberRule_0 : decode cX5_checkNumberRule 0 = .ok (.iload_n 0, 1) := by decide +kernel
theorem dX5_checkNumberRule_1 : decode cX5_checkNumberRule 1 = .ok (.sipush (-1000), 3) := by decide +kernel
theorem dX5_checkNumberRule_4 : decode cX5_checkNumberRule 4 = .ok (.sipush 1000, 3) := by decide +kernel
theorem dX5_checkNumberRule_7 : decode cX5_checkNumberRule 7 = .ok (.invokestatic 56, 3) := by decide +kernel
theorem dX5_checkNumberRule_10 : decode cX5_checkNumberRule 10 = .ok (.iload_n 1, 1) := by decide +kernel
theorem dX5_checkNumberRule_11 : decode cX5_checkNumberRule 11 = .ok (.iconst 0, 1) := by decide +kernel
theorem dX5_checkNumberRule_12 : decode cX5_checkNumberRule 12 = .ok (.bipush 100, 2) := by decide +kernel
theorem dX5_checkNumberRule_14 : decode cX5_checkNumberRule 14 = .ok (.invokestatic 56, 3) := by decide +kernel
theorem dX5_checkNumberRule_17 : decode cX5_checkNumberRule 17 = .ok (.return_, 1) := by decide +kernel
theorem dX5_checkWordsRule_0 : decode cX5_checkWordsRule 0 = .ok (.iload_n 0, 1) := by decide +kernel
theorem dX5_checkWordsRule_1 : decode cX5_checkWordsRule 1 = .ok (.invokestatic 282, 3) := by decide +kernel
theorem dX5_checkWordsRule_4 : decode cX5_checkWordsRule 4 = .ok (.istore_n 1, 1) := by decide +kernel
theorem dX5_checkWordsRule_5 : decode cX5_checkWordsRule 5 = .ok (.iload_n 1, 1) := by decide +kernel
theorem dX5_checkWordsRule_6 : decode cX5_checkWordsRule 6 = .ok (.ifCond .eq 11, 3) := by decide +kernel
theorem dX5_checkWordsRule_9 : decode cX5_checkWordsRule 9 = .ok (.iload_n 0, 1) := by decide +kernel
theorem dX5_checkWordsRule_10 : decode cX5_checkWordsRule 10 = .ok (.iload_n 1, 1) := by decide +kernel
theorem dX5_checkWordsRule_11 : decode cX5_checkWordsRule 11 = .ok (.iconst 5, 1) := by decide +kernel
theorem dX5_checkWordsRule_12 : decode cX5_checkWordsRule 12 = .ok (.imul, 1) := by decide +kernel
theorem dX5_checkWordsRule_13 : decode cX5_checkWordsRule 13 = .ok (.iushr, 1) := by decide +kernel
theorem dX5_checkWordsRule_14 : decode cX5_checkWordsRule 14 = .ok (.ifCond .eq 14, 3) := by decide +kernel
theorem dX5_checkWordsRule_17 : decode cX5_checkWordsRule 17 = .ok (.new 277, 3) := by decide +kernel
theorem dX5_checkWordsRule_20 : decode cX5_checkWordsRule 20 = .ok (.dup, 1) := by decide +kernel
theorem dX5_checkWordsRule_21 : decode cX5_checkWordsRule 21 = .ok (.ldc_w 285, 3) := by decide +kernel
theorem dX5_checkWordsRule_24 : decode cX5_checkWordsRule 24 = .ok (.invokespecial 281, 3) := by decide +kernel
theorem dX5_checkWordsRule_27 : decode cX5_checkWordsRule 27 = .ok (.athrow, 1) := by decide +kernel
theorem dX5_checkWordsRule_28 : decode cX5_checkWordsRule 28 = .ok (.return_, 1) := by decide +kernel
theorem dX5_checkSaid_0 : decode cX5_checkSaid 0 = .ok (.iload_n 0, 1) := by decide +kernel
theorem dX5_checkSaid_1 : decode cX5_checkSaid 1 = .ok (.ifCond .ne 16, 3) := by decide +kernel
theorem dX5_checkSaid_4 : decode cX5_checkSaid 4 = .ok (.iload_n 1, 1) := by decide +kernel
theorem dX5_checkSaid_5 : decode cX5_checkSaid 5 = .ok (.sipush (-1000), 3) := by decide +kernel
theorem dX5_checkSaid_8 : decode cX5_checkSaid 8 = .ok (.sipush 1000, 3) := by decide +kernel
theorem dX5_checkSaid_11 : decode cX5_checkSaid 11 = .ok (.invokestatic 56, 3) := by decide +kernel
theorem dX5_checkSaid_14 : decode cX5_checkSaid 14 = .ok (.goto 24, 3) := by decide +kernel
theorem dX5_checkSaid_17 : decode cX5_checkSaid 17 = .ok (.iload_n 0, 1) := by decide +kernel
theorem dX5_checkSaid_18 : decode cX5_checkSaid 18 = .ok (.iconst 1, 1) := by decide +kernel
theorem dX5_checkSaid_19 : decode cX5_checkSaid 19 = .ok (.if_icmp .ne 12, 3) := by decide +kernel
theorem dX5_checkSaid_22 : decode cX5_checkSaid 22 = .ok (.iload_n 1, 1) := by decide +kernel
theorem dX5_checkSaid_23 : decode cX5_checkSaid 23 = .ok (.iconst 0, 1) := by decide +kernel
theorem dX5_checkSaid_24 : decode cX5_checkSaid 24 = .ok (.iconst 4, 1) := by decide +kernel
theorem dX5_checkSaid_25 : decode cX5_checkSaid 25 = .ok (.invokestatic 56, 3) := by decide +kernel
theorem dX5_checkSaid_28 : decode cX5_checkSaid 28 = .ok (.goto 10, 3) := by decide +kernel
theorem dX5_checkSaid_31 : decode cX5_checkSaid 31 = .ok (.iload_n 1, 1) := by decide +kernel
theorem dX5_checkSaid_32 : decode cX5_checkSaid 32 = .ok (.iconst 1, 1) := by decide +kernel
theorem dX5_checkSaid_33 : decode cX5_checkSaid 33 = .ok (.bipush 31, 2) := by decide +kernel
theorem dX5_checkSaid_35 : decode cX5_checkSaid 35 = .ok (.invokestatic 56, 3) := by decide +kernel
theorem dX5_checkSaid_38 : decode cX5_checkSaid 38 = .ok (.return_, 1) := by decide +kernel
theorem dX5_sheetAt_0 : decode cX5_sheetAt 0 = .ok (.iload_n 1, 1) := by decide +kernel
theorem dX5_sheetAt_1 : decode cX5_sheetAt 1 = .ok (.ifCond .lt 8, 3) := by decide +kernel
theorem dX5_sheetAt_4 : decode cX5_sheetAt 4 = .ok (.iload_n 1, 1) := by decide +kernel
theorem dX5_sheetAt_5 : decode cX5_sheetAt 5 = .ok (.iconst 4, 1) := by decide +kernel
theorem dX5_sheetAt_6 : decode cX5_sheetAt 6 = .ok (.if_icmp .lt 14, 3) := by decide +kernel
theorem dX5_sheetAt_9 : decode cX5_sheetAt 9 = .ok (.new 249, 3) := by decide +kernel
theorem dX5_sheetAt_12 : decode cX5_sheetAt 12 = .ok (.dup, 1) := by decide +kernel
theorem dX5_sheetAt_13 : decode cX5_sheetAt 13 = .ok (.ldc_w 287, 3) := by decide +kernel
theorem dX5_sheetAt_16 : decode cX5_sheetAt 16 = .ok (.invokespecial 253, 3) := by decide +kernel
theorem dX5_sheetAt_19 : decode cX5_sheetAt 19 = .ok (.athrow, 1) := by decide +kernel
theorem dX5_sheetAt_20 : decode cX5_sheetAt 20 = .ok (.aload_n 0, 1) := by decide +kernel
theorem dX5_sheetAt_21 : decode cX5_sheetAt 21 = .ok (.getfield 11, 3) := by decide +kernel
theorem dX5_sheetAt_24 : decode cX5_sheetAt 24 = .ok (.iload_n 1, 1) := by decide +kernel
theorem dX5_sheetAt_25 : decode cX5_sheetAt 25 = .ok (.aaload, 1) := by decide +kernel
theorem dX5_sheetAt_26 : decode cX5_sheetAt 26 = .ok (.astore_n 2, 1) := by decide +kernel
theorem dX5_sheetAt_27 : decode cX5_sheetAt 27 = .ok (.aload_n 2, 1) := by decide +kernel
theorem dX5_sheetAt_28 : decode cX5_sheetAt 28 = .ok (.ifnonnull 14, 3) := by decide +kernel
theorem dX5_sheetAt_31 : decode cX5_sheetAt 31 = .ok (.new 249, 3) := by decide +kernel
theorem dX5_sheetAt_34 : decode cX5_sheetAt 34 = .ok (.dup, 1) := by decide +kernel
theorem dX5_sheetAt_35 : decode cX5_sheetAt 35 = .ok (.ldc_w 287, 3) := by decide +kernel
theorem dX5_sheetAt_38 : decode cX5_sheetAt 38 = .ok (.invokespecial 253, 3) := by decide +kernel
theorem dX5_sheetAt_41 : decode cX5_sheetAt 41 = .ok (.athrow, 1) := by decide +kernel
theorem dX5_sheetAt_42 : decode cX5_sheetAt 42 = .ok (.aload_n 2, 1) := by decide +kernel
theorem dX5_sheetAt_43 : decode cX5_sheetAt 43 = .ok (.areturn, 1) := by decide +kernel
theorem dX5_versionAt_0 : decode cX5_versionAt 0 = .ok (.iload_n 1, 1) := by decide +kernel
theorem dX5_versionAt_1 : decode cX5_versionAt 1 = .ok (.ifCond .lt 9, 3) := by decide +kernel
theorem dX5_versionAt_4 : decode cX5_versionAt 4 = .ok (.iload_n 1, 1) := by decide +kernel
theorem dX5_versionAt_5 : decode cX5_versionAt 5 = .ok (.bipush 16, 2) := by decide +kernel
theorem dX5_versionAt_7 : decode cX5_versionAt 7 = .ok (.if_icmp .lt 14, 3) := by decide +kernel
theorem dX5_versionAt_10 : decode cX5_versionAt 10 = .ok (.new 249, 3) := by decide +kernel
theorem dX5_versionAt_13 : decode cX5_versionAt 13 = .ok (.dup, 1) := by decide +kernel
theorem dX5_versionAt_14 : decode cX5_versionAt 14 = .ok (.ldc_w 289, 3) := by decide +kernel
theorem dX5_versionAt_17 : decode cX5_versionAt 17 = .ok (.invokespecial 253, 3) := by decide +kernel
theorem dX5_versionAt_20 : decode cX5_versionAt 20 = .ok (.athrow, 1) := by decide +kernel
theorem dX5_versionAt_21 : decode cX5_versionAt 21 = .ok (.aload_n 0, 1) := by decide +kernel
theorem dX5_versionAt_22 : decode cX5_versionAt 22 = .ok (.getfield 132, 3) := by decide +kernel
theorem dX5_versionAt_25 : decode cX5_versionAt 25 = .ok (.iload_n 1, 1) := by decide +kernel
theorem dX5_versionAt_26 : decode cX5_versionAt 26 = .ok (.aaload, 1) := by decide +kernel
theorem dX5_versionAt_27 : decode cX5_versionAt 27 = .ok (.astore_n 2, 1) := by decide +kernel
theorem dX5_versionAt_28 : decode cX5_versionAt 28 = .ok (.aload_n 2, 1) := by decide +kernel
theorem dX5_versionAt_29 : decode cX5_versionAt 29 = .ok (.ifnonnull 14, 3) := by decide +kernel
theorem dX5_versionAt_32 : decode cX5_versionAt 32 = .ok (.new 249, 3) := by decide +kernel
theorem dX5_versionAt_35 : decode cX5_versionAt 35 = .ok (.dup, 1) := by decide +kernel
theorem dX5_versionAt_36 : decode cX5_versionAt 36 = .ok (.ldc_w 289, 3) := by decide +kernel
theorem dX5_versionAt_39 : decode cX5_versionAt 39 = .ok (.invokespecial 253, 3) := by decide +kernel
theorem dX5_versionAt_42 : decode cX5_versionAt 42 = .ok (.athrow, 1) := by decide +kernel
theorem dX5_versionAt_43 : decode cX5_versionAt 43 = .ok (.aload_n 2, 1) := by decide +kernel
theorem dX5_versionAt_44 : decode cX5_versionAt 44 = .ok (.areturn, 1) := by decide +kernel
theorem dX5_answerAt_0 : decode cX5_answerAt 0 = .ok (.iload_n 1, 1) := by decide +kernel
theorem dX5_answerAt_1 : decode cX5_answerAt 1 = .ok (.invokestatic 153, 3) := by decide +kernel
theorem dX5_answerAt_4 : decode cX5_answerAt 4 = .ok (.aload_n 0, 1) := by decide +kernel
theorem dX5_answerAt_5 : decode cX5_answerAt 5 = .ok (.iload_n 2, 1) := by decide +kernel
theorem dX5_answerAt_6 : decode cX5_answerAt 6 = .ok (.invokevirtual 49, 3) := by decide +kernel
theorem dX5_answerAt_9 : decode cX5_answerAt 9 = .ok (.getfield 160, 3) := by decide +kernel
theorem dX5_answerAt_12 : decode cX5_answerAt 12 = .ok (.iload_n 1, 1) := by decide +kernel
theorem dX5_answerAt_13 : decode cX5_answerAt 13 = .ok (.aaload, 1) := by decide +kernel
theorem dX5_answerAt_14 : decode cX5_answerAt 14 = .ok (.areturn, 1) := by decide +kernel
theorem dX5_openAnswer_0 : decode cX5_openAnswer 0 = .ok (.aload_n 0, 1) := by decide +kernel
theorem dX5_openAnswer_1 : decode cX5_openAnswer 1 = .ok (.getfield 160, 3) := by decide +kernel
theorem dX5_openAnswer_4 : decode cX5_openAnswer 4 = .ok (.iload_n 1, 1) := by decide +kernel
theorem dX5_openAnswer_5 : decode cX5_openAnswer 5 = .ok (.aaload, 1) := by decide +kernel
theorem dX5_openAnswer_6 : decode cX5_openAnswer 6 = .ok (.astore_n 2, 1) := by decide +kernel
theorem dX5_openAnswer_7 : decode cX5_openAnswer 7 = .ok (.aload_n 2, 1) := by decide +kernel
theorem dX5_openAnswer_8 : decode cX5_openAnswer 8 = .ok (.ifnull 10, 3) := by decide +kernel
theorem dX5_openAnswer_11 : decode cX5_openAnswer 11 = .ok (.aload_n 2, 1) := by decide +kernel
theorem dX5_openAnswer_12 : decode cX5_openAnswer 12 = .ok (.getfield 208, 3) := by decide +kernel
theorem dX5_openAnswer_15 : decode cX5_openAnswer 15 = .ok (.ifCond .eq 14, 3) := by decide +kernel
theorem dX5_openAnswer_18 : decode cX5_openAnswer 18 = .ok (.new 37, 3) := by decide +kernel
theorem dX5_openAnswer_21 : decode cX5_openAnswer 21 = .ok (.dup, 1) := by decide +kernel
theorem dX5_openAnswer_22 : decode cX5_openAnswer 22 = .ok (.ldc_w 291, 3) := by decide +kernel
theorem dX5_openAnswer_25 : decode cX5_openAnswer 25 = .ok (.invokespecial 41, 3) := by decide +kernel
theorem dX5_openAnswer_28 : decode cX5_openAnswer 28 = .ok (.athrow, 1) := by decide +kernel
theorem dX5_openAnswer_29 : decode cX5_openAnswer 29 = .ok (.aload_n 2, 1) := by decide +kernel
theorem dX5_openAnswer_30 : decode cX5_openAnswer 30 = .ok (.areturn, 1) := by decide +kernel
theorem dX5_classOf_0 : decode cX5_classOf 0 = .ok (.iload_n 0, 1) := by decide +kernel
theorem dX5_classOf_1 : decode cX5_classOf 1 = .ok (.iconst 3, 1) := by decide +kernel
theorem dX5_classOf_2 : decode cX5_classOf 2 = .ok (.idiv, 1) := by decide +kernel
theorem dX5_classOf_3 : decode cX5_classOf 3 = .ok (.ireturn, 1) := by decide +kernel
theorem dX5_numberOf_0 : decode cX5_numberOf 0 = .ok (.aload_n 0, 1) := by decide +kernel
theorem dX5_numberOf_1 : decode cX5_numberOf 1 = .ok (.ifnonnull 7, 3) := by decide +kernel
theorem dX5_numberOf_4 : decode cX5_numberOf 4 = .ok (.iconst (-1), 1) := by decide +kernel
theorem dX5_numberOf_5 : decode cX5_numberOf 5 = .ok (.goto 7, 3) := by decide +kernel
theorem dX5_numberOf_8 : decode cX5_numberOf 8 = .ok (.aload_n 0, 1) := by decide +kernel
theorem dX5_numberOf_9 : decode cX5_numberOf 9 = .ok (.getfield 293, 3) := by decide +kernel
theorem dX5_numberOf_12 : decode cX5_numberOf 12 = .ok (.ireturn, 1) := by decide +kernel
theorem dX5_tellerOf_0 : decode cX5_tellerOf 0 = .ok (.aload_n 0, 1) := by decide +kernel
theorem dX5_tellerOf_1 : decode cX5_tellerOf 1 = .ok (.astore_n 2, 1) := by decide +kernel
theorem dX5_tellerOf_2 : decode cX5_tellerOf 2 = .ok (.aload_n 2, 1) := by decide +kernel
theorem dX5_tellerOf_3 : decode cX5_tellerOf 3 = .ok (.ifnull 22, 3) := by decide +kernel
theorem dX5_tellerOf_6 : decode cX5_tellerOf 6 = .ok (.aload_n 2, 1) := by decide +kernel
theorem dX5_tellerOf_7 : decode cX5_tellerOf 7 = .ok (.getfield 296, 3) := by decide +kernel
theorem dX5_tellerOf_10 : decode cX5_tellerOf 10 = .ok (.iload_n 1, 1) := by decide +kernel
theorem dX5_tellerOf_11 : decode cX5_tellerOf 11 = .ok (.aaload, 1) := by decide +kernel
theorem dX5_tellerOf_12 : decode cX5_tellerOf 12 = .ok (.ifnull 5, 3) := by decide +kernel
theorem dX5_tellerOf_15 : decode cX5_tellerOf 15 = .ok (.aload_n 2, 1) := by decide +kernel
theorem dX5_tellerOf_16 : decode cX5_tellerOf 16 = .ok (.areturn, 1) := by decide +kernel
theorem dX5_tellerOf_17 : decode cX5_tellerOf 17 = .ok (.aload_n 2, 1) := by decide +kernel
theorem dX5_tellerOf_18 : decode cX5_tellerOf 18 = .ok (.getfield 135, 3) := by decide +kernel
theorem dX5_tellerOf_21 : decode cX5_tellerOf 21 = .ok (.astore_n 2, 1) := by decide +kernel
theorem dX5_tellerOf_22 : decode cX5_tellerOf 22 = .ok (.goto (-20), 3) := by decide +kernel
theorem dX5_tellerOf_25 : decode cX5_tellerOf 25 = .ok (.aconst_null, 1) := by decide +kernel
theorem dX5_tellerOf_26 : decode cX5_tellerOf 26 = .ok (.areturn, 1) := by decide +kernel
theorem dX5_taskOf_0 : decode cX5_taskOf 0 = .ok (.aload_n 0, 1) := by decide +kernel
theorem dX5_taskOf_1 : decode cX5_taskOf 1 = .ok (.iload_n 1, 1) := by decide +kernel
theorem dX5_taskOf_2 : decode cX5_taskOf 2 = .ok (.invokestatic 142, 3) := by decide +kernel
theorem dX5_taskOf_5 : decode cX5_taskOf 5 = .ok (.astore_n 2, 1) := by decide +kernel
theorem dX5_taskOf_6 : decode cX5_taskOf 6 = .ok (.aload_n 2, 1) := by decide +kernel
theorem dX5_taskOf_7 : decode cX5_taskOf 7 = .ok (.ifnonnull 5, 3) := by decide +kernel
theorem dX5_taskOf_10 : decode cX5_taskOf 10 = .ok (.aconst_null, 1) := by decide +kernel
theorem dX5_taskOf_11 : decode cX5_taskOf 11 = .ok (.areturn, 1) := by decide +kernel
theorem dX5_taskOf_12 : decode cX5_taskOf 12 = .ok (.aload_n 2, 1) := by decide +kernel
theorem dX5_taskOf_13 : decode cX5_taskOf 13 = .ok (.getfield 296, 3) := by decide +kernel
theorem dX5_taskOf_16 : decode cX5_taskOf 16 = .ok (.iload_n 1, 1) := by decide +kernel
theorem dX5_taskOf_17 : decode cX5_taskOf 17 = .ok (.aaload, 1) := by decide +kernel
theorem dX5_taskOf_18 : decode cX5_taskOf 18 = .ok (.astore_n 3, 1) := by decide +kernel
theorem dX5_taskOf_19 : decode cX5_taskOf 19 = .ok (.aload_n 3, 1) := by decide +kernel
theorem dX5_taskOf_20 : decode cX5_taskOf 20 = .ok (.ifnull 11, 3) := by decide +kernel
theorem dX5_taskOf_23 : decode cX5_taskOf 23 = .ok (.aload_n 3, 1) := by decide +kernel
theorem dX5_taskOf_24 : decode cX5_taskOf 24 = .ok (.getfield 139, 3) := by decide +kernel
theorem dX5_taskOf_27 : decode cX5_taskOf 27 = .ok (.iconst (-1), 1) := by decide +kernel
theorem dX5_taskOf_28 : decode cX5_taskOf 28 = .ok (.if_icmp .ne 7, 3) := by decide +kernel
theorem dX5_taskOf_31 : decode cX5_taskOf 31 = .ok (.aconst_null, 1) := by decide +kernel
theorem dX5_taskOf_32 : decode cX5_taskOf 32 = .ok (.goto 4, 3) := by decide +kernel
theorem dX5_taskOf_35 : decode cX5_taskOf 35 = .ok (.aload_n 3, 1) := by decide +kernel
theorem dX5_taskOf_36 : decode cX5_taskOf 36 = .ok (.areturn, 1) := by decide +kernel
theorem dX5_revise_0 : decode cX5_revise 0 = .ok (.aload_n 2, 1) := by decide +kernel
theorem dX5_revise_1 : decode cX5_revise 1 = .ok (.getfield 300, 3) := by decide +kernel
theorem dX5_revise_4 : decode cX5_revise 4 = .ok (.bipush 16, 2) := by decide +kernel
theorem dX5_revise_6 : decode cX5_revise 6 = .ok (.if_icmp .lt 14, 3) := by decide +kernel
theorem dX5_revise_9 : decode cX5_revise 9 = .ok (.new 37, 3) := by decide +kernel
theorem dX5_revise_12 : decode cX5_revise 12 = .ok (.dup, 1) := by decide +kernel
theorem dX5_revise_13 : decode cX5_revise 13 = .ok (.ldc_w 303, 3) := by decide +kernel
theorem dX5_revise_16 : decode cX5_revise 16 = .ok (.invokespecial 41, 3) := by decide +kernel
theorem dX5_revise_19 : decode cX5_revise 19 = .ok (.athrow, 1) := by decide +kernel
theorem dX5_revise_20 : decode cX5_revise 20 = .ok (.aload_n 0, 1) := by decide +kernel
theorem dX5_revise_21 : decode cX5_revise 21 = .ok (.iload_n 1, 1) := by decide +kernel
theorem dX5_revise_22 : decode cX5_revise 22 = .ok (.aload 4, 2) := by decide +kernel
theorem dX5_revise_24 : decode cX5_revise 24 = .ok (.invokevirtual 305, 3) := by decide +kernel
theorem dX5_revise_27 : decode cX5_revise 27 = .ok (.invokevirtual 116, 3) := by decide +kernel
theorem dX5_revise_30 : decode cX5_revise 30 = .ok (.ifCond .eq 13, 3) := by decide +kernel
theorem dX5_revise_33 : decode cX5_revise 33 = .ok (.new 37, 3) := by decide +kernel
theorem dX5_revise_36 : decode cX5_revise 36 = .ok (.dup, 1) := by decide +kernel
theorem dX5_revise_37 : decode cX5_revise 37 = .ok (.ldc 120, 2) := by decide +kernel
theorem dX5_revise_39 : decode cX5_revise 39 = .ok (.invokespecial 41, 3) := by decide +kernel
theorem dX5_revise_42 : decode cX5_revise 42 = .ok (.athrow, 1) := by decide +kernel
theorem dX5_revise_43 : decode cX5_revise 43 = .ok (.new 105, 3) := by decide +kernel
theorem dX5_revise_46 : decode cX5_revise 46 = .ok (.dup, 1) := by decide +kernel
theorem dX5_revise_47 : decode cX5_revise 47 = .ok (.aload_n 2, 1) := by decide +kernel
theorem dX5_revise_48 : decode cX5_revise 48 = .ok (.getfield 300, 3) := by decide +kernel
theorem dX5_revise_51 : decode cX5_revise 51 = .ok (.iload_n 1, 1) := by decide +kernel
theorem dX5_revise_52 : decode cX5_revise 52 = .ok (.aload_n 2, 1) := by decide +kernel
theorem dX5_revise_53 : decode cX5_revise 53 = .ok (.getfield 76, 3) := by decide +kernel
theorem dX5_revise_56 : decode cX5_revise 56 = .ok (.iload_n 1, 1) := by decide +kernel
theorem dX5_revise_57 : decode cX5_revise 57 = .ok (.aaload, 1) := by decide +kernel
theorem dX5_revise_58 : decode cX5_revise 58 = .ok (.invokespecial 306, 3) := by decide +kernel
theorem dX5_revise_61 : decode cX5_revise 61 = .ok (.astore 5, 2) := by decide +kernel
theorem dX5_revise_63 : decode cX5_revise 63 = .ok (.aload 5, 2) := by decide +kernel
theorem dX5_revise_65 : decode cX5_revise 65 = .ok (.getfield 296, 3) := by decide +kernel
theorem dX5_revise_68 : decode cX5_revise 68 = .ok (.iload_n 3, 1) := by decide +kernel
theorem dX5_revise_69 : decode cX5_revise 69 = .ok (.aload 4, 2) := by decide +kernel
theorem dX5_revise_71 : decode cX5_revise 71 = .ok (.aastore, 1) := by decide +kernel
theorem dX5_revise_72 : decode cX5_revise 72 = .ok (.aload_n 2, 1) := by decide +kernel
theorem dX5_revise_73 : decode cX5_revise 73 = .ok (.getfield 132, 3) := by decide +kernel
theorem dX5_revise_76 : decode cX5_revise 76 = .ok (.aload_n 2, 1) := by decide +kernel
theorem dX5_revise_77 : decode cX5_revise 77 = .ok (.getfield 300, 3) := by decide +kernel
theorem dX5_revise_80 : decode cX5_revise 80 = .ok (.aload 5, 2) := by decide +kernel
theorem dX5_revise_82 : decode cX5_revise 82 = .ok (.aastore, 1) := by decide +kernel
theorem dX5_revise_83 : decode cX5_revise 83 = .ok (.aload_n 2, 1) := by decide +kernel
theorem dX5_revise_84 : decode cX5_revise 84 = .ok (.dup, 1) := by decide +kernel
theorem dX5_revise_85 : decode cX5_revise 85 = .ok (.getfield 300, 3) := by decide +kernel
theorem dX5_revise_88 : decode cX5_revise 88 = .ok (.iconst 1, 1) := by decide +kernel
theorem dX5_revise_89 : decode cX5_revise 89 = .ok (.iadd, 1) := by decide +kernel
theorem dX5_revise_90 : decode cX5_revise 90 = .ok (.putfield 300, 3) := by decide +kernel
theorem dX5_revise_93 : decode cX5_revise 93 = .ok (.aload_n 2, 1) := by decide +kernel
theorem dX5_revise_94 : decode cX5_revise 94 = .ok (.getfield 76, 3) := by decide +kernel
theorem dX5_revise_97 : decode cX5_revise 97 = .ok (.iload_n 1, 1) := by decide +kernel
theorem dX5_revise_98 : decode cX5_revise 98 = .ok (.aload 5, 2) := by decide +kernel
theorem dX5_revise_100 : decode cX5_revise 100 = .ok (.aastore, 1) := by decide +kernel
theorem dX5_revise_101 : decode cX5_revise 101 = .ok (.aload_n 0, 1) := by decide +kernel
theorem dX5_revise_102 : decode cX5_revise 102 = .ok (.iload_n 1, 1) := by decide +kernel
theorem dX5_revise_103 : decode cX5_revise 103 = .ok (.aload 4, 2) := by decide +kernel
theorem dX5_revise_105 : decode cX5_revise 105 = .ok (.invokevirtual 305, 3) := by decide +kernel
theorem dX5_revise_108 : decode cX5_revise 108 = .ok (.invokevirtual 122, 3) := by decide +kernel
theorem dX5_revise_111 : decode cX5_revise 111 = .ok (.aload 5, 2) := by decide +kernel
theorem dX5_revise_113 : decode cX5_revise 113 = .ok (.getfield 293, 3) := by decide +kernel
theorem dX5_revise_116 : decode cX5_revise 116 = .ok (.ireturn, 1) := by decide +kernel
theorem dX5_mend_0 : decode cX5_mend 0 = .ok (.aload_n 2, 1) := by decide +kernel
theorem dX5_mend_1 : decode cX5_mend 1 = .ok (.iload_n 3, 1) := by decide +kernel
theorem dX5_mend_2 : decode cX5_mend 2 = .ok (.invokestatic 142, 3) := by decide +kernel
theorem dX5_mend_5 : decode cX5_mend 5 = .ok (.astore 7, 2) := by decide +kernel
theorem dX5_mend_7 : decode cX5_mend 7 = .ok (.aload_n 2, 1) := by decide +kernel
theorem dX5_mend_8 : decode cX5_mend 8 = .ok (.iload_n 3, 1) := by decide +kernel
theorem dX5_mend_9 : decode cX5_mend 9 = .ok (.invokestatic 80, 3) := by decide +kernel
theorem dX5_mend_12 : decode cX5_mend 12 = .ok (.astore 8, 2) := by decide +kernel
theorem dX5_mend_14 : decode cX5_mend 14 = .ok (.aload 7, 2) := by decide +kernel
theorem dX5_mend_16 : decode cX5_mend 16 = .ok (.ifnull 18, 3) := by decide +kernel
theorem dX5_mend_19 : decode cX5_mend 19 = .ok (.aload 8, 2) := by decide +kernel
theorem dX5_mend_21 : decode cX5_mend 21 = .ok (.ifnull 13, 3) := by decide +kernel
theorem dX5_mend_24 : decode cX5_mend 24 = .ok (.aload 8, 2) := by decide +kernel
theorem dX5_mend_26 : decode cX5_mend 26 = .ok (.getfield 139, 3) := by decide +kernel
theorem dX5_mend_29 : decode cX5_mend 29 = .ok (.iload 4, 2) := by decide +kernel
theorem dX5_mend_31 : decode cX5_mend 31 = .ok (.if_icmp .eq 14, 3) := by decide +kernel
theorem dX5_mend_34 : decode cX5_mend 34 = .ok (.new 37, 3) := by decide +kernel
theorem dX5_mend_37 : decode cX5_mend 37 = .ok (.dup, 1) := by decide +kernel
theorem dX5_mend_38 : decode cX5_mend 38 = .ok (.ldc_w 309, 3) := by decide +kernel
theorem dX5_mend_41 : decode cX5_mend 41 = .ok (.invokespecial 41, 3) := by decide +kernel
theorem dX5_mend_44 : decode cX5_mend 44 = .ok (.athrow, 1) := by decide +kernel
theorem dX5_mend_45 : decode cX5_mend 45 = .ok (.aload 8, 2) := by decide +kernel
theorem dX5_mend_47 : decode cX5_mend 47 = .ok (.iload 5, 2) := by decide +kernel
theorem dX5_mend_49 : decode cX5_mend 49 = .ok (.invokevirtual 311, 3) := by decide +kernel
theorem dX5_mend_52 : decode cX5_mend 52 = .ok (.aload 8, 2) := by decide +kernel
theorem dX5_mend_54 : decode cX5_mend 54 = .ok (.invokevirtual 305, 3) := by decide +kernel
theorem dX5_mend_57 : decode cX5_mend 57 = .ok (.isub, 1) := by decide +kernel
theorem dX5_mend_58 : decode cX5_mend 58 = .ok (.istore 9, 2) := by decide +kernel
theorem dX5_mend_60 : decode cX5_mend 60 = .ok (.aload_n 0, 1) := by decide +kernel
theorem dX5_mend_61 : decode cX5_mend 61 = .ok (.aload 7, 2) := by decide +kernel
theorem dX5_mend_63 : decode cX5_mend 63 = .ok (.getfield 113, 3) := by decide +kernel
theorem dX5_mend_66 : decode cX5_mend 66 = .ok (.iload 9, 2) := by decide +kernel
theorem dX5_mend_68 : decode cX5_mend 68 = .ok (.invokevirtual 116, 3) := by decide +kernel
theorem dX5_mend_71 : decode cX5_mend 71 = .ok (.ifCond .eq 13, 3) := by decide +kernel
theorem dX5_mend_74 : decode cX5_mend 74 = .ok (.new 37, 3) := by decide +kernel
theorem dX5_mend_77 : decode cX5_mend 77 = .ok (.dup, 1) := by decide +kernel
theorem dX5_mend_78 : decode cX5_mend 78 = .ok (.ldc 120, 2) := by decide +kernel
theorem dX5_mend_80 : decode cX5_mend 80 = .ok (.invokespecial 41, 3) := by decide +kernel
theorem dX5_mend_83 : decode cX5_mend 83 = .ok (.athrow, 1) := by decide +kernel
theorem dX5_mend_84 : decode cX5_mend 84 = .ok (.aload 8, 2) := by decide +kernel
theorem dX5_mend_86 : decode cX5_mend 86 = .ok (.iload 5, 2) := by decide +kernel
theorem dX5_mend_88 : decode cX5_mend 88 = .ok (.putfield 314, 3) := by decide +kernel
theorem dX5_mend_91 : decode cX5_mend 91 = .ok (.aload 8, 2) := by decide +kernel
theorem dX5_mend_93 : decode cX5_mend 93 = .ok (.iload 6, 2) := by decide +kernel
theorem dX5_mend_95 : decode cX5_mend 95 = .ok (.putfield 317, 3) := by decide +kernel
theorem dX5_mend_98 : decode cX5_mend 98 = .ok (.aload_n 0, 1) := by decide +kernel
theorem dX5_mend_99 : decode cX5_mend 99 = .ok (.aload 7, 2) := by decide +kernel
theorem dX5_mend_101 : decode cX5_mend 101 = .ok (.getfield 113, 3) := by decide +kernel
theorem dX5_mend_104 : decode cX5_mend 104 = .ok (.iload 9, 2) := by decide +kernel
theorem dX5_mend_106 : decode cX5_mend 106 = .ok (.invokevirtual 122, 3) := by decide +kernel
theorem dX5_mend_109 : decode cX5_mend 109 = .ok (.aload_n 0, 1) := by decide +kernel
theorem dX5_mend_110 : decode cX5_mend 110 = .ok (.aload_n 1, 1) := by decide +kernel
theorem dX5_mend_111 : decode cX5_mend 111 = .ok (.invokevirtual 320, 3) := by decide +kernel
theorem dX5_mend_114 : decode cX5_mend 114 = .ok (.ireturn, 1) := by decide +kernel
theorem dX5_gradeAgain_0 : decode cX5_gradeAgain 0 = .ok (.iconst 0, 1) := by decide +kernel
theorem dX5_gradeAgain_1 : decode cX5_gradeAgain 1 = .ok (.istore_n 2, 1) := by decide +kernel
theorem dX5_gradeAgain_2 : decode cX5_gradeAgain 2 = .ok (.iconst 0, 1) := by decide +kernel
theorem dX5_gradeAgain_3 : decode cX5_gradeAgain 3 = .ok (.istore_n 3, 1) := by decide +kernel
theorem dX5_gradeAgain_4 : decode cX5_gradeAgain 4 = .ok (.iload_n 3, 1) := by decide +kernel
theorem dX5_gradeAgain_5 : decode cX5_gradeAgain 5 = .ok (.bipush 12, 2) := by decide +kernel
theorem dX5_gradeAgain_7 : decode cX5_gradeAgain 7 = .ok (.if_icmp .ge 76, 3) := by decide +kernel
theorem dX5_gradeAgain_10 : decode cX5_gradeAgain 10 = .ok (.aload_n 1, 1) := by decide +kernel
theorem dX5_gradeAgain_11 : decode cX5_gradeAgain 11 = .ok (.getfield 160, 3) := by decide +kernel
theorem dX5_gradeAgain_14 : decode cX5_gradeAgain 14 = .ok (.iload_n 3, 1) := by decide +kernel
theorem dX5_gradeAgain_15 : decode cX5_gradeAgain 15 = .ok (.aaload, 1) := by decide +kernel
theorem dX5_gradeAgain_16 : decode cX5_gradeAgain 16 = .ok (.astore 4, 2) := by decide +kernel
theorem dX5_gradeAgain_18 : decode cX5_gradeAgain 18 = .ok (.aload 4, 2) := by decide +kernel
theorem dX5_gradeAgain_20 : decode cX5_gradeAgain 20 = .ok (.ifnull 57, 3) := by decide +kernel
theorem dX5_gradeAgain_23 : decode cX5_gradeAgain 23 = .ok (.aload 4, 2) := by decide +kernel
theorem dX5_gradeAgain_25 : decode cX5_gradeAgain 25 = .ok (.getfield 208, 3) := by decide +kernel
theorem dX5_gradeAgain_28 : decode cX5_gradeAgain 28 = .ok (.ifCond .ne 6, 3) := by decide +kernel
theorem dX5_gradeAgain_31 : decode cX5_gradeAgain 31 = .ok (.goto 46, 3) := by decide +kernel
theorem dX5_gradeAgain_34 : decode cX5_gradeAgain 34 = .ok (.aload_n 0, 1) := by decide +kernel
theorem dX5_gradeAgain_35 : decode cX5_gradeAgain 35 = .ok (.aload 4, 2) := by decide +kernel
theorem dX5_gradeAgain_37 : decode cX5_gradeAgain 37 = .ok (.iconst 0, 1) := by decide +kernel
theorem dX5_gradeAgain_38 : decode cX5_gradeAgain 38 = .ok (.invokevirtual 212, 3) := by decide +kernel
theorem dX5_gradeAgain_41 : decode cX5_gradeAgain 41 = .ok (.istore 5, 2) := by decide +kernel
theorem dX5_gradeAgain_43 : decode cX5_gradeAgain 43 = .ok (.iload 5, 2) := by decide +kernel
theorem dX5_gradeAgain_45 : decode cX5_gradeAgain 45 = .ok (.aload 4, 2) := by decide +kernel
theorem dX5_gradeAgain_47 : decode cX5_gradeAgain 47 = .ok (.getfield 216, 3) := by decide +kernel
theorem dX5_gradeAgain_50 : decode cX5_gradeAgain 50 = .ok (.if_icmp .eq 22, 3) := by decide +kernel
theorem dX5_gradeAgain_53 : decode cX5_gradeAgain 53 = .ok (.iinc 2 1, 3) := by decide +kernel
theorem dX5_gradeAgain_56 : decode cX5_gradeAgain 56 = .ok (.aload 4, 2) := by decide +kernel
theorem dX5_gradeAgain_58 : decode cX5_gradeAgain 58 = .ok (.iload 5, 2) := by decide +kernel
theorem dX5_gradeAgain_60 : decode cX5_gradeAgain 60 = .ok (.aload_n 1, 1) := by decide +kernel
theorem dX5_gradeAgain_61 : decode cX5_gradeAgain 61 = .ok (.getfield 166, 3) := by decide +kernel
theorem dX5_gradeAgain_64 : decode cX5_gradeAgain 64 = .ok (.iload_n 3, 1) := by decide +kernel
theorem dX5_gradeAgain_65 : decode cX5_gradeAgain 65 = .ok (.invokestatic 156, 3) := by decide +kernel
theorem dX5_gradeAgain_68 : decode cX5_gradeAgain 68 = .ok (.baload, 1) := by decide +kernel
theorem dX5_gradeAgain_69 : decode cX5_gradeAgain 69 = .ok (.invokevirtual 324, 3) := by decide +kernel
theorem dX5_gradeAgain_72 : decode cX5_gradeAgain 72 = .ok (.aload 4, 2) := by decide +kernel
theorem dX5_gradeAgain_74 : decode cX5_gradeAgain 74 = .ok (.invokevirtual 222, 3) := by decide +kernel
theorem dX5_gradeAgain_77 : decode cX5_gradeAgain 77 = .ok (.iinc 3 1, 3) := by decide +kernel
theorem dX5_gradeAgain_80 : decode cX5_gradeAgain 80 = .ok (.goto (-76), 3) := by decide +kernel
theorem dX5_gradeAgain_83 : decode cX5_gradeAgain 83 = .ok (.iload_n 2, 1) := by decide +kernel
theorem dX5_gradeAgain_84 : decode cX5_gradeAgain 84 = .ok (.ireturn, 1) := by decide +kernel
theorem dX5_grade_0 : decode cX5_grade 0 = .ok (.iconst 0, 1) := by decide +kernel
theorem dX5_grade_1 : decode cX5_grade 1 = .ok (.istore_n 3, 1) := by decide +kernel
theorem dX5_grade_2 : decode cX5_grade 2 = .ok (.iconst 0, 1) := by decide +kernel
theorem dX5_grade_3 : decode cX5_grade 3 = .ok (.istore 4, 2) := by decide +kernel
theorem dX5_grade_5 : decode cX5_grade 5 = .ok (.iload 4, 2) := by decide +kernel
theorem dX5_grade_7 : decode cX5_grade 7 = .ok (.iconst 5, 1) := by decide +kernel
theorem dX5_grade_8 : decode cX5_grade 8 = .ok (.if_icmp .ge 74, 3) := by decide +kernel
theorem dX5_grade_11 : decode cX5_grade 11 = .ok (.aload_n 1, 1) := by decide +kernel
theorem dX5_grade_12 : decode cX5_grade 12 = .ok (.getfield 180, 3) := by decide +kernel
theorem dX5_grade_15 : decode cX5_grade 15 = .ok (.iload 4, 2) := by decide +kernel
theorem dX5_grade_17 : decode cX5_grade 17 = .ok (.invokestatic 80, 3) := by decide +kernel
theorem dX5_grade_20 : decode cX5_grade 20 = .ok (.astore 5, 2) := by decide +kernel
theorem dX5_grade_22 : decode cX5_grade 22 = .ok (.aload_n 1, 1) := by decide +kernel
theorem dX5_grade_23 : decode cX5_grade 23 = .ok (.getfield 183, 3) := by decide +kernel
theorem dX5_grade_26 : decode cX5_grade 26 = .ok (.iload 4, 2) := by decide +kernel
theorem dX5_grade_28 : decode cX5_grade 28 = .ok (.aaload, 1) := by decide +kernel
theorem dX5_grade_29 : decode cX5_grade 29 = .ok (.astore 6, 2) := by decide +kernel
theorem dX5_grade_31 : decode cX5_grade 31 = .ok (.aload 5, 2) := by decide +kernel
theorem dX5_grade_33 : decode cX5_grade 33 = .ok (.ifnull 43, 3) := by decide +kernel
theorem dX5_grade_36 : decode cX5_grade 36 = .ok (.aload 6, 2) := by decide +kernel
theorem dX5_grade_38 : decode cX5_grade 38 = .ok (.ifnull 38, 3) := by decide +kernel
theorem dX5_grade_41 : decode cX5_grade 41 = .ok (.iload_n 3, 1) := by decide +kernel
theorem dX5_grade_42 : decode cX5_grade 42 = .ok (.aload 5, 2) := by decide +kernel
theorem dX5_grade_44 : decode cX5_grade 44 = .ok (.aload 6, 2) := by decide +kernel
theorem dX5_grade_46 : decode cX5_grade 46 = .ok (.aload 5, 2) := by decide +kernel
theorem dX5_grade_48 : decode cX5_grade 48 = .ok (.getfield 139, 3) := by decide +kernel
theorem dX5_grade_51 : decode cX5_grade 51 = .ok (.iconst 2, 1) := by decide +kernel
theorem dX5_grade_52 : decode cX5_grade 52 = .ok (.if_icmp .ne 18, 3) := by decide +kernel
theorem dX5_grade_55 : decode cX5_grade 55 = .ok (.aload_n 0, 1) := by decide +kernel
theorem dX5_grade_56 : decode cX5_grade 56 = .ok (.aload 5, 2) := by decide +kernel
theorem dX5_grade_58 : decode cX5_grade 58 = .ok (.getfield 314, 3) := by decide +kernel
theorem dX5_grade_61 : decode cX5_grade 61 = .ok (.aload 6, 2) := by decide +kernel
theorem dX5_grade_63 : decode cX5_grade 63 = .ok (.iload_n 2, 1) := by decide +kernel
theorem dX5_grade_64 : decode cX5_grade 64 = .ok (.invokevirtual 328, 3) := by decide +kernel
theorem dX5_grade_67 : decode cX5_grade 67 = .ok (.goto 4, 3) := by decide +kernel
theorem dX5_grade_70 : decode cX5_grade 70 = .ok (.iconst 0, 1) := by decide +kernel
theorem dX5_grade_71 : decode cX5_grade 71 = .ok (.invokevirtual 332, 3) := by decide +kernel
theorem dX5_grade_74 : decode cX5_grade 74 = .ok (.iadd, 1) := by decide +kernel
theorem dX5_grade_75 : decode cX5_grade 75 = .ok (.istore_n 3, 1) := by decide +kernel
theorem dX5_grade_76 : decode cX5_grade 76 = .ok (.iinc 4 1, 3) := by decide +kernel
theorem dX5_grade_79 : decode cX5_grade 79 = .ok (.goto (-74), 3) := by decide +kernel
theorem dX5_grade_82 : decode cX5_grade 82 = .ok (.iload_n 3, 1) := by decide +kernel
theorem dX5_grade_83 : decode cX5_grade 83 = .ok (.ireturn, 1) := by decide +kernel
theorem dX5_commonWords_0 : decode cX5_commonWords 0 = .ok (.iload_n 3, 1) := by decide +kernel
theorem dX5_commonWords_1 : decode cX5_commonWords 1 = .ok (.ifCond .eq 11, 3) := by decide +kernel
theorem dX5_commonWords_4 : decode cX5_commonWords 4 = .ok (.iload_n 1, 1) := by decide +kernel
theorem dX5_commonWords_5 : decode cX5_commonWords 5 = .ok (.aload_n 2, 1) := by decide +kernel
theorem dX5_commonWords_6 : decode cX5_commonWords 6 = .ok (.invokestatic 336, 3) := by decide +kernel
theorem dX5_commonWords_9 : decode cX5_commonWords 9 = .ok (.goto 9, 3) := by decide +kernel
theorem dX5_commonWords_12 : decode cX5_commonWords 12 = .ok (.aload_n 0, 1) := by decide +kernel
theorem dX5_commonWords_13 : decode cX5_commonWords 13 = .ok (.iload_n 1, 1) := by decide +kernel
theorem dX5_commonWords_14 : decode cX5_commonWords 14 = .ok (.aload_n 2, 1) := by decide +kernel
theorem dX5_commonWords_15 : decode cX5_commonWords 15 = .ok (.invokevirtual 340, 3) := by decide +kernel
theorem dX5_commonWords_18 : decode cX5_commonWords 18 = .ok (.ireturn, 1) := by decide +kernel
theorem dX5_wordAt_0 : decode cX5_wordAt 0 = .ok (.iload_n 0, 1) := by decide +kernel
theorem dX5_wordAt_1 : decode cX5_wordAt 1 = .ok (.iload_n 1, 1) := by decide +kernel
theorem dX5_wordAt_2 : decode cX5_wordAt 2 = .ok (.iconst 5, 1) := by decide +kernel
theorem dX5_wordAt_3 : decode cX5_wordAt 3 = .ok (.imul, 1) := by decide +kernel
theorem dX5_wordAt_4 : decode cX5_wordAt 4 = .ok (.iushr, 1) := by decide +kernel
theorem dX5_wordAt_5 : decode cX5_wordAt 5 = .ok (.bipush 31, 2) := by decide +kernel
theorem dX5_wordAt_7 : decode cX5_wordAt 7 = .ok (.iand, 1) := by decide +kernel
theorem dX5_wordAt_8 : decode cX5_wordAt 8 = .ok (.ireturn, 1) := by decide +kernel
theorem dX5_rowLength_0 : decode cX5_rowLength 0 = .ok (.iconst 0, 1) := by decide +kernel
theorem dX5_rowLength_1 : decode cX5_rowLength 1 = .ok (.istore_n 1, 1) := by decide +kernel
theorem dX5_rowLength_2 : decode cX5_rowLength 2 = .ok (.iload_n 1, 1) := by decide +kernel
theorem dX5_rowLength_3 : decode cX5_rowLength 3 = .ok (.bipush 6, 2) := by decide +kernel
theorem dX5_rowLength_5 : decode cX5_rowLength 5 = .ok (.if_icmp .ge 17, 3) := by decide +kernel
theorem dX5_rowLength_8 : decode cX5_rowLength 8 = .ok (.iload_n 0, 1) := by decide +kernel
theorem dX5_rowLength_9 : decode cX5_rowLength 9 = .ok (.iload_n 1, 1) := by decide +kernel
theorem dX5_rowLength_10 : decode cX5_rowLength 10 = .ok (.invokestatic 343, 3) := by decide +kernel
theorem dX5_rowLength_13 : decode cX5_rowLength 13 = .ok (.ifCond .eq 9, 3) := by decide +kernel
theorem dX5_rowLength_16 : decode cX5_rowLength 16 = .ok (.iinc 1 1, 3) := by decide +kernel
theorem dX5_rowLength_19 : decode cX5_rowLength 19 = .ok (.goto (-17), 3) := by decide +kernel
theorem dX5_rowLength_22 : decode cX5_rowLength 22 = .ok (.iload_n 1, 1) := by decide +kernel
theorem dX5_rowLength_23 : decode cX5_rowLength 23 = .ok (.ireturn, 1) := by decide +kernel
theorem dX5_longestCommon_0 : decode cX5_longestCommon 0 = .ok (.iload_n 1, 1) := by decide +kernel
theorem dX5_longestCommon_1 : decode cX5_longestCommon 1 = .ok (.invokestatic 282, 3) := by decide +kernel
theorem dX5_longestCommon_4 : decode cX5_longestCommon 4 = .ok (.istore_n 3, 1) := by decide +kernel
theorem dX5_longestCommon_5 : decode cX5_longestCommon 5 = .ok (.iconst 0, 1) := by decide +kernel
theorem dX5_longestCommon_6 : decode cX5_longestCommon 6 = .ok (.istore 4, 2) := by decide +kernel
theorem dX5_longestCommon_8 : decode cX5_longestCommon 8 = .ok (.iload 4, 2) := by decide +kernel
theorem dX5_longestCommon_10 : decode cX5_longestCommon 10 = .ok (.iload_n 3, 1) := by decide +kernel
theorem dX5_longestCommon_11 : decode cX5_longestCommon 11 = .ok (.if_icmp .gt 17, 3) := by decide +kernel
theorem dX5_longestCommon_14 : decode cX5_longestCommon 14 = .ok (.aload_n 0, 1) := by decide +kernel
theorem dX5_longestCommon_15 : decode cX5_longestCommon 15 = .ok (.getfield 26, 3) := by decide +kernel
theorem dX5_longestCommon_18 : decode cX5_longestCommon 18 = .ok (.iload 4, 2) := by decide +kernel
theorem dX5_longestCommon_20 : decode cX5_longestCommon 20 = .ok (.iconst 0, 1) := by decide +kernel
theorem dX5_longestCommon_21 : decode cX5_longestCommon 21 = .ok (.iastore, 1) := by decide +kernel
theorem dX5_longestCommon_22 : decode cX5_longestCommon 22 = .ok (.iinc 4 1, 3) := by decide +kernel
theorem dX5_longestCommon_25 : decode cX5_longestCommon 25 = .ok (.goto (-17), 3) := by decide +kernel
theorem dX5_longestCommon_28 : decode cX5_longestCommon 28 = .ok (.iconst 0, 1) := by decide +kernel
theorem dX5_longestCommon_29 : decode cX5_longestCommon 29 = .ok (.istore 4, 2) := by decide +kernel
theorem dX5_longestCommon_31 : decode cX5_longestCommon 31 = .ok (.iload 4, 2) := by decide +kernel
theorem dX5_longestCommon_33 : decode cX5_longestCommon 33 = .ok (.aload_n 2, 1) := by decide +kernel
theorem dX5_longestCommon_34 : decode cX5_longestCommon 34 = .ok (.getfield 346, 3) := by decide +kernel
theorem dX5_longestCommon_37 : decode cX5_longestCommon 37 = .ok (.if_icmp .ge 93, 3) := by decide +kernel
theorem dX5_longestCommon_40 : decode cX5_longestCommon 40 = .ok (.iconst 0, 1) := by decide +kernel
theorem dX5_longestCommon_41 : decode cX5_longestCommon 41 = .ok (.istore 5, 2) := by decide +kernel
theorem dX5_longestCommon_43 : decode cX5_longestCommon 43 = .ok (.iconst 1, 1) := by decide +kernel
theorem dX5_longestCommon_44 : decode cX5_longestCommon 44 = .ok (.istore 6, 2) := by decide +kernel
theorem dX5_longestCommon_46 : decode cX5_longestCommon 46 = .ok (.iload 6, 2) := by decide +kernel
theorem dX5_longestCommon_48 : decode cX5_longestCommon 48 = .ok (.iload_n 3, 1) := by decide +kernel
theorem dX5_longestCommon_49 : decode cX5_longestCommon 49 = .ok (.if_icmp .gt 75, 3) := by decide +kernel
theorem dX5_longestCommon_52 : decode cX5_longestCommon 52 = .ok (.aload_n 0, 1) := by decide +kernel
theorem dX5_longestCommon_53 : decode cX5_longestCommon 53 = .ok (.getfield 26, 3) := by decide +kernel
theorem dX5_longestCommon_56 : decode cX5_longestCommon 56 = .ok (.iload 6, 2) := by decide +kernel
theorem dX5_longestCommon_58 : decode cX5_longestCommon 58 = .ok (.iaload, 1) := by decide +kernel
theorem dX5_longestCommon_59 : decode cX5_longestCommon 59 = .ok (.istore 7, 2) := by decide +kernel
theorem dX5_longestCommon_61 : decode cX5_longestCommon 61 = .ok (.iload_n 1, 1) := by decide +kernel
theorem dX5_longestCommon_62 : decode cX5_longestCommon 62 = .ok (.iload 6, 2) := by decide +kernel
theorem dX5_longestCommon_64 : decode cX5_longestCommon 64 = .ok (.iconst 1, 1) := by decide +kernel
theorem dX5_longestCommon_65 : decode cX5_longestCommon 65 = .ok (.isub, 1) := by decide +kernel
theorem dX5_longestCommon_66 : decode cX5_longestCommon 66 = .ok (.invokestatic 343, 3) := by decide +kernel
theorem dX5_longestCommon_69 : decode cX5_longestCommon 69 = .ok (.aload_n 2, 1) := by decide +kernel
theorem dX5_longestCommon_70 : decode cX5_longestCommon 70 = .ok (.getfield 349, 3) := by decide +kernel
theorem dX5_longestCommon_73 : decode cX5_longestCommon 73 = .ok (.iload 4, 2) := by decide +kernel
theorem dX5_longestCommon_75 : decode cX5_longestCommon 75 = .ok (.iaload, 1) := by decide +kernel
theorem dX5_longestCommon_76 : decode cX5_longestCommon 76 = .ok (.if_icmp .ne 17, 3) := by decide +kernel
theorem dX5_longestCommon_79 : decode cX5_longestCommon 79 = .ok (.aload_n 0, 1) := by decide +kernel
theorem dX5_longestCommon_80 : decode cX5_longestCommon 80 = .ok (.getfield 26, 3) := by decide +kernel
theorem dX5_longestCommon_83 : decode cX5_longestCommon 83 = .ok (.iload 6, 2) := by decide +kernel
theorem dX5_longestCommon_85 : decode cX5_longestCommon 85 = .ok (.iload 5, 2) := by decide +kernel
theorem dX5_longestCommon_87 : decode cX5_longestCommon 87 = .ok (.iconst 1, 1) := by decide +kernel
theorem dX5_longestCommon_88 : decode cX5_longestCommon 88 = .ok (.iadd, 1) := by decide +kernel
theorem dX5_longestCommon_89 : decode cX5_longestCommon 89 = .ok (.iastore, 1) := by decide +kernel
theorem dX5_longestCommon_90 : decode cX5_longestCommon 90 = .ok (.goto 24, 3) := by decide +kernel
theorem dX5_longestCommon_93 : decode cX5_longestCommon 93 = .ok (.aload_n 0, 1) := by decide +kernel
theorem dX5_longestCommon_94 : decode cX5_longestCommon 94 = .ok (.getfield 26, 3) := by decide +kernel
theorem dX5_longestCommon_97 : decode cX5_longestCommon 97 = .ok (.iload 6, 2) := by decide +kernel
theorem dX5_longestCommon_99 : decode cX5_longestCommon 99 = .ok (.iload 7, 2) := by decide +kernel
theorem dX5_longestCommon_101 : decode cX5_longestCommon 101 = .ok (.aload_n 0, 1) := by decide +kernel
theorem dX5_longestCommon_102 : decode cX5_longestCommon 102 = .ok (.getfield 26, 3) := by decide +kernel
theorem dX5_longestCommon_105 : decode cX5_longestCommon 105 = .ok (.iload 6, 2) := by decide +kernel
theorem dX5_longestCommon_107 : decode cX5_longestCommon 107 = .ok (.iconst 1, 1) := by decide +kernel
theorem dX5_longestCommon_108 : decode cX5_longestCommon 108 = .ok (.isub, 1) := by decide +kernel
theorem dX5_longestCommon_109 : decode cX5_longestCommon 109 = .ok (.iaload, 1) := by decide +kernel
theorem dX5_longestCommon_110 : decode cX5_longestCommon 110 = .ok (.invokestatic 352, 3) := by decide +kernel
theorem dX5_longestCommon_113 : decode cX5_longestCommon 113 = .ok (.iastore, 1) := by decide +kernel
theorem dX5_longestCommon_114 : decode cX5_longestCommon 114 = .ok (.iload 7, 2) := by decide +kernel
theorem dX5_longestCommon_116 : decode cX5_longestCommon 116 = .ok (.istore 5, 2) := by decide +kernel
theorem dX5_longestCommon_118 : decode cX5_longestCommon 118 = .ok (.iinc 6 1, 3) := by decide +kernel
theorem dX5_longestCommon_121 : decode cX5_longestCommon 121 = .ok (.goto (-75), 3) := by decide +kernel
theorem dX5_longestCommon_124 : decode cX5_longestCommon 124 = .ok (.iinc 4 1, 3) := by decide +kernel
theorem dX5_longestCommon_127 : decode cX5_longestCommon 127 = .ok (.goto (-96), 3) := by decide +kernel
theorem dX5_longestCommon_130 : decode cX5_longestCommon 130 = .ok (.aload_n 0, 1) := by decide +kernel
theorem dX5_longestCommon_131 : decode cX5_longestCommon 131 = .ok (.getfield 26, 3) := by decide +kernel
theorem dX5_longestCommon_134 : decode cX5_longestCommon 134 = .ok (.iload_n 3, 1) := by decide +kernel
theorem dX5_longestCommon_135 : decode cX5_longestCommon 135 = .ok (.iaload, 1) := by decide +kernel
theorem dX5_longestCommon_136 : decode cX5_longestCommon 136 = .ok (.ireturn, 1) := by decide +kernel
theorem dX5_longestKept_0 : decode cX5_longestKept 0 = .ok (.iconst 1, 1) := by decide +kernel
theorem dX5_longestKept_1 : decode cX5_longestKept 1 = .ok (.iload_n 0, 1) := by decide +kernel
theorem dX5_longestKept_2 : decode cX5_longestKept 2 = .ok (.invokestatic 282, 3) := by decide +kernel
theorem dX5_longestKept_5 : decode cX5_longestKept 5 = .ok (.ishl, 1) := by decide +kernel
theorem dX5_longestKept_6 : decode cX5_longestKept 6 = .ok (.istore_n 2, 1) := by decide +kernel
theorem dX5_longestKept_7 : decode cX5_longestKept 7 = .ok (.iconst 0, 1) := by decide +kernel
theorem dX5_longestKept_8 : decode cX5_longestKept 8 = .ok (.istore_n 3, 1) := by decide +kernel
theorem dX5_longestKept_9 : decode cX5_longestKept 9 = .ok (.iconst 0, 1) := by decide +kernel
theorem dX5_longestKept_10 : decode cX5_longestKept 10 = .ok (.istore 4, 2) := by decide +kernel
theorem dX5_longestKept_12 : decode cX5_longestKept 12 = .ok (.iload 4, 2) := by decide +kernel
theorem dX5_longestKept_14 : decode cX5_longestKept 14 = .ok (.iload_n 2, 1) := by decide +kernel
theorem dX5_longestKept_15 : decode cX5_longestKept 15 = .ok (.if_icmp .ge 38, 3) := by decide +kernel
theorem dX5_longestKept_18 : decode cX5_longestKept 18 = .ok (.iload 4, 2) := by decide +kernel
theorem dX5_longestKept_20 : decode cX5_longestKept 20 = .ok (.invokestatic 357, 3) := by decide +kernel
theorem dX5_longestKept_23 : decode cX5_longestKept 23 = .ok (.istore 5, 2) := by decide +kernel
theorem dX5_longestKept_25 : decode cX5_longestKept 25 = .ok (.iload 5, 2) := by decide +kernel
theorem dX5_longestKept_27 : decode cX5_longestKept 27 = .ok (.iload_n 3, 1) := by decide +kernel
theorem dX5_longestKept_28 : decode cX5_longestKept 28 = .ok (.if_icmp .le 19, 3) := by decide +kernel
theorem dX5_longestKept_31 : decode cX5_longestKept 31 = .ok (.aload_n 1, 1) := by decide +kernel
theorem dX5_longestKept_32 : decode cX5_longestKept 32 = .ok (.iload_n 0, 1) := by decide +kernel
theorem dX5_longestKept_33 : decode cX5_longestKept 33 = .ok (.iload 4, 2) := by decide +kernel
theorem dX5_longestKept_35 : decode cX5_longestKept 35 = .ok (.invokestatic 362, 3) := by decide +kernel
theorem dX5_longestKept_38 : decode cX5_longestKept 38 = .ok (.invokevirtual 365, 3) := by decide +kernel
theorem dX5_longestKept_41 : decode cX5_longestKept 41 = .ok (.ifCond .eq 6, 3) := by decide +kernel
theorem dX5_longestKept_44 : decode cX5_longestKept 44 = .ok (.iload 5, 2) := by decide +kernel
theorem dX5_longestKept_46 : decode cX5_longestKept 46 = .ok (.istore_n 3, 1) := by decide +kernel
theorem dX5_longestKept_47 : decode cX5_longestKept 47 = .ok (.iinc 4 1, 3) := by decide +kernel
theorem dX5_longestKept_50 : decode cX5_longestKept 50 = .ok (.goto (-38), 3) := by decide +kernel
theorem dX5_longestKept_53 : decode cX5_longestKept 53 = .ok (.iload_n 3, 1) := by decide +kernel
theorem dX5_longestKept_54 : decode cX5_longestKept 54 = .ok (.ireturn, 1) := by decide +kernel
theorem dX5_keepWords_0 : decode cX5_keepWords 0 = .ok (.iconst 0, 1) := by decide +kernel
theorem dX5_keepWords_1 : decode cX5_keepWords 1 = .ok (.istore_n 2, 1) := by decide +kernel
theorem dX5_keepWords_2 : decode cX5_keepWords 2 = .ok (.iconst 0, 1) := by decide +kernel
theorem dX5_keepWords_3 : decode cX5_keepWords 3 = .ok (.istore_n 3, 1) := by decide +kernel
theorem dX5_keepWords_4 : decode cX5_keepWords 4 = .ok (.iconst 0, 1) := by decide +kernel
theorem dX5_keepWords_5 : decode cX5_keepWords 5 = .ok (.istore 4, 2) := by decide +kernel
theorem dX5_keepWords_7 : decode cX5_keepWords 7 = .ok (.iload 4, 2) := by decide +kernel
theorem dX5_keepWords_9 : decode cX5_keepWords 9 = .ok (.bipush 6, 2) := by decide +kernel
theorem dX5_keepWords_11 : decode cX5_keepWords 11 = .ok (.if_icmp .ge 34, 3) := by decide +kernel
theorem dX5_keepWords_14 : decode cX5_keepWords 14 = .ok (.iload_n 1, 1) := by decide +kernel
theorem dX5_keepWords_15 : decode cX5_keepWords 15 = .ok (.iload 4, 2) := by decide +kernel
theorem dX5_keepWords_17 : decode cX5_keepWords 17 = .ok (.iushr, 1) := by decide +kernel
theorem dX5_keepWords_18 : decode cX5_keepWords 18 = .ok (.iconst 1, 1) := by decide +kernel
theorem dX5_keepWords_19 : decode cX5_keepWords 19 = .ok (.iand, 1) := by decide +kernel
theorem dX5_keepWords_20 : decode cX5_keepWords 20 = .ok (.ifCond .eq 19, 3) := by decide +kernel
theorem dX5_keepWords_23 : decode cX5_keepWords 23 = .ok (.iload_n 2, 1) := by decide +kernel
theorem dX5_keepWords_24 : decode cX5_keepWords 24 = .ok (.iload_n 0, 1) := by decide +kernel
theorem dX5_keepWords_25 : decode cX5_keepWords 25 = .ok (.iload 4, 2) := by decide +kernel
theorem dX5_keepWords_27 : decode cX5_keepWords 27 = .ok (.invokestatic 343, 3) := by decide +kernel
theorem dX5_keepWords_30 : decode cX5_keepWords 30 = .ok (.iload_n 3, 1) := by decide +kernel
theorem dX5_keepWords_31 : decode cX5_keepWords 31 = .ok (.iconst 5, 1) := by decide +kernel
theorem dX5_keepWords_32 : decode cX5_keepWords 32 = .ok (.imul, 1) := by decide +kernel
theorem dX5_keepWords_33 : decode cX5_keepWords 33 = .ok (.ishl, 1) := by decide +kernel
theorem dX5_keepWords_34 : decode cX5_keepWords 34 = .ok (.ior, 1) := by decide +kernel
theorem dX5_keepWords_35 : decode cX5_keepWords 35 = .ok (.istore_n 2, 1) := by decide +kernel
theorem dX5_keepWords_36 : decode cX5_keepWords 36 = .ok (.iinc 3 1, 3) := by decide +kernel
theorem dX5_keepWords_39 : decode cX5_keepWords 39 = .ok (.iinc 4 1, 3) := by decide +kernel
theorem dX5_keepWords_42 : decode cX5_keepWords 42 = .ok (.goto (-35), 3) := by decide +kernel
theorem dX5_keepWords_45 : decode cX5_keepWords 45 = .ok (.iload_n 2, 1) := by decide +kernel
theorem dX5_keepWords_46 : decode cX5_keepWords 46 = .ok (.ireturn, 1) := by decide +kernel
theorem dX5_printOf_0 : decode cX5_printOf 0 = .ok (.iload_n 0, 1) := by decide +kernel
theorem dX5_printOf_1 : decode cX5_printOf 1 = .ok (.bipush 10, 2) := by decide +kernel
theorem dX5_printOf_3 : decode cX5_printOf 3 = .ok (.ishl, 1) := by decide +kernel
theorem dX5_printOf_4 : decode cX5_printOf 4 = .ok (.iload_n 1, 1) := by decide +kernel
theorem dX5_printOf_5 : decode cX5_printOf 5 = .ok (.iconst 5, 1) := by decide +kernel
theorem dX5_printOf_6 : decode cX5_printOf 6 = .ok (.ishl, 1) := by decide +kernel
theorem dX5_printOf_7 : decode cX5_printOf 7 = .ok (.iadd, 1) := by decide +kernel
theorem dX5_printOf_8 : decode cX5_printOf 8 = .ok (.iload_n 2, 1) := by decide +kernel
theorem dX5_printOf_9 : decode cX5_printOf 9 = .ok (.iadd, 1) := by decide +kernel
theorem dX5_printOf_10 : decode cX5_printOf 10 = .ok (.ireturn, 1) := by decide +kernel
theorem dX5_ruleHasPrint_0 : decode cX5_ruleHasPrint 0 = .ok (.iload_n 0, 1) := by decide +kernel
theorem dX5_ruleHasPrint_1 : decode cX5_ruleHasPrint 1 = .ok (.invokestatic 282, 3) := by decide +kernel
theorem dX5_ruleHasPrint_4 : decode cX5_ruleHasPrint 4 = .ok (.istore_n 2, 1) := by decide +kernel
theorem dX5_ruleHasPrint_5 : decode cX5_ruleHasPrint 5 = .ok (.iconst 0, 1) := by decide +kernel
theorem dX5_ruleHasPrint_6 : decode cX5_ruleHasPrint 6 = .ok (.istore_n 3, 1) := by decide +kernel
theorem dX5_ruleHasPrint_7 : decode cX5_ruleHasPrint 7 = .ok (.iload_n 3, 1) := by decide +kernel
theorem dX5_ruleHasPrint_8 : decode cX5_ruleHasPrint 8 = .ok (.iconst 3, 1) := by decide +kernel
theorem dX5_ruleHasPrint_9 : decode cX5_ruleHasPrint 9 = .ok (.iadd, 1) := by decide +kernel
theorem dX5_ruleHasPrint_10 : decode cX5_ruleHasPrint 10 = .ok (.iload_n 2, 1) := by decide +kernel
theorem dX5_ruleHasPrint_11 : decode cX5_ruleHasPrint 11 = .ok (.if_icmp .gt 37, 3) := by decide +kernel
theorem dX5_ruleHasPrint_14 : decode cX5_ruleHasPrint 14 = .ok (.iload_n 0, 1) := by decide +kernel
theorem dX5_ruleHasPrint_15 : decode cX5_ruleHasPrint 15 = .ok (.iload_n 3, 1) := by decide +kernel
theorem dX5_ruleHasPrint_16 : decode cX5_ruleHasPrint 16 = .ok (.invokestatic 343, 3) := by decide +kernel
theorem dX5_ruleHasPrint_19 : decode cX5_ruleHasPrint 19 = .ok (.iload_n 0, 1) := by decide +kernel
theorem dX5_ruleHasPrint_20 : decode cX5_ruleHasPrint 20 = .ok (.iload_n 3, 1) := by decide +kernel
theorem dX5_ruleHasPrint_21 : decode cX5_ruleHasPrint 21 = .ok (.iconst 1, 1) := by decide +kernel
theorem dX5_ruleHasPrint_22 : decode cX5_ruleHasPrint 22 = .ok (.iadd, 1) := by decide +kernel
theorem dX5_ruleHasPrint_23 : decode cX5_ruleHasPrint 23 = .ok (.invokestatic 343, 3) := by decide +kernel
theorem dX5_ruleHasPrint_26 : decode cX5_ruleHasPrint 26 = .ok (.iload_n 0, 1) := by decide +kernel
theorem dX5_ruleHasPrint_27 : decode cX5_ruleHasPrint 27 = .ok (.iload_n 3, 1) := by decide +kernel
theorem dX5_ruleHasPrint_28 : decode cX5_ruleHasPrint 28 = .ok (.iconst 2, 1) := by decide +kernel
theorem dX5_ruleHasPrint_29 : decode cX5_ruleHasPrint 29 = .ok (.iadd, 1) := by decide +kernel
theorem dX5_ruleHasPrint_30 : decode cX5_ruleHasPrint 30 = .ok (.invokestatic 343, 3) := by decide +kernel
theorem dX5_ruleHasPrint_33 : decode cX5_ruleHasPrint 33 = .ok (.invokestatic 368, 3) := by decide +kernel
theorem dX5_ruleHasPrint_36 : decode cX5_ruleHasPrint 36 = .ok (.iload_n 1, 1) := by decide +kernel
theorem dX5_ruleHasPrint_37 : decode cX5_ruleHasPrint 37 = .ok (.if_icmp .ne 5, 3) := by decide +kernel
theorem dX5_ruleHasPrint_40 : decode cX5_ruleHasPrint 40 = .ok (.iconst 1, 1) := by decide +kernel
theorem dX5_ruleHasPrint_41 : decode cX5_ruleHasPrint 41 = .ok (.ireturn, 1) := by decide +kernel
theorem dX5_ruleHasPrint_42 : decode cX5_ruleHasPrint 42 = .ok (.iinc 3 1, 3) := by decide +kernel
theorem dX5_ruleHasPrint_45 : decode cX5_ruleHasPrint 45 = .ok (.goto (-38), 3) := by decide +kernel
theorem dX5_ruleHasPrint_48 : decode cX5_ruleHasPrint 48 = .ok (.iconst 0, 1) := by decide +kernel
theorem dX5_ruleHasPrint_49 : decode cX5_ruleHasPrint 49 = .ok (.ireturn, 1) := by decide +kernel
theorem dX5_likenessBy_0 : decode cX5_likenessBy 0 = .ok (.iload_n 1, 1) := by decide +kernel
theorem dX5_likenessBy_1 : decode cX5_likenessBy 1 = .ok (.iload_n 2, 1) := by decide +kernel
theorem dX5_likenessBy_2 : decode cX5_likenessBy 2 = .ok (.invokestatic 371, 3) := by decide +kernel
theorem dX5_likenessBy_5 : decode cX5_likenessBy 5 = .ok (.istore_n 3, 1) := by decide +kernel
theorem dX5_likenessBy_6 : decode cX5_likenessBy 6 = .ok (.iload_n 3, 1) := by decide +kernel
theorem dX5_likenessBy_7 : decode cX5_likenessBy 7 = .ok (.ifCond .gt 7, 3) := by decide +kernel
theorem dX5_likenessBy_10 : decode cX5_likenessBy 10 = .ok (.iconst 0, 1) := by decide +kernel
theorem dX5_likenessBy_11 : decode cX5_likenessBy 11 = .ok (.goto 9, 3) := by decide +kernel
theorem dX5_likenessBy_14 : decode cX5_likenessBy 14 = .ok (.bipush 100, 2) := by decide +kernel
theorem dX5_likenessBy_16 : decode cX5_likenessBy 16 = .ok (.iload_n 0, 1) := by decide +kernel
theorem dX5_likenessBy_17 : decode cX5_likenessBy 17 = .ok (.imul, 1) := by decide +kernel
theorem dX5_likenessBy_18 : decode cX5_likenessBy 18 = .ok (.iload_n 3, 1) := by decide +kernel
theorem dX5_likenessBy_19 : decode cX5_likenessBy 19 = .ok (.idiv, 1) := by decide +kernel
theorem dX5_likenessBy_20 : decode cX5_likenessBy 20 = .ok (.ireturn, 1) := by decide +kernel
theorem dX5_isPairBy_0 : decode cX5_isPairBy 0 = .ok (.iload_n 0, 1) := by decide +kernel
theorem dX5_isPairBy_1 : decode cX5_isPairBy 1 = .ok (.iconst 2, 1) := by decide +kernel
theorem dX5_isPairBy_2 : decode cX5_isPairBy 2 = .ok (.if_icmp .lt 18, 3) := by decide +kernel
theorem dX5_isPairBy_5 : decode cX5_isPairBy 5 = .ok (.iload_n 0, 1) := by decide +kernel
theorem dX5_isPairBy_6 : decode cX5_isPairBy 6 = .ok (.iload_n 1, 1) := by decide +kernel
theorem dX5_isPairBy_7 : decode cX5_isPairBy 7 = .ok (.iload_n 2, 1) := by decide +kernel
theorem dX5_isPairBy_8 : decode cX5_isPairBy 8 = .ok (.invokestatic 242, 3) := by decide +kernel
theorem dX5_isPairBy_11 : decode cX5_isPairBy 11 = .ok (.bipush 60, 2) := by decide +kernel
theorem dX5_isPairBy_13 : decode cX5_isPairBy 13 = .ok (.if_icmp .lt 7, 3) := by decide +kernel
theorem dX5_isPairBy_16 : decode cX5_isPairBy 16 = .ok (.iconst 1, 1) := by decide +kernel
theorem dX5_isPairBy_17 : decode cX5_isPairBy 17 = .ok (.goto 4, 3) := by decide +kernel
theorem dX5_isPairBy_20 : decode cX5_isPairBy 20 = .ok (.iconst 0, 1) := by decide +kernel
theorem dX5_isPairBy_21 : decode cX5_isPairBy 21 = .ok (.ireturn, 1) := by decide +kernel
theorem dX5_collectThrees_0 : decode cX5_collectThrees 0 = .ok (.aload_n 0, 1) := by decide +kernel
theorem dX5_collectThrees_1 : decode cX5_collectThrees 1 = .ok (.getfield 34, 3) := by decide +kernel
theorem dX5_collectThrees_4 : decode cX5_collectThrees 4 = .ok (.iload_n 2, 1) := by decide +kernel
theorem dX5_collectThrees_5 : decode cX5_collectThrees 5 = .ok (.iconst 0, 1) := by decide +kernel
theorem dX5_collectThrees_6 : decode cX5_collectThrees 6 = .ok (.iastore, 1) := by decide +kernel
theorem dX5_collectThrees_7 : decode cX5_collectThrees 7 = .ok (.aload_n 1, 1) := by decide +kernel
theorem dX5_collectThrees_8 : decode cX5_collectThrees 8 = .ok (.ifnull 10, 3) := by decide +kernel
theorem dX5_collectThrees_11 : decode cX5_collectThrees 11 = .ok (.aload_n 1, 1) := by decide +kernel
theorem dX5_collectThrees_12 : decode cX5_collectThrees 12 = .ok (.invokevirtual 374, 3) := by decide +kernel
theorem dX5_collectThrees_15 : decode cX5_collectThrees 15 = .ok (.ifCond .ne 4, 3) := by decide +kernel
theorem dX5_collectThrees_18 : decode cX5_collectThrees 18 = .ok (.return_, 1) := by decide +kernel
theorem dX5_collectThrees_19 : decode cX5_collectThrees 19 = .ok (.iconst 0, 1) := by decide +kernel
theorem dX5_collectThrees_20 : decode cX5_collectThrees 20 = .ok (.istore_n 3, 1) := by decide +kernel
theorem dX5_collectThrees_21 : decode cX5_collectThrees 21 = .ok (.iload_n 3, 1) := by decide +kernel
theorem dX5_collectThrees_22 : decode cX5_collectThrees 22 = .ok (.iconst 5, 1) := by decide +kernel
theorem dX5_collectThrees_23 : decode cX5_collectThrees 23 = .ok (.if_icmp .ge 99, 3) := by decide +kernel
theorem dX5_collectThrees_26 : decode cX5_collectThrees 26 = .ok (.aload_n 1, 1) := by decide +kernel
theorem dX5_collectThrees_27 : decode cX5_collectThrees 27 = .ok (.getfield 180, 3) := by decide +kernel
theorem dX5_collectThrees_30 : decode cX5_collectThrees 30 = .ok (.iload_n 3, 1) := by decide +kernel
theorem dX5_collectThrees_31 : decode cX5_collectThrees 31 = .ok (.invokestatic 80, 3) := by decide +kernel
theorem dX5_collectThrees_34 : decode cX5_collectThrees 34 = .ok (.astore 4, 2) := by decide +kernel
theorem dX5_collectThrees_36 : decode cX5_collectThrees 36 = .ok (.aload_n 1, 1) := by decide +kernel
theorem dX5_collectThrees_37 : decode cX5_collectThrees 37 = .ok (.getfield 183, 3) := by decide +kernel
theorem dX5_collectThrees_40 : decode cX5_collectThrees 40 = .ok (.iload_n 3, 1) := by decide +kernel
theorem dX5_collectThrees_41 : decode cX5_collectThrees 41 = .ok (.aaload, 1) := by decide +kernel
theorem dX5_collectThrees_42 : decode cX5_collectThrees 42 = .ok (.astore 5, 2) := by decide +kernel
theorem dX5_collectThrees_44 : decode cX5_collectThrees 44 = .ok (.aload 4, 2) := by decide +kernel
theorem dX5_collectThrees_46 : decode cX5_collectThrees 46 = .ok (.ifnull 70, 3) := by decide +kernel
theorem dX5_collectThrees_49 : decode cX5_collectThrees 49 = .ok (.aload 4, 2) := by decide +kernel
theorem dX5_collectThrees_51 : decode cX5_collectThrees 51 = .ok (.getfield 139, 3) := by decide +kernel
theorem dX5_collectThrees_54 : decode cX5_collectThrees 54 = .ok (.iconst 2, 1) := by decide +kernel
theorem dX5_collectThrees_55 : decode cX5_collectThrees 55 = .ok (.if_icmp .ne 61, 3) := by decide +kernel
theorem dX5_collectThrees_58 : decode cX5_collectThrees 58 = .ok (.aload 5, 2) := by decide +kernel
theorem dX5_collectThrees_60 : decode cX5_collectThrees 60 = .ok (.ifnonnull 6, 3) := by decide +kernel
theorem dX5_collectThrees_63 : decode cX5_collectThrees 63 = .ok (.goto 53, 3) := by decide +kernel
theorem dX5_collectThrees_66 : decode cX5_collectThrees 66 = .ok (.iconst 0, 1) := by decide +kernel
theorem dX5_collectThrees_67 : decode cX5_collectThrees 67 = .ok (.istore 6, 2) := by decide +kernel
theorem dX5_collectThrees_69 : decode cX5_collectThrees 69 = .ok (.iload 6, 2) := by decide +kernel
theorem dX5_collectThrees_71 : decode cX5_collectThrees 71 = .ok (.iconst 3, 1) := by decide +kernel
theorem dX5_collectThrees_72 : decode cX5_collectThrees 72 = .ok (.iadd, 1) := by decide +kernel
theorem dX5_collectThrees_73 : decode cX5_collectThrees 73 = .ok (.aload 5, 2) := by decide +kernel
theorem dX5_collectThrees_75 : decode cX5_collectThrees 75 = .ok (.getfield 346, 3) := by decide +kernel
theorem dX5_collectThrees_78 : decode cX5_collectThrees 78 = .ok (.if_icmp .gt 38, 3) := by decide +kernel
theorem dX5_collectThrees_81 : decode cX5_collectThrees 81 = .ok (.aload 5, 2) := by decide +kernel
theorem dX5_collectThrees_83 : decode cX5_collectThrees 83 = .ok (.iload 6, 2) := by decide +kernel
theorem dX5_collectThrees_85 : decode cX5_collectThrees 85 = .ok (.invokevirtual 378, 3) := by decide +kernel
theorem dX5_collectThrees_88 : decode cX5_collectThrees 88 = .ok (.istore 7, 2) := by decide +kernel
theorem dX5_collectThrees_90 : decode cX5_collectThrees 90 = .ok (.aload 4, 2) := by decide +kernel
theorem dX5_collectThrees_92 : decode cX5_collectThrees 92 = .ok (.getfield 314, 3) := by decide +kernel
theorem dX5_collectThrees_95 : decode cX5_collectThrees 95 = .ok (.iload 7, 2) := by decide +kernel
theorem dX5_collectThrees_97 : decode cX5_collectThrees 97 = .ok (.invokestatic 381, 3) := by decide +kernel
theorem dX5_collectThrees_100 : decode cX5_collectThrees 100 = .ok (.ifCond .ne 10, 3) := by decide +kernel
theorem dX5_collectThrees_103 : decode cX5_collectThrees 103 = .ok (.aload_n 0, 1) := by decide +kernel
theorem dX5_collectThrees_104 : decode cX5_collectThrees 104 = .ok (.iload_n 2, 1) := by decide +kernel
theorem dX5_collectThrees_105 : decode cX5_collectThrees 105 = .ok (.iload 7, 2) := by decide +kernel
theorem dX5_collectThrees_107 : decode cX5_collectThrees 107 = .ok (.invokevirtual 384, 3) := by decide +kernel
theorem dX5_collectThrees_110 : decode cX5_collectThrees 110 = .ok (.iinc 6 1, 3) := by decide +kernel
theorem dX5_collectThrees_113 : decode cX5_collectThrees 113 = .ok (.goto (-44), 3) := by decide +kernel
theorem dX5_collectThrees_116 : decode cX5_collectThrees 116 = .ok (.iinc 3 1, 3) := by decide +kernel
theorem dX5_collectThrees_119 : decode cX5_collectThrees 119 = .ok (.goto (-98), 3) := by decide +kernel
theorem dX5_collectThrees_122 : decode cX5_collectThrees 122 = .ok (.return_, 1) := by decide +kernel
theorem dX5_collectThree_0 : decode cX5_collectThree 0 = .ok (.aload_n 0, 1) := by decide +kernel
theorem dX5_collectThree_1 : decode cX5_collectThree 1 = .ok (.getfield 34, 3) := by decide +kernel
theorem dX5_collectThree_4 : decode cX5_collectThree 4 = .ok (.iload_n 1, 1) := by decide +kernel
theorem dX5_collectThree_5 : decode cX5_collectThree 5 = .ok (.iaload, 1) := by decide +kernel
theorem dX5_collectThree_6 : decode cX5_collectThree 6 = .ok (.istore_n 3, 1) := by decide +kernel
theorem dX5_collectThree_7 : decode cX5_collectThree 7 = .ok (.aload_n 0, 1) := by decide +kernel
theorem dX5_collectThree_8 : decode cX5_collectThree 8 = .ok (.iload_n 1, 1) := by decide +kernel
theorem dX5_collectThree_9 : decode cX5_collectThree 9 = .ok (.iload_n 2, 1) := by decide +kernel
theorem dX5_collectThree_10 : decode cX5_collectThree 10 = .ok (.invokevirtual 387, 3) := by decide +kernel
theorem dX5_collectThree_13 : decode cX5_collectThree 13 = .ok (.ifCond .ne 27, 3) := by decide +kernel
theorem dX5_collectThree_16 : decode cX5_collectThree 16 = .ok (.iload_n 3, 1) := by decide +kernel
theorem dX5_collectThree_17 : decode cX5_collectThree 17 = .ok (.bipush 50, 2) := by decide +kernel
theorem dX5_collectThree_19 : decode cX5_collectThree 19 = .ok (.if_icmp .ge 21, 3) := by decide +kernel
theorem dX5_collectThree_22 : decode cX5_collectThree 22 = .ok (.aload_n 0, 1) := by decide +kernel
theorem dX5_collectThree_23 : decode cX5_collectThree 23 = .ok (.getfield 31, 3) := by decide +kernel
theorem dX5_collectThree_26 : decode cX5_collectThree 26 = .ok (.iload_n 1, 1) := by decide +kernel
theorem dX5_collectThree_27 : decode cX5_collectThree 27 = .ok (.aaload, 1) := by decide +kernel
theorem dX5_collectThree_28 : decode cX5_collectThree 28 = .ok (.iload_n 3, 1) := by decide +kernel
theorem dX5_collectThree_29 : decode cX5_collectThree 29 = .ok (.iload_n 2, 1) := by decide +kernel
theorem dX5_collectThree_30 : decode cX5_collectThree 30 = .ok (.iastore, 1) := by decide +kernel
theorem dX5_collectThree_31 : decode cX5_collectThree 31 = .ok (.aload_n 0, 1) := by decide +kernel
theorem dX5_collectThree_32 : decode cX5_collectThree 32 = .ok (.getfield 34, 3) := by decide +kernel
theorem dX5_collectThree_35 : decode cX5_collectThree 35 = .ok (.iload_n 1, 1) := by decide +kernel
theorem dX5_collectThree_36 : decode cX5_collectThree 36 = .ok (.iload_n 3, 1) := by decide +kernel
theorem dX5_collectThree_37 : decode cX5_collectThree 37 = .ok (.iconst 1, 1) := by decide +kernel
theorem dX5_collectThree_38 : decode cX5_collectThree 38 = .ok (.iadd, 1) := by decide +kernel
theorem dX5_collectThree_39 : decode cX5_collectThree 39 = .ok (.iastore, 1) := by decide +kernel
theorem dX5_collectThree_40 : decode cX5_collectThree 40 = .ok (.return_, 1) := by decide +kernel
theorem dX5_isCollected_0 : decode cX5_isCollected 0 = .ok (.iconst 0, 1) := by decide +kernel
theorem dX5_isCollected_1 : decode cX5_isCollected 1 = .ok (.istore_n 3, 1) := by decide +kernel
theorem dX5_isCollected_2 : decode cX5_isCollected 2 = .ok (.iload_n 3, 1) := by decide +kernel
theorem dX5_isCollected_3 : decode cX5_isCollected 3 = .ok (.aload_n 0, 1) := by decide +kernel
theorem dX5_isCollected_4 : decode cX5_isCollected 4 = .ok (.getfield 34, 3) := by decide +kernel
theorem dX5_isCollected_7 : decode cX5_isCollected 7 = .ok (.iload_n 1, 1) := by decide +kernel
theorem dX5_isCollected_8 : decode cX5_isCollected 8 = .ok (.iaload, 1) := by decide +kernel
theorem dX5_isCollected_9 : decode cX5_isCollected 9 = .ok (.if_icmp .ge 23, 3) := by decide +kernel
theorem dX5_isCollected_12 : decode cX5_isCollected 12 = .ok (.aload_n 0, 1) := by decide +kernel
theorem dX5_isCollected_13 : decode cX5_isCollected 13 = .ok (.getfield 31, 3) := by decide +kernel
theorem dX5_isCollected_16 : decode cX5_isCollected 16 = .ok (.iload_n 1, 1) := by decide +kernel
theorem dX5_isCollected_17 : decode cX5_isCollected 17 = .ok (.aaload, 1) := by decide +kernel
theorem dX5_isCollected_18 : decode cX5_isCollected 18 = .ok (.iload_n 3, 1) := by decide +kernel
theorem dX5_isCollected_19 : decode cX5_isCollected 19 = .ok (.iaload, 1) := by decide +kernel
theorem dX5_isCollected_20 : decode cX5_isCollected 20 = .ok (.iload_n 2, 1) := by decide +kernel
theorem dX5_isCollected_21 : decode cX5_isCollected 21 = .ok (.if_icmp .ne 5, 3) := by decide +kernel
theorem dX5_isCollected_24 : decode cX5_isCollected 24 = .ok (.iconst 1, 1) := by decide +kernel
theorem dX5_isCollected_25 : decode cX5_isCollected 25 = .ok (.ireturn, 1) := by decide +kernel
theorem dX5_isCollected_26 : decode cX5_isCollected 26 = .ok (.iinc 3 1, 3) := by decide +kernel
theorem dX5_isCollected_29 : decode cX5_isCollected 29 = .ok (.goto (-27), 3) := by decide +kernel
theorem dX5_isCollected_32 : decode cX5_isCollected 32 = .ok (.iconst 0, 1) := by decide +kernel
theorem dX5_isCollected_33 : decode cX5_isCollected 33 = .ok (.ireturn, 1) := by decide +kernel
theorem dX5_commonThrees_0 : decode cX5_commonThrees 0 = .ok (.iconst 0, 1) := by decide +kernel
theorem dX5_commonThrees_1 : decode cX5_commonThrees 1 = .ok (.istore_n 3, 1) := by decide +kernel
theorem dX5_commonThrees_2 : decode cX5_commonThrees 2 = .ok (.iconst 0, 1) := by decide +kernel
theorem dX5_commonThrees_3 : decode cX5_commonThrees 3 = .ok (.istore 4, 2) := by decide +kernel
theorem dX5_commonThrees_5 : decode cX5_commonThrees 5 = .ok (.iload 4, 2) := by decide +kernel
theorem dX5_commonThrees_7 : decode cX5_commonThrees 7 = .ok (.aload_n 0, 1) := by decide +kernel
theorem dX5_commonThrees_8 : decode cX5_commonThrees 8 = .ok (.getfield 34, 3) := by decide +kernel
theorem dX5_commonThrees_11 : decode cX5_commonThrees 11 = .ok (.iload_n 1, 1) := by decide +kernel
theorem dX5_commonThrees_12 : decode cX5_commonThrees 12 = .ok (.iaload, 1) := by decide +kernel
theorem dX5_commonThrees_13 : decode cX5_commonThrees 13 = .ok (.if_icmp .ge 29, 3) := by decide +kernel
theorem dX5_commonThrees_16 : decode cX5_commonThrees 16 = .ok (.aload_n 0, 1) := by decide +kernel
theorem dX5_commonThrees_17 : decode cX5_commonThrees 17 = .ok (.iload_n 2, 1) := by decide +kernel
theorem dX5_commonThrees_18 : decode cX5_commonThrees 18 = .ok (.aload_n 0, 1) := by decide +kernel
theorem dX5_commonThrees_19 : decode cX5_commonThrees 19 = .ok (.getfield 31, 3) := by decide +kernel
theorem dX5_commonThrees_22 : decode cX5_commonThrees 22 = .ok (.iload_n 1, 1) := by decide +kernel
theorem dX5_commonThrees_23 : decode cX5_commonThrees 23 = .ok (.aaload, 1) := by decide +kernel
theorem dX5_commonThrees_24 : decode cX5_commonThrees 24 = .ok (.iload 4, 2) := by decide +kernel
theorem dX5_commonThrees_26 : decode cX5_commonThrees 26 = .ok (.iaload, 1) := by decide +kernel
theorem dX5_commonThrees_27 : decode cX5_commonThrees 27 = .ok (.invokevirtual 387, 3) := by decide +kernel
theorem dX5_commonThrees_30 : decode cX5_commonThrees 30 = .ok (.ifCond .eq 6, 3) := by decide +kernel
theorem dX5_commonThrees_33 : decode cX5_commonThrees 33 = .ok (.iinc 3 1, 3) := by decide +kernel
theorem dX5_commonThrees_36 : decode cX5_commonThrees 36 = .ok (.iinc 4 1, 3) := by decide +kernel
theorem dX5_commonThrees_39 : decode cX5_commonThrees 39 = .ok (.goto (-34), 3) := by decide +kernel
theorem dX5_commonThrees_42 : decode cX5_commonThrees 42 = .ok (.iload_n 3, 1) := by decide +kernel
theorem dX5_commonThrees_43 : decode cX5_commonThrees 43 = .ok (.ireturn, 1) := by decide +kernel
theorem dX5_isClass_0 : decode cX5_isClass 0 = .ok (.iload_n 0, 1) := by decide +kernel
theorem dX5_isClass_1 : decode cX5_isClass 1 = .ok (.ifCond .lt 12, 3) := by decide +kernel
theorem dX5_isClass_4 : decode cX5_isClass 4 = .ok (.iload_n 0, 1) := by decide +kernel
theorem dX5_isClass_5 : decode cX5_isClass 5 = .ok (.iconst 4, 1) := by decide +kernel
theorem dX5_isClass_6 : decode cX5_isClass 6 = .ok (.if_icmp .ge 7, 3) := by decide +kernel
theorem dX5_isClass_9 : decode cX5_isClass 9 = .ok (.iconst 1, 1) := by decide +kernel
theorem dX5_isClass_10 : decode cX5_isClass 10 = .ok (.goto 4, 3) := by decide +kernel
theorem dX5_isClass_13 : decode cX5_isClass 13 = .ok (.iconst 0, 1) := by decide +kernel
theorem dX5_isClass_14 : decode cX5_isClass 14 = .ok (.ireturn, 1) := by decide +kernel
theorem dX5_passesQuota_0 : decode cX5_passesQuota 0 = .ok (.iload_n 1, 1) := by decide +kernel
theorem dX5_passesQuota_1 : decode cX5_passesQuota 1 = .ok (.invokestatic 390, 3) := by decide +kernel
theorem dX5_passesQuota_4 : decode cX5_passesQuota 4 = .ok (.ifCond .eq 28, 3) := by decide +kernel
theorem dX5_passesQuota_7 : decode cX5_passesQuota 7 = .ok (.iload_n 2, 1) := by decide +kernel
theorem dX5_passesQuota_8 : decode cX5_passesQuota 8 = .ok (.ifCond .le 24, 3) := by decide +kernel
theorem dX5_passesQuota_11 : decode cX5_passesQuota 11 = .ok (.aload_n 0, 1) := by decide +kernel
theorem dX5_passesQuota_12 : decode cX5_passesQuota 12 = .ok (.getfield 23, 3) := by decide +kernel
theorem dX5_passesQuota_15 : decode cX5_passesQuota 15 = .ok (.iload_n 1, 1) := by decide +kernel
theorem dX5_passesQuota_16 : decode cX5_passesQuota 16 = .ok (.iaload, 1) := by decide +kernel
theorem dX5_passesQuota_17 : decode cX5_passesQuota 17 = .ok (.iload_n 2, 1) := by decide +kernel
theorem dX5_passesQuota_18 : decode cX5_passesQuota 18 = .ok (.iadd, 1) := by decide +kernel
theorem dX5_passesQuota_19 : decode cX5_passesQuota 19 = .ok (.aload_n 0, 1) := by decide +kernel
theorem dX5_passesQuota_20 : decode cX5_passesQuota 20 = .ok (.getfield 19, 3) := by decide +kernel
theorem dX5_passesQuota_23 : decode cX5_passesQuota 23 = .ok (.iload_n 1, 1) := by decide +kernel
theorem dX5_passesQuota_24 : decode cX5_passesQuota 24 = .ok (.iaload, 1) := by decide +kernel
theorem dX5_passesQuota_25 : decode cX5_passesQuota 25 = .ok (.if_icmp .le 7, 3) := by decide +kernel
theorem dX5_passesQuota_28 : decode cX5_passesQuota 28 = .ok (.iconst 1, 1) := by decide +kernel
theorem dX5_passesQuota_29 : decode cX5_passesQuota 29 = .ok (.goto 4, 3) := by decide +kernel
theorem dX5_passesQuota_32 : decode cX5_passesQuota 32 = .ok (.iconst 0, 1) := by decide +kernel
theorem dX5_passesQuota_33 : decode cX5_passesQuota 33 = .ok (.ireturn, 1) := by decide +kernel
theorem dX5_addUse_0 : decode cX5_addUse 0 = .ok (.iload_n 1, 1) := by decide +kernel
theorem dX5_addUse_1 : decode cX5_addUse 1 = .ok (.invokestatic 390, 3) := by decide +kernel
theorem dX5_addUse_4 : decode cX5_addUse 4 = .ok (.ifCond .eq 13, 3) := by decide +kernel
theorem dX5_addUse_7 : decode cX5_addUse 7 = .ok (.aload_n 0, 1) := by decide +kernel
theorem dX5_addUse_8 : decode cX5_addUse 8 = .ok (.getfield 23, 3) := by decide +kernel
theorem dX5_addUse_11 : decode cX5_addUse 11 = .ok (.iload_n 1, 1) := by decide +kernel
theorem dX5_addUse_12 : decode cX5_addUse 12 = .ok (.dup2, 1) := by decide +kernel
theorem dX5_addUse_13 : decode cX5_addUse 13 = .ok (.iaload, 1) := by decide +kernel
theorem dX5_addUse_14 : decode cX5_addUse 14 = .ok (.iload_n 2, 1) := by decide +kernel
theorem dX5_addUse_15 : decode cX5_addUse 15 = .ok (.iadd, 1) := by decide +kernel
theorem dX5_addUse_16 : decode cX5_addUse 16 = .ok (.iastore, 1) := by decide +kernel
theorem dX5_addUse_17 : decode cX5_addUse 17 = .ok (.return_, 1) := by decide +kernel
end
section
theorem dX6_init_0 : decode cX6_init 0 = .ok (.aload_n 0, 1) := by decide +kernel
theorem dX6_init_1 : decode cX6_init 1 = .ok (.invokespecial 1, 3) := by decide +kernel
theorem dX6_init_4 : decode cX6_init 4 = .ok (.aload_n 0, 1) := by decide +kernel
theorem dX6_init_5 : decode cX6_init 5 = .ok (.bipush 64, 2) := by decide +kernel
theorem dX6_init_7 : decode cX6_init 7 = .ok (.newarray .boolean, 2) := by decide +kernel
theorem dX6_init_9 : decode cX6_init 9 = .ok (.putfield 7, 3) := by decide +kernel
theorem dX6_init_12 : decode cX6_init 12 = .ok (.aload_n 0, 1) := by decide +kernel
theorem dX6_init_13 : decode cX6_init 13 = .ok (.bipush 64, 2) := by decide +kernel
theorem dX6_init_15 : decode cX6_init 15 = .ok (.newarray .int, 2) := by decide +kernel
theorem dX6_init_17 : decode cX6_init 17 = .ok (.putfield 13, 3) := by decide +kernel
theorem dX6_init_20 : decode cX6_init 20 = .ok (.aload_n 0, 1) := by decide +kernel
theorem dX6_init_21 : decode cX6_init 21 = .ok (.bipush 64, 2) := by decide +kernel
theorem dX6_init_23 : decode cX6_init 23 = .ok (.newarray .int, 2) := by decide +kernel
theorem dX6_init_25 : decode cX6_init 25 = .ok (.putfield 17, 3) := by decide +kernel
theorem dX6_init_28 : decode cX6_init 28 = .ok (.aload_n 0, 1) := by decide +kernel
theorem dX6_init_29 : decode cX6_init 29 = .ok (.iconst 4, 1) := by decide +kernel
theorem dX6_init_30 : decode cX6_init 30 = .ok (.newarray .int, 2) := by decide +kernel
theorem dX6_init_32 : decode cX6_init 32 = .ok (.putfield 20, 3) := by decide +kernel
theorem dX6_init_35 : decode cX6_init 35 = .ok (.aload_n 0, 1) := by decide +kernel
theorem dX6_init_36 : decode cX6_init 36 = .ok (.sipush 320, 3) := by decide +kernel
theorem dX6_init_39 : decode cX6_init 39 = .ok (.newarray .int, 2) := by decide +kernel
theorem dX6_init_41 : decode cX6_init 41 = .ok (.putfield 23, 3) := by decide +kernel
theorem dX6_init_44 : decode cX6_init 44 = .ok (.aload_n 0, 1) := by decide +kernel
theorem dX6_init_45 : decode cX6_init 45 = .ok (.sipush 320, 3) := by decide +kernel
theorem dX6_init_48 : decode cX6_init 48 = .ok (.newarray .int, 2) := by decide +kernel
theorem dX6_init_50 : decode cX6_init 50 = .ok (.putfield 26, 3) := by decide +kernel
theorem dX6_init_53 : decode cX6_init 53 = .ok (.aload_n 0, 1) := by decide +kernel
theorem dX6_init_54 : decode cX6_init 54 = .ok (.sipush 320, 3) := by decide +kernel
theorem dX6_init_57 : decode cX6_init 57 = .ok (.newarray .int, 2) := by decide +kernel
theorem dX6_init_59 : decode cX6_init 59 = .ok (.putfield 29, 3) := by decide +kernel
theorem dX6_init_62 : decode cX6_init 62 = .ok (.aload_n 0, 1) := by decide +kernel
theorem dX6_init_63 : decode cX6_init 63 = .ok (.sipush 320, 3) := by decide +kernel
theorem dX6_init_66 : decode cX6_init 66 = .ok (.newarray .int, 2) := by decide +kernel
theorem dX6_init_68 : decode cX6_init 68 = .ok (.putfield 32, 3) := by decide +kernel
theorem dX6_init_71 : decode cX6_init 71 = .ok (.aload_n 0, 1) := by decide +kernel
theorem dX6_init_72 : decode cX6_init 72 = .ok (.bipush 16, 2) := by decide +kernel
theorem dX6_init_74 : decode cX6_init 74 = .ok (.newarray .int, 2) := by decide +kernel
theorem dX6_init_76 : decode cX6_init 76 = .ok (.putfield 35, 3) := by decide +kernel
theorem dX6_init_79 : decode cX6_init 79 = .ok (.aload_n 0, 1) := by decide +kernel
theorem dX6_init_80 : decode cX6_init 80 = .ok (.bipush 16, 2) := by decide +kernel
theorem dX6_init_82 : decode cX6_init 82 = .ok (.newarray .boolean, 2) := by decide +kernel
theorem dX6_init_84 : decode cX6_init 84 = .ok (.putfield 38, 3) := by decide +kernel
theorem dX6_init_87 : decode cX6_init 87 = .ok (.aload_n 0, 1) := by decide +kernel
theorem dX6_init_88 : decode cX6_init 88 = .ok (.iconst 4, 1) := by decide +kernel
theorem dX6_init_89 : decode cX6_init 89 = .ok (.newarray .int, 2) := by decide +kernel
theorem dX6_init_91 : decode cX6_init 91 = .ok (.putfield 41, 3) := by decide +kernel
theorem dX6_init_94 : decode cX6_init 94 = .ok (.aload_n 0, 1) := by decide +kernel
theorem dX6_init_95 : decode cX6_init 95 = .ok (.bipush 48, 2) := by decide +kernel
theorem dX6_init_97 : decode cX6_init 97 = .ok (.newarray .int, 2) := by decide +kernel
theorem dX6_init_99 : decode cX6_init 99 = .ok (.putfield 44, 3) := by decide +kernel
theorem dX6_init_102 : decode cX6_init 102 = .ok (.aload_n 0, 1) := by decide +kernel
theorem dX6_init_103 : decode cX6_init 103 = .ok (.bipush 48, 2) := by decide +kernel
theorem dX6_init_105 : decode cX6_init 105 = .ok (.newarray .int, 2) := by decide +kernel
theorem dX6_init_107 : decode cX6_init 107 = .ok (.putfield 47, 3) := by decide +kernel
theorem dX6_init_110 : decode cX6_init 110 = .ok (.aload_n 0, 1) := by decide +kernel
theorem dX6_init_111 : decode cX6_init 111 = .ok (.bipush 48, 2) := by decide +kernel
theorem dX6_init_113 : decode cX6_init 113 = .ok (.newarray .int, 2) := by decide +kernel
theorem dX6_init_115 : decode cX6_init 115 = .ok (.putfield 50, 3) := by decide +kernel
theorem dX6_init_118 : decode cX6_init 118 = .ok (.aload_n 0, 1) := by decide +kernel
theorem dX6_init_119 : decode cX6_init 119 = .ok (.bipush 48, 2) := by decide +kernel
theorem dX6_init_121 : decode cX6_init 121 = .ok (.newarray .int, 2) := by decide +kernel
theorem dX6_init_123 : decode cX6_init 123 = .ok (.putfield 53, 3) := by decide +kernel
theorem dX6_init_126 : decode cX6_init 126 = .ok (.aload_n 0, 1) := by decide +kernel
theorem dX6_init_127 : decode cX6_init 127 = .ok (.sipush 240, 3) := by decide +kernel
theorem dX6_init_130 : decode cX6_init 130 = .ok (.newarray .boolean, 2) := by decide +kernel
theorem dX6_init_132 : decode cX6_init 132 = .ok (.putfield 56, 3) := by decide +kernel
theorem dX6_init_135 : decode cX6_init 135 = .ok (.aload_n 0, 1) := by decide +kernel
theorem dX6_init_136 : decode cX6_init 136 = .ok (.sipush 240, 3) := by decide +kernel
theorem dX6_init_139 : decode cX6_init 139 = .ok (.newarray .int, 2) := by decide +kernel
theorem dX6_init_141 : decode cX6_init 141 = .ok (.putfield 59, 3) := by decide +kernel
theorem dX6_init_144 : decode cX6_init 144 = .ok (.aload_n 0, 1) := by decide +kernel
theorem dX6_init_145 : decode cX6_init 145 = .ok (.sipush 240, 3) := by decide +kernel
theorem dX6_init_148 : decode cX6_init 148 = .ok (.newarray .int, 2) := by decide +kernel
theorem dX6_init_150 : decode cX6_init 150 = .ok (.putfield 62, 3) := by decide +kernel
theorem dX6_init_153 : decode cX6_init 153 = .ok (.aload_n 0, 1) := by decide +kernel
theorem dX6_init_154 : decode cX6_init 154 = .ok (.sipush 240, 3) := by decide +kernel
theorem dX6_init_157 : decode cX6_init 157 = .ok (.newarray .int, 2) := by decide +kernel
theorem dX6_init_159 : decode cX6_init 159 = .ok (.putfield 65, 3) := by decide +kernel
theorem dX6_init_162 : decode cX6_init 162 = .ok (.aload_n 0, 1) := by decide +kernel
theorem dX6_init_163 : decode cX6_init 163 = .ok (.sipush 2880, 3) := by decide +kernel
theorem dX6_init_166 : decode cX6_init 166 = .ok (.newarray .int, 2) := by decide +kernel
theorem dX6_init_168 : decode cX6_init 168 = .ok (.putfield 68, 3) := by decide +kernel
theorem dX6_init_171 : decode cX6_init 171 = .ok (.aload_n 0, 1) := by decide +kernel
theorem dX6_init_172 : decode cX6_init 172 = .ok (.bipush 13, 2) := by decide +kernel
theorem dX6_init_174 : decode cX6_init 174 = .ok (.newarray .int, 2) := by decide +kernel
theorem dX6_init_176 : decode cX6_init 176 = .ok (.putfield 71, 3) := by decide +kernel
theorem dX6_init_179 : decode cX6_init 179 = .ok (.aload_n 0, 1) := by decide +kernel
theorem dX6_init_180 : decode cX6_init 180 = .ok (.bipush 48, 2) := by decide +kernel
theorem dX6_init_182 : decode cX6_init 182 = .ok (.newarray .int, 2) := by decide +kernel
theorem dX6_init_184 : decode cX6_init 184 = .ok (.putfield 74, 3) := by decide +kernel
theorem dX6_init_187 : decode cX6_init 187 = .ok (.aload_n 0, 1) := by decide +kernel
theorem dX6_init_188 : decode cX6_init 188 = .ok (.bipush 50, 2) := by decide +kernel
theorem dX6_init_190 : decode cX6_init 190 = .ok (.newarray .int, 2) := by decide +kernel
theorem dX6_init_192 : decode cX6_init 192 = .ok (.putfield 77, 3) := by decide +kernel
theorem dX6_init_195 : decode cX6_init 195 = .ok (.aload_n 0, 1) := by decide +kernel
theorem dX6_init_196 : decode cX6_init 196 = .ok (.bipush 50, 2) := by decide +kernel
theorem dX6_init_198 : decode cX6_init 198 = .ok (.newarray .int, 2) := by decide +kernel
theorem dX6_init_200 : decode cX6_init 200 = .ok (.putfield 80, 3) := by decide +kernel
theorem dX6_init_203 : decode cX6_init 203 = .ok (.iconst 0, 1) := by decide +kernel
theorem dX6_init_204 : decode cX6_init 204 = .ok (.istore_n 1, 1) := by decide +kernel
theorem dX6_init_205 : decode cX6_init 205 = .ok (.iload_n 1, 1) := by decide +kernel
theorem dX6_init_206 : decode cX6_init 206 = .ok (.iconst 4, 1) := by decide +kernel
theorem dX6_init_207 : decode cX6_init 207 = .ok (.if_icmp .ge 17, 3) := by decide +kernel
theorem dX6_init_210 : decode cX6_init 210 = .ok (.aload_n 0, 1) := by decide +kernel
theorem dX6_init_211 : decode cX6_init 211 = .ok (.getfield 41, 3) := by decide +kernel
theorem dX6_init_214 : decode cX6_init 214 = .ok (.iload_n 1, 1) := by decide +kernel
theorem dX6_init_215 : decode cX6_init 215 = .ok (.bipush 100, 2) := by decide +kernel
theorem dX6_init_217 : decode cX6_init 217 = .ok (.iastore, 1) := by decide +kernel
theorem dX6_init_218 : decode cX6_init 218 = .ok (.iinc 1 1, 3) := by decide +kernel
theorem dX6_init_221 : decode cX6_init 221 = .ok (.goto (-16), 3) := by decide +kernel
theorem dX6_init_224 : decode cX6_init 224 = .ok (.iconst 0, 1) := by decide +kernel
theorem dX6_init_225 : decode cX6_init 225 = .ok (.istore_n 1, 1) := by decide +kernel
theorem dX6_init_226 : decode cX6_init 226 = .ok (.iload_n 1, 1) := by decide +kernel
theorem dX6_init_227 : decode cX6_init 227 = .ok (.sipush 320, 3) := by decide +kernel
theorem dX6_init_230 : decode cX6_init 230 = .ok (.if_icmp .ge 16, 3) := by decide +kernel
theorem dX6_init_233 : decode cX6_init 233 = .ok (.aload_n 0, 1) := by decide +kernel
theorem dX6_init_234 : decode cX6_init 234 = .ok (.getfield 23, 3) := by decide +kernel
theorem dX6_init_237 : decode cX6_init 237 = .ok (.iload_n 1, 1) := by decide +kernel
theorem dX6_init_238 : decode cX6_init 238 = .ok (.iconst 4, 1) := by decide +kernel
theorem dX6_init_239 : decode cX6_init 239 = .ok (.iastore, 1) := by decide +kernel
theorem dX6_init_240 : decode cX6_init 240 = .ok (.iinc 1 1, 3) := by decide +kernel
theorem dX6_init_243 : decode cX6_init 243 = .ok (.goto (-17), 3) := by decide +kernel
theorem dX6_init_246 : decode cX6_init 246 = .ok (.return_, 1) := by decide +kernel
theorem dX6_thrown_0 : decode cX6_thrown 0 = .ok (.aload_n 0, 1) := by decide +kernel
theorem dX6_thrown_1 : decode cX6_thrown 1 = .ok (.getfield 83, 3) := by decide +kernel
theorem dX6_thrown_4 : decode cX6_thrown 4 = .ok (.ireturn, 1) := by decide +kernel
theorem dX6_refused_0 : decode cX6_refused 0 = .ok (.aload_n 0, 1) := by decide +kernel
theorem dX6_refused_1 : decode cX6_refused 1 = .ok (.iload_n 1, 1) := by decide +kernel
theorem dX6_refused_2 : decode cX6_refused 2 = .ok (.putfield 83, 3) := by decide +kernel
theorem dX6_refused_5 : decode cX6_refused 5 = .ok (.iload_n 1, 1) := by decide +kernel
theorem dX6_refused_6 : decode cX6_refused 6 = .ok (.ifCond .eq 7, 3) := by decide +kernel
theorem dX6_refused_9 : decode cX6_refused 9 = .ok (.iconst 1, 1) := by decide +kernel
theorem dX6_refused_10 : decode cX6_refused 10 = .ok (.goto 4, 3) := by decide +kernel
theorem dX6_refused_13 : decode cX6_refused 13 = .ok (.iconst 0, 1) := by decide +kernel
theorem dX6_refused_14 : decode cX6_refused 14 = .ok (.ireturn, 1) := by decide +kernel
theorem dX6_in_0 : decode cX6_in 0 = .ok (.iload_n 0, 1) := by decide +kernel
theorem dX6_in_1 : decode cX6_in 1 = .ok (.iload_n 1, 1) := by decide +kernel
theorem dX6_in_2 : decode cX6_in 2 = .ok (.if_icmp .lt 12, 3) := by decide +kernel
theorem dX6_in_5 : decode cX6_in 5 = .ok (.iload_n 0, 1) := by decide +kernel
theorem dX6_in_6 : decode cX6_in 6 = .ok (.iload_n 2, 1) := by decide +kernel
theorem dX6_in_7 : decode cX6_in 7 = .ok (.if_icmp .gt 7, 3) := by decide +kernel
theorem dX6_in_10 : decode cX6_in 10 = .ok (.iconst 1, 1) := by decide +kernel
theorem dX6_in_11 : decode cX6_in 11 = .ok (.goto 4, 3) := by decide +kernel
theorem dX6_in_14 : decode cX6_in 14 = .ok (.iconst 0, 1) := by decide +kernel
theorem dX6_in_15 : decode cX6_in 15 = .ok (.ireturn, 1) := by decide +kernel
theorem dX6_isClass_0 : decode cX6_isClass 0 = .ok (.iload_n 0, 1) := by decide +kernel
theorem dX6_isClass_1 : decode cX6_isClass 1 = .ok (.iconst 0, 1) := by decide +kernel
theorem dX6_isClass_2 : decode cX6_isClass 2 = .ok (.iconst 3, 1) := by decide +kernel
theorem dX6_isClass_3 : decode cX6_isClass 3 = .ok (.invokestatic 87, 3) := by decide +kernel
theorem dX6_isClass_6 : decode cX6_isClass 6 = .ok (.ireturn, 1) := by decide +kernel
theorem dX6_isPupil_0 : decode cX6_isPupil 0 = .ok (.iload_n 0, 1) := by decide +kernel
theorem dX6_isPupil_1 : decode cX6_isPupil 1 = .ok (.iconst 0, 1) := by decide +kernel
theorem dX6_isPupil_2 : decode cX6_isPupil 2 = .ok (.bipush 11, 2) := by decide +kernel
theorem dX6_isPupil_4 : decode cX6_isPupil 4 = .ok (.invokestatic 87, 3) := by decide +kernel
theorem dX6_isPupil_7 : decode cX6_isPupil 7 = .ok (.ireturn, 1) := by decide +kernel
theorem dX6_isSheet_0 : decode cX6_isSheet 0 = .ok (.iload_n 1, 1) := by decide +kernel
theorem dX6_isSheet_1 : decode cX6_isSheet 1 = .ok (.iconst 0, 1) := by decide +kernel
theorem dX6_isSheet_2 : decode cX6_isSheet 2 = .ok (.aload_n 0, 1) := by decide +kernel
theorem dX6_isSheet_3 : decode cX6_isSheet 3 = .ok (.getfield 91, 3) := by decide +kernel
theorem dX6_isSheet_6 : decode cX6_isSheet 6 = .ok (.iconst 1, 1) := by decide +kernel
theorem dX6_isSheet_7 : decode cX6_isSheet 7 = .ok (.isub, 1) := by decide +kernel
theorem dX6_isSheet_8 : decode cX6_isSheet 8 = .ok (.invokestatic 87, 3) := by decide +kernel
theorem dX6_isSheet_11 : decode cX6_isSheet 11 = .ok (.ireturn, 1) := by decide +kernel
theorem dX6_isVersion_0 : decode cX6_isVersion 0 = .ok (.aload_n 0, 1) := by decide +kernel
theorem dX6_isVersion_1 : decode cX6_isVersion 1 = .ok (.iload_n 1, 1) := by decide +kernel
theorem dX6_isVersion_2 : decode cX6_isVersion 2 = .ok (.invokevirtual 94, 3) := by decide +kernel
theorem dX6_isVersion_5 : decode cX6_isVersion 5 = .ok (.ifCond .eq 31, 3) := by decide +kernel
theorem dX6_isVersion_8 : decode cX6_isVersion 8 = .ok (.iload_n 2, 1) := by decide +kernel
theorem dX6_isVersion_9 : decode cX6_isVersion 9 = .ok (.iconst 0, 1) := by decide +kernel
theorem dX6_isVersion_10 : decode cX6_isVersion 10 = .ok (.bipush 15, 2) := by decide +kernel
theorem dX6_isVersion_12 : decode cX6_isVersion 12 = .ok (.invokestatic 87, 3) := by decide +kernel
theorem dX6_isVersion_15 : decode cX6_isVersion 15 = .ok (.ifCond .eq 21, 3) := by decide +kernel
theorem dX6_isVersion_18 : decode cX6_isVersion 18 = .ok (.aload_n 0, 1) := by decide +kernel
theorem dX6_isVersion_19 : decode cX6_isVersion 19 = .ok (.getfield 7, 3) := by decide +kernel
theorem dX6_isVersion_22 : decode cX6_isVersion 22 = .ok (.bipush 16, 2) := by decide +kernel
theorem dX6_isVersion_24 : decode cX6_isVersion 24 = .ok (.iload_n 1, 1) := by decide +kernel
theorem dX6_isVersion_25 : decode cX6_isVersion 25 = .ok (.imul, 1) := by decide +kernel
theorem dX6_isVersion_26 : decode cX6_isVersion 26 = .ok (.iload_n 2, 1) := by decide +kernel
theorem dX6_isVersion_27 : decode cX6_isVersion 27 = .ok (.iadd, 1) := by decide +kernel
theorem dX6_isVersion_28 : decode cX6_isVersion 28 = .ok (.baload, 1) := by decide +kernel
theorem dX6_isVersion_29 : decode cX6_isVersion 29 = .ok (.ifCond .eq 7, 3) := by decide +kernel
theorem dX6_isVersion_32 : decode cX6_isVersion 32 = .ok (.iconst 1, 1) := by decide +kernel
theorem dX6_isVersion_33 : decode cX6_isVersion 33 = .ok (.goto 4, 3) := by decide +kernel
theorem dX6_isVersion_36 : decode cX6_isVersion 36 = .ok (.iconst 0, 1) := by decide +kernel
theorem dX6_isVersion_37 : decode cX6_isVersion 37 = .ok (.ireturn, 1) := by decide +kernel
theorem dX6_isTask_0 : decode cX6_isTask 0 = .ok (.iload_n 0, 1) := by decide +kernel
theorem dX6_isTask_1 : decode cX6_isTask 1 = .ok (.iconst 0, 1) := by decide +kernel
theorem dX6_isTask_2 : decode cX6_isTask 2 = .ok (.iconst 4, 1) := by decide +kernel
theorem dX6_isTask_3 : decode cX6_isTask 3 = .ok (.invokestatic 87, 3) := by decide +kernel
theorem dX6_isTask_6 : decode cX6_isTask 6 = .ok (.ireturn, 1) := by decide +kernel
theorem dX6_wordAt_0 : decode cX6_wordAt 0 = .ok (.iload_n 0, 1) := by decide +kernel
theorem dX6_wordAt_1 : decode cX6_wordAt 1 = .ok (.iconst 5, 1) := by decide +kernel
theorem dX6_wordAt_2 : decode cX6_wordAt 2 = .ok (.iload_n 1, 1) := by decide +kernel
theorem dX6_wordAt_3 : decode cX6_wordAt 3 = .ok (.imul, 1) := by decide +kernel
theorem dX6_wordAt_4 : decode cX6_wordAt 4 = .ok (.ishr, 1) := by decide +kernel
theorem dX6_wordAt_5 : decode cX6_wordAt 5 = .ok (.bipush 31, 2) := by decide +kernel
theorem dX6_wordAt_7 : decode cX6_wordAt 7 = .ok (.iand, 1) := by decide +kernel
theorem dX6_wordAt_8 : decode cX6_wordAt 8 = .ok (.ireturn, 1) := by decide +kernel
theorem dX6_lengthOf_0 : decode cX6_lengthOf 0 = .ok (.iconst 0, 1) := by decide +kernel
theorem dX6_lengthOf_1 : decode cX6_lengthOf 1 = .ok (.istore_n 1, 1) := by decide +kernel
theorem dX6_lengthOf_2 : decode cX6_lengthOf 2 = .ok (.iload_n 1, 1) := by decide +kernel
theorem dX6_lengthOf_3 : decode cX6_lengthOf 3 = .ok (.bipush 6, 2) := by decide +kernel
theorem dX6_lengthOf_5 : decode cX6_lengthOf 5 = .ok (.if_icmp .ge 17, 3) := by decide +kernel
theorem dX6_lengthOf_8 : decode cX6_lengthOf 8 = .ok (.iload_n 0, 1) := by decide +kernel
theorem dX6_lengthOf_9 : decode cX6_lengthOf 9 = .ok (.iload_n 1, 1) := by decide +kernel
theorem dX6_lengthOf_10 : decode cX6_lengthOf 10 = .ok (.invokestatic 98, 3) := by decide +kernel
theorem dX6_lengthOf_13 : decode cX6_lengthOf 13 = .ok (.ifCond .eq 9, 3) := by decide +kernel
theorem dX6_lengthOf_16 : decode cX6_lengthOf 16 = .ok (.iinc 1 1, 3) := by decide +kernel
theorem dX6_lengthOf_19 : decode cX6_lengthOf 19 = .ok (.goto (-17), 3) := by decide +kernel
theorem dX6_lengthOf_22 : decode cX6_lengthOf 22 = .ok (.iload_n 1, 1) := by decide +kernel
theorem dX6_lengthOf_23 : decode cX6_lengthOf 23 = .ok (.ireturn, 1) := by decide +kernel
theorem dX6_isRow_0 : decode cX6_isRow 0 = .ok (.iload_n 0, 1) := by decide +kernel
theorem dX6_isRow_1 : decode cX6_isRow 1 = .ok (.ifCond .le 24, 3) := by decide +kernel
theorem dX6_isRow_4 : decode cX6_isRow 4 = .ok (.iload_n 0, 1) := by decide +kernel
theorem dX6_isRow_5 : decode cX6_isRow 5 = .ok (.ldc 102, 2) := by decide +kernel
theorem dX6_isRow_7 : decode cX6_isRow 7 = .ok (.if_icmp .ge 18, 3) := by decide +kernel
theorem dX6_isRow_10 : decode cX6_isRow 10 = .ok (.iload_n 0, 1) := by decide +kernel
theorem dX6_isRow_11 : decode cX6_isRow 11 = .ok (.iconst 5, 1) := by decide +kernel
theorem dX6_isRow_12 : decode cX6_isRow 12 = .ok (.iload_n 0, 1) := by decide +kernel
theorem dX6_isRow_13 : decode cX6_isRow 13 = .ok (.invokestatic 103, 3) := by decide +kernel
theorem dX6_isRow_16 : decode cX6_isRow 16 = .ok (.imul, 1) := by decide +kernel
theorem dX6_isRow_17 : decode cX6_isRow 17 = .ok (.ishr, 1) := by decide +kernel
theorem dX6_isRow_18 : decode cX6_isRow 18 = .ok (.ifCond .ne 7, 3) := by decide +kernel
theorem dX6_isRow_21 : decode cX6_isRow 21 = .ok (.iconst 1, 1) := by decide +kernel
theorem dX6_isRow_22 : decode cX6_isRow 22 = .ok (.goto 4, 3) := by decide +kernel
theorem dX6_isRow_25 : decode cX6_isRow 25 = .ok (.iconst 0, 1) := by decide +kernel
theorem dX6_isRow_26 : decode cX6_isRow 26 = .ok (.ireturn, 1) := by decide +kernel
theorem dX6_entryFor_0 : decode cX6_entryFor 0 = .ok (.iload_n 2, 1) := by decide +kernel
theorem dX6_entryFor_1 : decode cX6_entryFor 1 = .ok (.istore 4, 2) := by decide +kernel
theorem dX6_entryFor_3 : decode cX6_entryFor 3 = .ok (.iload 4, 2) := by decide +kernel
theorem dX6_entryFor_5 : decode cX6_entryFor 5 = .ok (.iconst (-1), 1) := by decide +kernel
theorem dX6_entryFor_6 : decode cX6_entryFor 6 = .ok (.if_icmp .eq 40, 3) := by decide +kernel
theorem dX6_entryFor_9 : decode cX6_entryFor 9 = .ok (.aload_n 0, 1) := by decide +kernel
theorem dX6_entryFor_10 : decode cX6_entryFor 10 = .ok (.getfield 23, 3) := by decide +kernel
theorem dX6_entryFor_13 : decode cX6_entryFor 13 = .ok (.iconst 5, 1) := by decide +kernel
theorem dX6_entryFor_14 : decode cX6_entryFor 14 = .ok (.bipush 16, 2) := by decide +kernel
theorem dX6_entryFor_16 : decode cX6_entryFor 16 = .ok (.iload_n 1, 1) := by decide +kernel
theorem dX6_entryFor_17 : decode cX6_entryFor 17 = .ok (.imul, 1) := by decide +kernel
theorem dX6_entryFor_18 : decode cX6_entryFor 18 = .ok (.iload 4, 2) := by decide +kernel
theorem dX6_entryFor_20 : decode cX6_entryFor 20 = .ok (.iadd, 1) := by decide +kernel
theorem dX6_entryFor_21 : decode cX6_entryFor 21 = .ok (.imul, 1) := by decide +kernel
theorem dX6_entryFor_22 : decode cX6_entryFor 22 = .ok (.iload_n 3, 1) := by decide +kernel
theorem dX6_entryFor_23 : decode cX6_entryFor 23 = .ok (.iadd, 1) := by decide +kernel
theorem dX6_entryFor_24 : decode cX6_entryFor 24 = .ok (.iaload, 1) := by decide +kernel
theorem dX6_entryFor_25 : decode cX6_entryFor 25 = .ok (.iconst 4, 1) := by decide +kernel
theorem dX6_entryFor_26 : decode cX6_entryFor 26 = .ok (.if_icmp .ne 20, 3) := by decide +kernel
theorem dX6_entryFor_29 : decode cX6_entryFor 29 = .ok (.aload_n 0, 1) := by decide +kernel
theorem dX6_entryFor_30 : decode cX6_entryFor 30 = .ok (.getfield 13, 3) := by decide +kernel
theorem dX6_entryFor_33 : decode cX6_entryFor 33 = .ok (.bipush 16, 2) := by decide +kernel
theorem dX6_entryFor_35 : decode cX6_entryFor 35 = .ok (.iload_n 1, 1) := by decide +kernel
theorem dX6_entryFor_36 : decode cX6_entryFor 36 = .ok (.imul, 1) := by decide +kernel
theorem dX6_entryFor_37 : decode cX6_entryFor 37 = .ok (.iload 4, 2) := by decide +kernel
theorem dX6_entryFor_39 : decode cX6_entryFor 39 = .ok (.iadd, 1) := by decide +kernel
theorem dX6_entryFor_40 : decode cX6_entryFor 40 = .ok (.iaload, 1) := by decide +kernel
theorem dX6_entryFor_41 : decode cX6_entryFor 41 = .ok (.istore 4, 2) := by decide +kernel
theorem dX6_entryFor_43 : decode cX6_entryFor 43 = .ok (.goto (-40), 3) := by decide +kernel
theorem dX6_entryFor_46 : decode cX6_entryFor 46 = .ok (.iload 4, 2) := by decide +kernel
theorem dX6_entryFor_48 : decode cX6_entryFor 48 = .ok (.iconst (-1), 1) := by decide +kernel
theorem dX6_entryFor_49 : decode cX6_entryFor 49 = .ok (.if_icmp .ne 7, 3) := by decide +kernel
theorem dX6_entryFor_52 : decode cX6_entryFor 52 = .ok (.iconst (-1), 1) := by decide +kernel
theorem dX6_entryFor_53 : decode cX6_entryFor 53 = .ok (.goto 14, 3) := by decide +kernel
theorem dX6_entryFor_56 : decode cX6_entryFor 56 = .ok (.iconst 5, 1) := by decide +kernel
theorem dX6_entryFor_57 : decode cX6_entryFor 57 = .ok (.bipush 16, 2) := by decide +kernel
theorem dX6_entryFor_59 : decode cX6_entryFor 59 = .ok (.iload_n 1, 1) := by decide +kernel
theorem dX6_entryFor_60 : decode cX6_entryFor 60 = .ok (.imul, 1) := by decide +kernel
theorem dX6_entryFor_61 : decode cX6_entryFor 61 = .ok (.iload 4, 2) := by decide +kernel
theorem dX6_entryFor_63 : decode cX6_entryFor 63 = .ok (.iadd, 1) := by decide +kernel
theorem dX6_entryFor_64 : decode cX6_entryFor 64 = .ok (.imul, 1) := by decide +kernel
theorem dX6_entryFor_65 : decode cX6_entryFor 65 = .ok (.iload_n 3, 1) := by decide +kernel
theorem dX6_entryFor_66 : decode cX6_entryFor 66 = .ok (.iadd, 1) := by decide +kernel
theorem dX6_entryFor_67 : decode cX6_entryFor 67 = .ok (.ireturn, 1) := by decide +kernel
theorem dX6_has_0 : decode cX6_has 0 = .ok (.aload_n 0, 1) := by decide +kernel
theorem dX6_has_1 : decode cX6_has 1 = .ok (.iload_n 1, 1) := by decide +kernel
theorem dX6_has_2 : decode cX6_has 2 = .ok (.iload_n 2, 1) := by decide +kernel
theorem dX6_has_3 : decode cX6_has 3 = .ok (.iload_n 3, 1) := by decide +kernel
theorem dX6_has_4 : decode cX6_has 4 = .ok (.invokevirtual 107, 3) := by decide +kernel
theorem dX6_has_7 : decode cX6_has 7 = .ok (.istore 4, 2) := by decide +kernel
theorem dX6_has_9 : decode cX6_has 9 = .ok (.iload 4, 2) := by decide +kernel
theorem dX6_has_11 : decode cX6_has 11 = .ok (.iconst (-1), 1) := by decide +kernel
theorem dX6_has_12 : decode cX6_has 12 = .ok (.if_icmp .eq 14, 3) := by decide +kernel
theorem dX6_has_15 : decode cX6_has 15 = .ok (.aload_n 0, 1) := by decide +kernel
theorem dX6_has_16 : decode cX6_has 16 = .ok (.getfield 23, 3) := by decide +kernel
theorem dX6_has_19 : decode cX6_has 19 = .ok (.iload 4, 2) := by decide +kernel
theorem dX6_has_21 : decode cX6_has 21 = .ok (.iaload, 1) := by decide +kernel
theorem dX6_has_22 : decode cX6_has 22 = .ok (.iconst 3, 1) := by decide +kernel
theorem dX6_has_23 : decode cX6_has 23 = .ok (.if_icmp .ne 7, 3) := by decide +kernel
theorem dX6_has_26 : decode cX6_has 26 = .ok (.iconst (-1), 1) := by decide +kernel
theorem dX6_has_27 : decode cX6_has 27 = .ok (.goto 5, 3) := by decide +kernel
theorem dX6_has_30 : decode cX6_has 30 = .ok (.iload 4, 2) := by decide +kernel
theorem dX6_has_32 : decode cX6_has 32 = .ok (.ireturn, 1) := by decide +kernel
theorem dX6_costOf_0 : decode cX6_costOf 0 = .ok (.aload_n 0, 1) := by decide +kernel
theorem dX6_costOf_1 : decode cX6_costOf 1 = .ok (.getfield 23, 3) := by decide +kernel
theorem dX6_costOf_4 : decode cX6_costOf 4 = .ok (.iload_n 1, 1) := by decide +kernel
theorem dX6_costOf_5 : decode cX6_costOf 5 = .ok (.iaload, 1) := by decide +kernel
theorem dX6_costOf_6 : decode cX6_costOf 6 = .ok (.istore_n 2, 1) := by decide +kernel
theorem dX6_costOf_7 : decode cX6_costOf 7 = .ok (.iload_n 2, 1) := by decide +kernel
theorem dX6_costOf_8 : decode cX6_costOf 8 = .ok (.iconst 4, 1) := by decide +kernel
theorem dX6_costOf_9 : decode cX6_costOf 9 = .ok (.if_icmp .ne 7, 3) := by decide +kernel
theorem dX6_costOf_12 : decode cX6_costOf 12 = .ok (.iconst 0, 1) := by decide +kernel
theorem dX6_costOf_13 : decode cX6_costOf 13 = .ok (.goto 29, 3) := by decide +kernel
theorem dX6_costOf_16 : decode cX6_costOf 16 = .ok (.iload_n 2, 1) := by decide +kernel
theorem dX6_costOf_17 : decode cX6_costOf 17 = .ok (.ifCond .ne 7, 3) := by decide +kernel
theorem dX6_costOf_20 : decode cX6_costOf 20 = .ok (.iconst 2, 1) := by decide +kernel
theorem dX6_costOf_21 : decode cX6_costOf 21 = .ok (.goto 21, 3) := by decide +kernel
theorem dX6_costOf_24 : decode cX6_costOf 24 = .ok (.iload_n 2, 1) := by decide +kernel
theorem dX6_costOf_25 : decode cX6_costOf 25 = .ok (.iconst 2, 1) := by decide +kernel
theorem dX6_costOf_26 : decode cX6_costOf 26 = .ok (.if_icmp .ne 15, 3) := by decide +kernel
theorem dX6_costOf_29 : decode cX6_costOf 29 = .ok (.aload_n 0, 1) := by decide +kernel
theorem dX6_costOf_30 : decode cX6_costOf 30 = .ok (.getfield 29, 3) := by decide +kernel
theorem dX6_costOf_33 : decode cX6_costOf 33 = .ok (.iload_n 1, 1) := by decide +kernel
theorem dX6_costOf_34 : decode cX6_costOf 34 = .ok (.iaload, 1) := by decide +kernel
theorem dX6_costOf_35 : decode cX6_costOf 35 = .ok (.invokestatic 103, 3) := by decide +kernel
theorem dX6_costOf_38 : decode cX6_costOf 38 = .ok (.goto 4, 3) := by decide +kernel
theorem dX6_costOf_41 : decode cX6_costOf 41 = .ok (.iconst 1, 1) := by decide +kernel
theorem dX6_costOf_42 : decode cX6_costOf 42 = .ok (.ireturn, 1) := by decide +kernel
theorem dX6_usedBy_0 : decode cX6_usedBy 0 = .ok (.iconst 0, 1) := by decide +kernel
theorem dX6_usedBy_1 : decode cX6_usedBy 1 = .ok (.istore_n 2, 1) := by decide +kernel
theorem dX6_usedBy_2 : decode cX6_usedBy 2 = .ok (.iconst 0, 1) := by decide +kernel
theorem dX6_usedBy_3 : decode cX6_usedBy 3 = .ok (.istore_n 3, 1) := by decide +kernel
theorem dX6_usedBy_4 : decode cX6_usedBy 4 = .ok (.iload_n 3, 1) := by decide +kernel
theorem dX6_usedBy_5 : decode cX6_usedBy 5 = .ok (.sipush 320, 3) := by decide +kernel
theorem dX6_usedBy_8 : decode cX6_usedBy 8 = .ok (.if_icmp .ge 44, 3) := by decide +kernel
theorem dX6_usedBy_11 : decode cX6_usedBy 11 = .ok (.iload_n 2, 1) := by decide +kernel
theorem dX6_usedBy_12 : decode cX6_usedBy 12 = .ok (.aload_n 0, 1) := by decide +kernel
theorem dX6_usedBy_13 : decode cX6_usedBy 13 = .ok (.getfield 7, 3) := by decide +kernel
theorem dX6_usedBy_16 : decode cX6_usedBy 16 = .ok (.iload_n 3, 1) := by decide +kernel
theorem dX6_usedBy_17 : decode cX6_usedBy 17 = .ok (.iconst 5, 1) := by decide +kernel
theorem dX6_usedBy_18 : decode cX6_usedBy 18 = .ok (.idiv, 1) := by decide +kernel
theorem dX6_usedBy_19 : decode cX6_usedBy 19 = .ok (.baload, 1) := by decide +kernel
theorem dX6_usedBy_20 : decode cX6_usedBy 20 = .ok (.ifCond .eq 23, 3) := by decide +kernel
theorem dX6_usedBy_23 : decode cX6_usedBy 23 = .ok (.aload_n 0, 1) := by decide +kernel
theorem dX6_usedBy_24 : decode cX6_usedBy 24 = .ok (.getfield 17, 3) := by decide +kernel
theorem dX6_usedBy_27 : decode cX6_usedBy 27 = .ok (.iload_n 3, 1) := by decide +kernel
theorem dX6_usedBy_28 : decode cX6_usedBy 28 = .ok (.iconst 5, 1) := by decide +kernel
theorem dX6_usedBy_29 : decode cX6_usedBy 29 = .ok (.idiv, 1) := by decide +kernel
theorem dX6_usedBy_30 : decode cX6_usedBy 30 = .ok (.iaload, 1) := by decide +kernel
theorem dX6_usedBy_31 : decode cX6_usedBy 31 = .ok (.iload_n 1, 1) := by decide +kernel
theorem dX6_usedBy_32 : decode cX6_usedBy 32 = .ok (.if_icmp .ne 11, 3) := by decide +kernel
theorem dX6_usedBy_35 : decode cX6_usedBy 35 = .ok (.aload_n 0, 1) := by decide +kernel
theorem dX6_usedBy_36 : decode cX6_usedBy 36 = .ok (.iload_n 3, 1) := by decide +kernel
theorem dX6_usedBy_37 : decode cX6_usedBy 37 = .ok (.invokevirtual 111, 3) := by decide +kernel
theorem dX6_usedBy_40 : decode cX6_usedBy 40 = .ok (.goto 4, 3) := by decide +kernel
theorem dX6_usedBy_43 : decode cX6_usedBy 43 = .ok (.iconst 0, 1) := by decide +kernel
theorem dX6_usedBy_44 : decode cX6_usedBy 44 = .ok (.iadd, 1) := by decide +kernel
theorem dX6_usedBy_45 : decode cX6_usedBy 45 = .ok (.istore_n 2, 1) := by decide +kernel
theorem dX6_usedBy_46 : decode cX6_usedBy 46 = .ok (.iinc 3 1, 3) := by decide +kernel
theorem dX6_usedBy_49 : decode cX6_usedBy 49 = .ok (.goto (-45), 3) := by decide +kernel
theorem dX6_usedBy_52 : decode cX6_usedBy 52 = .ok (.iconst 0, 1) := by decide +kernel
theorem dX6_usedBy_53 : decode cX6_usedBy 53 = .ok (.istore_n 3, 1) := by decide +kernel
theorem dX6_usedBy_54 : decode cX6_usedBy 54 = .ok (.iload_n 3, 1) := by decide +kernel
theorem dX6_usedBy_55 : decode cX6_usedBy 55 = .ok (.bipush 48, 2) := by decide +kernel
theorem dX6_usedBy_57 : decode cX6_usedBy 57 = .ok (.if_icmp .ge 31, 3) := by decide +kernel
theorem dX6_usedBy_60 : decode cX6_usedBy 60 = .ok (.iload_n 2, 1) := by decide +kernel
theorem dX6_usedBy_61 : decode cX6_usedBy 61 = .ok (.iload_n 3, 1) := by decide +kernel
theorem dX6_usedBy_62 : decode cX6_usedBy 62 = .ok (.bipush 12, 2) := by decide +kernel
theorem dX6_usedBy_64 : decode cX6_usedBy 64 = .ok (.irem, 1) := by decide +kernel
theorem dX6_usedBy_65 : decode cX6_usedBy 65 = .ok (.iconst 3, 1) := by decide +kernel
theorem dX6_usedBy_66 : decode cX6_usedBy 66 = .ok (.idiv, 1) := by decide +kernel
theorem dX6_usedBy_67 : decode cX6_usedBy 67 = .ok (.iload_n 1, 1) := by decide +kernel
theorem dX6_usedBy_68 : decode cX6_usedBy 68 = .ok (.if_icmp .ne 11, 3) := by decide +kernel
theorem dX6_usedBy_71 : decode cX6_usedBy 71 = .ok (.aload_n 0, 1) := by decide +kernel
theorem dX6_usedBy_72 : decode cX6_usedBy 72 = .ok (.iload_n 3, 1) := by decide +kernel
theorem dX6_usedBy_73 : decode cX6_usedBy 73 = .ok (.invokevirtual 114, 3) := by decide +kernel
theorem dX6_usedBy_76 : decode cX6_usedBy 76 = .ok (.goto 4, 3) := by decide +kernel
theorem dX6_usedBy_79 : decode cX6_usedBy 79 = .ok (.iconst 0, 1) := by decide +kernel
theorem dX6_usedBy_80 : decode cX6_usedBy 80 = .ok (.iadd, 1) := by decide +kernel
theorem dX6_usedBy_81 : decode cX6_usedBy 81 = .ok (.istore_n 2, 1) := by decide +kernel
theorem dX6_usedBy_82 : decode cX6_usedBy 82 = .ok (.iinc 3 1, 3) := by decide +kernel
theorem dX6_usedBy_85 : decode cX6_usedBy 85 = .ok (.goto (-31), 3) := by decide +kernel
theorem dX6_usedBy_88 : decode cX6_usedBy 88 = .ok (.iload_n 2, 1) := by decide +kernel
theorem dX6_usedBy_89 : decode cX6_usedBy 89 = .ok (.ireturn, 1) := by decide +kernel
theorem dX6_fits_0 : decode cX6_fits 0 = .ok (.iload_n 2, 1) := by decide +kernel
theorem dX6_fits_1 : decode cX6_fits 1 = .ok (.ifCond .le 19, 3) := by decide +kernel
theorem dX6_fits_4 : decode cX6_fits 4 = .ok (.aload_n 0, 1) := by decide +kernel
theorem dX6_fits_5 : decode cX6_fits 5 = .ok (.iload_n 1, 1) := by decide +kernel
theorem dX6_fits_6 : decode cX6_fits 6 = .ok (.invokevirtual 117, 3) := by decide +kernel
theorem dX6_fits_9 : decode cX6_fits 9 = .ok (.iload_n 2, 1) := by decide +kernel
theorem dX6_fits_10 : decode cX6_fits 10 = .ok (.iadd, 1) := by decide +kernel
theorem dX6_fits_11 : decode cX6_fits 11 = .ok (.aload_n 0, 1) := by decide +kernel
theorem dX6_fits_12 : decode cX6_fits 12 = .ok (.getfield 41, 3) := by decide +kernel
theorem dX6_fits_15 : decode cX6_fits 15 = .ok (.iload_n 1, 1) := by decide +kernel
theorem dX6_fits_16 : decode cX6_fits 16 = .ok (.iaload, 1) := by decide +kernel
theorem dX6_fits_17 : decode cX6_fits 17 = .ok (.if_icmp .gt 7, 3) := by decide +kernel
theorem dX6_fits_20 : decode cX6_fits 20 = .ok (.iconst 1, 1) := by decide +kernel
theorem dX6_fits_21 : decode cX6_fits 21 = .ok (.goto 4, 3) := by decide +kernel
theorem dX6_fits_24 : decode cX6_fits 24 = .ok (.iconst 0, 1) := by decide +kernel
theorem dX6_fits_25 : decode cX6_fits 25 = .ok (.ireturn, 1) := by decide +kernel
theorem dX6_addSheet_0 : decode cX6_addSheet 0 = .ok (.aload_n 0, 1) := by decide +kernel
theorem dX6_addSheet_1 : decode cX6_addSheet 1 = .ok (.aload_n 0, 1) := by decide +kernel
theorem dX6_addSheet_2 : decode cX6_addSheet 2 = .ok (.getfield 91, 3) := by decide +kernel
theorem dX6_addSheet_5 : decode cX6_addSheet 5 = .ok (.iconst 4, 1) := by decide +kernel
theorem dX6_addSheet_6 : decode cX6_addSheet 6 = .ok (.if_icmp .ne 7, 3) := by decide +kernel
theorem dX6_addSheet_9 : decode cX6_addSheet 9 = .ok (.iconst 1, 1) := by decide +kernel
theorem dX6_addSheet_10 : decode cX6_addSheet 10 = .ok (.goto 4, 3) := by decide +kernel
theorem dX6_addSheet_13 : decode cX6_addSheet 13 = .ok (.iconst 0, 1) := by decide +kernel
theorem dX6_addSheet_14 : decode cX6_addSheet 14 = .ok (.invokevirtual 120, 3) := by decide +kernel
theorem dX6_addSheet_17 : decode cX6_addSheet 17 = .ok (.ifCond .eq 5, 3) := by decide +kernel
theorem dX6_addSheet_20 : decode cX6_addSheet 20 = .ok (.iconst 0, 1) := by decide +kernel
theorem dX6_addSheet_21 : decode cX6_addSheet 21 = .ok (.ireturn, 1) := by decide +kernel
theorem dX6_addSheet_22 : decode cX6_addSheet 22 = .ok (.aload_n 0, 1) := by decide +kernel
theorem dX6_addSheet_23 : decode cX6_addSheet 23 = .ok (.getfield 7, 3) := by decide +kernel
theorem dX6_addSheet_26 : decode cX6_addSheet 26 = .ok (.bipush 16, 2) := by decide +kernel
theorem dX6_addSheet_28 : decode cX6_addSheet 28 = .ok (.aload_n 0, 1) := by decide +kernel
theorem dX6_addSheet_29 : decode cX6_addSheet 29 = .ok (.getfield 91, 3) := by decide +kernel
theorem dX6_addSheet_32 : decode cX6_addSheet 32 = .ok (.imul, 1) := by decide +kernel
theorem dX6_addSheet_33 : decode cX6_addSheet 33 = .ok (.iconst 1, 1) := by decide +kernel
theorem dX6_addSheet_34 : decode cX6_addSheet 34 = .ok (.bastore, 1) := by decide +kernel
theorem dX6_addSheet_35 : decode cX6_addSheet 35 = .ok (.aload_n 0, 1) := by decide +kernel
theorem dX6_addSheet_36 : decode cX6_addSheet 36 = .ok (.getfield 13, 3) := by decide +kernel
theorem dX6_addSheet_39 : decode cX6_addSheet 39 = .ok (.bipush 16, 2) := by decide +kernel
theorem dX6_addSheet_41 : decode cX6_addSheet 41 = .ok (.aload_n 0, 1) := by decide +kernel
theorem dX6_addSheet_42 : decode cX6_addSheet 42 = .ok (.getfield 91, 3) := by decide +kernel
theorem dX6_addSheet_45 : decode cX6_addSheet 45 = .ok (.imul, 1) := by decide +kernel
theorem dX6_addSheet_46 : decode cX6_addSheet 46 = .ok (.iconst (-1), 1) := by decide +kernel
theorem dX6_addSheet_47 : decode cX6_addSheet 47 = .ok (.iastore, 1) := by decide +kernel
theorem dX6_addSheet_48 : decode cX6_addSheet 48 = .ok (.aload_n 0, 1) := by decide +kernel
theorem dX6_addSheet_49 : decode cX6_addSheet 49 = .ok (.getfield 17, 3) := by decide +kernel
theorem dX6_addSheet_52 : decode cX6_addSheet 52 = .ok (.bipush 16, 2) := by decide +kernel
theorem dX6_addSheet_54 : decode cX6_addSheet 54 = .ok (.aload_n 0, 1) := by decide +kernel
theorem dX6_addSheet_55 : decode cX6_addSheet 55 = .ok (.getfield 91, 3) := by decide +kernel
theorem dX6_addSheet_58 : decode cX6_addSheet 58 = .ok (.imul, 1) := by decide +kernel
theorem dX6_addSheet_59 : decode cX6_addSheet 59 = .ok (.iconst (-1), 1) := by decide +kernel
theorem dX6_addSheet_60 : decode cX6_addSheet 60 = .ok (.iastore, 1) := by decide +kernel
theorem dX6_addSheet_61 : decode cX6_addSheet 61 = .ok (.aload_n 0, 1) := by decide +kernel
theorem dX6_addSheet_62 : decode cX6_addSheet 62 = .ok (.getfield 20, 3) := by decide +kernel
theorem dX6_addSheet_65 : decode cX6_addSheet 65 = .ok (.aload_n 0, 1) := by decide +kernel
theorem dX6_addSheet_66 : decode cX6_addSheet 66 = .ok (.getfield 91, 3) := by decide +kernel
theorem dX6_addSheet_69 : decode cX6_addSheet 69 = .ok (.iconst 1, 1) := by decide +kernel
theorem dX6_addSheet_70 : decode cX6_addSheet 70 = .ok (.iastore, 1) := by decide +kernel
theorem dX6_addSheet_71 : decode cX6_addSheet 71 = .ok (.aload_n 0, 1) := by decide +kernel
theorem dX6_addSheet_72 : decode cX6_addSheet 72 = .ok (.dup, 1) := by decide +kernel
theorem dX6_addSheet_73 : decode cX6_addSheet 73 = .ok (.getfield 91, 3) := by decide +kernel
theorem dX6_addSheet_76 : decode cX6_addSheet 76 = .ok (.iconst 1, 1) := by decide +kernel
theorem dX6_addSheet_77 : decode cX6_addSheet 77 = .ok (.iadd, 1) := by decide +kernel
theorem dX6_addSheet_78 : decode cX6_addSheet 78 = .ok (.putfield 91, 3) := by decide +kernel
theorem dX6_addSheet_81 : decode cX6_addSheet 81 = .ok (.aload_n 0, 1) := by decide +kernel
theorem dX6_addSheet_82 : decode cX6_addSheet 82 = .ok (.getfield 91, 3) := by decide +kernel
theorem dX6_addSheet_85 : decode cX6_addSheet 85 = .ok (.iconst 1, 1) := by decide +kernel
theorem dX6_addSheet_86 : decode cX6_addSheet 86 = .ok (.isub, 1) := by decide +kernel
theorem dX6_addSheet_87 : decode cX6_addSheet 87 = .ok (.ireturn, 1) := by decide +kernel
theorem dX6_canRevise_0 : decode cX6_canRevise 0 = .ok (.aload_n 0, 1) := by decide +kernel
theorem dX6_canRevise_1 : decode cX6_canRevise 1 = .ok (.getfield 20, 3) := by decide +kernel
theorem dX6_canRevise_4 : decode cX6_canRevise 4 = .ok (.iload_n 2, 1) := by decide +kernel
theorem dX6_canRevise_5 : decode cX6_canRevise 5 = .ok (.iaload, 1) := by decide +kernel
theorem dX6_canRevise_6 : decode cX6_canRevise 6 = .ok (.bipush 16, 2) := by decide +kernel
theorem dX6_canRevise_8 : decode cX6_canRevise 8 = .ok (.if_icmp .ge 16, 3) := by decide +kernel
theorem dX6_canRevise_11 : decode cX6_canRevise 11 = .ok (.aload_n 0, 1) := by decide +kernel
theorem dX6_canRevise_12 : decode cX6_canRevise 12 = .ok (.iload_n 1, 1) := by decide +kernel
theorem dX6_canRevise_13 : decode cX6_canRevise 13 = .ok (.iload_n 3, 1) := by decide +kernel
theorem dX6_canRevise_14 : decode cX6_canRevise 14 = .ok (.invokevirtual 123, 3) := by decide +kernel
theorem dX6_canRevise_17 : decode cX6_canRevise 17 = .ok (.ifCond .eq 7, 3) := by decide +kernel
theorem dX6_canRevise_20 : decode cX6_canRevise 20 = .ok (.iconst 1, 1) := by decide +kernel
theorem dX6_canRevise_21 : decode cX6_canRevise 21 = .ok (.goto 4, 3) := by decide +kernel
theorem dX6_canRevise_24 : decode cX6_canRevise 24 = .ok (.iconst 0, 1) := by decide +kernel
theorem dX6_canRevise_25 : decode cX6_canRevise 25 = .ok (.ireturn, 1) := by decide +kernel
theorem dX6_revise_0 : decode cX6_revise 0 = .ok (.aload_n 0, 1) := by decide +kernel
theorem dX6_revise_1 : decode cX6_revise 1 = .ok (.getfield 20, 3) := by decide +kernel
theorem dX6_revise_4 : decode cX6_revise 4 = .ok (.iload_n 2, 1) := by decide +kernel
theorem dX6_revise_5 : decode cX6_revise 5 = .ok (.iaload, 1) := by decide +kernel
theorem dX6_revise_6 : decode cX6_revise 6 = .ok (.istore 8, 2) := by decide +kernel
theorem dX6_revise_8 : decode cX6_revise 8 = .ok (.bipush 16, 2) := by decide +kernel
theorem dX6_revise_10 : decode cX6_revise 10 = .ok (.iload_n 2, 1) := by decide +kernel
theorem dX6_revise_11 : decode cX6_revise 11 = .ok (.imul, 1) := by decide +kernel
theorem dX6_revise_12 : decode cX6_revise 12 = .ok (.iload 8, 2) := by decide +kernel
theorem dX6_revise_14 : decode cX6_revise 14 = .ok (.iadd, 1) := by decide +kernel
theorem dX6_revise_15 : decode cX6_revise 15 = .ok (.istore 9, 2) := by decide +kernel
theorem dX6_revise_17 : decode cX6_revise 17 = .ok (.aload_n 0, 1) := by decide +kernel
theorem dX6_revise_18 : decode cX6_revise 18 = .ok (.getfield 7, 3) := by decide +kernel
theorem dX6_revise_21 : decode cX6_revise 21 = .ok (.iload 9, 2) := by decide +kernel
theorem dX6_revise_23 : decode cX6_revise 23 = .ok (.iconst 1, 1) := by decide +kernel
theorem dX6_revise_24 : decode cX6_revise 24 = .ok (.bastore, 1) := by decide +kernel
theorem dX6_revise_25 : decode cX6_revise 25 = .ok (.aload_n 0, 1) := by decide +kernel
theorem dX6_revise_26 : decode cX6_revise 26 = .ok (.getfield 13, 3) := by decide +kernel
theorem dX6_revise_29 : decode cX6_revise 29 = .ok (.iload 9, 2) := by decide +kernel
theorem dX6_revise_31 : decode cX6_revise 31 = .ok (.aload_n 0, 1) := by decide +kernel
theorem dX6_revise_32 : decode cX6_revise 32 = .ok (.getfield 35, 3) := by decide +kernel
theorem dX6_revise_35 : decode cX6_revise 35 = .ok (.iconst 4, 1) := by decide +kernel
theorem dX6_revise_36 : decode cX6_revise 36 = .ok (.iload_n 2, 1) := by decide +kernel
theorem dX6_revise_37 : decode cX6_revise 37 = .ok (.imul, 1) := by decide +kernel
theorem dX6_revise_38 : decode cX6_revise 38 = .ok (.iload_n 1, 1) := by decide +kernel
theorem dX6_revise_39 : decode cX6_revise 39 = .ok (.iadd, 1) := by decide +kernel
theorem dX6_revise_40 : decode cX6_revise 40 = .ok (.iaload, 1) := by decide +kernel
theorem dX6_revise_41 : decode cX6_revise 41 = .ok (.iastore, 1) := by decide +kernel
theorem dX6_revise_42 : decode cX6_revise 42 = .ok (.aload_n 0, 1) := by decide +kernel
theorem dX6_revise_43 : decode cX6_revise 43 = .ok (.getfield 17, 3) := by decide +kernel
theorem dX6_revise_46 : decode cX6_revise 46 = .ok (.iload 9, 2) := by decide +kernel
theorem dX6_revise_48 : decode cX6_revise 48 = .ok (.iload_n 1, 1) := by decide +kernel
theorem dX6_revise_49 : decode cX6_revise 49 = .ok (.iastore, 1) := by decide +kernel
theorem dX6_revise_50 : decode cX6_revise 50 = .ok (.aload_n 0, 1) := by decide +kernel
theorem dX6_revise_51 : decode cX6_revise 51 = .ok (.getfield 20, 3) := by decide +kernel
theorem dX6_revise_54 : decode cX6_revise 54 = .ok (.iload_n 2, 1) := by decide +kernel
theorem dX6_revise_55 : decode cX6_revise 55 = .ok (.dup2, 1) := by decide +kernel
theorem dX6_revise_56 : decode cX6_revise 56 = .ok (.iaload, 1) := by decide +kernel
theorem dX6_revise_57 : decode cX6_revise 57 = .ok (.iconst 1, 1) := by decide +kernel
theorem dX6_revise_58 : decode cX6_revise 58 = .ok (.iadd, 1) := by decide +kernel
theorem dX6_revise_59 : decode cX6_revise 59 = .ok (.iastore, 1) := by decide +kernel
theorem dX6_revise_60 : decode cX6_revise 60 = .ok (.aload_n 0, 1) := by decide +kernel
theorem dX6_revise_61 : decode cX6_revise 61 = .ok (.getfield 35, 3) := by decide +kernel
theorem dX6_revise_64 : decode cX6_revise 64 = .ok (.iconst 4, 1) := by decide +kernel
theorem dX6_revise_65 : decode cX6_revise 65 = .ok (.iload_n 2, 1) := by decide +kernel
theorem dX6_revise_66 : decode cX6_revise 66 = .ok (.imul, 1) := by decide +kernel
theorem dX6_revise_67 : decode cX6_revise 67 = .ok (.iload_n 1, 1) := by decide +kernel
theorem dX6_revise_68 : decode cX6_revise 68 = .ok (.iadd, 1) := by decide +kernel
theorem dX6_revise_69 : decode cX6_revise 69 = .ok (.iload 8, 2) := by decide +kernel
theorem dX6_revise_71 : decode cX6_revise 71 = .ok (.iastore, 1) := by decide +kernel
theorem dX6_revise_72 : decode cX6_revise 72 = .ok (.iconst 5, 1) := by decide +kernel
theorem dX6_revise_73 : decode cX6_revise 73 = .ok (.iload 9, 2) := by decide +kernel
theorem dX6_revise_75 : decode cX6_revise 75 = .ok (.imul, 1) := by decide +kernel
theorem dX6_revise_76 : decode cX6_revise 76 = .ok (.iload_n 3, 1) := by decide +kernel
theorem dX6_revise_77 : decode cX6_revise 77 = .ok (.iadd, 1) := by decide +kernel
theorem dX6_revise_78 : decode cX6_revise 78 = .ok (.istore 10, 2) := by decide +kernel
theorem dX6_revise_80 : decode cX6_revise 80 = .ok (.aload_n 0, 1) := by decide +kernel
theorem dX6_revise_81 : decode cX6_revise 81 = .ok (.getfield 23, 3) := by decide +kernel
theorem dX6_revise_84 : decode cX6_revise 84 = .ok (.iload 10, 2) := by decide +kernel
theorem dX6_revise_86 : decode cX6_revise 86 = .ok (.iload 4, 2) := by decide +kernel
theorem dX6_revise_88 : decode cX6_revise 88 = .ok (.iastore, 1) := by decide +kernel
theorem dX6_revise_89 : decode cX6_revise 89 = .ok (.aload_n 0, 1) := by decide +kernel
theorem dX6_revise_90 : decode cX6_revise 90 = .ok (.getfield 26, 3) := by decide +kernel
theorem dX6_revise_93 : decode cX6_revise 93 = .ok (.iload 10, 2) := by decide +kernel
theorem dX6_revise_95 : decode cX6_revise 95 = .ok (.iload 5, 2) := by decide +kernel
theorem dX6_revise_97 : decode cX6_revise 97 = .ok (.iastore, 1) := by decide +kernel
theorem dX6_revise_98 : decode cX6_revise 98 = .ok (.aload_n 0, 1) := by decide +kernel
theorem dX6_revise_99 : decode cX6_revise 99 = .ok (.getfield 29, 3) := by decide +kernel
theorem dX6_revise_102 : decode cX6_revise 102 = .ok (.iload 10, 2) := by decide +kernel
theorem dX6_revise_104 : decode cX6_revise 104 = .ok (.iload 6, 2) := by decide +kernel
theorem dX6_revise_106 : decode cX6_revise 106 = .ok (.iastore, 1) := by decide +kernel
theorem dX6_revise_107 : decode cX6_revise 107 = .ok (.aload_n 0, 1) := by decide +kernel
theorem dX6_revise_108 : decode cX6_revise 108 = .ok (.getfield 32, 3) := by decide +kernel
theorem dX6_revise_111 : decode cX6_revise 111 = .ok (.iload 10, 2) := by decide +kernel
theorem dX6_revise_113 : decode cX6_revise 113 = .ok (.iload 7, 2) := by decide +kernel
theorem dX6_revise_115 : decode cX6_revise 115 = .ok (.iastore, 1) := by decide +kernel
theorem dX6_revise_116 : decode cX6_revise 116 = .ok (.iload 8, 2) := by decide +kernel
theorem dX6_revise_118 : decode cX6_revise 118 = .ok (.ireturn, 1) := by decide +kernel
theorem dX6_canName_0 : decode cX6_canName 0 = .ok (.iload_n 1, 1) := by decide +kernel
theorem dX6_canName_1 : decode cX6_canName 1 = .ok (.invokestatic 127, 3) := by decide +kernel
theorem dX6_canName_4 : decode cX6_canName 4 = .ok (.ifCond .eq 22, 3) := by decide +kernel
theorem dX6_canName_7 : decode cX6_canName 7 = .ok (.aload_n 0, 1) := by decide +kernel
theorem dX6_canName_8 : decode cX6_canName 8 = .ok (.iload_n 2, 1) := by decide +kernel
theorem dX6_canName_9 : decode cX6_canName 9 = .ok (.invokevirtual 94, 3) := by decide +kernel
theorem dX6_canName_12 : decode cX6_canName 12 = .ok (.ifCond .eq 14, 3) := by decide +kernel
theorem dX6_canName_15 : decode cX6_canName 15 = .ok (.iload_n 3, 1) := by decide +kernel
theorem dX6_canName_16 : decode cX6_canName 16 = .ok (.invokestatic 130, 3) := by decide +kernel
theorem dX6_canName_19 : decode cX6_canName 19 = .ok (.ifCond .eq 7, 3) := by decide +kernel
theorem dX6_canName_22 : decode cX6_canName 22 = .ok (.iconst 1, 1) := by decide +kernel
theorem dX6_canName_23 : decode cX6_canName 23 = .ok (.goto 4, 3) := by decide +kernel
theorem dX6_canName_26 : decode cX6_canName 26 = .ok (.iconst 0, 1) := by decide +kernel
theorem dX6_canName_27 : decode cX6_canName 27 = .ok (.ireturn, 1) := by decide +kernel
theorem dX6_setNumber_0 : decode cX6_setNumber 0 = .ok (.iload 4, 2) := by decide +kernel
theorem dX6_setNumber_2 : decode cX6_setNumber 2 = .ok (.iconst 1, 1) := by decide +kernel
theorem dX6_setNumber_3 : decode cX6_setNumber 3 = .ok (.bipush 10, 2) := by decide +kernel
theorem dX6_setNumber_5 : decode cX6_setNumber 5 = .ok (.invokestatic 87, 3) := by decide +kernel
theorem dX6_setNumber_8 : decode cX6_setNumber 8 = .ok (.ifCond .eq 32, 3) := by decide +kernel
theorem dX6_setNumber_11 : decode cX6_setNumber 11 = .ok (.iload 5, 2) := by decide +kernel
theorem dX6_setNumber_13 : decode cX6_setNumber 13 = .ok (.sipush (-1000), 3) := by decide +kernel
theorem dX6_setNumber_16 : decode cX6_setNumber 16 = .ok (.sipush 1000, 3) := by decide +kernel
theorem dX6_setNumber_19 : decode cX6_setNumber 19 = .ok (.invokestatic 87, 3) := by decide +kernel
theorem dX6_setNumber_22 : decode cX6_setNumber 22 = .ok (.ifCond .eq 18, 3) := by decide +kernel
theorem dX6_setNumber_25 : decode cX6_setNumber 25 = .ok (.iload 6, 2) := by decide +kernel
theorem dX6_setNumber_27 : decode cX6_setNumber 27 = .ok (.iconst 0, 1) := by decide +kernel
theorem dX6_setNumber_28 : decode cX6_setNumber 28 = .ok (.bipush 100, 2) := by decide +kernel
theorem dX6_setNumber_30 : decode cX6_setNumber 30 = .ok (.invokestatic 87, 3) := by decide +kernel
theorem dX6_setNumber_33 : decode cX6_setNumber 33 = .ok (.ifCond .eq 7, 3) := by decide +kernel
theorem dX6_setNumber_36 : decode cX6_setNumber 36 = .ok (.iconst 1, 1) := by decide +kernel
theorem dX6_setNumber_37 : decode cX6_setNumber 37 = .ok (.goto 4, 3) := by decide +kernel
theorem dX6_setNumber_40 : decode cX6_setNumber 40 = .ok (.iconst 0, 1) := by decide +kernel
theorem dX6_setNumber_41 : decode cX6_setNumber 41 = .ok (.istore 7, 2) := by decide +kernel
theorem dX6_setNumber_43 : decode cX6_setNumber 43 = .ok (.aload_n 0, 1) := by decide +kernel
theorem dX6_setNumber_44 : decode cX6_setNumber 44 = .ok (.iload_n 1, 1) := by decide +kernel
theorem dX6_setNumber_45 : decode cX6_setNumber 45 = .ok (.iload_n 2, 1) := by decide +kernel
theorem dX6_setNumber_46 : decode cX6_setNumber 46 = .ok (.iload_n 3, 1) := by decide +kernel
theorem dX6_setNumber_47 : decode cX6_setNumber 47 = .ok (.invokevirtual 133, 3) := by decide +kernel
theorem dX6_setNumber_50 : decode cX6_setNumber 50 = .ok (.ifCond .eq 22, 3) := by decide +kernel
theorem dX6_setNumber_53 : decode cX6_setNumber 53 = .ok (.iload 7, 2) := by decide +kernel
theorem dX6_setNumber_55 : decode cX6_setNumber 55 = .ok (.ifCond .eq 17, 3) := by decide +kernel
theorem dX6_setNumber_58 : decode cX6_setNumber 58 = .ok (.aload_n 0, 1) := by decide +kernel
theorem dX6_setNumber_59 : decode cX6_setNumber 59 = .ok (.iload_n 1, 1) := by decide +kernel
theorem dX6_setNumber_60 : decode cX6_setNumber 60 = .ok (.iload_n 2, 1) := by decide +kernel
theorem dX6_setNumber_61 : decode cX6_setNumber 61 = .ok (.iconst 2, 1) := by decide +kernel
theorem dX6_setNumber_62 : decode cX6_setNumber 62 = .ok (.invokevirtual 136, 3) := by decide +kernel
theorem dX6_setNumber_65 : decode cX6_setNumber 65 = .ok (.ifCond .eq 7, 3) := by decide +kernel
theorem dX6_setNumber_68 : decode cX6_setNumber 68 = .ok (.iconst 1, 1) := by decide +kernel
theorem dX6_setNumber_69 : decode cX6_setNumber 69 = .ok (.goto 4, 3) := by decide +kernel
theorem dX6_setNumber_72 : decode cX6_setNumber 72 = .ok (.iconst 0, 1) := by decide +kernel
theorem dX6_setNumber_73 : decode cX6_setNumber 73 = .ok (.istore 8, 2) := by decide +kernel
theorem dX6_setNumber_75 : decode cX6_setNumber 75 = .ok (.aload_n 0, 1) := by decide +kernel
theorem dX6_setNumber_76 : decode cX6_setNumber 76 = .ok (.aload_n 0, 1) := by decide +kernel
theorem dX6_setNumber_77 : decode cX6_setNumber 77 = .ok (.iload_n 1, 1) := by decide +kernel
theorem dX6_setNumber_78 : decode cX6_setNumber 78 = .ok (.iload_n 2, 1) := by decide +kernel
theorem dX6_setNumber_79 : decode cX6_setNumber 79 = .ok (.iload_n 3, 1) := by decide +kernel
theorem dX6_setNumber_80 : decode cX6_setNumber 80 = .ok (.invokevirtual 133, 3) := by decide +kernel
theorem dX6_setNumber_83 : decode cX6_setNumber 83 = .ok (.ifCond .ne 7, 3) := by decide +kernel
theorem dX6_setNumber_86 : decode cX6_setNumber 86 = .ok (.iconst 1, 1) := by decide +kernel
theorem dX6_setNumber_87 : decode cX6_setNumber 87 = .ok (.goto 22, 3) := by decide +kernel
theorem dX6_setNumber_90 : decode cX6_setNumber 90 = .ok (.iload 7, 2) := by decide +kernel
theorem dX6_setNumber_92 : decode cX6_setNumber 92 = .ok (.ifCond .ne 7, 3) := by decide +kernel
theorem dX6_setNumber_95 : decode cX6_setNumber 95 = .ok (.iconst 2, 1) := by decide +kernel
theorem dX6_setNumber_96 : decode cX6_setNumber 96 = .ok (.goto 13, 3) := by decide +kernel
theorem dX6_setNumber_99 : decode cX6_setNumber 99 = .ok (.iload 8, 2) := by decide +kernel
theorem dX6_setNumber_101 : decode cX6_setNumber 101 = .ok (.ifCond .eq 7, 3) := by decide +kernel
theorem dX6_setNumber_104 : decode cX6_setNumber 104 = .ok (.iconst 0, 1) := by decide +kernel
theorem dX6_setNumber_105 : decode cX6_setNumber 105 = .ok (.goto 4, 3) := by decide +kernel
theorem dX6_setNumber_108 : decode cX6_setNumber 108 = .ok (.iconst 3, 1) := by decide +kernel
theorem dX6_setNumber_109 : decode cX6_setNumber 109 = .ok (.invokevirtual 120, 3) := by decide +kernel
theorem dX6_setNumber_112 : decode cX6_setNumber 112 = .ok (.ifCond .eq 5, 3) := by decide +kernel
theorem dX6_setNumber_115 : decode cX6_setNumber 115 = .ok (.iconst 0, 1) := by decide +kernel
theorem dX6_setNumber_116 : decode cX6_setNumber 116 = .ok (.ireturn, 1) := by decide +kernel
theorem dX6_setNumber_117 : decode cX6_setNumber 117 = .ok (.aload_n 0, 1) := by decide +kernel
theorem dX6_setNumber_118 : decode cX6_setNumber 118 = .ok (.iload_n 1, 1) := by decide +kernel
theorem dX6_setNumber_119 : decode cX6_setNumber 119 = .ok (.iload_n 2, 1) := by decide +kernel
theorem dX6_setNumber_120 : decode cX6_setNumber 120 = .ok (.iload_n 3, 1) := by decide +kernel
theorem dX6_setNumber_121 : decode cX6_setNumber 121 = .ok (.iconst 0, 1) := by decide +kernel
theorem dX6_setNumber_122 : decode cX6_setNumber 122 = .ok (.iload 4, 2) := by decide +kernel
theorem dX6_setNumber_124 : decode cX6_setNumber 124 = .ok (.iload 5, 2) := by decide +kernel
theorem dX6_setNumber_126 : decode cX6_setNumber 126 = .ok (.iload 6, 2) := by decide +kernel
theorem dX6_setNumber_128 : decode cX6_setNumber 128 = .ok (.invokevirtual 139, 3) := by decide +kernel
theorem dX6_setNumber_131 : decode cX6_setNumber 131 = .ok (.ireturn, 1) := by decide +kernel
theorem dX6_setChoice_0 : decode cX6_setChoice 0 = .ok (.iload 4, 2) := by decide +kernel
theorem dX6_setChoice_2 : decode cX6_setChoice 2 = .ok (.iconst 1, 1) := by decide +kernel
theorem dX6_setChoice_3 : decode cX6_setChoice 3 = .ok (.bipush 10, 2) := by decide +kernel
theorem dX6_setChoice_5 : decode cX6_setChoice 5 = .ok (.invokestatic 87, 3) := by decide +kernel
theorem dX6_setChoice_8 : decode cX6_setChoice 8 = .ok (.ifCond .eq 18, 3) := by decide +kernel
theorem dX6_setChoice_11 : decode cX6_setChoice 11 = .ok (.iload 5, 2) := by decide +kernel
theorem dX6_setChoice_13 : decode cX6_setChoice 13 = .ok (.iconst 0, 1) := by decide +kernel
theorem dX6_setChoice_14 : decode cX6_setChoice 14 = .ok (.bipush 31, 2) := by decide +kernel
theorem dX6_setChoice_16 : decode cX6_setChoice 16 = .ok (.invokestatic 87, 3) := by decide +kernel
theorem dX6_setChoice_19 : decode cX6_setChoice 19 = .ok (.ifCond .eq 7, 3) := by decide +kernel
theorem dX6_setChoice_22 : decode cX6_setChoice 22 = .ok (.iconst 1, 1) := by decide +kernel
theorem dX6_setChoice_23 : decode cX6_setChoice 23 = .ok (.goto 4, 3) := by decide +kernel
theorem dX6_setChoice_26 : decode cX6_setChoice 26 = .ok (.iconst 0, 1) := by decide +kernel
theorem dX6_setChoice_27 : decode cX6_setChoice 27 = .ok (.istore 6, 2) := by decide +kernel
theorem dX6_setChoice_29 : decode cX6_setChoice 29 = .ok (.aload_n 0, 1) := by decide +kernel
theorem dX6_setChoice_30 : decode cX6_setChoice 30 = .ok (.iload_n 1, 1) := by decide +kernel
theorem dX6_setChoice_31 : decode cX6_setChoice 31 = .ok (.iload_n 2, 1) := by decide +kernel
theorem dX6_setChoice_32 : decode cX6_setChoice 32 = .ok (.iload_n 3, 1) := by decide +kernel
theorem dX6_setChoice_33 : decode cX6_setChoice 33 = .ok (.invokevirtual 133, 3) := by decide +kernel
theorem dX6_setChoice_36 : decode cX6_setChoice 36 = .ok (.ifCond .eq 22, 3) := by decide +kernel
theorem dX6_setChoice_39 : decode cX6_setChoice 39 = .ok (.iload 6, 2) := by decide +kernel
theorem dX6_setChoice_41 : decode cX6_setChoice 41 = .ok (.ifCond .eq 17, 3) := by decide +kernel
theorem dX6_setChoice_44 : decode cX6_setChoice 44 = .ok (.aload_n 0, 1) := by decide +kernel
theorem dX6_setChoice_45 : decode cX6_setChoice 45 = .ok (.iload_n 1, 1) := by decide +kernel
theorem dX6_setChoice_46 : decode cX6_setChoice 46 = .ok (.iload_n 2, 1) := by decide +kernel
theorem dX6_setChoice_47 : decode cX6_setChoice 47 = .ok (.iconst 1, 1) := by decide +kernel
theorem dX6_setChoice_48 : decode cX6_setChoice 48 = .ok (.invokevirtual 136, 3) := by decide +kernel
theorem dX6_setChoice_51 : decode cX6_setChoice 51 = .ok (.ifCond .eq 7, 3) := by decide +kernel
theorem dX6_setChoice_54 : decode cX6_setChoice 54 = .ok (.iconst 1, 1) := by decide +kernel
theorem dX6_setChoice_55 : decode cX6_setChoice 55 = .ok (.goto 4, 3) := by decide +kernel
theorem dX6_setChoice_58 : decode cX6_setChoice 58 = .ok (.iconst 0, 1) := by decide +kernel
theorem dX6_setChoice_59 : decode cX6_setChoice 59 = .ok (.istore 7, 2) := by decide +kernel
theorem dX6_setChoice_61 : decode cX6_setChoice 61 = .ok (.aload_n 0, 1) := by decide +kernel
theorem dX6_setChoice_62 : decode cX6_setChoice 62 = .ok (.aload_n 0, 1) := by decide +kernel
theorem dX6_setChoice_63 : decode cX6_setChoice 63 = .ok (.iload_n 1, 1) := by decide +kernel
theorem dX6_setChoice_64 : decode cX6_setChoice 64 = .ok (.iload_n 2, 1) := by decide +kernel
theorem dX6_setChoice_65 : decode cX6_setChoice 65 = .ok (.iload_n 3, 1) := by decide +kernel
theorem dX6_setChoice_66 : decode cX6_setChoice 66 = .ok (.invokevirtual 133, 3) := by decide +kernel
theorem dX6_setChoice_69 : decode cX6_setChoice 69 = .ok (.ifCond .ne 7, 3) := by decide +kernel
theorem dX6_setChoice_72 : decode cX6_setChoice 72 = .ok (.iconst 1, 1) := by decide +kernel
theorem dX6_setChoice_73 : decode cX6_setChoice 73 = .ok (.goto 22, 3) := by decide +kernel
theorem dX6_setChoice_76 : decode cX6_setChoice 76 = .ok (.iload 6, 2) := by decide +kernel
theorem dX6_setChoice_78 : decode cX6_setChoice 78 = .ok (.ifCond .ne 7, 3) := by decide +kernel
theorem dX6_setChoice_81 : decode cX6_setChoice 81 = .ok (.iconst 2, 1) := by decide +kernel
theorem dX6_setChoice_82 : decode cX6_setChoice 82 = .ok (.goto 13, 3) := by decide +kernel
theorem dX6_setChoice_85 : decode cX6_setChoice 85 = .ok (.iload 7, 2) := by decide +kernel
theorem dX6_setChoice_87 : decode cX6_setChoice 87 = .ok (.ifCond .eq 7, 3) := by decide +kernel
theorem dX6_setChoice_90 : decode cX6_setChoice 90 = .ok (.iconst 0, 1) := by decide +kernel
theorem dX6_setChoice_91 : decode cX6_setChoice 91 = .ok (.goto 4, 3) := by decide +kernel
theorem dX6_setChoice_94 : decode cX6_setChoice 94 = .ok (.iconst 3, 1) := by decide +kernel
theorem dX6_setChoice_95 : decode cX6_setChoice 95 = .ok (.invokevirtual 120, 3) := by decide +kernel
theorem dX6_setChoice_98 : decode cX6_setChoice 98 = .ok (.ifCond .eq 5, 3) := by decide +kernel
theorem dX6_setChoice_101 : decode cX6_setChoice 101 = .ok (.iconst 0, 1) := by decide +kernel
theorem dX6_setChoice_102 : decode cX6_setChoice 102 = .ok (.ireturn, 1) := by decide +kernel
theorem dX6_setChoice_103 : decode cX6_setChoice 103 = .ok (.aload_n 0, 1) := by decide +kernel
theorem dX6_setChoice_104 : decode cX6_setChoice 104 = .ok (.iload_n 1, 1) := by decide +kernel
theorem dX6_setChoice_105 : decode cX6_setChoice 105 = .ok (.iload_n 2, 1) := by decide +kernel
theorem dX6_setChoice_106 : decode cX6_setChoice 106 = .ok (.iload_n 3, 1) := by decide +kernel
theorem dX6_setChoice_107 : decode cX6_setChoice 107 = .ok (.iconst 1, 1) := by decide +kernel
theorem dX6_setChoice_108 : decode cX6_setChoice 108 = .ok (.iload 4, 2) := by decide +kernel
theorem dX6_setChoice_110 : decode cX6_setChoice 110 = .ok (.iload 5, 2) := by decide +kernel
theorem dX6_setChoice_112 : decode cX6_setChoice 112 = .ok (.iconst 0, 1) := by decide +kernel
theorem dX6_setChoice_113 : decode cX6_setChoice 113 = .ok (.invokevirtual 139, 3) := by decide +kernel
theorem dX6_setChoice_116 : decode cX6_setChoice 116 = .ok (.ireturn, 1) := by decide +kernel
theorem dX6_setWords_0 : decode cX6_setWords 0 = .ok (.iload 4, 2) := by decide +kernel
theorem dX6_setWords_2 : decode cX6_setWords 2 = .ok (.iconst 1, 1) := by decide +kernel
theorem dX6_setWords_3 : decode cX6_setWords 3 = .ok (.bipush 10, 2) := by decide +kernel
theorem dX6_setWords_5 : decode cX6_setWords 5 = .ok (.invokestatic 87, 3) := by decide +kernel
theorem dX6_setWords_8 : decode cX6_setWords 8 = .ok (.ifCond .eq 15, 3) := by decide +kernel
theorem dX6_setWords_11 : decode cX6_setWords 11 = .ok (.iload 5, 2) := by decide +kernel
theorem dX6_setWords_13 : decode cX6_setWords 13 = .ok (.invokestatic 143, 3) := by decide +kernel
theorem dX6_setWords_16 : decode cX6_setWords 16 = .ok (.ifCond .eq 7, 3) := by decide +kernel
theorem dX6_setWords_19 : decode cX6_setWords 19 = .ok (.iconst 1, 1) := by decide +kernel
theorem dX6_setWords_20 : decode cX6_setWords 20 = .ok (.goto 4, 3) := by decide +kernel
theorem dX6_setWords_23 : decode cX6_setWords 23 = .ok (.iconst 0, 1) := by decide +kernel
theorem dX6_setWords_24 : decode cX6_setWords 24 = .ok (.istore 6, 2) := by decide +kernel
theorem dX6_setWords_26 : decode cX6_setWords 26 = .ok (.aload_n 0, 1) := by decide +kernel
theorem dX6_setWords_27 : decode cX6_setWords 27 = .ok (.iload_n 1, 1) := by decide +kernel
theorem dX6_setWords_28 : decode cX6_setWords 28 = .ok (.iload_n 2, 1) := by decide +kernel
theorem dX6_setWords_29 : decode cX6_setWords 29 = .ok (.iload_n 3, 1) := by decide +kernel
theorem dX6_setWords_30 : decode cX6_setWords 30 = .ok (.invokevirtual 133, 3) := by decide +kernel
theorem dX6_setWords_33 : decode cX6_setWords 33 = .ok (.ifCond .eq 26, 3) := by decide +kernel
theorem dX6_setWords_36 : decode cX6_setWords 36 = .ok (.iload 6, 2) := by decide +kernel
theorem dX6_setWords_38 : decode cX6_setWords 38 = .ok (.ifCond .eq 21, 3) := by decide +kernel
theorem dX6_setWords_41 : decode cX6_setWords 41 = .ok (.aload_n 0, 1) := by decide +kernel
theorem dX6_setWords_42 : decode cX6_setWords 42 = .ok (.iload_n 1, 1) := by decide +kernel
theorem dX6_setWords_43 : decode cX6_setWords 43 = .ok (.iload_n 2, 1) := by decide +kernel
theorem dX6_setWords_44 : decode cX6_setWords 44 = .ok (.iload 5, 2) := by decide +kernel
theorem dX6_setWords_46 : decode cX6_setWords 46 = .ok (.invokestatic 103, 3) := by decide +kernel
theorem dX6_setWords_49 : decode cX6_setWords 49 = .ok (.invokevirtual 136, 3) := by decide +kernel
theorem dX6_setWords_52 : decode cX6_setWords 52 = .ok (.ifCond .eq 7, 3) := by decide +kernel
theorem dX6_setWords_55 : decode cX6_setWords 55 = .ok (.iconst 1, 1) := by decide +kernel
theorem dX6_setWords_56 : decode cX6_setWords 56 = .ok (.goto 4, 3) := by decide +kernel
theorem dX6_setWords_59 : decode cX6_setWords 59 = .ok (.iconst 0, 1) := by decide +kernel
theorem dX6_setWords_60 : decode cX6_setWords 60 = .ok (.istore 7, 2) := by decide +kernel
theorem dX6_setWords_62 : decode cX6_setWords 62 = .ok (.aload_n 0, 1) := by decide +kernel
theorem dX6_setWords_63 : decode cX6_setWords 63 = .ok (.aload_n 0, 1) := by decide +kernel
theorem dX6_setWords_64 : decode cX6_setWords 64 = .ok (.iload_n 1, 1) := by decide +kernel
theorem dX6_setWords_65 : decode cX6_setWords 65 = .ok (.iload_n 2, 1) := by decide +kernel
theorem dX6_setWords_66 : decode cX6_setWords 66 = .ok (.iload_n 3, 1) := by decide +kernel
theorem dX6_setWords_67 : decode cX6_setWords 67 = .ok (.invokevirtual 133, 3) := by decide +kernel
theorem dX6_setWords_70 : decode cX6_setWords 70 = .ok (.ifCond .ne 7, 3) := by decide +kernel
theorem dX6_setWords_73 : decode cX6_setWords 73 = .ok (.iconst 1, 1) := by decide +kernel
theorem dX6_setWords_74 : decode cX6_setWords 74 = .ok (.goto 22, 3) := by decide +kernel
theorem dX6_setWords_77 : decode cX6_setWords 77 = .ok (.iload 6, 2) := by decide +kernel
theorem dX6_setWords_79 : decode cX6_setWords 79 = .ok (.ifCond .ne 7, 3) := by decide +kernel
theorem dX6_setWords_82 : decode cX6_setWords 82 = .ok (.iconst 2, 1) := by decide +kernel
theorem dX6_setWords_83 : decode cX6_setWords 83 = .ok (.goto 13, 3) := by decide +kernel
theorem dX6_setWords_86 : decode cX6_setWords 86 = .ok (.iload 7, 2) := by decide +kernel
theorem dX6_setWords_88 : decode cX6_setWords 88 = .ok (.ifCond .eq 7, 3) := by decide +kernel
theorem dX6_setWords_91 : decode cX6_setWords 91 = .ok (.iconst 0, 1) := by decide +kernel
theorem dX6_setWords_92 : decode cX6_setWords 92 = .ok (.goto 4, 3) := by decide +kernel
theorem dX6_setWords_95 : decode cX6_setWords 95 = .ok (.iconst 3, 1) := by decide +kernel
theorem dX6_setWords_96 : decode cX6_setWords 96 = .ok (.invokevirtual 120, 3) := by decide +kernel
theorem dX6_setWords_99 : decode cX6_setWords 99 = .ok (.ifCond .eq 5, 3) := by decide +kernel
theorem dX6_setWords_102 : decode cX6_setWords 102 = .ok (.iconst 0, 1) := by decide +kernel
theorem dX6_setWords_103 : decode cX6_setWords 103 = .ok (.ireturn, 1) := by decide +kernel
theorem dX6_setWords_104 : decode cX6_setWords 104 = .ok (.aload_n 0, 1) := by decide +kernel
theorem dX6_setWords_105 : decode cX6_setWords 105 = .ok (.iload_n 1, 1) := by decide +kernel
theorem dX6_setWords_106 : decode cX6_setWords 106 = .ok (.iload_n 2, 1) := by decide +kernel
theorem dX6_setWords_107 : decode cX6_setWords 107 = .ok (.iload_n 3, 1) := by decide +kernel
theorem dX6_setWords_108 : decode cX6_setWords 108 = .ok (.iconst 2, 1) := by decide +kernel
theorem dX6_setWords_109 : decode cX6_setWords 109 = .ok (.iload 4, 2) := by decide +kernel
theorem dX6_setWords_111 : decode cX6_setWords 111 = .ok (.iload 5, 2) := by decide +kernel
theorem dX6_setWords_113 : decode cX6_setWords 113 = .ok (.iconst 0, 1) := by decide +kernel
theorem dX6_setWords_114 : decode cX6_setWords 114 = .ok (.invokevirtual 139, 3) := by decide +kernel
theorem dX6_setWords_117 : decode cX6_setWords 117 = .ok (.ireturn, 1) := by decide +kernel
theorem dX6_drop_0 : decode cX6_drop 0 = .ok (.aload_n 0, 1) := by decide +kernel
theorem dX6_drop_1 : decode cX6_drop 1 = .ok (.iload_n 1, 1) := by decide +kernel
theorem dX6_drop_2 : decode cX6_drop 2 = .ok (.iload_n 2, 1) := by decide +kernel
theorem dX6_drop_3 : decode cX6_drop 3 = .ok (.iload_n 3, 1) := by decide +kernel
theorem dX6_drop_4 : decode cX6_drop 4 = .ok (.invokevirtual 133, 3) := by decide +kernel
theorem dX6_drop_7 : decode cX6_drop 7 = .ok (.istore 4, 2) := by decide +kernel
theorem dX6_drop_9 : decode cX6_drop 9 = .ok (.iload 4, 2) := by decide +kernel
theorem dX6_drop_11 : decode cX6_drop 11 = .ok (.ifCond .eq 37, 3) := by decide +kernel
theorem dX6_drop_14 : decode cX6_drop 14 = .ok (.aload_n 0, 1) := by decide +kernel
theorem dX6_drop_15 : decode cX6_drop 15 = .ok (.iload_n 2, 1) := by decide +kernel
theorem dX6_drop_16 : decode cX6_drop 16 = .ok (.aload_n 0, 1) := by decide +kernel
theorem dX6_drop_17 : decode cX6_drop 17 = .ok (.getfield 35, 3) := by decide +kernel
theorem dX6_drop_20 : decode cX6_drop 20 = .ok (.iconst 4, 1) := by decide +kernel
theorem dX6_drop_21 : decode cX6_drop 21 = .ok (.iload_n 2, 1) := by decide +kernel
theorem dX6_drop_22 : decode cX6_drop 22 = .ok (.imul, 1) := by decide +kernel
theorem dX6_drop_23 : decode cX6_drop 23 = .ok (.iload_n 1, 1) := by decide +kernel
theorem dX6_drop_24 : decode cX6_drop 24 = .ok (.iadd, 1) := by decide +kernel
theorem dX6_drop_25 : decode cX6_drop 25 = .ok (.iaload, 1) := by decide +kernel
theorem dX6_drop_26 : decode cX6_drop 26 = .ok (.iload_n 3, 1) := by decide +kernel
theorem dX6_drop_27 : decode cX6_drop 27 = .ok (.invokevirtual 146, 3) := by decide +kernel
theorem dX6_drop_30 : decode cX6_drop 30 = .ok (.iconst (-1), 1) := by decide +kernel
theorem dX6_drop_31 : decode cX6_drop 31 = .ok (.if_icmp .eq 17, 3) := by decide +kernel
theorem dX6_drop_34 : decode cX6_drop 34 = .ok (.aload_n 0, 1) := by decide +kernel
theorem dX6_drop_35 : decode cX6_drop 35 = .ok (.iload_n 1, 1) := by decide +kernel
theorem dX6_drop_36 : decode cX6_drop 36 = .ok (.iload_n 2, 1) := by decide +kernel
theorem dX6_drop_37 : decode cX6_drop 37 = .ok (.iconst 1, 1) := by decide +kernel
theorem dX6_drop_38 : decode cX6_drop 38 = .ok (.invokevirtual 136, 3) := by decide +kernel
theorem dX6_drop_41 : decode cX6_drop 41 = .ok (.ifCond .eq 7, 3) := by decide +kernel
theorem dX6_drop_44 : decode cX6_drop 44 = .ok (.iconst 1, 1) := by decide +kernel
theorem dX6_drop_45 : decode cX6_drop 45 = .ok (.goto 4, 3) := by decide +kernel
theorem dX6_drop_48 : decode cX6_drop 48 = .ok (.iconst 0, 1) := by decide +kernel
theorem dX6_drop_49 : decode cX6_drop 49 = .ok (.istore 5, 2) := by decide +kernel
theorem dX6_drop_51 : decode cX6_drop 51 = .ok (.aload_n 0, 1) := by decide +kernel
theorem dX6_drop_52 : decode cX6_drop 52 = .ok (.iload 4, 2) := by decide +kernel
theorem dX6_drop_54 : decode cX6_drop 54 = .ok (.ifCond .ne 7, 3) := by decide +kernel
theorem dX6_drop_57 : decode cX6_drop 57 = .ok (.iconst 1, 1) := by decide +kernel
theorem dX6_drop_58 : decode cX6_drop 58 = .ok (.goto 13, 3) := by decide +kernel
theorem dX6_drop_61 : decode cX6_drop 61 = .ok (.iload 5, 2) := by decide +kernel
theorem dX6_drop_63 : decode cX6_drop 63 = .ok (.ifCond .eq 7, 3) := by decide +kernel
theorem dX6_drop_66 : decode cX6_drop 66 = .ok (.iconst 0, 1) := by decide +kernel
theorem dX6_drop_67 : decode cX6_drop 67 = .ok (.goto 4, 3) := by decide +kernel
theorem dX6_drop_70 : decode cX6_drop 70 = .ok (.iconst 2, 1) := by decide +kernel
theorem dX6_drop_71 : decode cX6_drop 71 = .ok (.invokevirtual 120, 3) := by decide +kernel
theorem dX6_drop_74 : decode cX6_drop 74 = .ok (.ifCond .eq 5, 3) := by decide +kernel
theorem dX6_drop_77 : decode cX6_drop 77 = .ok (.iconst 0, 1) := by decide +kernel
theorem dX6_drop_78 : decode cX6_drop 78 = .ok (.ireturn, 1) := by decide +kernel
theorem dX6_drop_79 : decode cX6_drop 79 = .ok (.aload_n 0, 1) := by decide +kernel
theorem dX6_drop_80 : decode cX6_drop 80 = .ok (.iload_n 1, 1) := by decide +kernel
theorem dX6_drop_81 : decode cX6_drop 81 = .ok (.iload_n 2, 1) := by decide +kernel
theorem dX6_drop_82 : decode cX6_drop 82 = .ok (.iload_n 3, 1) := by decide +kernel
theorem dX6_drop_83 : decode cX6_drop 83 = .ok (.iconst 3, 1) := by decide +kernel
theorem dX6_drop_84 : decode cX6_drop 84 = .ok (.iconst 0, 1) := by decide +kernel
theorem dX6_drop_85 : decode cX6_drop 85 = .ok (.iconst 0, 1) := by decide +kernel
theorem dX6_drop_86 : decode cX6_drop 86 = .ok (.iconst 0, 1) := by decide +kernel
theorem dX6_drop_87 : decode cX6_drop 87 = .ok (.invokevirtual 139, 3) := by decide +kernel
theorem dX6_drop_90 : decode cX6_drop 90 = .ok (.ireturn, 1) := by decide +kernel
theorem dX6_adopt_0 : decode cX6_adopt 0 = .ok (.aload_n 0, 1) := by decide +kernel
theorem dX6_adopt_1 : decode cX6_adopt 1 = .ok (.iload_n 1, 1) := by decide +kernel
theorem dX6_adopt_2 : decode cX6_adopt 2 = .ok (.invokestatic 127, 3) := by decide +kernel
theorem dX6_adopt_5 : decode cX6_adopt 5 = .ok (.ifCond .eq 16, 3) := by decide +kernel
theorem dX6_adopt_8 : decode cX6_adopt 8 = .ok (.aload_n 0, 1) := by decide +kernel
theorem dX6_adopt_9 : decode cX6_adopt 9 = .ok (.iload_n 2, 1) := by decide +kernel
theorem dX6_adopt_10 : decode cX6_adopt 10 = .ok (.iload_n 3, 1) := by decide +kernel
theorem dX6_adopt_11 : decode cX6_adopt 11 = .ok (.invokevirtual 149, 3) := by decide +kernel
theorem dX6_adopt_14 : decode cX6_adopt 14 = .ok (.ifCond .eq 7, 3) := by decide +kernel
theorem dX6_adopt_17 : decode cX6_adopt 17 = .ok (.iconst 0, 1) := by decide +kernel
theorem dX6_adopt_18 : decode cX6_adopt 18 = .ok (.goto 4, 3) := by decide +kernel
theorem dX6_adopt_21 : decode cX6_adopt 21 = .ok (.iconst 1, 1) := by decide +kernel
theorem dX6_adopt_22 : decode cX6_adopt 22 = .ok (.invokevirtual 120, 3) := by decide +kernel
theorem dX6_adopt_25 : decode cX6_adopt 25 = .ok (.ifCond .eq 5, 3) := by decide +kernel
theorem dX6_adopt_28 : decode cX6_adopt 28 = .ok (.iconst 0, 1) := by decide +kernel
theorem dX6_adopt_29 : decode cX6_adopt 29 = .ok (.ireturn, 1) := by decide +kernel
theorem dX6_adopt_30 : decode cX6_adopt 30 = .ok (.aload_n 0, 1) := by decide +kernel
theorem dX6_adopt_31 : decode cX6_adopt 31 = .ok (.getfield 35, 3) := by decide +kernel
theorem dX6_adopt_34 : decode cX6_adopt 34 = .ok (.iconst 4, 1) := by decide +kernel
theorem dX6_adopt_35 : decode cX6_adopt 35 = .ok (.iload_n 2, 1) := by decide +kernel
theorem dX6_adopt_36 : decode cX6_adopt 36 = .ok (.imul, 1) := by decide +kernel
theorem dX6_adopt_37 : decode cX6_adopt 37 = .ok (.iload_n 1, 1) := by decide +kernel
theorem dX6_adopt_38 : decode cX6_adopt 38 = .ok (.iadd, 1) := by decide +kernel
theorem dX6_adopt_39 : decode cX6_adopt 39 = .ok (.iaload, 1) := by decide +kernel
theorem dX6_adopt_40 : decode cX6_adopt 40 = .ok (.istore 4, 2) := by decide +kernel
theorem dX6_adopt_42 : decode cX6_adopt 42 = .ok (.aload_n 0, 1) := by decide +kernel
theorem dX6_adopt_43 : decode cX6_adopt 43 = .ok (.getfield 35, 3) := by decide +kernel
theorem dX6_adopt_46 : decode cX6_adopt 46 = .ok (.iconst 4, 1) := by decide +kernel
theorem dX6_adopt_47 : decode cX6_adopt 47 = .ok (.iload_n 2, 1) := by decide +kernel
theorem dX6_adopt_48 : decode cX6_adopt 48 = .ok (.imul, 1) := by decide +kernel
theorem dX6_adopt_49 : decode cX6_adopt 49 = .ok (.iload_n 1, 1) := by decide +kernel
theorem dX6_adopt_50 : decode cX6_adopt 50 = .ok (.iadd, 1) := by decide +kernel
theorem dX6_adopt_51 : decode cX6_adopt 51 = .ok (.iload_n 3, 1) := by decide +kernel
theorem dX6_adopt_52 : decode cX6_adopt 52 = .ok (.iastore, 1) := by decide +kernel
theorem dX6_adopt_53 : decode cX6_adopt 53 = .ok (.iload 4, 2) := by decide +kernel
theorem dX6_adopt_55 : decode cX6_adopt 55 = .ok (.ireturn, 1) := by decide +kernel
theorem dX6_child_0 : decode cX6_child 0 = .ok (.iconst (-1), 1) := by decide +kernel
theorem dX6_child_1 : decode cX6_child 1 = .ok (.istore_n 3, 1) := by decide +kernel
theorem dX6_child_2 : decode cX6_child 2 = .ok (.iconst 0, 1) := by decide +kernel
theorem dX6_child_3 : decode cX6_child 3 = .ok (.istore 4, 2) := by decide +kernel
theorem dX6_child_5 : decode cX6_child 5 = .ok (.iload 4, 2) := by decide +kernel
theorem dX6_child_7 : decode cX6_child 7 = .ok (.bipush 16, 2) := by decide +kernel
theorem dX6_child_9 : decode cX6_child 9 = .ok (.if_icmp .ge 75, 3) := by decide +kernel
theorem dX6_child_12 : decode cX6_child 12 = .ok (.aload_n 0, 1) := by decide +kernel
theorem dX6_child_13 : decode cX6_child 13 = .ok (.getfield 7, 3) := by decide +kernel
theorem dX6_child_16 : decode cX6_child 16 = .ok (.bipush 16, 2) := by decide +kernel
theorem dX6_child_18 : decode cX6_child 18 = .ok (.iload_n 1, 1) := by decide +kernel
theorem dX6_child_19 : decode cX6_child 19 = .ok (.imul, 1) := by decide +kernel
theorem dX6_child_20 : decode cX6_child 20 = .ok (.iload 4, 2) := by decide +kernel
theorem dX6_child_22 : decode cX6_child 22 = .ok (.iadd, 1) := by decide +kernel
theorem dX6_child_23 : decode cX6_child 23 = .ok (.baload, 1) := by decide +kernel
theorem dX6_child_24 : decode cX6_child 24 = .ok (.ifCond .eq 29, 3) := by decide +kernel
theorem dX6_child_27 : decode cX6_child 27 = .ok (.iload 4, 2) := by decide +kernel
theorem dX6_child_29 : decode cX6_child 29 = .ok (.iload_n 2, 1) := by decide +kernel
theorem dX6_child_30 : decode cX6_child 30 = .ok (.if_icmp .eq 23, 3) := by decide +kernel
theorem dX6_child_33 : decode cX6_child 33 = .ok (.aload_n 0, 1) := by decide +kernel
theorem dX6_child_34 : decode cX6_child 34 = .ok (.getfield 13, 3) := by decide +kernel
theorem dX6_child_37 : decode cX6_child 37 = .ok (.bipush 16, 2) := by decide +kernel
theorem dX6_child_39 : decode cX6_child 39 = .ok (.iload_n 1, 1) := by decide +kernel
theorem dX6_child_40 : decode cX6_child 40 = .ok (.imul, 1) := by decide +kernel
theorem dX6_child_41 : decode cX6_child 41 = .ok (.iload 4, 2) := by decide +kernel
theorem dX6_child_43 : decode cX6_child 43 = .ok (.iadd, 1) := by decide +kernel
theorem dX6_child_44 : decode cX6_child 44 = .ok (.iaload, 1) := by decide +kernel
theorem dX6_child_45 : decode cX6_child 45 = .ok (.iload_n 2, 1) := by decide +kernel
theorem dX6_child_46 : decode cX6_child 46 = .ok (.if_icmp .ne 7, 3) := by decide +kernel
theorem dX6_child_49 : decode cX6_child 49 = .ok (.iconst 1, 1) := by decide +kernel
theorem dX6_child_50 : decode cX6_child 50 = .ok (.goto 4, 3) := by decide +kernel
theorem dX6_child_53 : decode cX6_child 53 = .ok (.iconst 0, 1) := by decide +kernel
theorem dX6_child_54 : decode cX6_child 54 = .ok (.istore 5, 2) := by decide +kernel
theorem dX6_child_56 : decode cX6_child 56 = .ok (.iload 5, 2) := by decide +kernel
theorem dX6_child_58 : decode cX6_child 58 = .ok (.ifCond .ne 7, 3) := by decide +kernel
theorem dX6_child_61 : decode cX6_child 61 = .ok (.iload_n 3, 1) := by decide +kernel
theorem dX6_child_62 : decode cX6_child 62 = .ok (.goto 15, 3) := by decide +kernel
theorem dX6_child_65 : decode cX6_child 65 = .ok (.iload_n 3, 1) := by decide +kernel
theorem dX6_child_66 : decode cX6_child 66 = .ok (.iconst (-1), 1) := by decide +kernel
theorem dX6_child_67 : decode cX6_child 67 = .ok (.if_icmp .ne 8, 3) := by decide +kernel
theorem dX6_child_70 : decode cX6_child 70 = .ok (.iload 4, 2) := by decide +kernel
theorem dX6_child_72 : decode cX6_child 72 = .ok (.goto 5, 3) := by decide +kernel
theorem dX6_child_75 : decode cX6_child 75 = .ok (.bipush (-2), 2) := by decide +kernel
theorem dX6_child_77 : decode cX6_child 77 = .ok (.istore_n 3, 1) := by decide +kernel
theorem dX6_child_78 : decode cX6_child 78 = .ok (.iinc 4 1, 3) := by decide +kernel
theorem dX6_child_81 : decode cX6_child 81 = .ok (.goto (-76), 3) := by decide +kernel
theorem dX6_child_84 : decode cX6_child 84 = .ok (.iload_n 3, 1) := by decide +kernel
theorem dX6_child_85 : decode cX6_child 85 = .ok (.ireturn, 1) := by decide +kernel
theorem dX6_isNeeded_0 : decode cX6_isNeeded 0 = .ok (.iload_n 2, 1) := by decide +kernel
theorem dX6_isNeeded_1 : decode cX6_isNeeded 1 = .ok (.ifCond .ne 7, 3) := by decide +kernel
theorem dX6_isNeeded_4 : decode cX6_isNeeded 4 = .ok (.iconst 1, 1) := by decide +kernel
theorem dX6_isNeeded_5 : decode cX6_isNeeded 5 = .ok (.goto 4, 3) := by decide +kernel
theorem dX6_isNeeded_8 : decode cX6_isNeeded 8 = .ok (.iconst 0, 1) := by decide +kernel
theorem dX6_isNeeded_9 : decode cX6_isNeeded 9 = .ok (.istore_n 3, 1) := by decide +kernel
theorem dX6_isNeeded_10 : decode cX6_isNeeded 10 = .ok (.iconst 0, 1) := by decide +kernel
theorem dX6_isNeeded_11 : decode cX6_isNeeded 11 = .ok (.istore 4, 2) := by decide +kernel
theorem dX6_isNeeded_13 : decode cX6_isNeeded 13 = .ok (.iload 4, 2) := by decide +kernel
theorem dX6_isNeeded_15 : decode cX6_isNeeded 15 = .ok (.iconst 4, 1) := by decide +kernel
theorem dX6_isNeeded_16 : decode cX6_isNeeded 16 = .ok (.if_icmp .ge 34, 3) := by decide +kernel
theorem dX6_isNeeded_19 : decode cX6_isNeeded 19 = .ok (.iload_n 3, 1) := by decide +kernel
theorem dX6_isNeeded_20 : decode cX6_isNeeded 20 = .ok (.ifCond .ne 18, 3) := by decide +kernel
theorem dX6_isNeeded_23 : decode cX6_isNeeded 23 = .ok (.aload_n 0, 1) := by decide +kernel
theorem dX6_isNeeded_24 : decode cX6_isNeeded 24 = .ok (.getfield 35, 3) := by decide +kernel
theorem dX6_isNeeded_27 : decode cX6_isNeeded 27 = .ok (.iconst 4, 1) := by decide +kernel
theorem dX6_isNeeded_28 : decode cX6_isNeeded 28 = .ok (.iload_n 1, 1) := by decide +kernel
theorem dX6_isNeeded_29 : decode cX6_isNeeded 29 = .ok (.imul, 1) := by decide +kernel
theorem dX6_isNeeded_30 : decode cX6_isNeeded 30 = .ok (.iload 4, 2) := by decide +kernel
theorem dX6_isNeeded_32 : decode cX6_isNeeded 32 = .ok (.iadd, 1) := by decide +kernel
theorem dX6_isNeeded_33 : decode cX6_isNeeded 33 = .ok (.iaload, 1) := by decide +kernel
theorem dX6_isNeeded_34 : decode cX6_isNeeded 34 = .ok (.iload_n 2, 1) := by decide +kernel
theorem dX6_isNeeded_35 : decode cX6_isNeeded 35 = .ok (.if_icmp .ne 7, 3) := by decide +kernel
theorem dX6_isNeeded_38 : decode cX6_isNeeded 38 = .ok (.iconst 1, 1) := by decide +kernel
theorem dX6_isNeeded_39 : decode cX6_isNeeded 39 = .ok (.goto 4, 3) := by decide +kernel
theorem dX6_isNeeded_42 : decode cX6_isNeeded 42 = .ok (.iconst 0, 1) := by decide +kernel
theorem dX6_isNeeded_43 : decode cX6_isNeeded 43 = .ok (.istore_n 3, 1) := by decide +kernel
theorem dX6_isNeeded_44 : decode cX6_isNeeded 44 = .ok (.iinc 4 1, 3) := by decide +kernel
theorem dX6_isNeeded_47 : decode cX6_isNeeded 47 = .ok (.goto (-34), 3) := by decide +kernel
theorem dX6_isNeeded_50 : decode cX6_isNeeded 50 = .ok (.iconst 0, 1) := by decide +kernel
theorem dX6_isNeeded_51 : decode cX6_isNeeded 51 = .ok (.istore 4, 2) := by decide +kernel
theorem dX6_isNeeded_53 : decode cX6_isNeeded 53 = .ok (.iload 4, 2) := by decide +kernel
theorem dX6_isNeeded_55 : decode cX6_isNeeded 55 = .ok (.bipush 12, 2) := by decide +kernel
theorem dX6_isNeeded_57 : decode cX6_isNeeded 57 = .ok (.if_icmp .ge 50, 3) := by decide +kernel
theorem dX6_isNeeded_60 : decode cX6_isNeeded 60 = .ok (.iload_n 3, 1) := by decide +kernel
theorem dX6_isNeeded_61 : decode cX6_isNeeded 61 = .ok (.ifCond .ne 34, 3) := by decide +kernel
theorem dX6_isNeeded_64 : decode cX6_isNeeded 64 = .ok (.aload_n 0, 1) := by decide +kernel
theorem dX6_isNeeded_65 : decode cX6_isNeeded 65 = .ok (.getfield 44, 3) := by decide +kernel
theorem dX6_isNeeded_68 : decode cX6_isNeeded 68 = .ok (.bipush 12, 2) := by decide +kernel
theorem dX6_isNeeded_70 : decode cX6_isNeeded 70 = .ok (.iload_n 1, 1) := by decide +kernel
theorem dX6_isNeeded_71 : decode cX6_isNeeded 71 = .ok (.imul, 1) := by decide +kernel
theorem dX6_isNeeded_72 : decode cX6_isNeeded 72 = .ok (.iload 4, 2) := by decide +kernel
theorem dX6_isNeeded_74 : decode cX6_isNeeded 74 = .ok (.iadd, 1) := by decide +kernel
theorem dX6_isNeeded_75 : decode cX6_isNeeded 75 = .ok (.iaload, 1) := by decide +kernel
theorem dX6_isNeeded_76 : decode cX6_isNeeded 76 = .ok (.ifCond .eq 23, 3) := by decide +kernel
theorem dX6_isNeeded_79 : decode cX6_isNeeded 79 = .ok (.aload_n 0, 1) := by decide +kernel
theorem dX6_isNeeded_80 : decode cX6_isNeeded 80 = .ok (.getfield 47, 3) := by decide +kernel
theorem dX6_isNeeded_83 : decode cX6_isNeeded 83 = .ok (.bipush 12, 2) := by decide +kernel
theorem dX6_isNeeded_85 : decode cX6_isNeeded 85 = .ok (.iload_n 1, 1) := by decide +kernel
theorem dX6_isNeeded_86 : decode cX6_isNeeded 86 = .ok (.imul, 1) := by decide +kernel
theorem dX6_isNeeded_87 : decode cX6_isNeeded 87 = .ok (.iload 4, 2) := by decide +kernel
theorem dX6_isNeeded_89 : decode cX6_isNeeded 89 = .ok (.iadd, 1) := by decide +kernel
theorem dX6_isNeeded_90 : decode cX6_isNeeded 90 = .ok (.iaload, 1) := by decide +kernel
theorem dX6_isNeeded_91 : decode cX6_isNeeded 91 = .ok (.iload_n 2, 1) := by decide +kernel
theorem dX6_isNeeded_92 : decode cX6_isNeeded 92 = .ok (.if_icmp .ne 7, 3) := by decide +kernel
theorem dX6_isNeeded_95 : decode cX6_isNeeded 95 = .ok (.iconst 1, 1) := by decide +kernel
theorem dX6_isNeeded_96 : decode cX6_isNeeded 96 = .ok (.goto 4, 3) := by decide +kernel
theorem dX6_isNeeded_99 : decode cX6_isNeeded 99 = .ok (.iconst 0, 1) := by decide +kernel
theorem dX6_isNeeded_100 : decode cX6_isNeeded 100 = .ok (.istore_n 3, 1) := by decide +kernel
theorem dX6_isNeeded_101 : decode cX6_isNeeded 101 = .ok (.iinc 4 1, 3) := by decide +kernel
theorem dX6_isNeeded_104 : decode cX6_isNeeded 104 = .ok (.goto (-51), 3) := by decide +kernel
theorem dX6_isNeeded_107 : decode cX6_isNeeded 107 = .ok (.iload_n 3, 1) := by decide +kernel
theorem dX6_isNeeded_108 : decode cX6_isNeeded 108 = .ok (.ifCond .ne 14, 3) := by decide +kernel
theorem dX6_isNeeded_111 : decode cX6_isNeeded 111 = .ok (.aload_n 0, 1) := by decide +kernel
theorem dX6_isNeeded_112 : decode cX6_isNeeded 112 = .ok (.iload_n 1, 1) := by decide +kernel
theorem dX6_isNeeded_113 : decode cX6_isNeeded 113 = .ok (.iload_n 2, 1) := by decide +kernel
theorem dX6_isNeeded_114 : decode cX6_isNeeded 114 = .ok (.invokevirtual 152, 3) := by decide +kernel
theorem dX6_isNeeded_117 : decode cX6_isNeeded 117 = .ok (.bipush (-2), 2) := by decide +kernel
theorem dX6_isNeeded_119 : decode cX6_isNeeded 119 = .ok (.if_icmp .ne 7, 3) := by decide +kernel
theorem dX6_isNeeded_122 : decode cX6_isNeeded 122 = .ok (.iconst 1, 1) := by decide +kernel
theorem dX6_isNeeded_123 : decode cX6_isNeeded 123 = .ok (.goto 4, 3) := by decide +kernel
theorem dX6_isNeeded_126 : decode cX6_isNeeded 126 = .ok (.iconst 0, 1) := by decide +kernel
theorem dX6_isNeeded_127 : decode cX6_isNeeded 127 = .ok (.ireturn, 1) := by decide +kernel
theorem dX6_passes_0 : decode cX6_passes 0 = .ok (.iconst 0, 1) := by decide +kernel
theorem dX6_passes_1 : decode cX6_passes 1 = .ok (.istore 4, 2) := by decide +kernel
theorem dX6_passes_3 : decode cX6_passes 3 = .ok (.iconst 0, 1) := by decide +kernel
theorem dX6_passes_4 : decode cX6_passes 4 = .ok (.istore 5, 2) := by decide +kernel
theorem dX6_passes_6 : decode cX6_passes 6 = .ok (.iload 5, 2) := by decide +kernel
theorem dX6_passes_8 : decode cX6_passes 8 = .ok (.iconst 5, 1) := by decide +kernel
theorem dX6_passes_9 : decode cX6_passes 9 = .ok (.if_icmp .ge 61, 3) := by decide +kernel
theorem dX6_passes_12 : decode cX6_passes 12 = .ok (.iload_n 2, 1) := by decide +kernel
theorem dX6_passes_13 : decode cX6_passes 13 = .ok (.iconst (-1), 1) := by decide +kernel
theorem dX6_passes_14 : decode cX6_passes 14 = .ok (.if_icmp .eq 22, 3) := by decide +kernel
theorem dX6_passes_17 : decode cX6_passes 17 = .ok (.aload_n 0, 1) := by decide +kernel
theorem dX6_passes_18 : decode cX6_passes 18 = .ok (.getfield 23, 3) := by decide +kernel
theorem dX6_passes_21 : decode cX6_passes 21 = .ok (.iconst 5, 1) := by decide +kernel
theorem dX6_passes_22 : decode cX6_passes 22 = .ok (.iload_n 2, 1) := by decide +kernel
theorem dX6_passes_23 : decode cX6_passes 23 = .ok (.imul, 1) := by decide +kernel
theorem dX6_passes_24 : decode cX6_passes 24 = .ok (.iload 5, 2) := by decide +kernel
theorem dX6_passes_26 : decode cX6_passes 26 = .ok (.iadd, 1) := by decide +kernel
theorem dX6_passes_27 : decode cX6_passes 27 = .ok (.iaload, 1) := by decide +kernel
theorem dX6_passes_28 : decode cX6_passes 28 = .ok (.iconst 4, 1) := by decide +kernel
theorem dX6_passes_29 : decode cX6_passes 29 = .ok (.if_icmp .ne 7, 3) := by decide +kernel
theorem dX6_passes_32 : decode cX6_passes 32 = .ok (.iconst 1, 1) := by decide +kernel
theorem dX6_passes_33 : decode cX6_passes 33 = .ok (.goto 4, 3) := by decide +kernel
theorem dX6_passes_36 : decode cX6_passes 36 = .ok (.iconst 0, 1) := by decide +kernel
theorem dX6_passes_37 : decode cX6_passes 37 = .ok (.istore 6, 2) := by decide +kernel
theorem dX6_passes_39 : decode cX6_passes 39 = .ok (.iload 4, 2) := by decide +kernel
theorem dX6_passes_41 : decode cX6_passes 41 = .ok (.iload 6, 2) := by decide +kernel
theorem dX6_passes_43 : decode cX6_passes 43 = .ok (.iload_n 3, 1) := by decide +kernel
theorem dX6_passes_44 : decode cX6_passes 44 = .ok (.if_icmp .ne 16, 3) := by decide +kernel
theorem dX6_passes_47 : decode cX6_passes 47 = .ok (.aload_n 0, 1) := by decide +kernel
theorem dX6_passes_48 : decode cX6_passes 48 = .ok (.iconst 5, 1) := by decide +kernel
theorem dX6_passes_49 : decode cX6_passes 49 = .ok (.iload_n 1, 1) := by decide +kernel
theorem dX6_passes_50 : decode cX6_passes 50 = .ok (.imul, 1) := by decide +kernel
theorem dX6_passes_51 : decode cX6_passes 51 = .ok (.iload 5, 2) := by decide +kernel
theorem dX6_passes_53 : decode cX6_passes 53 = .ok (.iadd, 1) := by decide +kernel
theorem dX6_passes_54 : decode cX6_passes 54 = .ok (.invokevirtual 111, 3) := by decide +kernel
theorem dX6_passes_57 : decode cX6_passes 57 = .ok (.goto 4, 3) := by decide +kernel
theorem dX6_passes_60 : decode cX6_passes 60 = .ok (.iconst 0, 1) := by decide +kernel
theorem dX6_passes_61 : decode cX6_passes 61 = .ok (.iadd, 1) := by decide +kernel
theorem dX6_passes_62 : decode cX6_passes 62 = .ok (.istore 4, 2) := by decide +kernel
theorem dX6_passes_64 : decode cX6_passes 64 = .ok (.iinc 5 1, 3) := by decide +kernel
theorem dX6_passes_67 : decode cX6_passes 67 = .ok (.goto (-61), 3) := by decide +kernel
theorem dX6_passes_70 : decode cX6_passes 70 = .ok (.iload 4, 2) := by decide +kernel
theorem dX6_passes_72 : decode cX6_passes 72 = .ok (.ireturn, 1) := by decide +kernel
theorem dX6_canFold_0 : decode cX6_canFold 0 = .ok (.aload_n 0, 1) := by decide +kernel
theorem dX6_canFold_1 : decode cX6_canFold 1 = .ok (.iload_n 1, 1) := by decide +kernel
theorem dX6_canFold_2 : decode cX6_canFold 2 = .ok (.iload_n 2, 1) := by decide +kernel
theorem dX6_canFold_3 : decode cX6_canFold 3 = .ok (.invokevirtual 155, 3) := by decide +kernel
theorem dX6_canFold_6 : decode cX6_canFold 6 = .ok (.ifCond .eq 5, 3) := by decide +kernel
theorem dX6_canFold_9 : decode cX6_canFold 9 = .ok (.iconst 0, 1) := by decide +kernel
theorem dX6_canFold_10 : decode cX6_canFold 10 = .ok (.ireturn, 1) := by decide +kernel
theorem dX6_canFold_11 : decode cX6_canFold 11 = .ok (.aload_n 0, 1) := by decide +kernel
theorem dX6_canFold_12 : decode cX6_canFold 12 = .ok (.iload_n 1, 1) := by decide +kernel
theorem dX6_canFold_13 : decode cX6_canFold 13 = .ok (.iload_n 2, 1) := by decide +kernel
theorem dX6_canFold_14 : decode cX6_canFold 14 = .ok (.invokevirtual 152, 3) := by decide +kernel
theorem dX6_canFold_17 : decode cX6_canFold 17 = .ok (.istore_n 3, 1) := by decide +kernel
theorem dX6_canFold_18 : decode cX6_canFold 18 = .ok (.iload_n 3, 1) := by decide +kernel
theorem dX6_canFold_19 : decode cX6_canFold 19 = .ok (.iconst (-1), 1) := by decide +kernel
theorem dX6_canFold_20 : decode cX6_canFold 20 = .ok (.if_icmp .ne 5, 3) := by decide +kernel
theorem dX6_canFold_23 : decode cX6_canFold 23 = .ok (.iconst 1, 1) := by decide +kernel
theorem dX6_canFold_24 : decode cX6_canFold 24 = .ok (.ireturn, 1) := by decide +kernel
theorem dX6_canFold_25 : decode cX6_canFold 25 = .ok (.bipush 16, 2) := by decide +kernel
theorem dX6_canFold_27 : decode cX6_canFold 27 = .ok (.iload_n 1, 1) := by decide +kernel
theorem dX6_canFold_28 : decode cX6_canFold 28 = .ok (.imul, 1) := by decide +kernel
theorem dX6_canFold_29 : decode cX6_canFold 29 = .ok (.iload_n 2, 1) := by decide +kernel
theorem dX6_canFold_30 : decode cX6_canFold 30 = .ok (.iadd, 1) := by decide +kernel
theorem dX6_canFold_31 : decode cX6_canFold 31 = .ok (.istore 4, 2) := by decide +kernel
theorem dX6_canFold_33 : decode cX6_canFold 33 = .ok (.bipush 16, 2) := by decide +kernel
theorem dX6_canFold_35 : decode cX6_canFold 35 = .ok (.iload_n 1, 1) := by decide +kernel
theorem dX6_canFold_36 : decode cX6_canFold 36 = .ok (.imul, 1) := by decide +kernel
theorem dX6_canFold_37 : decode cX6_canFold 37 = .ok (.iload_n 3, 1) := by decide +kernel
theorem dX6_canFold_38 : decode cX6_canFold 38 = .ok (.iadd, 1) := by decide +kernel
theorem dX6_canFold_39 : decode cX6_canFold 39 = .ok (.istore 5, 2) := by decide +kernel
theorem dX6_canFold_41 : decode cX6_canFold 41 = .ok (.aload_n 0, 1) := by decide +kernel
theorem dX6_canFold_42 : decode cX6_canFold 42 = .ok (.getfield 17, 3) := by decide +kernel
theorem dX6_canFold_45 : decode cX6_canFold 45 = .ok (.iload 4, 2) := by decide +kernel
theorem dX6_canFold_47 : decode cX6_canFold 47 = .ok (.iaload, 1) := by decide +kernel
theorem dX6_canFold_48 : decode cX6_canFold 48 = .ok (.aload_n 0, 1) := by decide +kernel
theorem dX6_canFold_49 : decode cX6_canFold 49 = .ok (.getfield 17, 3) := by decide +kernel
theorem dX6_canFold_52 : decode cX6_canFold 52 = .ok (.iload 5, 2) := by decide +kernel
theorem dX6_canFold_54 : decode cX6_canFold 54 = .ok (.iaload, 1) := by decide +kernel
theorem dX6_canFold_55 : decode cX6_canFold 55 = .ok (.if_icmp .ne 14, 3) := by decide +kernel
theorem dX6_canFold_58 : decode cX6_canFold 58 = .ok (.aload_n 0, 1) := by decide +kernel
theorem dX6_canFold_59 : decode cX6_canFold 59 = .ok (.iload 4, 2) := by decide +kernel
theorem dX6_canFold_61 : decode cX6_canFold 61 = .ok (.iconst (-1), 1) := by decide +kernel
theorem dX6_canFold_62 : decode cX6_canFold 62 = .ok (.iconst 0, 1) := by decide +kernel
theorem dX6_canFold_63 : decode cX6_canFold 63 = .ok (.invokevirtual 158, 3) := by decide +kernel
theorem dX6_canFold_66 : decode cX6_canFold 66 = .ok (.goto 4, 3) := by decide +kernel
theorem dX6_canFold_69 : decode cX6_canFold 69 = .ok (.iconst 0, 1) := by decide +kernel
theorem dX6_canFold_70 : decode cX6_canFold 70 = .ok (.istore 6, 2) := by decide +kernel
theorem dX6_canFold_72 : decode cX6_canFold 72 = .ok (.aload_n 0, 1) := by decide +kernel
theorem dX6_canFold_73 : decode cX6_canFold 73 = .ok (.aload_n 0, 1) := by decide +kernel
theorem dX6_canFold_74 : decode cX6_canFold 74 = .ok (.getfield 17, 3) := by decide +kernel
theorem dX6_canFold_77 : decode cX6_canFold 77 = .ok (.iload 5, 2) := by decide +kernel
theorem dX6_canFold_79 : decode cX6_canFold 79 = .ok (.iaload, 1) := by decide +kernel
theorem dX6_canFold_80 : decode cX6_canFold 80 = .ok (.aload_n 0, 1) := by decide +kernel
theorem dX6_canFold_81 : decode cX6_canFold 81 = .ok (.iload 4, 2) := by decide +kernel
theorem dX6_canFold_83 : decode cX6_canFold 83 = .ok (.iload 5, 2) := by decide +kernel
theorem dX6_canFold_85 : decode cX6_canFold 85 = .ok (.iconst 1, 1) := by decide +kernel
theorem dX6_canFold_86 : decode cX6_canFold 86 = .ok (.invokevirtual 158, 3) := by decide +kernel
theorem dX6_canFold_89 : decode cX6_canFold 89 = .ok (.iload 6, 2) := by decide +kernel
theorem dX6_canFold_91 : decode cX6_canFold 91 = .ok (.isub, 1) := by decide +kernel
theorem dX6_canFold_92 : decode cX6_canFold 92 = .ok (.invokevirtual 123, 3) := by decide +kernel
theorem dX6_canFold_95 : decode cX6_canFold 95 = .ok (.ireturn, 1) := by decide +kernel
theorem dX6_fold_0 : decode cX6_fold 0 = .ok (.aload_n 0, 1) := by decide +kernel
theorem dX6_fold_1 : decode cX6_fold 1 = .ok (.iload_n 1, 1) := by decide +kernel
theorem dX6_fold_2 : decode cX6_fold 2 = .ok (.iload_n 2, 1) := by decide +kernel
theorem dX6_fold_3 : decode cX6_fold 3 = .ok (.invokevirtual 149, 3) := by decide +kernel
theorem dX6_fold_6 : decode cX6_fold 6 = .ok (.istore_n 3, 1) := by decide +kernel
theorem dX6_fold_7 : decode cX6_fold 7 = .ok (.aload_n 0, 1) := by decide +kernel
theorem dX6_fold_8 : decode cX6_fold 8 = .ok (.iload_n 3, 1) := by decide +kernel
theorem dX6_fold_9 : decode cX6_fold 9 = .ok (.ifCond .ne 7, 3) := by decide +kernel
theorem dX6_fold_12 : decode cX6_fold 12 = .ok (.iconst 1, 1) := by decide +kernel
theorem dX6_fold_13 : decode cX6_fold 13 = .ok (.goto 17, 3) := by decide +kernel
theorem dX6_fold_16 : decode cX6_fold 16 = .ok (.aload_n 0, 1) := by decide +kernel
theorem dX6_fold_17 : decode cX6_fold 17 = .ok (.iload_n 1, 1) := by decide +kernel
theorem dX6_fold_18 : decode cX6_fold 18 = .ok (.iload_n 2, 1) := by decide +kernel
theorem dX6_fold_19 : decode cX6_fold 19 = .ok (.invokevirtual 162, 3) := by decide +kernel
theorem dX6_fold_22 : decode cX6_fold 22 = .ok (.ifCond .eq 7, 3) := by decide +kernel
theorem dX6_fold_25 : decode cX6_fold 25 = .ok (.iconst 0, 1) := by decide +kernel
theorem dX6_fold_26 : decode cX6_fold 26 = .ok (.goto 4, 3) := by decide +kernel
theorem dX6_fold_29 : decode cX6_fold 29 = .ok (.iconst 2, 1) := by decide +kernel
theorem dX6_fold_30 : decode cX6_fold 30 = .ok (.invokevirtual 120, 3) := by decide +kernel
theorem dX6_fold_33 : decode cX6_fold 33 = .ok (.ifCond .eq 5, 3) := by decide +kernel
theorem dX6_fold_36 : decode cX6_fold 36 = .ok (.iconst 0, 1) := by decide +kernel
theorem dX6_fold_37 : decode cX6_fold 37 = .ok (.ireturn, 1) := by decide +kernel
theorem dX6_fold_38 : decode cX6_fold 38 = .ok (.bipush 16, 2) := by decide +kernel
theorem dX6_fold_40 : decode cX6_fold 40 = .ok (.iload_n 1, 1) := by decide +kernel
theorem dX6_fold_41 : decode cX6_fold 41 = .ok (.imul, 1) := by decide +kernel
theorem dX6_fold_42 : decode cX6_fold 42 = .ok (.iload_n 2, 1) := by decide +kernel
theorem dX6_fold_43 : decode cX6_fold 43 = .ok (.iadd, 1) := by decide +kernel
theorem dX6_fold_44 : decode cX6_fold 44 = .ok (.istore 4, 2) := by decide +kernel
theorem dX6_fold_46 : decode cX6_fold 46 = .ok (.aload_n 0, 1) := by decide +kernel
theorem dX6_fold_47 : decode cX6_fold 47 = .ok (.iload_n 1, 1) := by decide +kernel
theorem dX6_fold_48 : decode cX6_fold 48 = .ok (.iload_n 2, 1) := by decide +kernel
theorem dX6_fold_49 : decode cX6_fold 49 = .ok (.invokevirtual 152, 3) := by decide +kernel
theorem dX6_fold_52 : decode cX6_fold 52 = .ok (.istore 5, 2) := by decide +kernel
theorem dX6_fold_54 : decode cX6_fold 54 = .ok (.iload 5, 2) := by decide +kernel
theorem dX6_fold_56 : decode cX6_fold 56 = .ok (.iconst (-1), 1) := by decide +kernel
theorem dX6_fold_57 : decode cX6_fold 57 = .ok (.if_icmp .ne 7, 3) := by decide +kernel
theorem dX6_fold_60 : decode cX6_fold 60 = .ok (.iconst (-1), 1) := by decide +kernel
theorem dX6_fold_61 : decode cX6_fold 61 = .ok (.goto 10, 3) := by decide +kernel
theorem dX6_fold_64 : decode cX6_fold 64 = .ok (.bipush 16, 2) := by decide +kernel
theorem dX6_fold_66 : decode cX6_fold 66 = .ok (.iload_n 1, 1) := by decide +kernel
theorem dX6_fold_67 : decode cX6_fold 67 = .ok (.imul, 1) := by decide +kernel
theorem dX6_fold_68 : decode cX6_fold 68 = .ok (.iload 5, 2) := by decide +kernel
theorem dX6_fold_70 : decode cX6_fold 70 = .ok (.iadd, 1) := by decide +kernel
theorem dX6_fold_71 : decode cX6_fold 71 = .ok (.istore 6, 2) := by decide +kernel
theorem dX6_fold_73 : decode cX6_fold 73 = .ok (.aload_n 0, 1) := by decide +kernel
theorem dX6_fold_74 : decode cX6_fold 74 = .ok (.iload 4, 2) := by decide +kernel
theorem dX6_fold_76 : decode cX6_fold 76 = .ok (.iload 6, 2) := by decide +kernel
theorem dX6_fold_78 : decode cX6_fold 78 = .ok (.iconst 0, 1) := by decide +kernel
theorem dX6_fold_79 : decode cX6_fold 79 = .ok (.invokevirtual 158, 3) := by decide +kernel
theorem dX6_fold_82 : decode cX6_fold 82 = .ok (.istore 7, 2) := by decide +kernel
theorem dX6_fold_84 : decode cX6_fold 84 = .ok (.iconst 0, 1) := by decide +kernel
theorem dX6_fold_85 : decode cX6_fold 85 = .ok (.istore 8, 2) := by decide +kernel
theorem dX6_fold_87 : decode cX6_fold 87 = .ok (.iload 8, 2) := by decide +kernel
theorem dX6_fold_89 : decode cX6_fold 89 = .ok (.iconst 5, 1) := by decide +kernel
theorem dX6_fold_90 : decode cX6_fold 90 = .ok (.if_icmp .ge 124, 3) := by decide +kernel
theorem dX6_fold_93 : decode cX6_fold 93 = .ok (.iconst 5, 1) := by decide +kernel
theorem dX6_fold_94 : decode cX6_fold 94 = .ok (.iload 4, 2) := by decide +kernel
theorem dX6_fold_96 : decode cX6_fold 96 = .ok (.imul, 1) := by decide +kernel
theorem dX6_fold_97 : decode cX6_fold 97 = .ok (.iload 8, 2) := by decide +kernel
theorem dX6_fold_99 : decode cX6_fold 99 = .ok (.iadd, 1) := by decide +kernel
theorem dX6_fold_100 : decode cX6_fold 100 = .ok (.istore 9, 2) := by decide +kernel
theorem dX6_fold_102 : decode cX6_fold 102 = .ok (.iload 6, 2) := by decide +kernel
theorem dX6_fold_104 : decode cX6_fold 104 = .ok (.iconst (-1), 1) := by decide +kernel
theorem dX6_fold_105 : decode cX6_fold 105 = .ok (.if_icmp .eq 95, 3) := by decide +kernel
theorem dX6_fold_108 : decode cX6_fold 108 = .ok (.aload_n 0, 1) := by decide +kernel
theorem dX6_fold_109 : decode cX6_fold 109 = .ok (.getfield 23, 3) := by decide +kernel
theorem dX6_fold_112 : decode cX6_fold 112 = .ok (.iconst 5, 1) := by decide +kernel
theorem dX6_fold_113 : decode cX6_fold 113 = .ok (.iload 6, 2) := by decide +kernel
theorem dX6_fold_115 : decode cX6_fold 115 = .ok (.imul, 1) := by decide +kernel
theorem dX6_fold_116 : decode cX6_fold 116 = .ok (.iload 8, 2) := by decide +kernel
theorem dX6_fold_118 : decode cX6_fold 118 = .ok (.iadd, 1) := by decide +kernel
theorem dX6_fold_119 : decode cX6_fold 119 = .ok (.iaload, 1) := by decide +kernel
theorem dX6_fold_120 : decode cX6_fold 120 = .ok (.iconst 4, 1) := by decide +kernel
theorem dX6_fold_121 : decode cX6_fold 121 = .ok (.if_icmp .ne 79, 3) := by decide +kernel
theorem dX6_fold_124 : decode cX6_fold 124 = .ok (.aload_n 0, 1) := by decide +kernel
theorem dX6_fold_125 : decode cX6_fold 125 = .ok (.getfield 23, 3) := by decide +kernel
theorem dX6_fold_128 : decode cX6_fold 128 = .ok (.iconst 5, 1) := by decide +kernel
theorem dX6_fold_129 : decode cX6_fold 129 = .ok (.iload 6, 2) := by decide +kernel
theorem dX6_fold_131 : decode cX6_fold 131 = .ok (.imul, 1) := by decide +kernel
theorem dX6_fold_132 : decode cX6_fold 132 = .ok (.iload 8, 2) := by decide +kernel
theorem dX6_fold_134 : decode cX6_fold 134 = .ok (.iadd, 1) := by decide +kernel
theorem dX6_fold_135 : decode cX6_fold 135 = .ok (.aload_n 0, 1) := by decide +kernel
theorem dX6_fold_136 : decode cX6_fold 136 = .ok (.getfield 23, 3) := by decide +kernel
theorem dX6_fold_139 : decode cX6_fold 139 = .ok (.iload 9, 2) := by decide +kernel
theorem dX6_fold_141 : decode cX6_fold 141 = .ok (.iaload, 1) := by decide +kernel
theorem dX6_fold_142 : decode cX6_fold 142 = .ok (.iastore, 1) := by decide +kernel
theorem dX6_fold_143 : decode cX6_fold 143 = .ok (.aload_n 0, 1) := by decide +kernel
theorem dX6_fold_144 : decode cX6_fold 144 = .ok (.getfield 26, 3) := by decide +kernel
theorem dX6_fold_147 : decode cX6_fold 147 = .ok (.iconst 5, 1) := by decide +kernel
theorem dX6_fold_148 : decode cX6_fold 148 = .ok (.iload 6, 2) := by decide +kernel
theorem dX6_fold_150 : decode cX6_fold 150 = .ok (.imul, 1) := by decide +kernel
theorem dX6_fold_151 : decode cX6_fold 151 = .ok (.iload 8, 2) := by decide +kernel
theorem dX6_fold_153 : decode cX6_fold 153 = .ok (.iadd, 1) := by decide +kernel
theorem dX6_fold_154 : decode cX6_fold 154 = .ok (.aload_n 0, 1) := by decide +kernel
theorem dX6_fold_155 : decode cX6_fold 155 = .ok (.getfield 26, 3) := by decide +kernel
theorem dX6_fold_158 : decode cX6_fold 158 = .ok (.iload 9, 2) := by decide +kernel
theorem dX6_fold_160 : decode cX6_fold 160 = .ok (.iaload, 1) := by decide +kernel
theorem dX6_fold_161 : decode cX6_fold 161 = .ok (.iastore, 1) := by decide +kernel
theorem dX6_fold_162 : decode cX6_fold 162 = .ok (.aload_n 0, 1) := by decide +kernel
theorem dX6_fold_163 : decode cX6_fold 163 = .ok (.getfield 29, 3) := by decide +kernel
theorem dX6_fold_166 : decode cX6_fold 166 = .ok (.iconst 5, 1) := by decide +kernel
theorem dX6_fold_167 : decode cX6_fold 167 = .ok (.iload 6, 2) := by decide +kernel
theorem dX6_fold_169 : decode cX6_fold 169 = .ok (.imul, 1) := by decide +kernel
theorem dX6_fold_170 : decode cX6_fold 170 = .ok (.iload 8, 2) := by decide +kernel
theorem dX6_fold_172 : decode cX6_fold 172 = .ok (.iadd, 1) := by decide +kernel
theorem dX6_fold_173 : decode cX6_fold 173 = .ok (.aload_n 0, 1) := by decide +kernel
theorem dX6_fold_174 : decode cX6_fold 174 = .ok (.getfield 29, 3) := by decide +kernel
theorem dX6_fold_177 : decode cX6_fold 177 = .ok (.iload 9, 2) := by decide +kernel
theorem dX6_fold_179 : decode cX6_fold 179 = .ok (.iaload, 1) := by decide +kernel
theorem dX6_fold_180 : decode cX6_fold 180 = .ok (.iastore, 1) := by decide +kernel
theorem dX6_fold_181 : decode cX6_fold 181 = .ok (.aload_n 0, 1) := by decide +kernel
theorem dX6_fold_182 : decode cX6_fold 182 = .ok (.getfield 32, 3) := by decide +kernel
theorem dX6_fold_185 : decode cX6_fold 185 = .ok (.iconst 5, 1) := by decide +kernel
theorem dX6_fold_186 : decode cX6_fold 186 = .ok (.iload 6, 2) := by decide +kernel
theorem dX6_fold_188 : decode cX6_fold 188 = .ok (.imul, 1) := by decide +kernel
theorem dX6_fold_189 : decode cX6_fold 189 = .ok (.iload 8, 2) := by decide +kernel
theorem dX6_fold_191 : decode cX6_fold 191 = .ok (.iadd, 1) := by decide +kernel
theorem dX6_fold_192 : decode cX6_fold 192 = .ok (.aload_n 0, 1) := by decide +kernel
theorem dX6_fold_193 : decode cX6_fold 193 = .ok (.getfield 32, 3) := by decide +kernel
theorem dX6_fold_196 : decode cX6_fold 196 = .ok (.iload 9, 2) := by decide +kernel
theorem dX6_fold_198 : decode cX6_fold 198 = .ok (.iaload, 1) := by decide +kernel
theorem dX6_fold_199 : decode cX6_fold 199 = .ok (.iastore, 1) := by decide +kernel
theorem dX6_fold_200 : decode cX6_fold 200 = .ok (.aload_n 0, 1) := by decide +kernel
theorem dX6_fold_201 : decode cX6_fold 201 = .ok (.getfield 23, 3) := by decide +kernel
theorem dX6_fold_204 : decode cX6_fold 204 = .ok (.iload 9, 2) := by decide +kernel
theorem dX6_fold_206 : decode cX6_fold 206 = .ok (.iconst 4, 1) := by decide +kernel
theorem dX6_fold_207 : decode cX6_fold 207 = .ok (.iastore, 1) := by decide +kernel
theorem dX6_fold_208 : decode cX6_fold 208 = .ok (.iinc 8 1, 3) := by decide +kernel
theorem dX6_fold_211 : decode cX6_fold 211 = .ok (.goto (-124), 3) := by decide +kernel
theorem dX6_fold_214 : decode cX6_fold 214 = .ok (.iload 6, 2) := by decide +kernel
theorem dX6_fold_216 : decode cX6_fold 216 = .ok (.iconst (-1), 1) := by decide +kernel
theorem dX6_fold_217 : decode cX6_fold 217 = .ok (.if_icmp .eq 17, 3) := by decide +kernel
theorem dX6_fold_220 : decode cX6_fold 220 = .ok (.aload_n 0, 1) := by decide +kernel
theorem dX6_fold_221 : decode cX6_fold 221 = .ok (.getfield 13, 3) := by decide +kernel
theorem dX6_fold_224 : decode cX6_fold 224 = .ok (.iload 6, 2) := by decide +kernel
theorem dX6_fold_226 : decode cX6_fold 226 = .ok (.aload_n 0, 1) := by decide +kernel
theorem dX6_fold_227 : decode cX6_fold 227 = .ok (.getfield 13, 3) := by decide +kernel
theorem dX6_fold_230 : decode cX6_fold 230 = .ok (.iload 4, 2) := by decide +kernel
theorem dX6_fold_232 : decode cX6_fold 232 = .ok (.iaload, 1) := by decide +kernel
theorem dX6_fold_233 : decode cX6_fold 233 = .ok (.iastore, 1) := by decide +kernel
theorem dX6_fold_234 : decode cX6_fold 234 = .ok (.aload_n 0, 1) := by decide +kernel
theorem dX6_fold_235 : decode cX6_fold 235 = .ok (.getfield 7, 3) := by decide +kernel
theorem dX6_fold_238 : decode cX6_fold 238 = .ok (.iload 4, 2) := by decide +kernel
theorem dX6_fold_240 : decode cX6_fold 240 = .ok (.iconst 0, 1) := by decide +kernel
theorem dX6_fold_241 : decode cX6_fold 241 = .ok (.bastore, 1) := by decide +kernel
theorem dX6_fold_242 : decode cX6_fold 242 = .ok (.iload 7, 2) := by decide +kernel
theorem dX6_fold_244 : decode cX6_fold 244 = .ok (.ireturn, 1) := by decide +kernel
theorem dX6_sheets_0 : decode cX6_sheets 0 = .ok (.aload_n 0, 1) := by decide +kernel
theorem dX6_sheets_1 : decode cX6_sheets 1 = .ok (.iconst 0, 1) := by decide +kernel
theorem dX6_sheets_2 : decode cX6_sheets 2 = .ok (.putfield 83, 3) := by decide +kernel
theorem dX6_sheets_5 : decode cX6_sheets 5 = .ok (.aload_n 0, 1) := by decide +kernel
theorem dX6_sheets_6 : decode cX6_sheets 6 = .ok (.getfield 91, 3) := by decide +kernel
theorem dX6_sheets_9 : decode cX6_sheets 9 = .ok (.ireturn, 1) := by decide +kernel
theorem dX6_noSheet_0 : decode cX6_noSheet 0 = .ok (.aload_n 0, 1) := by decide +kernel
theorem dX6_noSheet_1 : decode cX6_noSheet 1 = .ok (.aload_n 0, 1) := by decide +kernel
theorem dX6_noSheet_2 : decode cX6_noSheet 2 = .ok (.iload_n 1, 1) := by decide +kernel
theorem dX6_noSheet_3 : decode cX6_noSheet 3 = .ok (.invokevirtual 94, 3) := by decide +kernel
theorem dX6_noSheet_6 : decode cX6_noSheet 6 = .ok (.ifCond .eq 7, 3) := by decide +kernel
theorem dX6_noSheet_9 : decode cX6_noSheet 9 = .ok (.iconst 0, 1) := by decide +kernel
theorem dX6_noSheet_10 : decode cX6_noSheet 10 = .ok (.goto 4, 3) := by decide +kernel
theorem dX6_noSheet_13 : decode cX6_noSheet 13 = .ok (.iconst 1, 1) := by decide +kernel
theorem dX6_noSheet_14 : decode cX6_noSheet 14 = .ok (.invokevirtual 120, 3) := by decide +kernel
theorem dX6_noSheet_17 : decode cX6_noSheet 17 = .ok (.ireturn, 1) := by decide +kernel
theorem dX6_versions_0 : decode cX6_versions 0 = .ok (.aload_n 0, 1) := by decide +kernel
theorem dX6_versions_1 : decode cX6_versions 1 = .ok (.iload_n 1, 1) := by decide +kernel
theorem dX6_versions_2 : decode cX6_versions 2 = .ok (.invokevirtual 165, 3) := by decide +kernel
theorem dX6_versions_5 : decode cX6_versions 5 = .ok (.ifCond .eq 5, 3) := by decide +kernel
theorem dX6_versions_8 : decode cX6_versions 8 = .ok (.iconst 0, 1) := by decide +kernel
theorem dX6_versions_9 : decode cX6_versions 9 = .ok (.ireturn, 1) := by decide +kernel
theorem dX6_versions_10 : decode cX6_versions 10 = .ok (.iconst 0, 1) := by decide +kernel
theorem dX6_versions_11 : decode cX6_versions 11 = .ok (.istore_n 2, 1) := by decide +kernel
theorem dX6_versions_12 : decode cX6_versions 12 = .ok (.iconst 0, 1) := by decide +kernel
theorem dX6_versions_13 : decode cX6_versions 13 = .ok (.istore_n 3, 1) := by decide +kernel
theorem dX6_versions_14 : decode cX6_versions 14 = .ok (.iload_n 3, 1) := by decide +kernel
theorem dX6_versions_15 : decode cX6_versions 15 = .ok (.bipush 16, 2) := by decide +kernel
theorem dX6_versions_17 : decode cX6_versions 17 = .ok (.if_icmp .ge 31, 3) := by decide +kernel
theorem dX6_versions_20 : decode cX6_versions 20 = .ok (.iload_n 2, 1) := by decide +kernel
theorem dX6_versions_21 : decode cX6_versions 21 = .ok (.aload_n 0, 1) := by decide +kernel
theorem dX6_versions_22 : decode cX6_versions 22 = .ok (.getfield 7, 3) := by decide +kernel
theorem dX6_versions_25 : decode cX6_versions 25 = .ok (.bipush 16, 2) := by decide +kernel
theorem dX6_versions_27 : decode cX6_versions 27 = .ok (.iload_n 1, 1) := by decide +kernel
theorem dX6_versions_28 : decode cX6_versions 28 = .ok (.imul, 1) := by decide +kernel
theorem dX6_versions_29 : decode cX6_versions 29 = .ok (.iload_n 3, 1) := by decide +kernel
theorem dX6_versions_30 : decode cX6_versions 30 = .ok (.iadd, 1) := by decide +kernel
theorem dX6_versions_31 : decode cX6_versions 31 = .ok (.baload, 1) := by decide +kernel
theorem dX6_versions_32 : decode cX6_versions 32 = .ok (.ifCond .eq 7, 3) := by decide +kernel
theorem dX6_versions_35 : decode cX6_versions 35 = .ok (.iconst 1, 1) := by decide +kernel
theorem dX6_versions_36 : decode cX6_versions 36 = .ok (.goto 4, 3) := by decide +kernel
theorem dX6_versions_39 : decode cX6_versions 39 = .ok (.iconst 0, 1) := by decide +kernel
theorem dX6_versions_40 : decode cX6_versions 40 = .ok (.iadd, 1) := by decide +kernel
theorem dX6_versions_41 : decode cX6_versions 41 = .ok (.istore_n 2, 1) := by decide +kernel
theorem dX6_versions_42 : decode cX6_versions 42 = .ok (.iinc 3 1, 3) := by decide +kernel
theorem dX6_versions_45 : decode cX6_versions 45 = .ok (.goto (-31), 3) := by decide +kernel
theorem dX6_versions_48 : decode cX6_versions 48 = .ok (.iload_n 2, 1) := by decide +kernel
theorem dX6_versions_49 : decode cX6_versions 49 = .ok (.ireturn, 1) := by decide +kernel
theorem dX6_head_0 : decode cX6_head 0 = .ok (.aload_n 0, 1) := by decide +kernel
theorem dX6_head_1 : decode cX6_head 1 = .ok (.iload_n 1, 1) := by decide +kernel
theorem dX6_head_2 : decode cX6_head 2 = .ok (.invokestatic 127, 3) := by decide +kernel
theorem dX6_head_5 : decode cX6_head 5 = .ok (.ifCond .eq 15, 3) := by decide +kernel
theorem dX6_head_8 : decode cX6_head 8 = .ok (.aload_n 0, 1) := by decide +kernel
theorem dX6_head_9 : decode cX6_head 9 = .ok (.iload_n 2, 1) := by decide +kernel
theorem dX6_head_10 : decode cX6_head 10 = .ok (.invokevirtual 94, 3) := by decide +kernel
theorem dX6_head_13 : decode cX6_head 13 = .ok (.ifCond .eq 7, 3) := by decide +kernel
theorem dX6_head_16 : decode cX6_head 16 = .ok (.iconst 0, 1) := by decide +kernel
theorem dX6_head_17 : decode cX6_head 17 = .ok (.goto 4, 3) := by decide +kernel
theorem dX6_head_20 : decode cX6_head 20 = .ok (.iconst 1, 1) := by decide +kernel
theorem dX6_head_21 : decode cX6_head 21 = .ok (.invokevirtual 120, 3) := by decide +kernel
theorem dX6_head_24 : decode cX6_head 24 = .ok (.ifCond .eq 7, 3) := by decide +kernel
theorem dX6_head_27 : decode cX6_head 27 = .ok (.iconst 0, 1) := by decide +kernel
theorem dX6_head_28 : decode cX6_head 28 = .ok (.goto 13, 3) := by decide +kernel
theorem dX6_head_31 : decode cX6_head 31 = .ok (.aload_n 0, 1) := by decide +kernel
theorem dX6_head_32 : decode cX6_head 32 = .ok (.getfield 35, 3) := by decide +kernel
theorem dX6_head_35 : decode cX6_head 35 = .ok (.iconst 4, 1) := by decide +kernel
theorem dX6_head_36 : decode cX6_head 36 = .ok (.iload_n 2, 1) := by decide +kernel
theorem dX6_head_37 : decode cX6_head 37 = .ok (.imul, 1) := by decide +kernel
theorem dX6_head_38 : decode cX6_head 38 = .ok (.iload_n 1, 1) := by decide +kernel
theorem dX6_head_39 : decode cX6_head 39 = .ok (.iadd, 1) := by decide +kernel
theorem dX6_head_40 : decode cX6_head 40 = .ok (.iaload, 1) := by decide +kernel
theorem dX6_head_41 : decode cX6_head 41 = .ok (.ireturn, 1) := by decide +kernel
theorem dX6_parent_0 : decode cX6_parent 0 = .ok (.aload_n 0, 1) := by decide +kernel
theorem dX6_parent_1 : decode cX6_parent 1 = .ok (.aload_n 0, 1) := by decide +kernel
theorem dX6_parent_2 : decode cX6_parent 2 = .ok (.iload_n 1, 1) := by decide +kernel
theorem dX6_parent_3 : decode cX6_parent 3 = .ok (.iload_n 2, 1) := by decide +kernel
theorem dX6_parent_4 : decode cX6_parent 4 = .ok (.invokevirtual 149, 3) := by decide +kernel
theorem dX6_parent_7 : decode cX6_parent 7 = .ok (.ifCond .eq 7, 3) := by decide +kernel
theorem dX6_parent_10 : decode cX6_parent 10 = .ok (.iconst 0, 1) := by decide +kernel
theorem dX6_parent_11 : decode cX6_parent 11 = .ok (.goto 4, 3) := by decide +kernel
theorem dX6_parent_14 : decode cX6_parent 14 = .ok (.iconst 1, 1) := by decide +kernel
theorem dX6_parent_15 : decode cX6_parent 15 = .ok (.invokevirtual 120, 3) := by decide +kernel
theorem dX6_parent_18 : decode cX6_parent 18 = .ok (.ifCond .eq 7, 3) := by decide +kernel
theorem dX6_parent_21 : decode cX6_parent 21 = .ok (.iconst 0, 1) := by decide +kernel
theorem dX6_parent_22 : decode cX6_parent 22 = .ok (.goto 14, 3) := by decide +kernel
theorem dX6_parent_25 : decode cX6_parent 25 = .ok (.aload_n 0, 1) := by decide +kernel
theorem dX6_parent_26 : decode cX6_parent 26 = .ok (.getfield 13, 3) := by decide +kernel
theorem dX6_parent_29 : decode cX6_parent 29 = .ok (.bipush 16, 2) := by decide +kernel
theorem dX6_parent_31 : decode cX6_parent 31 = .ok (.iload_n 1, 1) := by decide +kernel
theorem dX6_parent_32 : decode cX6_parent 32 = .ok (.imul, 1) := by decide +kernel
theorem dX6_parent_33 : decode cX6_parent 33 = .ok (.iload_n 2, 1) := by decide +kernel
theorem dX6_parent_34 : decode cX6_parent 34 = .ok (.iadd, 1) := by decide +kernel
theorem dX6_parent_35 : decode cX6_parent 35 = .ok (.iaload, 1) := by decide +kernel
theorem dX6_parent_36 : decode cX6_parent 36 = .ok (.ireturn, 1) := by decide +kernel
theorem dX6_noTask_0 : decode cX6_noTask 0 = .ok (.aload_n 0, 1) := by decide +kernel
theorem dX6_noTask_1 : decode cX6_noTask 1 = .ok (.aload_n 0, 1) := by decide +kernel
theorem dX6_noTask_2 : decode cX6_noTask 2 = .ok (.iload_n 1, 1) := by decide +kernel
theorem dX6_noTask_3 : decode cX6_noTask 3 = .ok (.iload_n 2, 1) := by decide +kernel
theorem dX6_noTask_4 : decode cX6_noTask 4 = .ok (.invokevirtual 149, 3) := by decide +kernel
theorem dX6_noTask_7 : decode cX6_noTask 7 = .ok (.ifCond .eq 14, 3) := by decide +kernel
theorem dX6_noTask_10 : decode cX6_noTask 10 = .ok (.iload_n 3, 1) := by decide +kernel
theorem dX6_noTask_11 : decode cX6_noTask 11 = .ok (.invokestatic 130, 3) := by decide +kernel
theorem dX6_noTask_14 : decode cX6_noTask 14 = .ok (.ifCond .eq 7, 3) := by decide +kernel
theorem dX6_noTask_17 : decode cX6_noTask 17 = .ok (.iconst 0, 1) := by decide +kernel
theorem dX6_noTask_18 : decode cX6_noTask 18 = .ok (.goto 4, 3) := by decide +kernel
theorem dX6_noTask_21 : decode cX6_noTask 21 = .ok (.iconst 1, 1) := by decide +kernel
theorem dX6_noTask_22 : decode cX6_noTask 22 = .ok (.invokevirtual 120, 3) := by decide +kernel
theorem dX6_noTask_25 : decode cX6_noTask 25 = .ok (.ireturn, 1) := by decide +kernel
theorem dX6_kindOf_0 : decode cX6_kindOf 0 = .ok (.aload_n 0, 1) := by decide +kernel
theorem dX6_kindOf_1 : decode cX6_kindOf 1 = .ok (.iload_n 1, 1) := by decide +kernel
theorem dX6_kindOf_2 : decode cX6_kindOf 2 = .ok (.iload_n 2, 1) := by decide +kernel
theorem dX6_kindOf_3 : decode cX6_kindOf 3 = .ok (.iload_n 3, 1) := by decide +kernel
theorem dX6_kindOf_4 : decode cX6_kindOf 4 = .ok (.invokevirtual 168, 3) := by decide +kernel
theorem dX6_kindOf_7 : decode cX6_kindOf 7 = .ok (.ifCond .eq 5, 3) := by decide +kernel
theorem dX6_kindOf_10 : decode cX6_kindOf 10 = .ok (.iconst 0, 1) := by decide +kernel
theorem dX6_kindOf_11 : decode cX6_kindOf 11 = .ok (.ireturn, 1) := by decide +kernel
theorem dX6_kindOf_12 : decode cX6_kindOf 12 = .ok (.aload_n 0, 1) := by decide +kernel
theorem dX6_kindOf_13 : decode cX6_kindOf 13 = .ok (.iload_n 1, 1) := by decide +kernel
theorem dX6_kindOf_14 : decode cX6_kindOf 14 = .ok (.iload_n 2, 1) := by decide +kernel
theorem dX6_kindOf_15 : decode cX6_kindOf 15 = .ok (.iload_n 3, 1) := by decide +kernel
theorem dX6_kindOf_16 : decode cX6_kindOf 16 = .ok (.invokevirtual 146, 3) := by decide +kernel
theorem dX6_kindOf_19 : decode cX6_kindOf 19 = .ok (.istore 4, 2) := by decide +kernel
theorem dX6_kindOf_21 : decode cX6_kindOf 21 = .ok (.iload 4, 2) := by decide +kernel
theorem dX6_kindOf_23 : decode cX6_kindOf 23 = .ok (.iconst (-1), 1) := by decide +kernel
theorem dX6_kindOf_24 : decode cX6_kindOf 24 = .ok (.if_icmp .ne 7, 3) := by decide +kernel
theorem dX6_kindOf_27 : decode cX6_kindOf 27 = .ok (.iconst (-1), 1) := by decide +kernel
theorem dX6_kindOf_28 : decode cX6_kindOf 28 = .ok (.goto 10, 3) := by decide +kernel
theorem dX6_kindOf_31 : decode cX6_kindOf 31 = .ok (.aload_n 0, 1) := by decide +kernel
theorem dX6_kindOf_32 : decode cX6_kindOf 32 = .ok (.getfield 23, 3) := by decide +kernel
theorem dX6_kindOf_35 : decode cX6_kindOf 35 = .ok (.iload 4, 2) := by decide +kernel
theorem dX6_kindOf_37 : decode cX6_kindOf 37 = .ok (.iaload, 1) := by decide +kernel
theorem dX6_kindOf_38 : decode cX6_kindOf 38 = .ok (.ireturn, 1) := by decide +kernel
theorem dX6_toldIn_0 : decode cX6_toldIn 0 = .ok (.aload_n 0, 1) := by decide +kernel
theorem dX6_toldIn_1 : decode cX6_toldIn 1 = .ok (.iload_n 1, 1) := by decide +kernel
theorem dX6_toldIn_2 : decode cX6_toldIn 2 = .ok (.iload_n 2, 1) := by decide +kernel
theorem dX6_toldIn_3 : decode cX6_toldIn 3 = .ok (.iload_n 3, 1) := by decide +kernel
theorem dX6_toldIn_4 : decode cX6_toldIn 4 = .ok (.invokevirtual 168, 3) := by decide +kernel
theorem dX6_toldIn_7 : decode cX6_toldIn 7 = .ok (.ifCond .eq 5, 3) := by decide +kernel
theorem dX6_toldIn_10 : decode cX6_toldIn 10 = .ok (.iconst 0, 1) := by decide +kernel
theorem dX6_toldIn_11 : decode cX6_toldIn 11 = .ok (.ireturn, 1) := by decide +kernel
theorem dX6_toldIn_12 : decode cX6_toldIn 12 = .ok (.aload_n 0, 1) := by decide +kernel
theorem dX6_toldIn_13 : decode cX6_toldIn 13 = .ok (.iload_n 1, 1) := by decide +kernel
theorem dX6_toldIn_14 : decode cX6_toldIn 14 = .ok (.iload_n 2, 1) := by decide +kernel
theorem dX6_toldIn_15 : decode cX6_toldIn 15 = .ok (.iload_n 3, 1) := by decide +kernel
theorem dX6_toldIn_16 : decode cX6_toldIn 16 = .ok (.invokevirtual 107, 3) := by decide +kernel
theorem dX6_toldIn_19 : decode cX6_toldIn 19 = .ok (.istore 4, 2) := by decide +kernel
theorem dX6_toldIn_21 : decode cX6_toldIn 21 = .ok (.iload 4, 2) := by decide +kernel
theorem dX6_toldIn_23 : decode cX6_toldIn 23 = .ok (.iconst (-1), 1) := by decide +kernel
theorem dX6_toldIn_24 : decode cX6_toldIn 24 = .ok (.if_icmp .ne 7, 3) := by decide +kernel
theorem dX6_toldIn_27 : decode cX6_toldIn 27 = .ok (.iconst (-1), 1) := by decide +kernel
theorem dX6_toldIn_28 : decode cX6_toldIn 28 = .ok (.goto 10, 3) := by decide +kernel
theorem dX6_toldIn_31 : decode cX6_toldIn 31 = .ok (.iload 4, 2) := by decide +kernel
theorem dX6_toldIn_33 : decode cX6_toldIn 33 = .ok (.iconst 5, 1) := by decide +kernel
theorem dX6_toldIn_34 : decode cX6_toldIn 34 = .ok (.idiv, 1) := by decide +kernel
theorem dX6_toldIn_35 : decode cX6_toldIn 35 = .ok (.bipush 16, 2) := by decide +kernel
theorem dX6_toldIn_37 : decode cX6_toldIn 37 = .ok (.irem, 1) := by decide +kernel
theorem dX6_toldIn_38 : decode cX6_toldIn 38 = .ok (.ireturn, 1) := by decide +kernel
theorem dX6_points_0 : decode cX6_points 0 = .ok (.aload_n 0, 1) := by decide +kernel
theorem dX6_points_1 : decode cX6_points 1 = .ok (.aload_n 0, 1) := by decide +kernel
theorem dX6_points_2 : decode cX6_points 2 = .ok (.iload_n 1, 1) := by decide +kernel
theorem dX6_points_3 : decode cX6_points 3 = .ok (.iload_n 2, 1) := by decide +kernel
theorem dX6_points_4 : decode cX6_points 4 = .ok (.invokevirtual 149, 3) := by decide +kernel
theorem dX6_points_7 : decode cX6_points 7 = .ok (.ifCond .eq 7, 3) := by decide +kernel
theorem dX6_points_10 : decode cX6_points 10 = .ok (.iconst 0, 1) := by decide +kernel
theorem dX6_points_11 : decode cX6_points 11 = .ok (.goto 4, 3) := by decide +kernel
theorem dX6_points_14 : decode cX6_points 14 = .ok (.iconst 1, 1) := by decide +kernel
theorem dX6_points_15 : decode cX6_points 15 = .ok (.invokevirtual 120, 3) := by decide +kernel
theorem dX6_points_18 : decode cX6_points 18 = .ok (.ifCond .eq 5, 3) := by decide +kernel
theorem dX6_points_21 : decode cX6_points 21 = .ok (.iconst 0, 1) := by decide +kernel
theorem dX6_points_22 : decode cX6_points 22 = .ok (.ireturn, 1) := by decide +kernel
theorem dX6_points_23 : decode cX6_points 23 = .ok (.iconst 0, 1) := by decide +kernel
theorem dX6_points_24 : decode cX6_points 24 = .ok (.istore_n 3, 1) := by decide +kernel
theorem dX6_points_25 : decode cX6_points 25 = .ok (.iconst 0, 1) := by decide +kernel
theorem dX6_points_26 : decode cX6_points 26 = .ok (.istore 4, 2) := by decide +kernel
theorem dX6_points_28 : decode cX6_points 28 = .ok (.iload 4, 2) := by decide +kernel
theorem dX6_points_30 : decode cX6_points 30 = .ok (.iconst 5, 1) := by decide +kernel
theorem dX6_points_31 : decode cX6_points 31 = .ok (.if_icmp .ge 39, 3) := by decide +kernel
theorem dX6_points_34 : decode cX6_points 34 = .ok (.aload_n 0, 1) := by decide +kernel
theorem dX6_points_35 : decode cX6_points 35 = .ok (.iload_n 1, 1) := by decide +kernel
theorem dX6_points_36 : decode cX6_points 36 = .ok (.iload_n 2, 1) := by decide +kernel
theorem dX6_points_37 : decode cX6_points 37 = .ok (.iload 4, 2) := by decide +kernel
theorem dX6_points_39 : decode cX6_points 39 = .ok (.invokevirtual 146, 3) := by decide +kernel
theorem dX6_points_42 : decode cX6_points 42 = .ok (.istore 5, 2) := by decide +kernel
theorem dX6_points_44 : decode cX6_points 44 = .ok (.iload_n 3, 1) := by decide +kernel
theorem dX6_points_45 : decode cX6_points 45 = .ok (.iload 5, 2) := by decide +kernel
theorem dX6_points_47 : decode cX6_points 47 = .ok (.iconst (-1), 1) := by decide +kernel
theorem dX6_points_48 : decode cX6_points 48 = .ok (.if_icmp .ne 7, 3) := by decide +kernel
theorem dX6_points_51 : decode cX6_points 51 = .ok (.iconst 0, 1) := by decide +kernel
theorem dX6_points_52 : decode cX6_points 52 = .ok (.goto 10, 3) := by decide +kernel
theorem dX6_points_55 : decode cX6_points 55 = .ok (.aload_n 0, 1) := by decide +kernel
theorem dX6_points_56 : decode cX6_points 56 = .ok (.getfield 26, 3) := by decide +kernel
theorem dX6_points_59 : decode cX6_points 59 = .ok (.iload 5, 2) := by decide +kernel
theorem dX6_points_61 : decode cX6_points 61 = .ok (.iaload, 1) := by decide +kernel
theorem dX6_points_62 : decode cX6_points 62 = .ok (.iadd, 1) := by decide +kernel
theorem dX6_points_63 : decode cX6_points 63 = .ok (.istore_n 3, 1) := by decide +kernel
theorem dX6_points_64 : decode cX6_points 64 = .ok (.iinc 4 1, 3) := by decide +kernel
theorem dX6_points_67 : decode cX6_points 67 = .ok (.goto (-39), 3) := by decide +kernel
theorem dX6_points_70 : decode cX6_points 70 = .ok (.iload_n 3, 1) := by decide +kernel
theorem dX6_points_71 : decode cX6_points 71 = .ok (.ireturn, 1) := by decide +kernel
theorem dX6_bits_0 : decode cX6_bits 0 = .ok (.iconst 0, 1) := by decide +kernel
theorem dX6_bits_1 : decode cX6_bits 1 = .ok (.istore_n 1, 1) := by decide +kernel
theorem dX6_bits_2 : decode cX6_bits 2 = .ok (.iload_n 0, 1) := by decide +kernel
theorem dX6_bits_3 : decode cX6_bits 3 = .ok (.istore_n 2, 1) := by decide +kernel
theorem dX6_bits_4 : decode cX6_bits 4 = .ok (.iload_n 2, 1) := by decide +kernel
theorem dX6_bits_5 : decode cX6_bits 5 = .ok (.ifCond .eq 15, 3) := by decide +kernel
theorem dX6_bits_8 : decode cX6_bits 8 = .ok (.iinc 1 1, 3) := by decide +kernel
theorem dX6_bits_11 : decode cX6_bits 11 = .ok (.iload_n 2, 1) := by decide +kernel
theorem dX6_bits_12 : decode cX6_bits 12 = .ok (.iload_n 2, 1) := by decide +kernel
theorem dX6_bits_13 : decode cX6_bits 13 = .ok (.iconst 1, 1) := by decide +kernel
theorem dX6_bits_14 : decode cX6_bits 14 = .ok (.isub, 1) := by decide +kernel
theorem dX6_bits_15 : decode cX6_bits 15 = .ok (.iand, 1) := by decide +kernel
theorem dX6_bits_16 : decode cX6_bits 16 = .ok (.istore_n 2, 1) := by decide +kernel
theorem dX6_bits_17 : decode cX6_bits 17 = .ok (.goto (-13), 3) := by decide +kernel
theorem dX6_bits_20 : decode cX6_bits 20 = .ok (.iload_n 1, 1) := by decide +kernel
theorem dX6_bits_21 : decode cX6_bits 21 = .ok (.ireturn, 1) := by decide +kernel
theorem dX6_common_0 : decode cX6_common 0 = .ok (.iload_n 1, 1) := by decide +kernel
theorem dX6_common_1 : decode cX6_common 1 = .ok (.invokestatic 103, 3) := by decide +kernel
theorem dX6_common_4 : decode cX6_common 4 = .ok (.istore_n 3, 1) := by decide +kernel
theorem dX6_common_5 : decode cX6_common 5 = .ok (.iconst 0, 1) := by decide +kernel
theorem dX6_common_6 : decode cX6_common 6 = .ok (.istore 4, 2) := by decide +kernel
theorem dX6_common_8 : decode cX6_common 8 = .ok (.iload 4, 2) := by decide +kernel
theorem dX6_common_10 : decode cX6_common 10 = .ok (.iload_n 3, 1) := by decide +kernel
theorem dX6_common_11 : decode cX6_common 11 = .ok (.if_icmp .gt 17, 3) := by decide +kernel
theorem dX6_common_14 : decode cX6_common 14 = .ok (.aload_n 0, 1) := by decide +kernel
theorem dX6_common_15 : decode cX6_common 15 = .ok (.getfield 71, 3) := by decide +kernel
theorem dX6_common_18 : decode cX6_common 18 = .ok (.iload 4, 2) := by decide +kernel
theorem dX6_common_20 : decode cX6_common 20 = .ok (.iconst 0, 1) := by decide +kernel
theorem dX6_common_21 : decode cX6_common 21 = .ok (.iastore, 1) := by decide +kernel
theorem dX6_common_22 : decode cX6_common 22 = .ok (.iinc 4 1, 3) := by decide +kernel
theorem dX6_common_25 : decode cX6_common 25 = .ok (.goto (-17), 3) := by decide +kernel
theorem dX6_common_28 : decode cX6_common 28 = .ok (.iconst 0, 1) := by decide +kernel
theorem dX6_common_29 : decode cX6_common 29 = .ok (.istore 4, 2) := by decide +kernel
theorem dX6_common_31 : decode cX6_common 31 = .ok (.iload 4, 2) := by decide +kernel
theorem dX6_common_33 : decode cX6_common 33 = .ok (.aload_n 0, 1) := by decide +kernel
theorem dX6_common_34 : decode cX6_common 34 = .ok (.getfield 65, 3) := by decide +kernel
theorem dX6_common_37 : decode cX6_common 37 = .ok (.iload_n 2, 1) := by decide +kernel
theorem dX6_common_38 : decode cX6_common 38 = .ok (.iaload, 1) := by decide +kernel
theorem dX6_common_39 : decode cX6_common 39 = .ok (.if_icmp .ge 109, 3) := by decide +kernel
theorem dX6_common_42 : decode cX6_common 42 = .ok (.iconst 0, 1) := by decide +kernel
theorem dX6_common_43 : decode cX6_common 43 = .ok (.istore 5, 2) := by decide +kernel
theorem dX6_common_45 : decode cX6_common 45 = .ok (.iconst 1, 1) := by decide +kernel
theorem dX6_common_46 : decode cX6_common 46 = .ok (.istore 6, 2) := by decide +kernel
theorem dX6_common_48 : decode cX6_common 48 = .ok (.iload 6, 2) := by decide +kernel
theorem dX6_common_50 : decode cX6_common 50 = .ok (.iload_n 3, 1) := by decide +kernel
theorem dX6_common_51 : decode cX6_common 51 = .ok (.if_icmp .gt 91, 3) := by decide +kernel
theorem dX6_common_54 : decode cX6_common 54 = .ok (.aload_n 0, 1) := by decide +kernel
theorem dX6_common_55 : decode cX6_common 55 = .ok (.getfield 71, 3) := by decide +kernel
theorem dX6_common_58 : decode cX6_common 58 = .ok (.iload 6, 2) := by decide +kernel
theorem dX6_common_60 : decode cX6_common 60 = .ok (.iaload, 1) := by decide +kernel
theorem dX6_common_61 : decode cX6_common 61 = .ok (.istore 7, 2) := by decide +kernel
theorem dX6_common_63 : decode cX6_common 63 = .ok (.iload 7, 2) := by decide +kernel
theorem dX6_common_65 : decode cX6_common 65 = .ok (.aload_n 0, 1) := by decide +kernel
theorem dX6_common_66 : decode cX6_common 66 = .ok (.getfield 71, 3) := by decide +kernel
theorem dX6_common_69 : decode cX6_common 69 = .ok (.iload 6, 2) := by decide +kernel
theorem dX6_common_71 : decode cX6_common 71 = .ok (.iconst 1, 1) := by decide +kernel
theorem dX6_common_72 : decode cX6_common 72 = .ok (.isub, 1) := by decide +kernel
theorem dX6_common_73 : decode cX6_common 73 = .ok (.iaload, 1) := by decide +kernel
theorem dX6_common_74 : decode cX6_common 74 = .ok (.if_icmp .le 8, 3) := by decide +kernel
theorem dX6_common_77 : decode cX6_common 77 = .ok (.iload 7, 2) := by decide +kernel
theorem dX6_common_79 : decode cX6_common 79 = .ok (.goto 12, 3) := by decide +kernel
theorem dX6_common_82 : decode cX6_common 82 = .ok (.aload_n 0, 1) := by decide +kernel
theorem dX6_common_83 : decode cX6_common 83 = .ok (.getfield 71, 3) := by decide +kernel
theorem dX6_common_86 : decode cX6_common 86 = .ok (.iload 6, 2) := by decide +kernel
theorem dX6_common_88 : decode cX6_common 88 = .ok (.iconst 1, 1) := by decide +kernel
theorem dX6_common_89 : decode cX6_common 89 = .ok (.isub, 1) := by decide +kernel
theorem dX6_common_90 : decode cX6_common 90 = .ok (.iaload, 1) := by decide +kernel
theorem dX6_common_91 : decode cX6_common 91 = .ok (.istore 8, 2) := by decide +kernel
theorem dX6_common_93 : decode cX6_common 93 = .ok (.aload_n 0, 1) := by decide +kernel
theorem dX6_common_94 : decode cX6_common 94 = .ok (.getfield 71, 3) := by decide +kernel
theorem dX6_common_97 : decode cX6_common 97 = .ok (.iload 6, 2) := by decide +kernel
theorem dX6_common_99 : decode cX6_common 99 = .ok (.iload_n 1, 1) := by decide +kernel
theorem dX6_common_100 : decode cX6_common 100 = .ok (.iload 6, 2) := by decide +kernel
theorem dX6_common_102 : decode cX6_common 102 = .ok (.iconst 1, 1) := by decide +kernel
theorem dX6_common_103 : decode cX6_common 103 = .ok (.isub, 1) := by decide +kernel
theorem dX6_common_104 : decode cX6_common 104 = .ok (.invokestatic 98, 3) := by decide +kernel
theorem dX6_common_107 : decode cX6_common 107 = .ok (.aload_n 0, 1) := by decide +kernel
theorem dX6_common_108 : decode cX6_common 108 = .ok (.getfield 68, 3) := by decide +kernel
theorem dX6_common_111 : decode cX6_common 111 = .ok (.bipush 12, 2) := by decide +kernel
theorem dX6_common_113 : decode cX6_common 113 = .ok (.iload_n 2, 1) := by decide +kernel
theorem dX6_common_114 : decode cX6_common 114 = .ok (.imul, 1) := by decide +kernel
theorem dX6_common_115 : decode cX6_common 115 = .ok (.iload 4, 2) := by decide +kernel
theorem dX6_common_117 : decode cX6_common 117 = .ok (.iadd, 1) := by decide +kernel
theorem dX6_common_118 : decode cX6_common 118 = .ok (.iaload, 1) := by decide +kernel
theorem dX6_common_119 : decode cX6_common 119 = .ok (.if_icmp .ne 10, 3) := by decide +kernel
theorem dX6_common_122 : decode cX6_common 122 = .ok (.iload 5, 2) := by decide +kernel
theorem dX6_common_124 : decode cX6_common 124 = .ok (.iconst 1, 1) := by decide +kernel
theorem dX6_common_125 : decode cX6_common 125 = .ok (.iadd, 1) := by decide +kernel
theorem dX6_common_126 : decode cX6_common 126 = .ok (.goto 5, 3) := by decide +kernel
theorem dX6_common_129 : decode cX6_common 129 = .ok (.iload 8, 2) := by decide +kernel
theorem dX6_common_131 : decode cX6_common 131 = .ok (.iastore, 1) := by decide +kernel
theorem dX6_common_132 : decode cX6_common 132 = .ok (.iload 7, 2) := by decide +kernel
theorem dX6_common_134 : decode cX6_common 134 = .ok (.istore 5, 2) := by decide +kernel
theorem dX6_common_136 : decode cX6_common 136 = .ok (.iinc 6 1, 3) := by decide +kernel
theorem dX6_common_139 : decode cX6_common 139 = .ok (.goto (-91), 3) := by decide +kernel
theorem dX6_common_142 : decode cX6_common 142 = .ok (.iinc 4 1, 3) := by decide +kernel
theorem dX6_common_145 : decode cX6_common 145 = .ok (.goto (-114), 3) := by decide +kernel
theorem dX6_common_148 : decode cX6_common 148 = .ok (.aload_n 0, 1) := by decide +kernel
theorem dX6_common_149 : decode cX6_common 149 = .ok (.getfield 71, 3) := by decide +kernel
theorem dX6_common_152 : decode cX6_common 152 = .ok (.iload_n 3, 1) := by decide +kernel
theorem dX6_common_153 : decode cX6_common 153 = .ok (.iaload, 1) := by decide +kernel
theorem dX6_common_154 : decode cX6_common 154 = .ok (.ireturn, 1) := by decide +kernel
theorem dX6_gained_0 : decode cX6_gained 0 = .ok (.aload_n 0, 1) := by decide +kernel
theorem dX6_gained_1 : decode cX6_gained 1 = .ok (.getfield 26, 3) := by decide +kernel
theorem dX6_gained_4 : decode cX6_gained 4 = .ok (.iload_n 1, 1) := by decide +kernel
theorem dX6_gained_5 : decode cX6_gained 5 = .ok (.iaload, 1) := by decide +kernel
theorem dX6_gained_6 : decode cX6_gained 6 = .ok (.istore_n 3, 1) := by decide +kernel
theorem dX6_gained_7 : decode cX6_gained 7 = .ok (.aload_n 0, 1) := by decide +kernel
theorem dX6_gained_8 : decode cX6_gained 8 = .ok (.getfield 23, 3) := by decide +kernel
theorem dX6_gained_11 : decode cX6_gained 11 = .ok (.iload_n 1, 1) := by decide +kernel
theorem dX6_gained_12 : decode cX6_gained 12 = .ok (.iaload, 1) := by decide +kernel
theorem dX6_gained_13 : decode cX6_gained 13 = .ok (.ifCond .ne 54, 3) := by decide +kernel
theorem dX6_gained_16 : decode cX6_gained 16 = .ok (.aload_n 0, 1) := by decide +kernel
theorem dX6_gained_17 : decode cX6_gained 17 = .ok (.getfield 59, 3) := by decide +kernel
theorem dX6_gained_20 : decode cX6_gained 20 = .ok (.iload_n 2, 1) := by decide +kernel
theorem dX6_gained_21 : decode cX6_gained 21 = .ok (.iaload, 1) := by decide +kernel
theorem dX6_gained_22 : decode cX6_gained 22 = .ok (.aload_n 0, 1) := by decide +kernel
theorem dX6_gained_23 : decode cX6_gained 23 = .ok (.getfield 29, 3) := by decide +kernel
theorem dX6_gained_26 : decode cX6_gained 26 = .ok (.iload_n 1, 1) := by decide +kernel
theorem dX6_gained_27 : decode cX6_gained 27 = .ok (.iaload, 1) := by decide +kernel
theorem dX6_gained_28 : decode cX6_gained 28 = .ok (.isub, 1) := by decide +kernel
theorem dX6_gained_29 : decode cX6_gained 29 = .ok (.istore 4, 2) := by decide +kernel
theorem dX6_gained_31 : decode cX6_gained 31 = .ok (.aload_n 0, 1) := by decide +kernel
theorem dX6_gained_32 : decode cX6_gained 32 = .ok (.getfield 56, 3) := by decide +kernel
theorem dX6_gained_35 : decode cX6_gained 35 = .ok (.iload_n 2, 1) := by decide +kernel
theorem dX6_gained_36 : decode cX6_gained 36 = .ok (.baload, 1) := by decide +kernel
theorem dX6_gained_37 : decode cX6_gained 37 = .ok (.ifCond .eq 28, 3) := by decide +kernel
theorem dX6_gained_40 : decode cX6_gained 40 = .ok (.iload 4, 2) := by decide +kernel
theorem dX6_gained_42 : decode cX6_gained 42 = .ok (.aload_n 0, 1) := by decide +kernel
theorem dX6_gained_43 : decode cX6_gained 43 = .ok (.getfield 32, 3) := by decide +kernel
theorem dX6_gained_46 : decode cX6_gained 46 = .ok (.iload_n 1, 1) := by decide +kernel
theorem dX6_gained_47 : decode cX6_gained 47 = .ok (.iaload, 1) := by decide +kernel
theorem dX6_gained_48 : decode cX6_gained 48 = .ok (.ineg, 1) := by decide +kernel
theorem dX6_gained_49 : decode cX6_gained 49 = .ok (.aload_n 0, 1) := by decide +kernel
theorem dX6_gained_50 : decode cX6_gained 50 = .ok (.getfield 32, 3) := by decide +kernel
theorem dX6_gained_53 : decode cX6_gained 53 = .ok (.iload_n 1, 1) := by decide +kernel
theorem dX6_gained_54 : decode cX6_gained 54 = .ok (.iaload, 1) := by decide +kernel
theorem dX6_gained_55 : decode cX6_gained 55 = .ok (.invokestatic 87, 3) := by decide +kernel
theorem dX6_gained_58 : decode cX6_gained 58 = .ok (.ifCond .eq 7, 3) := by decide +kernel
theorem dX6_gained_61 : decode cX6_gained 61 = .ok (.iload_n 3, 1) := by decide +kernel
theorem dX6_gained_62 : decode cX6_gained 62 = .ok (.goto 4, 3) := by decide +kernel
theorem dX6_gained_65 : decode cX6_gained 65 = .ok (.iconst 0, 1) := by decide +kernel
theorem dX6_gained_66 : decode cX6_gained 66 = .ok (.ireturn, 1) := by decide +kernel
theorem dX6_gained_67 : decode cX6_gained 67 = .ok (.aload_n 0, 1) := by decide +kernel
theorem dX6_gained_68 : decode cX6_gained 68 = .ok (.getfield 23, 3) := by decide +kernel
theorem dX6_gained_71 : decode cX6_gained 71 = .ok (.iload_n 1, 1) := by decide +kernel
theorem dX6_gained_72 : decode cX6_gained 72 = .ok (.iaload, 1) := by decide +kernel
theorem dX6_gained_73 : decode cX6_gained 73 = .ok (.iconst 1, 1) := by decide +kernel
theorem dX6_gained_74 : decode cX6_gained 74 = .ok (.if_icmp .ne 82, 3) := by decide +kernel
theorem dX6_gained_77 : decode cX6_gained 77 = .ok (.aload_n 0, 1) := by decide +kernel
theorem dX6_gained_78 : decode cX6_gained 78 = .ok (.getfield 29, 3) := by decide +kernel
theorem dX6_gained_81 : decode cX6_gained 81 = .ok (.iload_n 1, 1) := by decide +kernel
theorem dX6_gained_82 : decode cX6_gained 82 = .ok (.iaload, 1) := by decide +kernel
theorem dX6_gained_83 : decode cX6_gained 83 = .ok (.istore 4, 2) := by decide +kernel
theorem dX6_gained_85 : decode cX6_gained 85 = .ok (.aload_n 0, 1) := by decide +kernel
theorem dX6_gained_86 : decode cX6_gained 86 = .ok (.getfield 62, 3) := by decide +kernel
theorem dX6_gained_89 : decode cX6_gained 89 = .ok (.iload_n 2, 1) := by decide +kernel
theorem dX6_gained_90 : decode cX6_gained 90 = .ok (.iaload, 1) := by decide +kernel
theorem dX6_gained_91 : decode cX6_gained 91 = .ok (.iload 4, 2) := by decide +kernel
theorem dX6_gained_93 : decode cX6_gained 93 = .ok (.iand, 1) := by decide +kernel
theorem dX6_gained_94 : decode cX6_gained 94 = .ok (.invokestatic 171, 3) := by decide +kernel
theorem dX6_gained_97 : decode cX6_gained 97 = .ok (.aload_n 0, 1) := by decide +kernel
theorem dX6_gained_98 : decode cX6_gained 98 = .ok (.getfield 62, 3) := by decide +kernel
theorem dX6_gained_101 : decode cX6_gained 101 = .ok (.iload_n 2, 1) := by decide +kernel
theorem dX6_gained_102 : decode cX6_gained 102 = .ok (.iaload, 1) := by decide +kernel
theorem dX6_gained_103 : decode cX6_gained 103 = .ok (.iload 4, 2) := by decide +kernel
theorem dX6_gained_105 : decode cX6_gained 105 = .ok (.iconst (-1), 1) := by decide +kernel
theorem dX6_gained_106 : decode cX6_gained 106 = .ok (.ixor, 1) := by decide +kernel
theorem dX6_gained_107 : decode cX6_gained 107 = .ok (.iand, 1) := by decide +kernel
theorem dX6_gained_108 : decode cX6_gained 108 = .ok (.invokestatic 171, 3) := by decide +kernel
theorem dX6_gained_111 : decode cX6_gained 111 = .ok (.isub, 1) := by decide +kernel
theorem dX6_gained_112 : decode cX6_gained 112 = .ok (.istore 5, 2) := by decide +kernel
theorem dX6_gained_114 : decode cX6_gained 114 = .ok (.iload 4, 2) := by decide +kernel
theorem dX6_gained_116 : decode cX6_gained 116 = .ok (.ifCond .ne 20, 3) := by decide +kernel
theorem dX6_gained_119 : decode cX6_gained 119 = .ok (.aload_n 0, 1) := by decide +kernel
theorem dX6_gained_120 : decode cX6_gained 120 = .ok (.getfield 62, 3) := by decide +kernel
theorem dX6_gained_123 : decode cX6_gained 123 = .ok (.iload_n 2, 1) := by decide +kernel
theorem dX6_gained_124 : decode cX6_gained 124 = .ok (.iaload, 1) := by decide +kernel
theorem dX6_gained_125 : decode cX6_gained 125 = .ok (.ifCond .ne 7, 3) := by decide +kernel
theorem dX6_gained_128 : decode cX6_gained 128 = .ok (.iload_n 3, 1) := by decide +kernel
theorem dX6_gained_129 : decode cX6_gained 129 = .ok (.goto 26, 3) := by decide +kernel
theorem dX6_gained_132 : decode cX6_gained 132 = .ok (.iconst 0, 1) := by decide +kernel
theorem dX6_gained_133 : decode cX6_gained 133 = .ok (.goto 22, 3) := by decide +kernel
theorem dX6_gained_136 : decode cX6_gained 136 = .ok (.iload 5, 2) := by decide +kernel
theorem dX6_gained_138 : decode cX6_gained 138 = .ok (.ifCond .le 16, 3) := by decide +kernel
theorem dX6_gained_141 : decode cX6_gained 141 = .ok (.iload_n 3, 1) := by decide +kernel
theorem dX6_gained_142 : decode cX6_gained 142 = .ok (.iload 5, 2) := by decide +kernel
theorem dX6_gained_144 : decode cX6_gained 144 = .ok (.imul, 1) := by decide +kernel
theorem dX6_gained_145 : decode cX6_gained 145 = .ok (.iload 4, 2) := by decide +kernel
theorem dX6_gained_147 : decode cX6_gained 147 = .ok (.invokestatic 171, 3) := by decide +kernel
theorem dX6_gained_150 : decode cX6_gained 150 = .ok (.idiv, 1) := by decide +kernel
theorem dX6_gained_151 : decode cX6_gained 151 = .ok (.goto 4, 3) := by decide +kernel
theorem dX6_gained_154 : decode cX6_gained 154 = .ok (.iconst 0, 1) := by decide +kernel
theorem dX6_gained_155 : decode cX6_gained 155 = .ok (.ireturn, 1) := by decide +kernel
theorem dX6_gained_156 : decode cX6_gained 156 = .ok (.iload_n 3, 1) := by decide +kernel
theorem dX6_gained_157 : decode cX6_gained 157 = .ok (.aload_n 0, 1) := by decide +kernel
theorem dX6_gained_158 : decode cX6_gained 158 = .ok (.aload_n 0, 1) := by decide +kernel
theorem dX6_gained_159 : decode cX6_gained 159 = .ok (.getfield 29, 3) := by decide +kernel
theorem dX6_gained_162 : decode cX6_gained 162 = .ok (.iload_n 1, 1) := by decide +kernel
theorem dX6_gained_163 : decode cX6_gained 163 = .ok (.iaload, 1) := by decide +kernel
theorem dX6_gained_164 : decode cX6_gained 164 = .ok (.iload_n 2, 1) := by decide +kernel
theorem dX6_gained_165 : decode cX6_gained 165 = .ok (.invokevirtual 174, 3) := by decide +kernel
theorem dX6_gained_168 : decode cX6_gained 168 = .ok (.imul, 1) := by decide +kernel
theorem dX6_gained_169 : decode cX6_gained 169 = .ok (.aload_n 0, 1) := by decide +kernel
theorem dX6_gained_170 : decode cX6_gained 170 = .ok (.getfield 29, 3) := by decide +kernel
theorem dX6_gained_173 : decode cX6_gained 173 = .ok (.iload_n 1, 1) := by decide +kernel
theorem dX6_gained_174 : decode cX6_gained 174 = .ok (.iaload, 1) := by decide +kernel
theorem dX6_gained_175 : decode cX6_gained 175 = .ok (.invokestatic 103, 3) := by decide +kernel
theorem dX6_gained_178 : decode cX6_gained 178 = .ok (.idiv, 1) := by decide +kernel
theorem dX6_gained_179 : decode cX6_gained 179 = .ok (.ireturn, 1) := by decide +kernel
theorem dX6_dueOf_0 : decode cX6_dueOf 0 = .ok (.iconst 0, 1) := by decide +kernel
theorem dX6_dueOf_1 : decode cX6_dueOf 1 = .ok (.istore_n 2, 1) := by decide +kernel
theorem dX6_dueOf_2 : decode cX6_dueOf 2 = .ok (.iconst 0, 1) := by decide +kernel
theorem dX6_dueOf_3 : decode cX6_dueOf 3 = .ok (.istore_n 3, 1) := by decide +kernel
theorem dX6_dueOf_4 : decode cX6_dueOf 4 = .ok (.iload_n 3, 1) := by decide +kernel
theorem dX6_dueOf_5 : decode cX6_dueOf 5 = .ok (.iconst 5, 1) := by decide +kernel
theorem dX6_dueOf_6 : decode cX6_dueOf 6 = .ok (.if_icmp .ge 50, 3) := by decide +kernel
theorem dX6_dueOf_9 : decode cX6_dueOf 9 = .ok (.aload_n 0, 1) := by decide +kernel
theorem dX6_dueOf_10 : decode cX6_dueOf 10 = .ok (.iload_n 1, 1) := by decide +kernel
theorem dX6_dueOf_11 : decode cX6_dueOf 11 = .ok (.bipush 12, 2) := by decide +kernel
theorem dX6_dueOf_13 : decode cX6_dueOf 13 = .ok (.idiv, 1) := by decide +kernel
theorem dX6_dueOf_14 : decode cX6_dueOf 14 = .ok (.aload_n 0, 1) := by decide +kernel
theorem dX6_dueOf_15 : decode cX6_dueOf 15 = .ok (.getfield 47, 3) := by decide +kernel
theorem dX6_dueOf_18 : decode cX6_dueOf 18 = .ok (.iload_n 1, 1) := by decide +kernel
theorem dX6_dueOf_19 : decode cX6_dueOf 19 = .ok (.iaload, 1) := by decide +kernel
theorem dX6_dueOf_20 : decode cX6_dueOf 20 = .ok (.iload_n 3, 1) := by decide +kernel
theorem dX6_dueOf_21 : decode cX6_dueOf 21 = .ok (.invokevirtual 146, 3) := by decide +kernel
theorem dX6_dueOf_24 : decode cX6_dueOf 24 = .ok (.istore 4, 2) := by decide +kernel
theorem dX6_dueOf_26 : decode cX6_dueOf 26 = .ok (.iload_n 2, 1) := by decide +kernel
theorem dX6_dueOf_27 : decode cX6_dueOf 27 = .ok (.iload 4, 2) := by decide +kernel
theorem dX6_dueOf_29 : decode cX6_dueOf 29 = .ok (.iconst (-1), 1) := by decide +kernel
theorem dX6_dueOf_30 : decode cX6_dueOf 30 = .ok (.if_icmp .ne 7, 3) := by decide +kernel
theorem dX6_dueOf_33 : decode cX6_dueOf 33 = .ok (.iconst 0, 1) := by decide +kernel
theorem dX6_dueOf_34 : decode cX6_dueOf 34 = .ok (.goto 14, 3) := by decide +kernel
theorem dX6_dueOf_37 : decode cX6_dueOf 37 = .ok (.aload_n 0, 1) := by decide +kernel
theorem dX6_dueOf_38 : decode cX6_dueOf 38 = .ok (.iload 4, 2) := by decide +kernel
theorem dX6_dueOf_40 : decode cX6_dueOf 40 = .ok (.iconst 5, 1) := by decide +kernel
theorem dX6_dueOf_41 : decode cX6_dueOf 41 = .ok (.iload_n 1, 1) := by decide +kernel
theorem dX6_dueOf_42 : decode cX6_dueOf 42 = .ok (.imul, 1) := by decide +kernel
theorem dX6_dueOf_43 : decode cX6_dueOf 43 = .ok (.iload_n 3, 1) := by decide +kernel
theorem dX6_dueOf_44 : decode cX6_dueOf 44 = .ok (.iadd, 1) := by decide +kernel
theorem dX6_dueOf_45 : decode cX6_dueOf 45 = .ok (.invokevirtual 177, 3) := by decide +kernel
theorem dX6_dueOf_48 : decode cX6_dueOf 48 = .ok (.iadd, 1) := by decide +kernel
theorem dX6_dueOf_49 : decode cX6_dueOf 49 = .ok (.istore_n 2, 1) := by decide +kernel
theorem dX6_dueOf_50 : decode cX6_dueOf 50 = .ok (.iinc 3 1, 3) := by decide +kernel
theorem dX6_dueOf_53 : decode cX6_dueOf 53 = .ok (.goto (-49), 3) := by decide +kernel
theorem dX6_dueOf_56 : decode cX6_dueOf 56 = .ok (.iload_n 2, 1) := by decide +kernel
theorem dX6_dueOf_57 : decode cX6_dueOf 57 = .ok (.ireturn, 1) := by decide +kernel
theorem dX6_mended_0 : decode cX6_mended 0 = .ok (.aload_n 0, 1) := by decide +kernel
theorem dX6_mended_1 : decode cX6_mended 1 = .ok (.iload_n 1, 1) := by decide +kernel
theorem dX6_mended_2 : decode cX6_mended 2 = .ok (.iload_n 2, 1) := by decide +kernel
theorem dX6_mended_3 : decode cX6_mended 3 = .ok (.iload_n 3, 1) := by decide +kernel
theorem dX6_mended_4 : decode cX6_mended 4 = .ok (.invokevirtual 146, 3) := by decide +kernel
theorem dX6_mended_7 : decode cX6_mended 7 = .ok (.istore 5, 2) := by decide +kernel
theorem dX6_mended_9 : decode cX6_mended 9 = .ok (.iload 5, 2) := by decide +kernel
theorem dX6_mended_11 : decode cX6_mended 11 = .ok (.iconst (-1), 1) := by decide +kernel
theorem dX6_mended_12 : decode cX6_mended 12 = .ok (.if_icmp .eq 15, 3) := by decide +kernel
theorem dX6_mended_15 : decode cX6_mended 15 = .ok (.aload_n 0, 1) := by decide +kernel
theorem dX6_mended_16 : decode cX6_mended 16 = .ok (.getfield 23, 3) := by decide +kernel
theorem dX6_mended_19 : decode cX6_mended 19 = .ok (.iload 5, 2) := by decide +kernel
theorem dX6_mended_21 : decode cX6_mended 21 = .ok (.iaload, 1) := by decide +kernel
theorem dX6_mended_22 : decode cX6_mended 22 = .ok (.iload 4, 2) := by decide +kernel
theorem dX6_mended_24 : decode cX6_mended 24 = .ok (.if_icmp .eq 7, 3) := by decide +kernel
theorem dX6_mended_27 : decode cX6_mended 27 = .ok (.iconst (-1), 1) := by decide +kernel
theorem dX6_mended_28 : decode cX6_mended 28 = .ok (.goto 5, 3) := by decide +kernel
theorem dX6_mended_31 : decode cX6_mended 31 = .ok (.iload 5, 2) := by decide +kernel
theorem dX6_mended_33 : decode cX6_mended 33 = .ok (.ireturn, 1) := by decide +kernel
theorem dX6_isNamed_0 : decode cX6_isNamed 0 = .ok (.aload_n 0, 1) := by decide +kernel
theorem dX6_isNamed_1 : decode cX6_isNamed 1 = .ok (.iload_n 1, 1) := by decide +kernel
theorem dX6_isNamed_2 : decode cX6_isNamed 2 = .ok (.iload_n 2, 1) := by decide +kernel
theorem dX6_isNamed_3 : decode cX6_isNamed 3 = .ok (.invokevirtual 149, 3) := by decide +kernel
theorem dX6_isNamed_6 : decode cX6_isNamed 6 = .ok (.ifCond .eq 14, 3) := by decide +kernel
theorem dX6_isNamed_9 : decode cX6_isNamed 9 = .ok (.iload_n 3, 1) := by decide +kernel
theorem dX6_isNamed_10 : decode cX6_isNamed 10 = .ok (.invokestatic 130, 3) := by decide +kernel
theorem dX6_isNamed_13 : decode cX6_isNamed 13 = .ok (.ifCond .eq 7, 3) := by decide +kernel
theorem dX6_isNamed_16 : decode cX6_isNamed 16 = .ok (.iconst 1, 1) := by decide +kernel
theorem dX6_isNamed_17 : decode cX6_isNamed 17 = .ok (.goto 4, 3) := by decide +kernel
theorem dX6_isNamed_20 : decode cX6_isNamed 20 = .ok (.iconst 0, 1) := by decide +kernel
theorem dX6_isNamed_21 : decode cX6_isNamed 21 = .ok (.ireturn, 1) := by decide +kernel
theorem dX6_mend_0 : decode cX6_mend 0 = .ok (.bipush 12, 2) := by decide +kernel
theorem dX6_mend_2 : decode cX6_mend 2 = .ok (.iload_n 1, 1) := by decide +kernel
theorem dX6_mend_3 : decode cX6_mend 3 = .ok (.imul, 1) := by decide +kernel
theorem dX6_mend_4 : decode cX6_mend 4 = .ok (.istore 5, 2) := by decide +kernel
theorem dX6_mend_6 : decode cX6_mend 6 = .ok (.iload 5, 2) := by decide +kernel
theorem dX6_mend_8 : decode cX6_mend 8 = .ok (.bipush 12, 2) := by decide +kernel
theorem dX6_mend_10 : decode cX6_mend 10 = .ok (.iload_n 1, 1) := by decide +kernel
theorem dX6_mend_11 : decode cX6_mend 11 = .ok (.imul, 1) := by decide +kernel
theorem dX6_mend_12 : decode cX6_mend 12 = .ok (.bipush 12, 2) := by decide +kernel
theorem dX6_mend_14 : decode cX6_mend 14 = .ok (.iadd, 1) := by decide +kernel
theorem dX6_mend_15 : decode cX6_mend 15 = .ok (.if_icmp .ge 37, 3) := by decide +kernel
theorem dX6_mend_18 : decode cX6_mend 18 = .ok (.aload_n 0, 1) := by decide +kernel
theorem dX6_mend_19 : decode cX6_mend 19 = .ok (.getfield 74, 3) := by decide +kernel
theorem dX6_mend_22 : decode cX6_mend 22 = .ok (.iload 5, 2) := by decide +kernel
theorem dX6_mend_24 : decode cX6_mend 24 = .ok (.aload_n 0, 1) := by decide +kernel
theorem dX6_mend_25 : decode cX6_mend 25 = .ok (.getfield 44, 3) := by decide +kernel
theorem dX6_mend_28 : decode cX6_mend 28 = .ok (.iload 5, 2) := by decide +kernel
theorem dX6_mend_30 : decode cX6_mend 30 = .ok (.iaload, 1) := by decide +kernel
theorem dX6_mend_31 : decode cX6_mend 31 = .ok (.iconst 2, 1) := by decide +kernel
theorem dX6_mend_32 : decode cX6_mend 32 = .ok (.if_icmp .ne 12, 3) := by decide +kernel
theorem dX6_mend_35 : decode cX6_mend 35 = .ok (.aload_n 0, 1) := by decide +kernel
theorem dX6_mend_36 : decode cX6_mend 36 = .ok (.iload 5, 2) := by decide +kernel
theorem dX6_mend_38 : decode cX6_mend 38 = .ok (.invokevirtual 180, 3) := by decide +kernel
theorem dX6_mend_41 : decode cX6_mend 41 = .ok (.goto 4, 3) := by decide +kernel
theorem dX6_mend_44 : decode cX6_mend 44 = .ok (.iconst 0, 1) := by decide +kernel
theorem dX6_mend_45 : decode cX6_mend 45 = .ok (.iastore, 1) := by decide +kernel
theorem dX6_mend_46 : decode cX6_mend 46 = .ok (.iinc 5 1, 3) := by decide +kernel
theorem dX6_mend_49 : decode cX6_mend 49 = .ok (.goto (-43), 3) := by decide +kernel
theorem dX6_mend_52 : decode cX6_mend 52 = .ok (.aload_n 0, 1) := by decide +kernel
theorem dX6_mend_53 : decode cX6_mend 53 = .ok (.getfield 29, 3) := by decide +kernel
theorem dX6_mend_56 : decode cX6_mend 56 = .ok (.iload_n 2, 1) := by decide +kernel
theorem dX6_mend_57 : decode cX6_mend 57 = .ok (.iload_n 3, 1) := by decide +kernel
theorem dX6_mend_58 : decode cX6_mend 58 = .ok (.iastore, 1) := by decide +kernel
theorem dX6_mend_59 : decode cX6_mend 59 = .ok (.aload_n 0, 1) := by decide +kernel
theorem dX6_mend_60 : decode cX6_mend 60 = .ok (.getfield 32, 3) := by decide +kernel
theorem dX6_mend_63 : decode cX6_mend 63 = .ok (.iload_n 2, 1) := by decide +kernel
theorem dX6_mend_64 : decode cX6_mend 64 = .ok (.iload 4, 2) := by decide +kernel
theorem dX6_mend_66 : decode cX6_mend 66 = .ok (.iastore, 1) := by decide +kernel
theorem dX6_mend_67 : decode cX6_mend 67 = .ok (.iconst 0, 1) := by decide +kernel
theorem dX6_mend_68 : decode cX6_mend 68 = .ok (.istore 5, 2) := by decide +kernel
theorem dX6_mend_70 : decode cX6_mend 70 = .ok (.bipush 12, 2) := by decide +kernel
theorem dX6_mend_72 : decode cX6_mend 72 = .ok (.iload_n 1, 1) := by decide +kernel
theorem dX6_mend_73 : decode cX6_mend 73 = .ok (.imul, 1) := by decide +kernel
theorem dX6_mend_74 : decode cX6_mend 74 = .ok (.istore 6, 2) := by decide +kernel
theorem dX6_mend_76 : decode cX6_mend 76 = .ok (.iload 6, 2) := by decide +kernel
theorem dX6_mend_78 : decode cX6_mend 78 = .ok (.bipush 12, 2) := by decide +kernel
theorem dX6_mend_80 : decode cX6_mend 80 = .ok (.iload_n 1, 1) := by decide +kernel
theorem dX6_mend_81 : decode cX6_mend 81 = .ok (.imul, 1) := by decide +kernel
theorem dX6_mend_82 : decode cX6_mend 82 = .ok (.bipush 12, 2) := by decide +kernel
theorem dX6_mend_84 : decode cX6_mend 84 = .ok (.iadd, 1) := by decide +kernel
theorem dX6_mend_85 : decode cX6_mend 85 = .ok (.if_icmp .ge 105, 3) := by decide +kernel
theorem dX6_mend_88 : decode cX6_mend 88 = .ok (.aload_n 0, 1) := by decide +kernel
theorem dX6_mend_89 : decode cX6_mend 89 = .ok (.getfield 44, 3) := by decide +kernel
theorem dX6_mend_92 : decode cX6_mend 92 = .ok (.iload 6, 2) := by decide +kernel
theorem dX6_mend_94 : decode cX6_mend 94 = .ok (.iaload, 1) := by decide +kernel
theorem dX6_mend_95 : decode cX6_mend 95 = .ok (.iconst 2, 1) := by decide +kernel
theorem dX6_mend_96 : decode cX6_mend 96 = .ok (.if_icmp .ne 88, 3) := by decide +kernel
theorem dX6_mend_99 : decode cX6_mend 99 = .ok (.aload_n 0, 1) := by decide +kernel
theorem dX6_mend_100 : decode cX6_mend 100 = .ok (.iload 6, 2) := by decide +kernel
theorem dX6_mend_102 : decode cX6_mend 102 = .ok (.invokevirtual 180, 3) := by decide +kernel
theorem dX6_mend_105 : decode cX6_mend 105 = .ok (.aload_n 0, 1) := by decide +kernel
theorem dX6_mend_106 : decode cX6_mend 106 = .ok (.getfield 74, 3) := by decide +kernel
theorem dX6_mend_109 : decode cX6_mend 109 = .ok (.iload 6, 2) := by decide +kernel
theorem dX6_mend_111 : decode cX6_mend 111 = .ok (.iaload, 1) := by decide +kernel
theorem dX6_mend_112 : decode cX6_mend 112 = .ok (.if_icmp .eq 72, 3) := by decide +kernel
theorem dX6_mend_115 : decode cX6_mend 115 = .ok (.iinc 5 1, 3) := by decide +kernel
theorem dX6_mend_118 : decode cX6_mend 118 = .ok (.aload_n 0, 1) := by decide +kernel
theorem dX6_mend_119 : decode cX6_mend 119 = .ok (.getfield 38, 3) := by decide +kernel
theorem dX6_mend_122 : decode cX6_mend 122 = .ok (.iconst 4, 1) := by decide +kernel
theorem dX6_mend_123 : decode cX6_mend 123 = .ok (.iload_n 1, 1) := by decide +kernel
theorem dX6_mend_124 : decode cX6_mend 124 = .ok (.imul, 1) := by decide +kernel
theorem dX6_mend_125 : decode cX6_mend 125 = .ok (.iload 6, 2) := by decide +kernel
theorem dX6_mend_127 : decode cX6_mend 127 = .ok (.bipush 12, 2) := by decide +kernel
theorem dX6_mend_129 : decode cX6_mend 129 = .ok (.irem, 1) := by decide +kernel
theorem dX6_mend_130 : decode cX6_mend 130 = .ok (.iconst 3, 1) := by decide +kernel
theorem dX6_mend_131 : decode cX6_mend 131 = .ok (.idiv, 1) := by decide +kernel
theorem dX6_mend_132 : decode cX6_mend 132 = .ok (.iadd, 1) := by decide +kernel
theorem dX6_mend_133 : decode cX6_mend 133 = .ok (.baload, 1) := by decide +kernel
theorem dX6_mend_134 : decode cX6_mend 134 = .ok (.istore 7, 2) := by decide +kernel
theorem dX6_mend_136 : decode cX6_mend 136 = .ok (.aload_n 0, 1) := by decide +kernel
theorem dX6_mend_137 : decode cX6_mend 137 = .ok (.getfield 53, 3) := by decide +kernel
theorem dX6_mend_140 : decode cX6_mend 140 = .ok (.iload 6, 2) := by decide +kernel
theorem dX6_mend_142 : decode cX6_mend 142 = .ok (.dup2, 1) := by decide +kernel
theorem dX6_mend_143 : decode cX6_mend 143 = .ok (.iaload, 1) := by decide +kernel
theorem dX6_mend_144 : decode cX6_mend 144 = .ok (.iload 7, 2) := by decide +kernel
theorem dX6_mend_146 : decode cX6_mend 146 = .ok (.ifCond .eq 7, 3) := by decide +kernel
theorem dX6_mend_149 : decode cX6_mend 149 = .ok (.iconst 1, 1) := by decide +kernel
theorem dX6_mend_150 : decode cX6_mend 150 = .ok (.goto 4, 3) := by decide +kernel
theorem dX6_mend_153 : decode cX6_mend 153 = .ok (.iconst 0, 1) := by decide +kernel
theorem dX6_mend_154 : decode cX6_mend 154 = .ok (.iadd, 1) := by decide +kernel
theorem dX6_mend_155 : decode cX6_mend 155 = .ok (.iastore, 1) := by decide +kernel
theorem dX6_mend_156 : decode cX6_mend 156 = .ok (.aload_n 0, 1) := by decide +kernel
theorem dX6_mend_157 : decode cX6_mend 157 = .ok (.getfield 50, 3) := by decide +kernel
theorem dX6_mend_160 : decode cX6_mend 160 = .ok (.iload 6, 2) := by decide +kernel
theorem dX6_mend_162 : decode cX6_mend 162 = .ok (.iload 7, 2) := by decide +kernel
theorem dX6_mend_164 : decode cX6_mend 164 = .ok (.ifCond .eq 13, 3) := by decide +kernel
theorem dX6_mend_167 : decode cX6_mend 167 = .ok (.aload_n 0, 1) := by decide +kernel
theorem dX6_mend_168 : decode cX6_mend 168 = .ok (.getfield 50, 3) := by decide +kernel
theorem dX6_mend_171 : decode cX6_mend 171 = .ok (.iload 6, 2) := by decide +kernel
theorem dX6_mend_173 : decode cX6_mend 173 = .ok (.iaload, 1) := by decide +kernel
theorem dX6_mend_174 : decode cX6_mend 174 = .ok (.goto 9, 3) := by decide +kernel
theorem dX6_mend_177 : decode cX6_mend 177 = .ok (.aload_n 0, 1) := by decide +kernel
theorem dX6_mend_178 : decode cX6_mend 178 = .ok (.iload 6, 2) := by decide +kernel
theorem dX6_mend_180 : decode cX6_mend 180 = .ok (.invokevirtual 180, 3) := by decide +kernel
theorem dX6_mend_183 : decode cX6_mend 183 = .ok (.iastore, 1) := by decide +kernel
theorem dX6_mend_184 : decode cX6_mend 184 = .ok (.iinc 6 1, 3) := by decide +kernel
theorem dX6_mend_187 : decode cX6_mend 187 = .ok (.goto (-111), 3) := by decide +kernel
theorem dX6_mend_190 : decode cX6_mend 190 = .ok (.iload 5, 2) := by decide +kernel
theorem dX6_mend_192 : decode cX6_mend 192 = .ok (.ireturn, 1) := by decide +kernel
theorem dX6_mendNumber_0 : decode cX6_mendNumber 0 = .ok (.iload 4, 2) := by decide +kernel
theorem dX6_mendNumber_2 : decode cX6_mendNumber 2 = .ok (.sipush (-1000), 3) := by decide +kernel
theorem dX6_mendNumber_5 : decode cX6_mendNumber 5 = .ok (.sipush 1000, 3) := by decide +kernel
theorem dX6_mendNumber_8 : decode cX6_mendNumber 8 = .ok (.invokestatic 87, 3) := by decide +kernel
theorem dX6_mendNumber_11 : decode cX6_mendNumber 11 = .ok (.ifCond .eq 18, 3) := by decide +kernel
theorem dX6_mendNumber_14 : decode cX6_mendNumber 14 = .ok (.iload 5, 2) := by decide +kernel
theorem dX6_mendNumber_16 : decode cX6_mendNumber 16 = .ok (.iconst 0, 1) := by decide +kernel
theorem dX6_mendNumber_17 : decode cX6_mendNumber 17 = .ok (.bipush 100, 2) := by decide +kernel
theorem dX6_mendNumber_19 : decode cX6_mendNumber 19 = .ok (.invokestatic 87, 3) := by decide +kernel
theorem dX6_mendNumber_22 : decode cX6_mendNumber 22 = .ok (.ifCond .eq 7, 3) := by decide +kernel
theorem dX6_mendNumber_25 : decode cX6_mendNumber 25 = .ok (.iconst 1, 1) := by decide +kernel
theorem dX6_mendNumber_26 : decode cX6_mendNumber 26 = .ok (.goto 4, 3) := by decide +kernel
theorem dX6_mendNumber_29 : decode cX6_mendNumber 29 = .ok (.iconst 0, 1) := by decide +kernel
theorem dX6_mendNumber_30 : decode cX6_mendNumber 30 = .ok (.istore 6, 2) := by decide +kernel
theorem dX6_mendNumber_32 : decode cX6_mendNumber 32 = .ok (.aload_n 0, 1) := by decide +kernel
theorem dX6_mendNumber_33 : decode cX6_mendNumber 33 = .ok (.iload_n 1, 1) := by decide +kernel
theorem dX6_mendNumber_34 : decode cX6_mendNumber 34 = .ok (.iload_n 2, 1) := by decide +kernel
theorem dX6_mendNumber_35 : decode cX6_mendNumber 35 = .ok (.iload_n 3, 1) := by decide +kernel
theorem dX6_mendNumber_36 : decode cX6_mendNumber 36 = .ok (.invokevirtual 183, 3) := by decide +kernel
theorem dX6_mendNumber_39 : decode cX6_mendNumber 39 = .ok (.ifCond .eq 19, 3) := by decide +kernel
theorem dX6_mendNumber_42 : decode cX6_mendNumber 42 = .ok (.aload_n 0, 1) := by decide +kernel
theorem dX6_mendNumber_43 : decode cX6_mendNumber 43 = .ok (.iload_n 1, 1) := by decide +kernel
theorem dX6_mendNumber_44 : decode cX6_mendNumber 44 = .ok (.iload_n 2, 1) := by decide +kernel
theorem dX6_mendNumber_45 : decode cX6_mendNumber 45 = .ok (.iload_n 3, 1) := by decide +kernel
theorem dX6_mendNumber_46 : decode cX6_mendNumber 46 = .ok (.iconst 0, 1) := by decide +kernel
theorem dX6_mendNumber_47 : decode cX6_mendNumber 47 = .ok (.invokevirtual 186, 3) := by decide +kernel
theorem dX6_mendNumber_50 : decode cX6_mendNumber 50 = .ok (.iconst (-1), 1) := by decide +kernel
theorem dX6_mendNumber_51 : decode cX6_mendNumber 51 = .ok (.if_icmp .eq 7, 3) := by decide +kernel
theorem dX6_mendNumber_54 : decode cX6_mendNumber 54 = .ok (.iconst 1, 1) := by decide +kernel
theorem dX6_mendNumber_55 : decode cX6_mendNumber 55 = .ok (.goto 4, 3) := by decide +kernel
theorem dX6_mendNumber_58 : decode cX6_mendNumber 58 = .ok (.iconst 0, 1) := by decide +kernel
theorem dX6_mendNumber_59 : decode cX6_mendNumber 59 = .ok (.istore 7, 2) := by decide +kernel
theorem dX6_mendNumber_61 : decode cX6_mendNumber 61 = .ok (.aload_n 0, 1) := by decide +kernel
theorem dX6_mendNumber_62 : decode cX6_mendNumber 62 = .ok (.aload_n 0, 1) := by decide +kernel
theorem dX6_mendNumber_63 : decode cX6_mendNumber 63 = .ok (.iload_n 1, 1) := by decide +kernel
theorem dX6_mendNumber_64 : decode cX6_mendNumber 64 = .ok (.iload_n 2, 1) := by decide +kernel
theorem dX6_mendNumber_65 : decode cX6_mendNumber 65 = .ok (.iload_n 3, 1) := by decide +kernel
theorem dX6_mendNumber_66 : decode cX6_mendNumber 66 = .ok (.invokevirtual 183, 3) := by decide +kernel
theorem dX6_mendNumber_69 : decode cX6_mendNumber 69 = .ok (.ifCond .ne 7, 3) := by decide +kernel
theorem dX6_mendNumber_72 : decode cX6_mendNumber 72 = .ok (.iconst 1, 1) := by decide +kernel
theorem dX6_mendNumber_73 : decode cX6_mendNumber 73 = .ok (.goto 22, 3) := by decide +kernel
theorem dX6_mendNumber_76 : decode cX6_mendNumber 76 = .ok (.iload 6, 2) := by decide +kernel
theorem dX6_mendNumber_78 : decode cX6_mendNumber 78 = .ok (.ifCond .ne 7, 3) := by decide +kernel
theorem dX6_mendNumber_81 : decode cX6_mendNumber 81 = .ok (.iconst 2, 1) := by decide +kernel
theorem dX6_mendNumber_82 : decode cX6_mendNumber 82 = .ok (.goto 13, 3) := by decide +kernel
theorem dX6_mendNumber_85 : decode cX6_mendNumber 85 = .ok (.iload 7, 2) := by decide +kernel
theorem dX6_mendNumber_87 : decode cX6_mendNumber 87 = .ok (.ifCond .eq 7, 3) := by decide +kernel
theorem dX6_mendNumber_90 : decode cX6_mendNumber 90 = .ok (.iconst 0, 1) := by decide +kernel
theorem dX6_mendNumber_91 : decode cX6_mendNumber 91 = .ok (.goto 4, 3) := by decide +kernel
theorem dX6_mendNumber_94 : decode cX6_mendNumber 94 = .ok (.iconst 3, 1) := by decide +kernel
theorem dX6_mendNumber_95 : decode cX6_mendNumber 95 = .ok (.invokevirtual 120, 3) := by decide +kernel
theorem dX6_mendNumber_98 : decode cX6_mendNumber 98 = .ok (.ifCond .eq 5, 3) := by decide +kernel
theorem dX6_mendNumber_101 : decode cX6_mendNumber 101 = .ok (.iconst 0, 1) := by decide +kernel
theorem dX6_mendNumber_102 : decode cX6_mendNumber 102 = .ok (.ireturn, 1) := by decide +kernel
theorem dX6_mendNumber_103 : decode cX6_mendNumber 103 = .ok (.aload_n 0, 1) := by decide +kernel
theorem dX6_mendNumber_104 : decode cX6_mendNumber 104 = .ok (.iload_n 1, 1) := by decide +kernel
theorem dX6_mendNumber_105 : decode cX6_mendNumber 105 = .ok (.aload_n 0, 1) := by decide +kernel
theorem dX6_mendNumber_106 : decode cX6_mendNumber 106 = .ok (.iload_n 1, 1) := by decide +kernel
theorem dX6_mendNumber_107 : decode cX6_mendNumber 107 = .ok (.iload_n 2, 1) := by decide +kernel
theorem dX6_mendNumber_108 : decode cX6_mendNumber 108 = .ok (.iload_n 3, 1) := by decide +kernel
theorem dX6_mendNumber_109 : decode cX6_mendNumber 109 = .ok (.iconst 0, 1) := by decide +kernel
theorem dX6_mendNumber_110 : decode cX6_mendNumber 110 = .ok (.invokevirtual 186, 3) := by decide +kernel
theorem dX6_mendNumber_113 : decode cX6_mendNumber 113 = .ok (.iload 4, 2) := by decide +kernel
theorem dX6_mendNumber_115 : decode cX6_mendNumber 115 = .ok (.iload 5, 2) := by decide +kernel
theorem dX6_mendNumber_117 : decode cX6_mendNumber 117 = .ok (.invokevirtual 190, 3) := by decide +kernel
theorem dX6_mendNumber_120 : decode cX6_mendNumber 120 = .ok (.ireturn, 1) := by decide +kernel
theorem dX6_mendChoice_0 : decode cX6_mendChoice 0 = .ok (.iload 4, 2) := by decide +kernel
theorem dX6_mendChoice_2 : decode cX6_mendChoice 2 = .ok (.iconst 0, 1) := by decide +kernel
theorem dX6_mendChoice_3 : decode cX6_mendChoice 3 = .ok (.bipush 31, 2) := by decide +kernel
theorem dX6_mendChoice_5 : decode cX6_mendChoice 5 = .ok (.invokestatic 87, 3) := by decide +kernel
theorem dX6_mendChoice_8 : decode cX6_mendChoice 8 = .ok (.istore 5, 2) := by decide +kernel
theorem dX6_mendChoice_10 : decode cX6_mendChoice 10 = .ok (.aload_n 0, 1) := by decide +kernel
theorem dX6_mendChoice_11 : decode cX6_mendChoice 11 = .ok (.iload_n 1, 1) := by decide +kernel
theorem dX6_mendChoice_12 : decode cX6_mendChoice 12 = .ok (.iload_n 2, 1) := by decide +kernel
theorem dX6_mendChoice_13 : decode cX6_mendChoice 13 = .ok (.iload_n 3, 1) := by decide +kernel
theorem dX6_mendChoice_14 : decode cX6_mendChoice 14 = .ok (.invokevirtual 183, 3) := by decide +kernel
theorem dX6_mendChoice_17 : decode cX6_mendChoice 17 = .ok (.ifCond .eq 19, 3) := by decide +kernel
theorem dX6_mendChoice_20 : decode cX6_mendChoice 20 = .ok (.aload_n 0, 1) := by decide +kernel
theorem dX6_mendChoice_21 : decode cX6_mendChoice 21 = .ok (.iload_n 1, 1) := by decide +kernel
theorem dX6_mendChoice_22 : decode cX6_mendChoice 22 = .ok (.iload_n 2, 1) := by decide +kernel
theorem dX6_mendChoice_23 : decode cX6_mendChoice 23 = .ok (.iload_n 3, 1) := by decide +kernel
theorem dX6_mendChoice_24 : decode cX6_mendChoice 24 = .ok (.iconst 1, 1) := by decide +kernel
theorem dX6_mendChoice_25 : decode cX6_mendChoice 25 = .ok (.invokevirtual 186, 3) := by decide +kernel
theorem dX6_mendChoice_28 : decode cX6_mendChoice 28 = .ok (.iconst (-1), 1) := by decide +kernel
theorem dX6_mendChoice_29 : decode cX6_mendChoice 29 = .ok (.if_icmp .eq 7, 3) := by decide +kernel
theorem dX6_mendChoice_32 : decode cX6_mendChoice 32 = .ok (.iconst 1, 1) := by decide +kernel
theorem dX6_mendChoice_33 : decode cX6_mendChoice 33 = .ok (.goto 4, 3) := by decide +kernel
theorem dX6_mendChoice_36 : decode cX6_mendChoice 36 = .ok (.iconst 0, 1) := by decide +kernel
theorem dX6_mendChoice_37 : decode cX6_mendChoice 37 = .ok (.istore 6, 2) := by decide +kernel
theorem dX6_mendChoice_39 : decode cX6_mendChoice 39 = .ok (.aload_n 0, 1) := by decide +kernel
theorem dX6_mendChoice_40 : decode cX6_mendChoice 40 = .ok (.aload_n 0, 1) := by decide +kernel
theorem dX6_mendChoice_41 : decode cX6_mendChoice 41 = .ok (.iload_n 1, 1) := by decide +kernel
theorem dX6_mendChoice_42 : decode cX6_mendChoice 42 = .ok (.iload_n 2, 1) := by decide +kernel
theorem dX6_mendChoice_43 : decode cX6_mendChoice 43 = .ok (.iload_n 3, 1) := by decide +kernel
theorem dX6_mendChoice_44 : decode cX6_mendChoice 44 = .ok (.invokevirtual 183, 3) := by decide +kernel
theorem dX6_mendChoice_47 : decode cX6_mendChoice 47 = .ok (.ifCond .ne 7, 3) := by decide +kernel
theorem dX6_mendChoice_50 : decode cX6_mendChoice 50 = .ok (.iconst 1, 1) := by decide +kernel
theorem dX6_mendChoice_51 : decode cX6_mendChoice 51 = .ok (.goto 22, 3) := by decide +kernel
theorem dX6_mendChoice_54 : decode cX6_mendChoice 54 = .ok (.iload 5, 2) := by decide +kernel
theorem dX6_mendChoice_56 : decode cX6_mendChoice 56 = .ok (.ifCond .ne 7, 3) := by decide +kernel
theorem dX6_mendChoice_59 : decode cX6_mendChoice 59 = .ok (.iconst 2, 1) := by decide +kernel
theorem dX6_mendChoice_60 : decode cX6_mendChoice 60 = .ok (.goto 13, 3) := by decide +kernel
theorem dX6_mendChoice_63 : decode cX6_mendChoice 63 = .ok (.iload 6, 2) := by decide +kernel
theorem dX6_mendChoice_65 : decode cX6_mendChoice 65 = .ok (.ifCond .eq 7, 3) := by decide +kernel
theorem dX6_mendChoice_68 : decode cX6_mendChoice 68 = .ok (.iconst 0, 1) := by decide +kernel
theorem dX6_mendChoice_69 : decode cX6_mendChoice 69 = .ok (.goto 4, 3) := by decide +kernel
theorem dX6_mendChoice_72 : decode cX6_mendChoice 72 = .ok (.iconst 3, 1) := by decide +kernel
theorem dX6_mendChoice_73 : decode cX6_mendChoice 73 = .ok (.invokevirtual 120, 3) := by decide +kernel
theorem dX6_mendChoice_76 : decode cX6_mendChoice 76 = .ok (.ifCond .eq 5, 3) := by decide +kernel
theorem dX6_mendChoice_79 : decode cX6_mendChoice 79 = .ok (.iconst 0, 1) := by decide +kernel
theorem dX6_mendChoice_80 : decode cX6_mendChoice 80 = .ok (.ireturn, 1) := by decide +kernel
theorem dX6_mendChoice_81 : decode cX6_mendChoice 81 = .ok (.aload_n 0, 1) := by decide +kernel
theorem dX6_mendChoice_82 : decode cX6_mendChoice 82 = .ok (.iload_n 1, 1) := by decide +kernel
theorem dX6_mendChoice_83 : decode cX6_mendChoice 83 = .ok (.aload_n 0, 1) := by decide +kernel
theorem dX6_mendChoice_84 : decode cX6_mendChoice 84 = .ok (.iload_n 1, 1) := by decide +kernel
theorem dX6_mendChoice_85 : decode cX6_mendChoice 85 = .ok (.iload_n 2, 1) := by decide +kernel
theorem dX6_mendChoice_86 : decode cX6_mendChoice 86 = .ok (.iload_n 3, 1) := by decide +kernel
theorem dX6_mendChoice_87 : decode cX6_mendChoice 87 = .ok (.iconst 1, 1) := by decide +kernel
theorem dX6_mendChoice_88 : decode cX6_mendChoice 88 = .ok (.invokevirtual 186, 3) := by decide +kernel
theorem dX6_mendChoice_91 : decode cX6_mendChoice 91 = .ok (.iload 4, 2) := by decide +kernel
theorem dX6_mendChoice_93 : decode cX6_mendChoice 93 = .ok (.iconst 0, 1) := by decide +kernel
theorem dX6_mendChoice_94 : decode cX6_mendChoice 94 = .ok (.invokevirtual 190, 3) := by decide +kernel
theorem dX6_mendChoice_97 : decode cX6_mendChoice 97 = .ok (.ireturn, 1) := by decide +kernel
theorem dX6_mendWords_0 : decode cX6_mendWords 0 = .ok (.iload 4, 2) := by decide +kernel
theorem dX6_mendWords_2 : decode cX6_mendWords 2 = .ok (.invokestatic 143, 3) := by decide +kernel
theorem dX6_mendWords_5 : decode cX6_mendWords 5 = .ok (.istore 5, 2) := by decide +kernel
theorem dX6_mendWords_7 : decode cX6_mendWords 7 = .ok (.aload_n 0, 1) := by decide +kernel
theorem dX6_mendWords_8 : decode cX6_mendWords 8 = .ok (.iload_n 1, 1) := by decide +kernel
theorem dX6_mendWords_9 : decode cX6_mendWords 9 = .ok (.iload_n 2, 1) := by decide +kernel
theorem dX6_mendWords_10 : decode cX6_mendWords 10 = .ok (.iload_n 3, 1) := by decide +kernel
theorem dX6_mendWords_11 : decode cX6_mendWords 11 = .ok (.invokevirtual 183, 3) := by decide +kernel
theorem dX6_mendWords_14 : decode cX6_mendWords 14 = .ok (.istore 6, 2) := by decide +kernel
theorem dX6_mendWords_16 : decode cX6_mendWords 16 = .ok (.iload 6, 2) := by decide +kernel
theorem dX6_mendWords_18 : decode cX6_mendWords 18 = .ok (.ifCond .eq 14, 3) := by decide +kernel
theorem dX6_mendWords_21 : decode cX6_mendWords 21 = .ok (.aload_n 0, 1) := by decide +kernel
theorem dX6_mendWords_22 : decode cX6_mendWords 22 = .ok (.iload_n 1, 1) := by decide +kernel
theorem dX6_mendWords_23 : decode cX6_mendWords 23 = .ok (.iload_n 2, 1) := by decide +kernel
theorem dX6_mendWords_24 : decode cX6_mendWords 24 = .ok (.iload_n 3, 1) := by decide +kernel
theorem dX6_mendWords_25 : decode cX6_mendWords 25 = .ok (.iconst 2, 1) := by decide +kernel
theorem dX6_mendWords_26 : decode cX6_mendWords 26 = .ok (.invokevirtual 186, 3) := by decide +kernel
theorem dX6_mendWords_29 : decode cX6_mendWords 29 = .ok (.goto 4, 3) := by decide +kernel
theorem dX6_mendWords_32 : decode cX6_mendWords 32 = .ok (.iconst (-1), 1) := by decide +kernel
theorem dX6_mendWords_33 : decode cX6_mendWords 33 = .ok (.istore 7, 2) := by decide +kernel
theorem dX6_mendWords_35 : decode cX6_mendWords 35 = .ok (.iload 5, 2) := by decide +kernel
theorem dX6_mendWords_37 : decode cX6_mendWords 37 = .ok (.ifCond .eq 41, 3) := by decide +kernel
theorem dX6_mendWords_40 : decode cX6_mendWords 40 = .ok (.iload 7, 2) := by decide +kernel
theorem dX6_mendWords_42 : decode cX6_mendWords 42 = .ok (.iconst (-1), 1) := by decide +kernel
theorem dX6_mendWords_43 : decode cX6_mendWords 43 = .ok (.if_icmp .eq 35, 3) := by decide +kernel
theorem dX6_mendWords_46 : decode cX6_mendWords 46 = .ok (.aload_n 0, 1) := by decide +kernel
theorem dX6_mendWords_47 : decode cX6_mendWords 47 = .ok (.aload_n 0, 1) := by decide +kernel
theorem dX6_mendWords_48 : decode cX6_mendWords 48 = .ok (.getfield 17, 3) := by decide +kernel
theorem dX6_mendWords_51 : decode cX6_mendWords 51 = .ok (.iload 7, 2) := by decide +kernel
theorem dX6_mendWords_53 : decode cX6_mendWords 53 = .ok (.iconst 5, 1) := by decide +kernel
theorem dX6_mendWords_54 : decode cX6_mendWords 54 = .ok (.idiv, 1) := by decide +kernel
theorem dX6_mendWords_55 : decode cX6_mendWords 55 = .ok (.iaload, 1) := by decide +kernel
theorem dX6_mendWords_56 : decode cX6_mendWords 56 = .ok (.iload 4, 2) := by decide +kernel
theorem dX6_mendWords_58 : decode cX6_mendWords 58 = .ok (.invokestatic 103, 3) := by decide +kernel
theorem dX6_mendWords_61 : decode cX6_mendWords 61 = .ok (.aload_n 0, 1) := by decide +kernel
theorem dX6_mendWords_62 : decode cX6_mendWords 62 = .ok (.iload 7, 2) := by decide +kernel
theorem dX6_mendWords_64 : decode cX6_mendWords 64 = .ok (.invokevirtual 111, 3) := by decide +kernel
theorem dX6_mendWords_67 : decode cX6_mendWords 67 = .ok (.isub, 1) := by decide +kernel
theorem dX6_mendWords_68 : decode cX6_mendWords 68 = .ok (.invokevirtual 123, 3) := by decide +kernel
theorem dX6_mendWords_71 : decode cX6_mendWords 71 = .ok (.ifCond .eq 7, 3) := by decide +kernel
theorem dX6_mendWords_74 : decode cX6_mendWords 74 = .ok (.iconst 1, 1) := by decide +kernel
theorem dX6_mendWords_75 : decode cX6_mendWords 75 = .ok (.goto 4, 3) := by decide +kernel
theorem dX6_mendWords_78 : decode cX6_mendWords 78 = .ok (.iconst 0, 1) := by decide +kernel
theorem dX6_mendWords_79 : decode cX6_mendWords 79 = .ok (.istore 8, 2) := by decide +kernel
theorem dX6_mendWords_81 : decode cX6_mendWords 81 = .ok (.aload_n 0, 1) := by decide +kernel
theorem dX6_mendWords_82 : decode cX6_mendWords 82 = .ok (.iload 6, 2) := by decide +kernel
theorem dX6_mendWords_84 : decode cX6_mendWords 84 = .ok (.ifCond .ne 7, 3) := by decide +kernel
theorem dX6_mendWords_87 : decode cX6_mendWords 87 = .ok (.iconst 1, 1) := by decide +kernel
theorem dX6_mendWords_88 : decode cX6_mendWords 88 = .ok (.goto 22, 3) := by decide +kernel
theorem dX6_mendWords_91 : decode cX6_mendWords 91 = .ok (.iload 5, 2) := by decide +kernel
theorem dX6_mendWords_93 : decode cX6_mendWords 93 = .ok (.ifCond .ne 7, 3) := by decide +kernel
theorem dX6_mendWords_96 : decode cX6_mendWords 96 = .ok (.iconst 2, 1) := by decide +kernel
theorem dX6_mendWords_97 : decode cX6_mendWords 97 = .ok (.goto 13, 3) := by decide +kernel
theorem dX6_mendWords_100 : decode cX6_mendWords 100 = .ok (.iload 8, 2) := by decide +kernel
theorem dX6_mendWords_102 : decode cX6_mendWords 102 = .ok (.ifCond .eq 7, 3) := by decide +kernel
theorem dX6_mendWords_105 : decode cX6_mendWords 105 = .ok (.iconst 0, 1) := by decide +kernel
theorem dX6_mendWords_106 : decode cX6_mendWords 106 = .ok (.goto 4, 3) := by decide +kernel
theorem dX6_mendWords_109 : decode cX6_mendWords 109 = .ok (.iconst 3, 1) := by decide +kernel
theorem dX6_mendWords_110 : decode cX6_mendWords 110 = .ok (.invokevirtual 120, 3) := by decide +kernel
theorem dX6_mendWords_113 : decode cX6_mendWords 113 = .ok (.ifCond .eq 5, 3) := by decide +kernel
theorem dX6_mendWords_116 : decode cX6_mendWords 116 = .ok (.iconst 0, 1) := by decide +kernel
theorem dX6_mendWords_117 : decode cX6_mendWords 117 = .ok (.ireturn, 1) := by decide +kernel
theorem dX6_mendWords_118 : decode cX6_mendWords 118 = .ok (.aload_n 0, 1) := by decide +kernel
theorem dX6_mendWords_119 : decode cX6_mendWords 119 = .ok (.iload_n 1, 1) := by decide +kernel
theorem dX6_mendWords_120 : decode cX6_mendWords 120 = .ok (.iload 7, 2) := by decide +kernel
theorem dX6_mendWords_122 : decode cX6_mendWords 122 = .ok (.iload 4, 2) := by decide +kernel
theorem dX6_mendWords_124 : decode cX6_mendWords 124 = .ok (.iconst 0, 1) := by decide +kernel
theorem dX6_mendWords_125 : decode cX6_mendWords 125 = .ok (.invokevirtual 190, 3) := by decide +kernel
theorem dX6_mendWords_128 : decode cX6_mendWords 128 = .ok (.ireturn, 1) := by decide +kernel
theorem dX6_areBoth_0 : decode cX6_areBoth 0 = .ok (.iload_n 1, 1) := by decide +kernel
theorem dX6_areBoth_1 : decode cX6_areBoth 1 = .ok (.invokestatic 193, 3) := by decide +kernel
theorem dX6_areBoth_4 : decode cX6_areBoth 4 = .ok (.ifCond .eq 15, 3) := by decide +kernel
theorem dX6_areBoth_7 : decode cX6_areBoth 7 = .ok (.aload_n 0, 1) := by decide +kernel
theorem dX6_areBoth_8 : decode cX6_areBoth 8 = .ok (.iload_n 2, 1) := by decide +kernel
theorem dX6_areBoth_9 : decode cX6_areBoth 9 = .ok (.invokevirtual 94, 3) := by decide +kernel
theorem dX6_areBoth_12 : decode cX6_areBoth 12 = .ok (.ifCond .eq 7, 3) := by decide +kernel
theorem dX6_areBoth_15 : decode cX6_areBoth 15 = .ok (.iconst 1, 1) := by decide +kernel
theorem dX6_areBoth_16 : decode cX6_areBoth 16 = .ok (.goto 4, 3) := by decide +kernel
theorem dX6_areBoth_19 : decode cX6_areBoth 19 = .ok (.iconst 0, 1) := by decide +kernel
theorem dX6_areBoth_20 : decode cX6_areBoth 20 = .ok (.ireturn, 1) := by decide +kernel
theorem dX6_taken_0 : decode cX6_taken 0 = .ok (.iconst 0, 1) := by decide +kernel
theorem dX6_taken_1 : decode cX6_taken 1 = .ok (.istore_n 2, 1) := by decide +kernel
theorem dX6_taken_2 : decode cX6_taken 2 = .ok (.iconst 5, 1) := by decide +kernel
theorem dX6_taken_3 : decode cX6_taken 3 = .ok (.iload_n 1, 1) := by decide +kernel
theorem dX6_taken_4 : decode cX6_taken 4 = .ok (.imul, 1) := by decide +kernel
theorem dX6_taken_5 : decode cX6_taken 5 = .ok (.istore_n 3, 1) := by decide +kernel
theorem dX6_taken_6 : decode cX6_taken 6 = .ok (.iload_n 3, 1) := by decide +kernel
theorem dX6_taken_7 : decode cX6_taken 7 = .ok (.iconst 5, 1) := by decide +kernel
theorem dX6_taken_8 : decode cX6_taken 8 = .ok (.iload_n 1, 1) := by decide +kernel
theorem dX6_taken_9 : decode cX6_taken 9 = .ok (.imul, 1) := by decide +kernel
theorem dX6_taken_10 : decode cX6_taken 10 = .ok (.iconst 5, 1) := by decide +kernel
theorem dX6_taken_11 : decode cX6_taken 11 = .ok (.iadd, 1) := by decide +kernel
theorem dX6_taken_12 : decode cX6_taken 12 = .ok (.if_icmp .ge 48, 3) := by decide +kernel
theorem dX6_taken_15 : decode cX6_taken 15 = .ok (.iload_n 2, 1) := by decide +kernel
theorem dX6_taken_16 : decode cX6_taken 16 = .ok (.aload_n 0, 1) := by decide +kernel
theorem dX6_taken_17 : decode cX6_taken 17 = .ok (.getfield 56, 3) := by decide +kernel
theorem dX6_taken_20 : decode cX6_taken 20 = .ok (.iload_n 3, 1) := by decide +kernel
theorem dX6_taken_21 : decode cX6_taken 21 = .ok (.baload, 1) := by decide +kernel
theorem dX6_taken_22 : decode cX6_taken 22 = .ok (.ifCond .eq 7, 3) := by decide +kernel
theorem dX6_taken_25 : decode cX6_taken 25 = .ok (.iconst 1, 1) := by decide +kernel
theorem dX6_taken_26 : decode cX6_taken 26 = .ok (.goto 4, 3) := by decide +kernel
theorem dX6_taken_29 : decode cX6_taken 29 = .ok (.iconst 0, 1) := by decide +kernel
theorem dX6_taken_30 : decode cX6_taken 30 = .ok (.aload_n 0, 1) := by decide +kernel
theorem dX6_taken_31 : decode cX6_taken 31 = .ok (.getfield 62, 3) := by decide +kernel
theorem dX6_taken_34 : decode cX6_taken 34 = .ok (.iload_n 3, 1) := by decide +kernel
theorem dX6_taken_35 : decode cX6_taken 35 = .ok (.iaload, 1) := by decide +kernel
theorem dX6_taken_36 : decode cX6_taken 36 = .ok (.ifCond .ne 7, 3) := by decide +kernel
theorem dX6_taken_39 : decode cX6_taken 39 = .ok (.iconst 0, 1) := by decide +kernel
theorem dX6_taken_40 : decode cX6_taken 40 = .ok (.goto 4, 3) := by decide +kernel
theorem dX6_taken_43 : decode cX6_taken 43 = .ok (.iconst 1, 1) := by decide +kernel
theorem dX6_taken_44 : decode cX6_taken 44 = .ok (.iadd, 1) := by decide +kernel
theorem dX6_taken_45 : decode cX6_taken 45 = .ok (.aload_n 0, 1) := by decide +kernel
theorem dX6_taken_46 : decode cX6_taken 46 = .ok (.getfield 65, 3) := by decide +kernel
theorem dX6_taken_49 : decode cX6_taken 49 = .ok (.iload_n 3, 1) := by decide +kernel
theorem dX6_taken_50 : decode cX6_taken 50 = .ok (.iaload, 1) := by decide +kernel
theorem dX6_taken_51 : decode cX6_taken 51 = .ok (.iadd, 1) := by decide +kernel
theorem dX6_taken_52 : decode cX6_taken 52 = .ok (.iadd, 1) := by decide +kernel
theorem dX6_taken_53 : decode cX6_taken 53 = .ok (.istore_n 2, 1) := by decide +kernel
theorem dX6_taken_54 : decode cX6_taken 54 = .ok (.iinc 3 1, 3) := by decide +kernel
theorem dX6_taken_57 : decode cX6_taken 57 = .ok (.goto (-51), 3) := by decide +kernel
theorem dX6_taken_60 : decode cX6_taken 60 = .ok (.iload_n 2, 1) := by decide +kernel
theorem dX6_taken_61 : decode cX6_taken 61 = .ok (.ireturn, 1) := by decide +kernel
theorem dX6_forget_0 : decode cX6_forget 0 = .ok (.aload_n 0, 1) := by decide +kernel
theorem dX6_forget_1 : decode cX6_forget 1 = .ok (.getfield 44, 3) := by decide +kernel
theorem dX6_forget_4 : decode cX6_forget 4 = .ok (.iload_n 1, 1) := by decide +kernel
theorem dX6_forget_5 : decode cX6_forget 5 = .ok (.iconst 0, 1) := by decide +kernel
theorem dX6_forget_6 : decode cX6_forget 6 = .ok (.iastore, 1) := by decide +kernel
theorem dX6_forget_7 : decode cX6_forget 7 = .ok (.iconst 5, 1) := by decide +kernel
theorem dX6_forget_8 : decode cX6_forget 8 = .ok (.iload_n 1, 1) := by decide +kernel
theorem dX6_forget_9 : decode cX6_forget 9 = .ok (.imul, 1) := by decide +kernel
theorem dX6_forget_10 : decode cX6_forget 10 = .ok (.istore_n 2, 1) := by decide +kernel
theorem dX6_forget_11 : decode cX6_forget 11 = .ok (.iload_n 2, 1) := by decide +kernel
theorem dX6_forget_12 : decode cX6_forget 12 = .ok (.iconst 5, 1) := by decide +kernel
theorem dX6_forget_13 : decode cX6_forget 13 = .ok (.iload_n 1, 1) := by decide +kernel
theorem dX6_forget_14 : decode cX6_forget 14 = .ok (.imul, 1) := by decide +kernel
theorem dX6_forget_15 : decode cX6_forget 15 = .ok (.iconst 5, 1) := by decide +kernel
theorem dX6_forget_16 : decode cX6_forget 16 = .ok (.iadd, 1) := by decide +kernel
theorem dX6_forget_17 : decode cX6_forget 17 = .ok (.if_icmp .ge 37, 3) := by decide +kernel
theorem dX6_forget_20 : decode cX6_forget 20 = .ok (.aload_n 0, 1) := by decide +kernel
theorem dX6_forget_21 : decode cX6_forget 21 = .ok (.getfield 56, 3) := by decide +kernel
theorem dX6_forget_24 : decode cX6_forget 24 = .ok (.iload_n 2, 1) := by decide +kernel
theorem dX6_forget_25 : decode cX6_forget 25 = .ok (.iconst 0, 1) := by decide +kernel
theorem dX6_forget_26 : decode cX6_forget 26 = .ok (.bastore, 1) := by decide +kernel
theorem dX6_forget_27 : decode cX6_forget 27 = .ok (.aload_n 0, 1) := by decide +kernel
theorem dX6_forget_28 : decode cX6_forget 28 = .ok (.getfield 59, 3) := by decide +kernel
theorem dX6_forget_31 : decode cX6_forget 31 = .ok (.iload_n 2, 1) := by decide +kernel
theorem dX6_forget_32 : decode cX6_forget 32 = .ok (.iconst 0, 1) := by decide +kernel
theorem dX6_forget_33 : decode cX6_forget 33 = .ok (.iastore, 1) := by decide +kernel
theorem dX6_forget_34 : decode cX6_forget 34 = .ok (.aload_n 0, 1) := by decide +kernel
theorem dX6_forget_35 : decode cX6_forget 35 = .ok (.getfield 62, 3) := by decide +kernel
theorem dX6_forget_38 : decode cX6_forget 38 = .ok (.iload_n 2, 1) := by decide +kernel
theorem dX6_forget_39 : decode cX6_forget 39 = .ok (.iconst 0, 1) := by decide +kernel
theorem dX6_forget_40 : decode cX6_forget 40 = .ok (.iastore, 1) := by decide +kernel
theorem dX6_forget_41 : decode cX6_forget 41 = .ok (.aload_n 0, 1) := by decide +kernel
theorem dX6_forget_42 : decode cX6_forget 42 = .ok (.getfield 65, 3) := by decide +kernel
theorem dX6_forget_45 : decode cX6_forget 45 = .ok (.iload_n 2, 1) := by decide +kernel
theorem dX6_forget_46 : decode cX6_forget 46 = .ok (.iconst 0, 1) := by decide +kernel
theorem dX6_forget_47 : decode cX6_forget 47 = .ok (.iastore, 1) := by decide +kernel
theorem dX6_forget_48 : decode cX6_forget 48 = .ok (.iinc 2 1, 3) := by decide +kernel
theorem dX6_forget_51 : decode cX6_forget 51 = .ok (.goto (-40), 3) := by decide +kernel
theorem dX6_forget_54 : decode cX6_forget 54 = .ok (.return_, 1) := by decide +kernel
theorem dX6_open_0 : decode cX6_open 0 = .ok (.aload_n 0, 1) := by decide +kernel
theorem dX6_open_1 : decode cX6_open 1 = .ok (.iload_n 1, 1) := by decide +kernel
theorem dX6_open_2 : decode cX6_open 2 = .ok (.iload_n 2, 1) := by decide +kernel
theorem dX6_open_3 : decode cX6_open 3 = .ok (.invokevirtual 196, 3) := by decide +kernel
theorem dX6_open_6 : decode cX6_open 6 = .ok (.istore_n 3, 1) := by decide +kernel
theorem dX6_open_7 : decode cX6_open 7 = .ok (.iload_n 3, 1) := by decide +kernel
theorem dX6_open_8 : decode cX6_open 8 = .ok (.ifCond .eq 36, 3) := by decide +kernel
theorem dX6_open_11 : decode cX6_open 11 = .ok (.aload_n 0, 1) := by decide +kernel
theorem dX6_open_12 : decode cX6_open 12 = .ok (.getfield 44, 3) := by decide +kernel
theorem dX6_open_15 : decode cX6_open 15 = .ok (.bipush 12, 2) := by decide +kernel
theorem dX6_open_17 : decode cX6_open 17 = .ok (.iload_n 2, 1) := by decide +kernel
theorem dX6_open_18 : decode cX6_open 18 = .ok (.imul, 1) := by decide +kernel
theorem dX6_open_19 : decode cX6_open 19 = .ok (.iload_n 1, 1) := by decide +kernel
theorem dX6_open_20 : decode cX6_open 20 = .ok (.iadd, 1) := by decide +kernel
theorem dX6_open_21 : decode cX6_open 21 = .ok (.iaload, 1) := by decide +kernel
theorem dX6_open_22 : decode cX6_open 22 = .ok (.ifCond .ne 22, 3) := by decide +kernel
theorem dX6_open_25 : decode cX6_open 25 = .ok (.aload_n 0, 1) := by decide +kernel
theorem dX6_open_26 : decode cX6_open 26 = .ok (.getfield 38, 3) := by decide +kernel
theorem dX6_open_29 : decode cX6_open 29 = .ok (.iconst 4, 1) := by decide +kernel
theorem dX6_open_30 : decode cX6_open 30 = .ok (.iload_n 2, 1) := by decide +kernel
theorem dX6_open_31 : decode cX6_open 31 = .ok (.imul, 1) := by decide +kernel
theorem dX6_open_32 : decode cX6_open 32 = .ok (.iload_n 1, 1) := by decide +kernel
theorem dX6_open_33 : decode cX6_open 33 = .ok (.iconst 3, 1) := by decide +kernel
theorem dX6_open_34 : decode cX6_open 34 = .ok (.idiv, 1) := by decide +kernel
theorem dX6_open_35 : decode cX6_open 35 = .ok (.iadd, 1) := by decide +kernel
theorem dX6_open_36 : decode cX6_open 36 = .ok (.baload, 1) := by decide +kernel
theorem dX6_open_37 : decode cX6_open 37 = .ok (.ifCond .ne 7, 3) := by decide +kernel
theorem dX6_open_40 : decode cX6_open 40 = .ok (.iconst 1, 1) := by decide +kernel
theorem dX6_open_41 : decode cX6_open 41 = .ok (.goto 4, 3) := by decide +kernel
theorem dX6_open_44 : decode cX6_open 44 = .ok (.iconst 0, 1) := by decide +kernel
theorem dX6_open_45 : decode cX6_open 45 = .ok (.istore 4, 2) := by decide +kernel
theorem dX6_open_47 : decode cX6_open 47 = .ok (.aload_n 0, 1) := by decide +kernel
theorem dX6_open_48 : decode cX6_open 48 = .ok (.iload_n 3, 1) := by decide +kernel
theorem dX6_open_49 : decode cX6_open 49 = .ok (.ifCond .ne 7, 3) := by decide +kernel
theorem dX6_open_52 : decode cX6_open 52 = .ok (.iconst 1, 1) := by decide +kernel
theorem dX6_open_53 : decode cX6_open 53 = .ok (.goto 13, 3) := by decide +kernel
theorem dX6_open_56 : decode cX6_open 56 = .ok (.iload 4, 2) := by decide +kernel
theorem dX6_open_58 : decode cX6_open 58 = .ok (.ifCond .eq 7, 3) := by decide +kernel
theorem dX6_open_61 : decode cX6_open 61 = .ok (.iconst 0, 1) := by decide +kernel
theorem dX6_open_62 : decode cX6_open 62 = .ok (.goto 4, 3) := by decide +kernel
theorem dX6_open_65 : decode cX6_open 65 = .ok (.iconst 2, 1) := by decide +kernel
theorem dX6_open_66 : decode cX6_open 66 = .ok (.invokevirtual 120, 3) := by decide +kernel
theorem dX6_open_69 : decode cX6_open 69 = .ok (.ifCond .eq 5, 3) := by decide +kernel
theorem dX6_open_72 : decode cX6_open 72 = .ok (.iconst 0, 1) := by decide +kernel
theorem dX6_open_73 : decode cX6_open 73 = .ok (.ireturn, 1) := by decide +kernel
theorem dX6_open_74 : decode cX6_open 74 = .ok (.bipush 12, 2) := by decide +kernel
theorem dX6_open_76 : decode cX6_open 76 = .ok (.iload_n 2, 1) := by decide +kernel
theorem dX6_open_77 : decode cX6_open 77 = .ok (.imul, 1) := by decide +kernel
theorem dX6_open_78 : decode cX6_open 78 = .ok (.iload_n 1, 1) := by decide +kernel
theorem dX6_open_79 : decode cX6_open 79 = .ok (.iadd, 1) := by decide +kernel
theorem dX6_open_80 : decode cX6_open 80 = .ok (.istore 5, 2) := by decide +kernel
theorem dX6_open_82 : decode cX6_open 82 = .ok (.aload_n 0, 1) := by decide +kernel
theorem dX6_open_83 : decode cX6_open 83 = .ok (.getfield 44, 3) := by decide +kernel
theorem dX6_open_86 : decode cX6_open 86 = .ok (.iload 5, 2) := by decide +kernel
theorem dX6_open_88 : decode cX6_open 88 = .ok (.iconst 1, 1) := by decide +kernel
theorem dX6_open_89 : decode cX6_open 89 = .ok (.iastore, 1) := by decide +kernel
theorem dX6_open_90 : decode cX6_open 90 = .ok (.aload_n 0, 1) := by decide +kernel
theorem dX6_open_91 : decode cX6_open 91 = .ok (.getfield 47, 3) := by decide +kernel
theorem dX6_open_94 : decode cX6_open 94 = .ok (.iload 5, 2) := by decide +kernel
theorem dX6_open_96 : decode cX6_open 96 = .ok (.aload_n 0, 1) := by decide +kernel
theorem dX6_open_97 : decode cX6_open 97 = .ok (.getfield 35, 3) := by decide +kernel
theorem dX6_open_100 : decode cX6_open 100 = .ok (.iconst 4, 1) := by decide +kernel
theorem dX6_open_101 : decode cX6_open 101 = .ok (.iload_n 2, 1) := by decide +kernel
theorem dX6_open_102 : decode cX6_open 102 = .ok (.imul, 1) := by decide +kernel
theorem dX6_open_103 : decode cX6_open 103 = .ok (.iload_n 1, 1) := by decide +kernel
theorem dX6_open_104 : decode cX6_open 104 = .ok (.iconst 3, 1) := by decide +kernel
theorem dX6_open_105 : decode cX6_open 105 = .ok (.idiv, 1) := by decide +kernel
theorem dX6_open_106 : decode cX6_open 106 = .ok (.iadd, 1) := by decide +kernel
theorem dX6_open_107 : decode cX6_open 107 = .ok (.iaload, 1) := by decide +kernel
theorem dX6_open_108 : decode cX6_open 108 = .ok (.iastore, 1) := by decide +kernel
theorem dX6_open_109 : decode cX6_open 109 = .ok (.aload_n 0, 1) := by decide +kernel
theorem dX6_open_110 : decode cX6_open 110 = .ok (.getfield 47, 3) := by decide +kernel
theorem dX6_open_113 : decode cX6_open 113 = .ok (.iload 5, 2) := by decide +kernel
theorem dX6_open_115 : decode cX6_open 115 = .ok (.iaload, 1) := by decide +kernel
theorem dX6_open_116 : decode cX6_open 116 = .ok (.ireturn, 1) := by decide +kernel
theorem dX6_isSaid_0 : decode cX6_isSaid 0 = .ok (.iload_n 0, 1) := by decide +kernel
theorem dX6_isSaid_1 : decode cX6_isSaid 1 = .ok (.ifCond .ne 16, 3) := by decide +kernel
theorem dX6_isSaid_4 : decode cX6_isSaid 4 = .ok (.iload_n 1, 1) := by decide +kernel
theorem dX6_isSaid_5 : decode cX6_isSaid 5 = .ok (.sipush (-1000), 3) := by decide +kernel
theorem dX6_isSaid_8 : decode cX6_isSaid 8 = .ok (.sipush 1000, 3) := by decide +kernel
theorem dX6_isSaid_11 : decode cX6_isSaid 11 = .ok (.invokestatic 87, 3) := by decide +kernel
theorem dX6_isSaid_14 : decode cX6_isSaid 14 = .ok (.goto 24, 3) := by decide +kernel
theorem dX6_isSaid_17 : decode cX6_isSaid 17 = .ok (.iload_n 0, 1) := by decide +kernel
theorem dX6_isSaid_18 : decode cX6_isSaid 18 = .ok (.iconst 1, 1) := by decide +kernel
theorem dX6_isSaid_19 : decode cX6_isSaid 19 = .ok (.if_icmp .ne 12, 3) := by decide +kernel
theorem dX6_isSaid_22 : decode cX6_isSaid 22 = .ok (.iload_n 1, 1) := by decide +kernel
theorem dX6_isSaid_23 : decode cX6_isSaid 23 = .ok (.iconst 0, 1) := by decide +kernel
theorem dX6_isSaid_24 : decode cX6_isSaid 24 = .ok (.iconst 4, 1) := by decide +kernel
theorem dX6_isSaid_25 : decode cX6_isSaid 25 = .ok (.invokestatic 87, 3) := by decide +kernel
theorem dX6_isSaid_28 : decode cX6_isSaid 28 = .ok (.goto 10, 3) := by decide +kernel
theorem dX6_isSaid_31 : decode cX6_isSaid 31 = .ok (.iload_n 1, 1) := by decide +kernel
theorem dX6_isSaid_32 : decode cX6_isSaid 32 = .ok (.iconst 1, 1) := by decide +kernel
theorem dX6_isSaid_33 : decode cX6_isSaid 33 = .ok (.bipush 31, 2) := by decide +kernel
theorem dX6_isSaid_35 : decode cX6_isSaid 35 = .ok (.invokestatic 87, 3) := by decide +kernel
theorem dX6_isSaid_38 : decode cX6_isSaid 38 = .ok (.ireturn, 1) := by decide +kernel
theorem dX6_more_0 : decode cX6_more 0 = .ok (.iload_n 1, 1) := by decide +kernel
theorem dX6_more_1 : decode cX6_more 1 = .ok (.ifCond .ne 18, 3) := by decide +kernel
theorem dX6_more_4 : decode cX6_more 4 = .ok (.aload_n 0, 1) := by decide +kernel
theorem dX6_more_5 : decode cX6_more 5 = .ok (.getfield 56, 3) := by decide +kernel
theorem dX6_more_8 : decode cX6_more 8 = .ok (.iload_n 2, 1) := by decide +kernel
theorem dX6_more_9 : decode cX6_more 9 = .ok (.baload, 1) := by decide +kernel
theorem dX6_more_10 : decode cX6_more 10 = .ok (.ifCond .eq 7, 3) := by decide +kernel
theorem dX6_more_13 : decode cX6_more 13 = .ok (.iconst 0, 1) := by decide +kernel
theorem dX6_more_14 : decode cX6_more 14 = .ok (.goto 4, 3) := by decide +kernel
theorem dX6_more_17 : decode cX6_more 17 = .ok (.iconst 1, 1) := by decide +kernel
theorem dX6_more_18 : decode cX6_more 18 = .ok (.ireturn, 1) := by decide +kernel
theorem dX6_more_19 : decode cX6_more 19 = .ok (.iload_n 1, 1) := by decide +kernel
theorem dX6_more_20 : decode cX6_more 20 = .ok (.iconst 1, 1) := by decide +kernel
theorem dX6_more_21 : decode cX6_more 21 = .ok (.if_icmp .ne 41, 3) := by decide +kernel
theorem dX6_more_24 : decode cX6_more 24 = .ok (.aload_n 0, 1) := by decide +kernel
theorem dX6_more_25 : decode cX6_more 25 = .ok (.getfield 62, 3) := by decide +kernel
theorem dX6_more_28 : decode cX6_more 28 = .ok (.iload_n 2, 1) := by decide +kernel
theorem dX6_more_29 : decode cX6_more 29 = .ok (.iaload, 1) := by decide +kernel
theorem dX6_more_30 : decode cX6_more 30 = .ok (.iconst 1, 1) := by decide +kernel
theorem dX6_more_31 : decode cX6_more 31 = .ok (.iload_n 3, 1) := by decide +kernel
theorem dX6_more_32 : decode cX6_more 32 = .ok (.ishl, 1) := by decide +kernel
theorem dX6_more_33 : decode cX6_more 33 = .ok (.ixor, 1) := by decide +kernel
theorem dX6_more_34 : decode cX6_more 34 = .ok (.istore 4, 2) := by decide +kernel
theorem dX6_more_36 : decode cX6_more 36 = .ok (.iload 4, 2) := by decide +kernel
theorem dX6_more_38 : decode cX6_more 38 = .ok (.ifCond .ne 7, 3) := by decide +kernel
theorem dX6_more_41 : decode cX6_more 41 = .ok (.iconst 0, 1) := by decide +kernel
theorem dX6_more_42 : decode cX6_more 42 = .ok (.goto 4, 3) := by decide +kernel
theorem dX6_more_45 : decode cX6_more 45 = .ok (.iconst 1, 1) := by decide +kernel
theorem dX6_more_46 : decode cX6_more 46 = .ok (.aload_n 0, 1) := by decide +kernel
theorem dX6_more_47 : decode cX6_more 47 = .ok (.getfield 62, 3) := by decide +kernel
theorem dX6_more_50 : decode cX6_more 50 = .ok (.iload_n 2, 1) := by decide +kernel
theorem dX6_more_51 : decode cX6_more 51 = .ok (.iaload, 1) := by decide +kernel
theorem dX6_more_52 : decode cX6_more 52 = .ok (.ifCond .ne 7, 3) := by decide +kernel
theorem dX6_more_55 : decode cX6_more 55 = .ok (.iconst 0, 1) := by decide +kernel
theorem dX6_more_56 : decode cX6_more 56 = .ok (.goto 4, 3) := by decide +kernel
theorem dX6_more_59 : decode cX6_more 59 = .ok (.iconst 1, 1) := by decide +kernel
theorem dX6_more_60 : decode cX6_more 60 = .ok (.isub, 1) := by decide +kernel
theorem dX6_more_61 : decode cX6_more 61 = .ok (.ireturn, 1) := by decide +kernel
theorem dX6_more_62 : decode cX6_more 62 = .ok (.aload_n 0, 1) := by decide +kernel
theorem dX6_more_63 : decode cX6_more 63 = .ok (.getfield 65, 3) := by decide +kernel
theorem dX6_more_66 : decode cX6_more 66 = .ok (.iload_n 2, 1) := by decide +kernel
theorem dX6_more_67 : decode cX6_more 67 = .ok (.iaload, 1) := by decide +kernel
theorem dX6_more_68 : decode cX6_more 68 = .ok (.bipush 12, 2) := by decide +kernel
theorem dX6_more_70 : decode cX6_more 70 = .ok (.if_icmp .ne 8, 3) := by decide +kernel
theorem dX6_more_73 : decode cX6_more 73 = .ok (.bipush 99, 2) := by decide +kernel
theorem dX6_more_75 : decode cX6_more 75 = .ok (.goto 4, 3) := by decide +kernel
theorem dX6_more_78 : decode cX6_more 78 = .ok (.iconst 1, 1) := by decide +kernel
theorem dX6_more_79 : decode cX6_more 79 = .ok (.ireturn, 1) := by decide +kernel
theorem dX6_say_0 : decode cX6_say 0 = .ok (.aload_n 0, 1) := by decide +kernel
theorem dX6_say_1 : decode cX6_say 1 = .ok (.iload_n 1, 1) := by decide +kernel
theorem dX6_say_2 : decode cX6_say 2 = .ok (.iload_n 2, 1) := by decide +kernel
theorem dX6_say_3 : decode cX6_say 3 = .ok (.invokevirtual 196, 3) := by decide +kernel
theorem dX6_say_6 : decode cX6_say 6 = .ok (.ifCond .eq 14, 3) := by decide +kernel
theorem dX6_say_9 : decode cX6_say 9 = .ok (.iload_n 3, 1) := by decide +kernel
theorem dX6_say_10 : decode cX6_say 10 = .ok (.invokestatic 130, 3) := by decide +kernel
theorem dX6_say_13 : decode cX6_say 13 = .ok (.ifCond .eq 7, 3) := by decide +kernel
theorem dX6_say_16 : decode cX6_say 16 = .ok (.iconst 1, 1) := by decide +kernel
theorem dX6_say_17 : decode cX6_say 17 = .ok (.goto 4, 3) := by decide +kernel
theorem dX6_say_20 : decode cX6_say 20 = .ok (.iconst 0, 1) := by decide +kernel
theorem dX6_say_21 : decode cX6_say 21 = .ok (.istore 5, 2) := by decide +kernel
theorem dX6_say_23 : decode cX6_say 23 = .ok (.iload 5, 2) := by decide +kernel
theorem dX6_say_25 : decode cX6_say 25 = .ok (.ifCond .eq 12, 3) := by decide +kernel
theorem dX6_say_28 : decode cX6_say 28 = .ok (.bipush 12, 2) := by decide +kernel
theorem dX6_say_30 : decode cX6_say 30 = .ok (.iload_n 2, 1) := by decide +kernel
theorem dX6_say_31 : decode cX6_say 31 = .ok (.imul, 1) := by decide +kernel
theorem dX6_say_32 : decode cX6_say 32 = .ok (.iload_n 1, 1) := by decide +kernel
theorem dX6_say_33 : decode cX6_say 33 = .ok (.iadd, 1) := by decide +kernel
theorem dX6_say_34 : decode cX6_say 34 = .ok (.goto 4, 3) := by decide +kernel
theorem dX6_say_37 : decode cX6_say 37 = .ok (.iconst 0, 1) := by decide +kernel
theorem dX6_say_38 : decode cX6_say 38 = .ok (.istore 6, 2) := by decide +kernel
theorem dX6_say_40 : decode cX6_say 40 = .ok (.iload 5, 2) := by decide +kernel
theorem dX6_say_42 : decode cX6_say 42 = .ok (.ifCond .eq 30, 3) := by decide +kernel
theorem dX6_say_45 : decode cX6_say 45 = .ok (.aload_n 0, 1) := by decide +kernel
theorem dX6_say_46 : decode cX6_say 46 = .ok (.getfield 44, 3) := by decide +kernel
theorem dX6_say_49 : decode cX6_say 49 = .ok (.iload 6, 2) := by decide +kernel
theorem dX6_say_51 : decode cX6_say 51 = .ok (.iaload, 1) := by decide +kernel
theorem dX6_say_52 : decode cX6_say 52 = .ok (.iconst 1, 1) := by decide +kernel
theorem dX6_say_53 : decode cX6_say 53 = .ok (.if_icmp .ne 19, 3) := by decide +kernel
theorem dX6_say_56 : decode cX6_say 56 = .ok (.aload_n 0, 1) := by decide +kernel
theorem dX6_say_57 : decode cX6_say 57 = .ok (.iload_n 2, 1) := by decide +kernel
theorem dX6_say_58 : decode cX6_say 58 = .ok (.aload_n 0, 1) := by decide +kernel
theorem dX6_say_59 : decode cX6_say 59 = .ok (.getfield 47, 3) := by decide +kernel
theorem dX6_say_62 : decode cX6_say 62 = .ok (.iload 6, 2) := by decide +kernel
theorem dX6_say_64 : decode cX6_say 64 = .ok (.iaload, 1) := by decide +kernel
theorem dX6_say_65 : decode cX6_say 65 = .ok (.iload_n 3, 1) := by decide +kernel
theorem dX6_say_66 : decode cX6_say 66 = .ok (.invokevirtual 146, 3) := by decide +kernel
theorem dX6_say_69 : decode cX6_say 69 = .ok (.goto 4, 3) := by decide +kernel
theorem dX6_say_72 : decode cX6_say 72 = .ok (.iconst (-1), 1) := by decide +kernel
theorem dX6_say_73 : decode cX6_say 73 = .ok (.istore 7, 2) := by decide +kernel
theorem dX6_say_75 : decode cX6_say 75 = .ok (.iload 7, 2) := by decide +kernel
theorem dX6_say_77 : decode cX6_say 77 = .ok (.iconst (-1), 1) := by decide +kernel
theorem dX6_say_78 : decode cX6_say 78 = .ok (.if_icmp .eq 18, 3) := by decide +kernel
theorem dX6_say_81 : decode cX6_say 81 = .ok (.aload_n 0, 1) := by decide +kernel
theorem dX6_say_82 : decode cX6_say 82 = .ok (.getfield 23, 3) := by decide +kernel
theorem dX6_say_85 : decode cX6_say 85 = .ok (.iload 7, 2) := by decide +kernel
theorem dX6_say_87 : decode cX6_say 87 = .ok (.iaload, 1) := by decide +kernel
theorem dX6_say_88 : decode cX6_say 88 = .ok (.iload 4, 2) := by decide +kernel
theorem dX6_say_90 : decode cX6_say 90 = .ok (.invokestatic 199, 3) := by decide +kernel
theorem dX6_say_93 : decode cX6_say 93 = .ok (.ifCond .eq 7, 3) := by decide +kernel
theorem dX6_say_96 : decode cX6_say 96 = .ok (.iconst 1, 1) := by decide +kernel
theorem dX6_say_97 : decode cX6_say 97 = .ok (.goto 4, 3) := by decide +kernel
theorem dX6_say_100 : decode cX6_say 100 = .ok (.iconst 0, 1) := by decide +kernel
theorem dX6_say_101 : decode cX6_say 101 = .ok (.istore 8, 2) := by decide +kernel
theorem dX6_say_103 : decode cX6_say 103 = .ok (.iconst 5, 1) := by decide +kernel
theorem dX6_say_104 : decode cX6_say 104 = .ok (.iload 6, 2) := by decide +kernel
theorem dX6_say_106 : decode cX6_say 106 = .ok (.imul, 1) := by decide +kernel
theorem dX6_say_107 : decode cX6_say 107 = .ok (.iload 5, 2) := by decide +kernel
theorem dX6_say_109 : decode cX6_say 109 = .ok (.ifCond .eq 7, 3) := by decide +kernel
theorem dX6_say_112 : decode cX6_say 112 = .ok (.iload_n 3, 1) := by decide +kernel
theorem dX6_say_113 : decode cX6_say 113 = .ok (.goto 4, 3) := by decide +kernel
theorem dX6_say_116 : decode cX6_say 116 = .ok (.iconst 0, 1) := by decide +kernel
theorem dX6_say_117 : decode cX6_say 117 = .ok (.iadd, 1) := by decide +kernel
theorem dX6_say_118 : decode cX6_say 118 = .ok (.istore 9, 2) := by decide +kernel
theorem dX6_say_120 : decode cX6_say 120 = .ok (.iload 7, 2) := by decide +kernel
theorem dX6_say_122 : decode cX6_say 122 = .ok (.iconst (-1), 1) := by decide +kernel
theorem dX6_say_123 : decode cX6_say 123 = .ok (.if_icmp .eq 8, 3) := by decide +kernel
theorem dX6_say_126 : decode cX6_say 126 = .ok (.iload 8, 2) := by decide +kernel
theorem dX6_say_128 : decode cX6_say 128 = .ok (.ifCond .ne 8, 3) := by decide +kernel
theorem dX6_say_131 : decode cX6_say 131 = .ok (.bipush 99, 2) := by decide +kernel
theorem dX6_say_133 : decode cX6_say 133 = .ok (.goto 18, 3) := by decide +kernel
theorem dX6_say_136 : decode cX6_say 136 = .ok (.aload_n 0, 1) := by decide +kernel
theorem dX6_say_137 : decode cX6_say 137 = .ok (.aload_n 0, 1) := by decide +kernel
theorem dX6_say_138 : decode cX6_say 138 = .ok (.getfield 23, 3) := by decide +kernel
theorem dX6_say_141 : decode cX6_say 141 = .ok (.iload 7, 2) := by decide +kernel
theorem dX6_say_143 : decode cX6_say 143 = .ok (.iaload, 1) := by decide +kernel
theorem dX6_say_144 : decode cX6_say 144 = .ok (.iload 9, 2) := by decide +kernel
theorem dX6_say_146 : decode cX6_say 146 = .ok (.iload 4, 2) := by decide +kernel
theorem dX6_say_148 : decode cX6_say 148 = .ok (.invokevirtual 202, 3) := by decide +kernel
theorem dX6_say_151 : decode cX6_say 151 = .ok (.istore 10, 2) := by decide +kernel
theorem dX6_say_153 : decode cX6_say 153 = .ok (.aload_n 0, 1) := by decide +kernel
theorem dX6_say_154 : decode cX6_say 154 = .ok (.iload 5, 2) := by decide +kernel
theorem dX6_say_156 : decode cX6_say 156 = .ok (.ifCond .ne 7, 3) := by decide +kernel
theorem dX6_say_159 : decode cX6_say 159 = .ok (.iconst 1, 1) := by decide +kernel
theorem dX6_say_160 : decode cX6_say 160 = .ok (.goto 36, 3) := by decide +kernel
theorem dX6_say_163 : decode cX6_say 163 = .ok (.iload 8, 2) := by decide +kernel
theorem dX6_say_165 : decode cX6_say 165 = .ok (.ifCond .ne 7, 3) := by decide +kernel
theorem dX6_say_168 : decode cX6_say 168 = .ok (.iconst 2, 1) := by decide +kernel
theorem dX6_say_169 : decode cX6_say 169 = .ok (.goto 27, 3) := by decide +kernel
theorem dX6_say_172 : decode cX6_say 172 = .ok (.iload 10, 2) := by decide +kernel
theorem dX6_say_174 : decode cX6_say 174 = .ok (.bipush 99, 2) := by decide +kernel
theorem dX6_say_176 : decode cX6_say 176 = .ok (.if_icmp .eq 19, 3) := by decide +kernel
theorem dX6_say_179 : decode cX6_say 179 = .ok (.aload_n 0, 1) := by decide +kernel
theorem dX6_say_180 : decode cX6_say 180 = .ok (.iload_n 1, 1) := by decide +kernel
theorem dX6_say_181 : decode cX6_say 181 = .ok (.iconst 3, 1) := by decide +kernel
theorem dX6_say_182 : decode cX6_say 182 = .ok (.idiv, 1) := by decide +kernel
theorem dX6_say_183 : decode cX6_say 183 = .ok (.iload 10, 2) := by decide +kernel
theorem dX6_say_185 : decode cX6_say 185 = .ok (.invokevirtual 123, 3) := by decide +kernel
theorem dX6_say_188 : decode cX6_say 188 = .ok (.ifCond .eq 7, 3) := by decide +kernel
theorem dX6_say_191 : decode cX6_say 191 = .ok (.iconst 0, 1) := by decide +kernel
theorem dX6_say_192 : decode cX6_say 192 = .ok (.goto 4, 3) := by decide +kernel
theorem dX6_say_195 : decode cX6_say 195 = .ok (.iconst 3, 1) := by decide +kernel
theorem dX6_say_196 : decode cX6_say 196 = .ok (.invokevirtual 120, 3) := by decide +kernel
theorem dX6_say_199 : decode cX6_say 199 = .ok (.ifCond .eq 5, 3) := by decide +kernel
theorem dX6_say_202 : decode cX6_say 202 = .ok (.iconst 0, 1) := by decide +kernel
theorem dX6_say_203 : decode cX6_say 203 = .ok (.ireturn, 1) := by decide +kernel
theorem dX6_say_204 : decode cX6_say 204 = .ok (.aload_n 0, 1) := by decide +kernel
theorem dX6_say_205 : decode cX6_say 205 = .ok (.getfield 23, 3) := by decide +kernel
theorem dX6_say_208 : decode cX6_say 208 = .ok (.iload 7, 2) := by decide +kernel
theorem dX6_say_210 : decode cX6_say 210 = .ok (.iaload, 1) := by decide +kernel
theorem dX6_say_211 : decode cX6_say 211 = .ok (.ifCond .ne 23, 3) := by decide +kernel
theorem dX6_say_214 : decode cX6_say 214 = .ok (.aload_n 0, 1) := by decide +kernel
theorem dX6_say_215 : decode cX6_say 215 = .ok (.getfield 56, 3) := by decide +kernel
theorem dX6_say_218 : decode cX6_say 218 = .ok (.iload 9, 2) := by decide +kernel
theorem dX6_say_220 : decode cX6_say 220 = .ok (.iconst 1, 1) := by decide +kernel
theorem dX6_say_221 : decode cX6_say 221 = .ok (.bastore, 1) := by decide +kernel
theorem dX6_say_222 : decode cX6_say 222 = .ok (.aload_n 0, 1) := by decide +kernel
theorem dX6_say_223 : decode cX6_say 223 = .ok (.getfield 59, 3) := by decide +kernel
theorem dX6_say_226 : decode cX6_say 226 = .ok (.iload 9, 2) := by decide +kernel
theorem dX6_say_228 : decode cX6_say 228 = .ok (.iload 4, 2) := by decide +kernel
theorem dX6_say_230 : decode cX6_say 230 = .ok (.iastore, 1) := by decide +kernel
theorem dX6_say_231 : decode cX6_say 231 = .ok (.goto 62, 3) := by decide +kernel
theorem dX6_say_234 : decode cX6_say 234 = .ok (.aload_n 0, 1) := by decide +kernel
theorem dX6_say_235 : decode cX6_say 235 = .ok (.getfield 23, 3) := by decide +kernel
theorem dX6_say_238 : decode cX6_say 238 = .ok (.iload 7, 2) := by decide +kernel
theorem dX6_say_240 : decode cX6_say 240 = .ok (.iaload, 1) := by decide +kernel
theorem dX6_say_241 : decode cX6_say 241 = .ok (.iconst 1, 1) := by decide +kernel
theorem dX6_say_242 : decode cX6_say 242 = .ok (.if_icmp .ne 20, 3) := by decide +kernel
theorem dX6_say_245 : decode cX6_say 245 = .ok (.aload_n 0, 1) := by decide +kernel
theorem dX6_say_246 : decode cX6_say 246 = .ok (.getfield 62, 3) := by decide +kernel
theorem dX6_say_249 : decode cX6_say 249 = .ok (.iload 9, 2) := by decide +kernel
theorem dX6_say_251 : decode cX6_say 251 = .ok (.dup2, 1) := by decide +kernel
theorem dX6_say_252 : decode cX6_say 252 = .ok (.iaload, 1) := by decide +kernel
theorem dX6_say_253 : decode cX6_say 253 = .ok (.iconst 1, 1) := by decide +kernel
theorem dX6_say_254 : decode cX6_say 254 = .ok (.iload 4, 2) := by decide +kernel
theorem dX6_say_256 : decode cX6_say 256 = .ok (.ishl, 1) := by decide +kernel
theorem dX6_say_257 : decode cX6_say 257 = .ok (.ixor, 1) := by decide +kernel
theorem dX6_say_258 : decode cX6_say 258 = .ok (.iastore, 1) := by decide +kernel
theorem dX6_say_259 : decode cX6_say 259 = .ok (.goto 34, 3) := by decide +kernel
theorem dX6_say_262 : decode cX6_say 262 = .ok (.aload_n 0, 1) := by decide +kernel
theorem dX6_say_263 : decode cX6_say 263 = .ok (.getfield 68, 3) := by decide +kernel
theorem dX6_say_266 : decode cX6_say 266 = .ok (.bipush 12, 2) := by decide +kernel
theorem dX6_say_268 : decode cX6_say 268 = .ok (.iload 9, 2) := by decide +kernel
theorem dX6_say_270 : decode cX6_say 270 = .ok (.imul, 1) := by decide +kernel
theorem dX6_say_271 : decode cX6_say 271 = .ok (.aload_n 0, 1) := by decide +kernel
theorem dX6_say_272 : decode cX6_say 272 = .ok (.getfield 65, 3) := by decide +kernel
theorem dX6_say_275 : decode cX6_say 275 = .ok (.iload 9, 2) := by decide +kernel
theorem dX6_say_277 : decode cX6_say 277 = .ok (.iaload, 1) := by decide +kernel
theorem dX6_say_278 : decode cX6_say 278 = .ok (.iadd, 1) := by decide +kernel
theorem dX6_say_279 : decode cX6_say 279 = .ok (.iload 4, 2) := by decide +kernel
theorem dX6_say_281 : decode cX6_say 281 = .ok (.iastore, 1) := by decide +kernel
theorem dX6_say_282 : decode cX6_say 282 = .ok (.aload_n 0, 1) := by decide +kernel
theorem dX6_say_283 : decode cX6_say 283 = .ok (.getfield 65, 3) := by decide +kernel
theorem dX6_say_286 : decode cX6_say 286 = .ok (.iload 9, 2) := by decide +kernel
theorem dX6_say_288 : decode cX6_say 288 = .ok (.dup2, 1) := by decide +kernel
theorem dX6_say_289 : decode cX6_say 289 = .ok (.iaload, 1) := by decide +kernel
theorem dX6_say_290 : decode cX6_say 290 = .ok (.iconst 1, 1) := by decide +kernel
theorem dX6_say_291 : decode cX6_say 291 = .ok (.iadd, 1) := by decide +kernel
theorem dX6_say_292 : decode cX6_say 292 = .ok (.iastore, 1) := by decide +kernel
theorem dX6_say_293 : decode cX6_say 293 = .ok (.aload_n 0, 1) := by decide +kernel
theorem dX6_say_294 : decode cX6_say 294 = .ok (.iload 6, 2) := by decide +kernel
theorem dX6_say_296 : decode cX6_say 296 = .ok (.invokevirtual 114, 3) := by decide +kernel
theorem dX6_say_299 : decode cX6_say 299 = .ok (.ireturn, 1) := by decide +kernel
theorem dX6_hand_0 : decode cX6_hand 0 = .ok (.aload_n 0, 1) := by decide +kernel
theorem dX6_hand_1 : decode cX6_hand 1 = .ok (.iload_n 1, 1) := by decide +kernel
theorem dX6_hand_2 : decode cX6_hand 2 = .ok (.iload_n 2, 1) := by decide +kernel
theorem dX6_hand_3 : decode cX6_hand 3 = .ok (.invokevirtual 196, 3) := by decide +kernel
theorem dX6_hand_6 : decode cX6_hand 6 = .ok (.istore_n 3, 1) := by decide +kernel
theorem dX6_hand_7 : decode cX6_hand 7 = .ok (.aload_n 0, 1) := by decide +kernel
theorem dX6_hand_8 : decode cX6_hand 8 = .ok (.iload_n 3, 1) := by decide +kernel
theorem dX6_hand_9 : decode cX6_hand 9 = .ok (.ifCond .ne 7, 3) := by decide +kernel
theorem dX6_hand_12 : decode cX6_hand 12 = .ok (.iconst 1, 1) := by decide +kernel
theorem dX6_hand_13 : decode cX6_hand 13 = .ok (.goto 23, 3) := by decide +kernel
theorem dX6_hand_16 : decode cX6_hand 16 = .ok (.aload_n 0, 1) := by decide +kernel
theorem dX6_hand_17 : decode cX6_hand 17 = .ok (.getfield 44, 3) := by decide +kernel
theorem dX6_hand_20 : decode cX6_hand 20 = .ok (.bipush 12, 2) := by decide +kernel
theorem dX6_hand_22 : decode cX6_hand 22 = .ok (.iload_n 2, 1) := by decide +kernel
theorem dX6_hand_23 : decode cX6_hand 23 = .ok (.imul, 1) := by decide +kernel
theorem dX6_hand_24 : decode cX6_hand 24 = .ok (.iload_n 1, 1) := by decide +kernel
theorem dX6_hand_25 : decode cX6_hand 25 = .ok (.iadd, 1) := by decide +kernel
theorem dX6_hand_26 : decode cX6_hand 26 = .ok (.iaload, 1) := by decide +kernel
theorem dX6_hand_27 : decode cX6_hand 27 = .ok (.iconst 1, 1) := by decide +kernel
theorem dX6_hand_28 : decode cX6_hand 28 = .ok (.if_icmp .ne 7, 3) := by decide +kernel
theorem dX6_hand_31 : decode cX6_hand 31 = .ok (.iconst 0, 1) := by decide +kernel
theorem dX6_hand_32 : decode cX6_hand 32 = .ok (.goto 4, 3) := by decide +kernel
theorem dX6_hand_35 : decode cX6_hand 35 = .ok (.iconst 2, 1) := by decide +kernel
theorem dX6_hand_36 : decode cX6_hand 36 = .ok (.invokevirtual 120, 3) := by decide +kernel
theorem dX6_hand_39 : decode cX6_hand 39 = .ok (.ifCond .eq 5, 3) := by decide +kernel
theorem dX6_hand_42 : decode cX6_hand 42 = .ok (.iconst 0, 1) := by decide +kernel
theorem dX6_hand_43 : decode cX6_hand 43 = .ok (.ireturn, 1) := by decide +kernel
theorem dX6_hand_44 : decode cX6_hand 44 = .ok (.bipush 12, 2) := by decide +kernel
theorem dX6_hand_46 : decode cX6_hand 46 = .ok (.iload_n 2, 1) := by decide +kernel
theorem dX6_hand_47 : decode cX6_hand 47 = .ok (.imul, 1) := by decide +kernel
theorem dX6_hand_48 : decode cX6_hand 48 = .ok (.iload_n 1, 1) := by decide +kernel
theorem dX6_hand_49 : decode cX6_hand 49 = .ok (.iadd, 1) := by decide +kernel
theorem dX6_hand_50 : decode cX6_hand 50 = .ok (.istore 4, 2) := by decide +kernel
theorem dX6_hand_52 : decode cX6_hand 52 = .ok (.aload_n 0, 1) := by decide +kernel
theorem dX6_hand_53 : decode cX6_hand 53 = .ok (.getfield 44, 3) := by decide +kernel
theorem dX6_hand_56 : decode cX6_hand 56 = .ok (.iload 4, 2) := by decide +kernel
theorem dX6_hand_58 : decode cX6_hand 58 = .ok (.iconst 2, 1) := by decide +kernel
theorem dX6_hand_59 : decode cX6_hand 59 = .ok (.iastore, 1) := by decide +kernel
theorem dX6_hand_60 : decode cX6_hand 60 = .ok (.aload_n 0, 1) := by decide +kernel
theorem dX6_hand_61 : decode cX6_hand 61 = .ok (.getfield 50, 3) := by decide +kernel
theorem dX6_hand_64 : decode cX6_hand 64 = .ok (.iload 4, 2) := by decide +kernel
theorem dX6_hand_66 : decode cX6_hand 66 = .ok (.aload_n 0, 1) := by decide +kernel
theorem dX6_hand_67 : decode cX6_hand 67 = .ok (.iload 4, 2) := by decide +kernel
theorem dX6_hand_69 : decode cX6_hand 69 = .ok (.invokevirtual 180, 3) := by decide +kernel
theorem dX6_hand_72 : decode cX6_hand 72 = .ok (.iastore, 1) := by decide +kernel
theorem dX6_hand_73 : decode cX6_hand 73 = .ok (.aload_n 0, 1) := by decide +kernel
theorem dX6_hand_74 : decode cX6_hand 74 = .ok (.getfield 50, 3) := by decide +kernel
theorem dX6_hand_77 : decode cX6_hand 77 = .ok (.iload 4, 2) := by decide +kernel
theorem dX6_hand_79 : decode cX6_hand 79 = .ok (.iaload, 1) := by decide +kernel
theorem dX6_hand_80 : decode cX6_hand 80 = .ok (.ireturn, 1) := by decide +kernel
theorem dX6_close_0 : decode cX6_close 0 = .ok (.iload_n 1, 1) := by decide +kernel
theorem dX6_close_1 : decode cX6_close 1 = .ok (.invokestatic 127, 3) := by decide +kernel
theorem dX6_close_4 : decode cX6_close 4 = .ok (.ifCond .eq 15, 3) := by decide +kernel
theorem dX6_close_7 : decode cX6_close 7 = .ok (.aload_n 0, 1) := by decide +kernel
theorem dX6_close_8 : decode cX6_close 8 = .ok (.iload_n 2, 1) := by decide +kernel
theorem dX6_close_9 : decode cX6_close 9 = .ok (.invokevirtual 94, 3) := by decide +kernel
theorem dX6_close_12 : decode cX6_close 12 = .ok (.ifCond .eq 7, 3) := by decide +kernel
theorem dX6_close_15 : decode cX6_close 15 = .ok (.iconst 1, 1) := by decide +kernel
theorem dX6_close_16 : decode cX6_close 16 = .ok (.goto 4, 3) := by decide +kernel
theorem dX6_close_19 : decode cX6_close 19 = .ok (.iconst 0, 1) := by decide +kernel
theorem dX6_close_20 : decode cX6_close 20 = .ok (.istore_n 3, 1) := by decide +kernel
theorem dX6_close_21 : decode cX6_close 21 = .ok (.aload_n 0, 1) := by decide +kernel
theorem dX6_close_22 : decode cX6_close 22 = .ok (.iload_n 3, 1) := by decide +kernel
theorem dX6_close_23 : decode cX6_close 23 = .ok (.ifCond .ne 7, 3) := by decide +kernel
theorem dX6_close_26 : decode cX6_close 26 = .ok (.iconst 1, 1) := by decide +kernel
theorem dX6_close_27 : decode cX6_close 27 = .ok (.goto 21, 3) := by decide +kernel
theorem dX6_close_30 : decode cX6_close 30 = .ok (.aload_n 0, 1) := by decide +kernel
theorem dX6_close_31 : decode cX6_close 31 = .ok (.getfield 38, 3) := by decide +kernel
theorem dX6_close_34 : decode cX6_close 34 = .ok (.iconst 4, 1) := by decide +kernel
theorem dX6_close_35 : decode cX6_close 35 = .ok (.iload_n 2, 1) := by decide +kernel
theorem dX6_close_36 : decode cX6_close 36 = .ok (.imul, 1) := by decide +kernel
theorem dX6_close_37 : decode cX6_close 37 = .ok (.iload_n 1, 1) := by decide +kernel
theorem dX6_close_38 : decode cX6_close 38 = .ok (.iadd, 1) := by decide +kernel
theorem dX6_close_39 : decode cX6_close 39 = .ok (.baload, 1) := by decide +kernel
theorem dX6_close_40 : decode cX6_close 40 = .ok (.ifCond .eq 7, 3) := by decide +kernel
theorem dX6_close_43 : decode cX6_close 43 = .ok (.iconst 2, 1) := by decide +kernel
theorem dX6_close_44 : decode cX6_close 44 = .ok (.goto 4, 3) := by decide +kernel
theorem dX6_close_47 : decode cX6_close 47 = .ok (.iconst 0, 1) := by decide +kernel
theorem dX6_close_48 : decode cX6_close 48 = .ok (.invokevirtual 120, 3) := by decide +kernel
theorem dX6_close_51 : decode cX6_close 51 = .ok (.ifCond .eq 5, 3) := by decide +kernel
theorem dX6_close_54 : decode cX6_close 54 = .ok (.iconst 0, 1) := by decide +kernel
theorem dX6_close_55 : decode cX6_close 55 = .ok (.ireturn, 1) := by decide +kernel
theorem dX6_close_56 : decode cX6_close 56 = .ok (.aload_n 0, 1) := by decide +kernel
theorem dX6_close_57 : decode cX6_close 57 = .ok (.getfield 38, 3) := by decide +kernel
theorem dX6_close_60 : decode cX6_close 60 = .ok (.iconst 4, 1) := by decide +kernel
theorem dX6_close_61 : decode cX6_close 61 = .ok (.iload_n 2, 1) := by decide +kernel
theorem dX6_close_62 : decode cX6_close 62 = .ok (.imul, 1) := by decide +kernel
theorem dX6_close_63 : decode cX6_close 63 = .ok (.iload_n 1, 1) := by decide +kernel
theorem dX6_close_64 : decode cX6_close 64 = .ok (.iadd, 1) := by decide +kernel
theorem dX6_close_65 : decode cX6_close 65 = .ok (.iconst 1, 1) := by decide +kernel
theorem dX6_close_66 : decode cX6_close 66 = .ok (.bastore, 1) := by decide +kernel
theorem dX6_close_67 : decode cX6_close 67 = .ok (.iconst 0, 1) := by decide +kernel
theorem dX6_close_68 : decode cX6_close 68 = .ok (.istore 4, 2) := by decide +kernel
theorem dX6_close_70 : decode cX6_close 70 = .ok (.bipush 12, 2) := by decide +kernel
theorem dX6_close_72 : decode cX6_close 72 = .ok (.iload_n 2, 1) := by decide +kernel
theorem dX6_close_73 : decode cX6_close 73 = .ok (.imul, 1) := by decide +kernel
theorem dX6_close_74 : decode cX6_close 74 = .ok (.iconst 3, 1) := by decide +kernel
theorem dX6_close_75 : decode cX6_close 75 = .ok (.iload_n 1, 1) := by decide +kernel
theorem dX6_close_76 : decode cX6_close 76 = .ok (.imul, 1) := by decide +kernel
theorem dX6_close_77 : decode cX6_close 77 = .ok (.iadd, 1) := by decide +kernel
theorem dX6_close_78 : decode cX6_close 78 = .ok (.istore 5, 2) := by decide +kernel
theorem dX6_close_80 : decode cX6_close 80 = .ok (.iload 5, 2) := by decide +kernel
theorem dX6_close_82 : decode cX6_close 82 = .ok (.bipush 12, 2) := by decide +kernel
theorem dX6_close_84 : decode cX6_close 84 = .ok (.iload_n 2, 1) := by decide +kernel
theorem dX6_close_85 : decode cX6_close 85 = .ok (.imul, 1) := by decide +kernel
theorem dX6_close_86 : decode cX6_close 86 = .ok (.iconst 3, 1) := by decide +kernel
theorem dX6_close_87 : decode cX6_close 87 = .ok (.iload_n 1, 1) := by decide +kernel
theorem dX6_close_88 : decode cX6_close 88 = .ok (.imul, 1) := by decide +kernel
theorem dX6_close_89 : decode cX6_close 89 = .ok (.iadd, 1) := by decide +kernel
theorem dX6_close_90 : decode cX6_close 90 = .ok (.iconst 3, 1) := by decide +kernel
theorem dX6_close_91 : decode cX6_close 91 = .ok (.iadd, 1) := by decide +kernel
theorem dX6_close_92 : decode cX6_close 92 = .ok (.if_icmp .ge 47, 3) := by decide +kernel
theorem dX6_close_95 : decode cX6_close 95 = .ok (.iload 4, 2) := by decide +kernel
theorem dX6_close_97 : decode cX6_close 97 = .ok (.aload_n 0, 1) := by decide +kernel
theorem dX6_close_98 : decode cX6_close 98 = .ok (.getfield 44, 3) := by decide +kernel
theorem dX6_close_101 : decode cX6_close 101 = .ok (.iload 5, 2) := by decide +kernel
theorem dX6_close_103 : decode cX6_close 103 = .ok (.iaload, 1) := by decide +kernel
theorem dX6_close_104 : decode cX6_close 104 = .ok (.iconst 2, 1) := by decide +kernel
theorem dX6_close_105 : decode cX6_close 105 = .ok (.if_icmp .ne 7, 3) := by decide +kernel
theorem dX6_close_108 : decode cX6_close 108 = .ok (.iconst 1, 1) := by decide +kernel
theorem dX6_close_109 : decode cX6_close 109 = .ok (.goto 4, 3) := by decide +kernel
theorem dX6_close_112 : decode cX6_close 112 = .ok (.iconst 0, 1) := by decide +kernel
theorem dX6_close_113 : decode cX6_close 113 = .ok (.iadd, 1) := by decide +kernel
theorem dX6_close_114 : decode cX6_close 114 = .ok (.istore 4, 2) := by decide +kernel
theorem dX6_close_116 : decode cX6_close 116 = .ok (.aload_n 0, 1) := by decide +kernel
theorem dX6_close_117 : decode cX6_close 117 = .ok (.getfield 44, 3) := by decide +kernel
theorem dX6_close_120 : decode cX6_close 120 = .ok (.iload 5, 2) := by decide +kernel
theorem dX6_close_122 : decode cX6_close 122 = .ok (.iaload, 1) := by decide +kernel
theorem dX6_close_123 : decode cX6_close 123 = .ok (.iconst 1, 1) := by decide +kernel
theorem dX6_close_124 : decode cX6_close 124 = .ok (.if_icmp .ne 9, 3) := by decide +kernel
theorem dX6_close_127 : decode cX6_close 127 = .ok (.aload_n 0, 1) := by decide +kernel
theorem dX6_close_128 : decode cX6_close 128 = .ok (.iload 5, 2) := by decide +kernel
theorem dX6_close_130 : decode cX6_close 130 = .ok (.invokevirtual 205, 3) := by decide +kernel
theorem dX6_close_133 : decode cX6_close 133 = .ok (.iinc 5 1, 3) := by decide +kernel
theorem dX6_close_136 : decode cX6_close 136 = .ok (.goto (-56), 3) := by decide +kernel
theorem dX6_close_139 : decode cX6_close 139 = .ok (.iload 4, 2) := by decide +kernel
theorem dX6_close_141 : decode cX6_close 141 = .ok (.ireturn, 1) := by decide +kernel
theorem dX6_noAnswer_0 : decode cX6_noAnswer 0 = .ok (.aload_n 0, 1) := by decide +kernel
theorem dX6_noAnswer_1 : decode cX6_noAnswer 1 = .ok (.aload_n 0, 1) := by decide +kernel
theorem dX6_noAnswer_2 : decode cX6_noAnswer 2 = .ok (.iload_n 1, 1) := by decide +kernel
theorem dX6_noAnswer_3 : decode cX6_noAnswer 3 = .ok (.iload_n 2, 1) := by decide +kernel
theorem dX6_noAnswer_4 : decode cX6_noAnswer 4 = .ok (.invokevirtual 196, 3) := by decide +kernel
theorem dX6_noAnswer_7 : decode cX6_noAnswer 7 = .ok (.ifCond .eq 7, 3) := by decide +kernel
theorem dX6_noAnswer_10 : decode cX6_noAnswer 10 = .ok (.iconst 0, 1) := by decide +kernel
theorem dX6_noAnswer_11 : decode cX6_noAnswer 11 = .ok (.goto 4, 3) := by decide +kernel
theorem dX6_noAnswer_14 : decode cX6_noAnswer 14 = .ok (.iconst 1, 1) := by decide +kernel
theorem dX6_noAnswer_15 : decode cX6_noAnswer 15 = .ok (.invokevirtual 120, 3) := by decide +kernel
theorem dX6_noAnswer_18 : decode cX6_noAnswer 18 = .ok (.ireturn, 1) := by decide +kernel
theorem dX6_answer_0 : decode cX6_answer 0 = .ok (.aload_n 0, 1) := by decide +kernel
theorem dX6_answer_1 : decode cX6_answer 1 = .ok (.iload_n 1, 1) := by decide +kernel
theorem dX6_answer_2 : decode cX6_answer 2 = .ok (.iload_n 2, 1) := by decide +kernel
theorem dX6_answer_3 : decode cX6_answer 3 = .ok (.invokevirtual 209, 3) := by decide +kernel
theorem dX6_answer_6 : decode cX6_answer 6 = .ok (.ifCond .eq 7, 3) := by decide +kernel
theorem dX6_answer_9 : decode cX6_answer 9 = .ok (.iconst 0, 1) := by decide +kernel
theorem dX6_answer_10 : decode cX6_answer 10 = .ok (.goto 14, 3) := by decide +kernel
theorem dX6_answer_13 : decode cX6_answer 13 = .ok (.aload_n 0, 1) := by decide +kernel
theorem dX6_answer_14 : decode cX6_answer 14 = .ok (.getfield 44, 3) := by decide +kernel
theorem dX6_answer_17 : decode cX6_answer 17 = .ok (.bipush 12, 2) := by decide +kernel
theorem dX6_answer_19 : decode cX6_answer 19 = .ok (.iload_n 2, 1) := by decide +kernel
theorem dX6_answer_20 : decode cX6_answer 20 = .ok (.imul, 1) := by decide +kernel
theorem dX6_answer_21 : decode cX6_answer 21 = .ok (.iload_n 1, 1) := by decide +kernel
theorem dX6_answer_22 : decode cX6_answer 22 = .ok (.iadd, 1) := by decide +kernel
theorem dX6_answer_23 : decode cX6_answer 23 = .ok (.iaload, 1) := by decide +kernel
theorem dX6_answer_24 : decode cX6_answer 24 = .ok (.ireturn, 1) := by decide +kernel
theorem dX6_mark_0 : decode cX6_mark 0 = .ok (.aload_n 0, 1) := by decide +kernel
theorem dX6_mark_1 : decode cX6_mark 1 = .ok (.iload_n 1, 1) := by decide +kernel
theorem dX6_mark_2 : decode cX6_mark 2 = .ok (.iload_n 2, 1) := by decide +kernel
theorem dX6_mark_3 : decode cX6_mark 3 = .ok (.invokevirtual 209, 3) := by decide +kernel
theorem dX6_mark_6 : decode cX6_mark 6 = .ok (.ifCond .eq 7, 3) := by decide +kernel
theorem dX6_mark_9 : decode cX6_mark 9 = .ok (.iconst 0, 1) := by decide +kernel
theorem dX6_mark_10 : decode cX6_mark 10 = .ok (.goto 33, 3) := by decide +kernel
theorem dX6_mark_13 : decode cX6_mark 13 = .ok (.aload_n 0, 1) := by decide +kernel
theorem dX6_mark_14 : decode cX6_mark 14 = .ok (.getfield 44, 3) := by decide +kernel
theorem dX6_mark_17 : decode cX6_mark 17 = .ok (.bipush 12, 2) := by decide +kernel
theorem dX6_mark_19 : decode cX6_mark 19 = .ok (.iload_n 2, 1) := by decide +kernel
theorem dX6_mark_20 : decode cX6_mark 20 = .ok (.imul, 1) := by decide +kernel
theorem dX6_mark_21 : decode cX6_mark 21 = .ok (.iload_n 1, 1) := by decide +kernel
theorem dX6_mark_22 : decode cX6_mark 22 = .ok (.iadd, 1) := by decide +kernel
theorem dX6_mark_23 : decode cX6_mark 23 = .ok (.iaload, 1) := by decide +kernel
theorem dX6_mark_24 : decode cX6_mark 24 = .ok (.iconst 2, 1) := by decide +kernel
theorem dX6_mark_25 : decode cX6_mark 25 = .ok (.if_icmp .ne 17, 3) := by decide +kernel
theorem dX6_mark_28 : decode cX6_mark 28 = .ok (.aload_n 0, 1) := by decide +kernel
theorem dX6_mark_29 : decode cX6_mark 29 = .ok (.getfield 50, 3) := by decide +kernel
theorem dX6_mark_32 : decode cX6_mark 32 = .ok (.bipush 12, 2) := by decide +kernel
theorem dX6_mark_34 : decode cX6_mark 34 = .ok (.iload_n 2, 1) := by decide +kernel
theorem dX6_mark_35 : decode cX6_mark 35 = .ok (.imul, 1) := by decide +kernel
theorem dX6_mark_36 : decode cX6_mark 36 = .ok (.iload_n 1, 1) := by decide +kernel
theorem dX6_mark_37 : decode cX6_mark 37 = .ok (.iadd, 1) := by decide +kernel
theorem dX6_mark_38 : decode cX6_mark 38 = .ok (.iaload, 1) := by decide +kernel
theorem dX6_mark_39 : decode cX6_mark 39 = .ok (.goto 4, 3) := by decide +kernel
theorem dX6_mark_42 : decode cX6_mark 42 = .ok (.iconst (-1), 1) := by decide +kernel
theorem dX6_mark_43 : decode cX6_mark 43 = .ok (.ireturn, 1) := by decide +kernel
theorem dX6_due_0 : decode cX6_due 0 = .ok (.aload_n 0, 1) := by decide +kernel
theorem dX6_due_1 : decode cX6_due 1 = .ok (.iload_n 1, 1) := by decide +kernel
theorem dX6_due_2 : decode cX6_due 2 = .ok (.iload_n 2, 1) := by decide +kernel
theorem dX6_due_3 : decode cX6_due 3 = .ok (.invokevirtual 209, 3) := by decide +kernel
theorem dX6_due_6 : decode cX6_due 6 = .ok (.ifCond .eq 7, 3) := by decide +kernel
theorem dX6_due_9 : decode cX6_due 9 = .ok (.iconst 0, 1) := by decide +kernel
theorem dX6_due_10 : decode cX6_due 10 = .ok (.goto 31, 3) := by decide +kernel
theorem dX6_due_13 : decode cX6_due 13 = .ok (.aload_n 0, 1) := by decide +kernel
theorem dX6_due_14 : decode cX6_due 14 = .ok (.getfield 44, 3) := by decide +kernel
theorem dX6_due_17 : decode cX6_due 17 = .ok (.bipush 12, 2) := by decide +kernel
theorem dX6_due_19 : decode cX6_due 19 = .ok (.iload_n 2, 1) := by decide +kernel
theorem dX6_due_20 : decode cX6_due 20 = .ok (.imul, 1) := by decide +kernel
theorem dX6_due_21 : decode cX6_due 21 = .ok (.iload_n 1, 1) := by decide +kernel
theorem dX6_due_22 : decode cX6_due 22 = .ok (.iadd, 1) := by decide +kernel
theorem dX6_due_23 : decode cX6_due 23 = .ok (.iaload, 1) := by decide +kernel
theorem dX6_due_24 : decode cX6_due 24 = .ok (.ifCond .ne 7, 3) := by decide +kernel
theorem dX6_due_27 : decode cX6_due 27 = .ok (.iconst (-1), 1) := by decide +kernel
theorem dX6_due_28 : decode cX6_due 28 = .ok (.goto 13, 3) := by decide +kernel
theorem dX6_due_31 : decode cX6_due 31 = .ok (.aload_n 0, 1) := by decide +kernel
theorem dX6_due_32 : decode cX6_due 32 = .ok (.bipush 12, 2) := by decide +kernel
theorem dX6_due_34 : decode cX6_due 34 = .ok (.iload_n 2, 1) := by decide +kernel
theorem dX6_due_35 : decode cX6_due 35 = .ok (.imul, 1) := by decide +kernel
theorem dX6_due_36 : decode cX6_due 36 = .ok (.iload_n 1, 1) := by decide +kernel
theorem dX6_due_37 : decode cX6_due 37 = .ok (.iadd, 1) := by decide +kernel
theorem dX6_due_38 : decode cX6_due 38 = .ok (.invokevirtual 180, 3) := by decide +kernel
theorem dX6_due_41 : decode cX6_due 41 = .ok (.ireturn, 1) := by decide +kernel
theorem dX6_told_0 : decode cX6_told 0 = .ok (.aload_n 0, 1) := by decide +kernel
theorem dX6_told_1 : decode cX6_told 1 = .ok (.iload_n 1, 1) := by decide +kernel
theorem dX6_told_2 : decode cX6_told 2 = .ok (.iload_n 2, 1) := by decide +kernel
theorem dX6_told_3 : decode cX6_told 3 = .ok (.invokevirtual 209, 3) := by decide +kernel
theorem dX6_told_6 : decode cX6_told 6 = .ok (.ifCond .eq 7, 3) := by decide +kernel
theorem dX6_told_9 : decode cX6_told 9 = .ok (.iconst 0, 1) := by decide +kernel
theorem dX6_told_10 : decode cX6_told 10 = .ok (.goto 14, 3) := by decide +kernel
theorem dX6_told_13 : decode cX6_told 13 = .ok (.aload_n 0, 1) := by decide +kernel
theorem dX6_told_14 : decode cX6_told 14 = .ok (.getfield 53, 3) := by decide +kernel
theorem dX6_told_17 : decode cX6_told 17 = .ok (.bipush 12, 2) := by decide +kernel
theorem dX6_told_19 : decode cX6_told 19 = .ok (.iload_n 2, 1) := by decide +kernel
theorem dX6_told_20 : decode cX6_told 20 = .ok (.imul, 1) := by decide +kernel
theorem dX6_told_21 : decode cX6_told 21 = .ok (.iload_n 1, 1) := by decide +kernel
theorem dX6_told_22 : decode cX6_told 22 = .ok (.iadd, 1) := by decide +kernel
theorem dX6_told_23 : decode cX6_told 23 = .ok (.iaload, 1) := by decide +kernel
theorem dX6_told_24 : decode cX6_told 24 = .ok (.ireturn, 1) := by decide +kernel
theorem dX6_average_0 : decode cX6_average 0 = .ok (.aload_n 0, 1) := by decide +kernel
theorem dX6_average_1 : decode cX6_average 1 = .ok (.iload_n 1, 1) := by decide +kernel
theorem dX6_average_2 : decode cX6_average 2 = .ok (.invokestatic 127, 3) := by decide +kernel
theorem dX6_average_5 : decode cX6_average 5 = .ok (.ifCond .eq 15, 3) := by decide +kernel
theorem dX6_average_8 : decode cX6_average 8 = .ok (.aload_n 0, 1) := by decide +kernel
theorem dX6_average_9 : decode cX6_average 9 = .ok (.iload_n 2, 1) := by decide +kernel
theorem dX6_average_10 : decode cX6_average 10 = .ok (.invokevirtual 94, 3) := by decide +kernel
theorem dX6_average_13 : decode cX6_average 13 = .ok (.ifCond .eq 7, 3) := by decide +kernel
theorem dX6_average_16 : decode cX6_average 16 = .ok (.iconst 0, 1) := by decide +kernel
theorem dX6_average_17 : decode cX6_average 17 = .ok (.goto 4, 3) := by decide +kernel
theorem dX6_average_20 : decode cX6_average 20 = .ok (.iconst 1, 1) := by decide +kernel
theorem dX6_average_21 : decode cX6_average 21 = .ok (.invokevirtual 120, 3) := by decide +kernel
theorem dX6_average_24 : decode cX6_average 24 = .ok (.ifCond .eq 5, 3) := by decide +kernel
theorem dX6_average_27 : decode cX6_average 27 = .ok (.iconst 0, 1) := by decide +kernel
theorem dX6_average_28 : decode cX6_average 28 = .ok (.ireturn, 1) := by decide +kernel
theorem dX6_average_29 : decode cX6_average 29 = .ok (.iconst 0, 1) := by decide +kernel
theorem dX6_average_30 : decode cX6_average 30 = .ok (.istore_n 3, 1) := by decide +kernel
theorem dX6_average_31 : decode cX6_average 31 = .ok (.iconst 0, 1) := by decide +kernel
theorem dX6_average_32 : decode cX6_average 32 = .ok (.istore 4, 2) := by decide +kernel
theorem dX6_average_34 : decode cX6_average 34 = .ok (.bipush 12, 2) := by decide +kernel
theorem dX6_average_36 : decode cX6_average 36 = .ok (.iload_n 2, 1) := by decide +kernel
theorem dX6_average_37 : decode cX6_average 37 = .ok (.imul, 1) := by decide +kernel
theorem dX6_average_38 : decode cX6_average 38 = .ok (.iconst 3, 1) := by decide +kernel
theorem dX6_average_39 : decode cX6_average 39 = .ok (.iload_n 1, 1) := by decide +kernel
theorem dX6_average_40 : decode cX6_average 40 = .ok (.imul, 1) := by decide +kernel
theorem dX6_average_41 : decode cX6_average 41 = .ok (.iadd, 1) := by decide +kernel
theorem dX6_average_42 : decode cX6_average 42 = .ok (.istore 5, 2) := by decide +kernel
theorem dX6_average_44 : decode cX6_average 44 = .ok (.iload 5, 2) := by decide +kernel
theorem dX6_average_46 : decode cX6_average 46 = .ok (.bipush 12, 2) := by decide +kernel
theorem dX6_average_48 : decode cX6_average 48 = .ok (.iload_n 2, 1) := by decide +kernel
theorem dX6_average_49 : decode cX6_average 49 = .ok (.imul, 1) := by decide +kernel
theorem dX6_average_50 : decode cX6_average 50 = .ok (.iconst 3, 1) := by decide +kernel
theorem dX6_average_51 : decode cX6_average 51 = .ok (.iload_n 1, 1) := by decide +kernel
theorem dX6_average_52 : decode cX6_average 52 = .ok (.imul, 1) := by decide +kernel
theorem dX6_average_53 : decode cX6_average 53 = .ok (.iadd, 1) := by decide +kernel
theorem dX6_average_54 : decode cX6_average 54 = .ok (.iconst 3, 1) := by decide +kernel
theorem dX6_average_55 : decode cX6_average 55 = .ok (.iadd, 1) := by decide +kernel
theorem dX6_average_56 : decode cX6_average 56 = .ok (.if_icmp .ge 55, 3) := by decide +kernel
theorem dX6_average_59 : decode cX6_average 59 = .ok (.iload_n 3, 1) := by decide +kernel
theorem dX6_average_60 : decode cX6_average 60 = .ok (.aload_n 0, 1) := by decide +kernel
theorem dX6_average_61 : decode cX6_average 61 = .ok (.getfield 44, 3) := by decide +kernel
theorem dX6_average_64 : decode cX6_average 64 = .ok (.iload 5, 2) := by decide +kernel
theorem dX6_average_66 : decode cX6_average 66 = .ok (.iaload, 1) := by decide +kernel
theorem dX6_average_67 : decode cX6_average 67 = .ok (.iconst 2, 1) := by decide +kernel
theorem dX6_average_68 : decode cX6_average 68 = .ok (.if_icmp .ne 13, 3) := by decide +kernel
theorem dX6_average_71 : decode cX6_average 71 = .ok (.aload_n 0, 1) := by decide +kernel
theorem dX6_average_72 : decode cX6_average 72 = .ok (.getfield 50, 3) := by decide +kernel
theorem dX6_average_75 : decode cX6_average 75 = .ok (.iload 5, 2) := by decide +kernel
theorem dX6_average_77 : decode cX6_average 77 = .ok (.iaload, 1) := by decide +kernel
theorem dX6_average_78 : decode cX6_average 78 = .ok (.goto 4, 3) := by decide +kernel
theorem dX6_average_81 : decode cX6_average 81 = .ok (.iconst 0, 1) := by decide +kernel
theorem dX6_average_82 : decode cX6_average 82 = .ok (.iadd, 1) := by decide +kernel
theorem dX6_average_83 : decode cX6_average 83 = .ok (.istore_n 3, 1) := by decide +kernel
theorem dX6_average_84 : decode cX6_average 84 = .ok (.iload 4, 2) := by decide +kernel
theorem dX6_average_86 : decode cX6_average 86 = .ok (.aload_n 0, 1) := by decide +kernel
theorem dX6_average_87 : decode cX6_average 87 = .ok (.getfield 44, 3) := by decide +kernel
theorem dX6_average_90 : decode cX6_average 90 = .ok (.iload 5, 2) := by decide +kernel
theorem dX6_average_92 : decode cX6_average 92 = .ok (.iaload, 1) := by decide +kernel
theorem dX6_average_93 : decode cX6_average 93 = .ok (.iconst 2, 1) := by decide +kernel
theorem dX6_average_94 : decode cX6_average 94 = .ok (.if_icmp .ne 7, 3) := by decide +kernel
theorem dX6_average_97 : decode cX6_average 97 = .ok (.iconst 1, 1) := by decide +kernel
theorem dX6_average_98 : decode cX6_average 98 = .ok (.goto 4, 3) := by decide +kernel
theorem dX6_average_101 : decode cX6_average 101 = .ok (.iconst 0, 1) := by decide +kernel
theorem dX6_average_102 : decode cX6_average 102 = .ok (.iadd, 1) := by decide +kernel
theorem dX6_average_103 : decode cX6_average 103 = .ok (.istore 4, 2) := by decide +kernel
theorem dX6_average_105 : decode cX6_average 105 = .ok (.iinc 5 1, 3) := by decide +kernel
theorem dX6_average_108 : decode cX6_average 108 = .ok (.goto (-64), 3) := by decide +kernel
theorem dX6_average_111 : decode cX6_average 111 = .ok (.iload 4, 2) := by decide +kernel
theorem dX6_average_113 : decode cX6_average 113 = .ok (.ifCond .ne 7, 3) := by decide +kernel
theorem dX6_average_116 : decode cX6_average 116 = .ok (.iconst (-1), 1) := by decide +kernel
theorem dX6_average_117 : decode cX6_average 117 = .ok (.goto 10, 3) := by decide +kernel
theorem dX6_average_120 : decode cX6_average 120 = .ok (.bipush 100, 2) := by decide +kernel
theorem dX6_average_122 : decode cX6_average 122 = .ok (.iload_n 3, 1) := by decide +kernel
theorem dX6_average_123 : decode cX6_average 123 = .ok (.imul, 1) := by decide +kernel
theorem dX6_average_124 : decode cX6_average 124 = .ok (.iload 4, 2) := by decide +kernel
theorem dX6_average_126 : decode cX6_average 126 = .ok (.idiv, 1) := by decide +kernel
theorem dX6_average_127 : decode cX6_average 127 = .ok (.ireturn, 1) := by decide +kernel
theorem dX6_print_0 : decode cX6_print 0 = .ok (.sipush 1024, 3) := by decide +kernel
theorem dX6_print_3 : decode cX6_print 3 = .ok (.iload_n 0, 1) := by decide +kernel
theorem dX6_print_4 : decode cX6_print 4 = .ok (.imul, 1) := by decide +kernel
theorem dX6_print_5 : decode cX6_print 5 = .ok (.bipush 32, 2) := by decide +kernel
theorem dX6_print_7 : decode cX6_print 7 = .ok (.iload_n 1, 1) := by decide +kernel
theorem dX6_print_8 : decode cX6_print 8 = .ok (.imul, 1) := by decide +kernel
theorem dX6_print_9 : decode cX6_print 9 = .ok (.iadd, 1) := by decide +kernel
theorem dX6_print_10 : decode cX6_print 10 = .ok (.iload_n 2, 1) := by decide +kernel
theorem dX6_print_11 : decode cX6_print 11 = .ok (.iadd, 1) := by decide +kernel
theorem dX6_print_12 : decode cX6_print 12 = .ok (.ireturn, 1) := by decide +kernel
theorem dX6_isInRule_0 : decode cX6_isInRule 0 = .ok (.iconst 0, 1) := by decide +kernel
theorem dX6_isInRule_1 : decode cX6_isInRule 1 = .ok (.istore_n 2, 1) := by decide +kernel
theorem dX6_isInRule_2 : decode cX6_isInRule 2 = .ok (.iconst 0, 1) := by decide +kernel
theorem dX6_isInRule_3 : decode cX6_isInRule 3 = .ok (.istore_n 3, 1) := by decide +kernel
theorem dX6_isInRule_4 : decode cX6_isInRule 4 = .ok (.iload_n 3, 1) := by decide +kernel
theorem dX6_isInRule_5 : decode cX6_isInRule 5 = .ok (.iconst 2, 1) := by decide +kernel
theorem dX6_isInRule_6 : decode cX6_isInRule 6 = .ok (.iadd, 1) := by decide +kernel
theorem dX6_isInRule_7 : decode cX6_isInRule 7 = .ok (.iload_n 0, 1) := by decide +kernel
theorem dX6_isInRule_8 : decode cX6_isInRule 8 = .ok (.invokestatic 103, 3) := by decide +kernel
theorem dX6_isInRule_11 : decode cX6_isInRule 11 = .ok (.if_icmp .ge 45, 3) := by decide +kernel
theorem dX6_isInRule_14 : decode cX6_isInRule 14 = .ok (.iload_n 2, 1) := by decide +kernel
theorem dX6_isInRule_15 : decode cX6_isInRule 15 = .ok (.ifCond .ne 29, 3) := by decide +kernel
theorem dX6_isInRule_18 : decode cX6_isInRule 18 = .ok (.iload_n 0, 1) := by decide +kernel
theorem dX6_isInRule_19 : decode cX6_isInRule 19 = .ok (.iload_n 3, 1) := by decide +kernel
theorem dX6_isInRule_20 : decode cX6_isInRule 20 = .ok (.invokestatic 98, 3) := by decide +kernel
theorem dX6_isInRule_23 : decode cX6_isInRule 23 = .ok (.iload_n 0, 1) := by decide +kernel
theorem dX6_isInRule_24 : decode cX6_isInRule 24 = .ok (.iload_n 3, 1) := by decide +kernel
theorem dX6_isInRule_25 : decode cX6_isInRule 25 = .ok (.iconst 1, 1) := by decide +kernel
theorem dX6_isInRule_26 : decode cX6_isInRule 26 = .ok (.iadd, 1) := by decide +kernel
theorem dX6_isInRule_27 : decode cX6_isInRule 27 = .ok (.invokestatic 98, 3) := by decide +kernel
theorem dX6_isInRule_30 : decode cX6_isInRule 30 = .ok (.iload_n 0, 1) := by decide +kernel
theorem dX6_isInRule_31 : decode cX6_isInRule 31 = .ok (.iload_n 3, 1) := by decide +kernel
theorem dX6_isInRule_32 : decode cX6_isInRule 32 = .ok (.iconst 2, 1) := by decide +kernel
theorem dX6_isInRule_33 : decode cX6_isInRule 33 = .ok (.iadd, 1) := by decide +kernel
theorem dX6_isInRule_34 : decode cX6_isInRule 34 = .ok (.invokestatic 98, 3) := by decide +kernel
theorem dX6_isInRule_37 : decode cX6_isInRule 37 = .ok (.invokestatic 212, 3) := by decide +kernel
theorem dX6_isInRule_40 : decode cX6_isInRule 40 = .ok (.iload_n 1, 1) := by decide +kernel
theorem dX6_isInRule_41 : decode cX6_isInRule 41 = .ok (.if_icmp .ne 7, 3) := by decide +kernel
theorem dX6_isInRule_44 : decode cX6_isInRule 44 = .ok (.iconst 1, 1) := by decide +kernel
theorem dX6_isInRule_45 : decode cX6_isInRule 45 = .ok (.goto 4, 3) := by decide +kernel
theorem dX6_isInRule_48 : decode cX6_isInRule 48 = .ok (.iconst 0, 1) := by decide +kernel
theorem dX6_isInRule_49 : decode cX6_isInRule 49 = .ok (.istore_n 2, 1) := by decide +kernel
theorem dX6_isInRule_50 : decode cX6_isInRule 50 = .ok (.iinc 3 1, 3) := by decide +kernel
theorem dX6_isInRule_53 : decode cX6_isInRule 53 = .ok (.goto (-49), 3) := by decide +kernel
theorem dX6_isInRule_56 : decode cX6_isInRule 56 = .ok (.iload_n 2, 1) := by decide +kernel
theorem dX6_isInRule_57 : decode cX6_isInRule 57 = .ok (.ireturn, 1) := by decide +kernel
theorem dX6_isPrint_0 : decode cX6_isPrint 0 = .ok (.iconst 0, 1) := by decide +kernel
theorem dX6_isPrint_1 : decode cX6_isPrint 1 = .ok (.istore_n 2, 1) := by decide +kernel
theorem dX6_isPrint_2 : decode cX6_isPrint 2 = .ok (.iconst 0, 1) := by decide +kernel
theorem dX6_isPrint_3 : decode cX6_isPrint 3 = .ok (.istore_n 3, 1) := by decide +kernel
theorem dX6_isPrint_4 : decode cX6_isPrint 4 = .ok (.iload_n 3, 1) := by decide +kernel
theorem dX6_isPrint_5 : decode cX6_isPrint 5 = .ok (.aload_n 0, 1) := by decide +kernel
theorem dX6_isPrint_6 : decode cX6_isPrint 6 = .ok (.getfield 215, 3) := by decide +kernel
theorem dX6_isPrint_9 : decode cX6_isPrint 9 = .ok (.if_icmp .ge 29, 3) := by decide +kernel
theorem dX6_isPrint_12 : decode cX6_isPrint 12 = .ok (.iload_n 2, 1) := by decide +kernel
theorem dX6_isPrint_13 : decode cX6_isPrint 13 = .ok (.ifCond .ne 13, 3) := by decide +kernel
theorem dX6_isPrint_16 : decode cX6_isPrint 16 = .ok (.aload_n 0, 1) := by decide +kernel
theorem dX6_isPrint_17 : decode cX6_isPrint 17 = .ok (.getfield 77, 3) := by decide +kernel
theorem dX6_isPrint_20 : decode cX6_isPrint 20 = .ok (.iload_n 3, 1) := by decide +kernel
theorem dX6_isPrint_21 : decode cX6_isPrint 21 = .ok (.iaload, 1) := by decide +kernel
theorem dX6_isPrint_22 : decode cX6_isPrint 22 = .ok (.iload_n 1, 1) := by decide +kernel
theorem dX6_isPrint_23 : decode cX6_isPrint 23 = .ok (.if_icmp .ne 7, 3) := by decide +kernel
theorem dX6_isPrint_26 : decode cX6_isPrint 26 = .ok (.iconst 1, 1) := by decide +kernel
theorem dX6_isPrint_27 : decode cX6_isPrint 27 = .ok (.goto 4, 3) := by decide +kernel
theorem dX6_isPrint_30 : decode cX6_isPrint 30 = .ok (.iconst 0, 1) := by decide +kernel
theorem dX6_isPrint_31 : decode cX6_isPrint 31 = .ok (.istore_n 2, 1) := by decide +kernel
theorem dX6_isPrint_32 : decode cX6_isPrint 32 = .ok (.iinc 3 1, 3) := by decide +kernel
theorem dX6_isPrint_35 : decode cX6_isPrint 35 = .ok (.goto (-31), 3) := by decide +kernel
theorem dX6_isPrint_38 : decode cX6_isPrint 38 = .ok (.iload_n 2, 1) := by decide +kernel
theorem dX6_isPrint_39 : decode cX6_isPrint 39 = .ok (.ireturn, 1) := by decide +kernel
theorem dX6_lay_0 : decode cX6_lay 0 = .ok (.aload_n 0, 1) := by decide +kernel
theorem dX6_lay_1 : decode cX6_lay 1 = .ok (.iconst 0, 1) := by decide +kernel
theorem dX6_lay_2 : decode cX6_lay 2 = .ok (.putfield 215, 3) := by decide +kernel
theorem dX6_lay_5 : decode cX6_lay 5 = .ok (.iconst 0, 1) := by decide +kernel
theorem dX6_lay_6 : decode cX6_lay 6 = .ok (.istore_n 2, 1) := by decide +kernel
theorem dX6_lay_7 : decode cX6_lay 7 = .ok (.iload_n 2, 1) := by decide +kernel
theorem dX6_lay_8 : decode cX6_lay 8 = .ok (.iconst 5, 1) := by decide +kernel
theorem dX6_lay_9 : decode cX6_lay 9 = .ok (.if_icmp .ge 181, 3) := by decide +kernel
theorem dX6_lay_12 : decode cX6_lay 12 = .ok (.aload_n 0, 1) := by decide +kernel
theorem dX6_lay_13 : decode cX6_lay 13 = .ok (.getfield 44, 3) := by decide +kernel
theorem dX6_lay_16 : decode cX6_lay 16 = .ok (.iload_n 1, 1) := by decide +kernel
theorem dX6_lay_17 : decode cX6_lay 17 = .ok (.iaload, 1) := by decide +kernel
theorem dX6_lay_18 : decode cX6_lay 18 = .ok (.iconst 2, 1) := by decide +kernel
theorem dX6_lay_19 : decode cX6_lay 19 = .ok (.if_icmp .ne 171, 3) := by decide +kernel
theorem dX6_lay_22 : decode cX6_lay 22 = .ok (.aload_n 0, 1) := by decide +kernel
theorem dX6_lay_23 : decode cX6_lay 23 = .ok (.getfield 50, 3) := by decide +kernel
theorem dX6_lay_26 : decode cX6_lay 26 = .ok (.iload_n 1, 1) := by decide +kernel
theorem dX6_lay_27 : decode cX6_lay 27 = .ok (.iaload, 1) := by decide +kernel
theorem dX6_lay_28 : decode cX6_lay 28 = .ok (.ifCond .le 162, 3) := by decide +kernel
theorem dX6_lay_31 : decode cX6_lay 31 = .ok (.aload_n 0, 1) := by decide +kernel
theorem dX6_lay_32 : decode cX6_lay 32 = .ok (.iload_n 1, 1) := by decide +kernel
theorem dX6_lay_33 : decode cX6_lay 33 = .ok (.bipush 12, 2) := by decide +kernel
theorem dX6_lay_35 : decode cX6_lay 35 = .ok (.idiv, 1) := by decide +kernel
theorem dX6_lay_36 : decode cX6_lay 36 = .ok (.aload_n 0, 1) := by decide +kernel
theorem dX6_lay_37 : decode cX6_lay 37 = .ok (.getfield 47, 3) := by decide +kernel
theorem dX6_lay_40 : decode cX6_lay 40 = .ok (.iload_n 1, 1) := by decide +kernel
theorem dX6_lay_41 : decode cX6_lay 41 = .ok (.iaload, 1) := by decide +kernel
theorem dX6_lay_42 : decode cX6_lay 42 = .ok (.iload_n 2, 1) := by decide +kernel
theorem dX6_lay_43 : decode cX6_lay 43 = .ok (.invokevirtual 146, 3) := by decide +kernel
theorem dX6_lay_46 : decode cX6_lay 46 = .ok (.istore_n 3, 1) := by decide +kernel
theorem dX6_lay_47 : decode cX6_lay 47 = .ok (.iconst 5, 1) := by decide +kernel
theorem dX6_lay_48 : decode cX6_lay 48 = .ok (.iload_n 1, 1) := by decide +kernel
theorem dX6_lay_49 : decode cX6_lay 49 = .ok (.imul, 1) := by decide +kernel
theorem dX6_lay_50 : decode cX6_lay 50 = .ok (.iload_n 2, 1) := by decide +kernel
theorem dX6_lay_51 : decode cX6_lay 51 = .ok (.iadd, 1) := by decide +kernel
theorem dX6_lay_52 : decode cX6_lay 52 = .ok (.istore 4, 2) := by decide +kernel
theorem dX6_lay_54 : decode cX6_lay 54 = .ok (.iconst 0, 1) := by decide +kernel
theorem dX6_lay_55 : decode cX6_lay 55 = .ok (.istore 5, 2) := by decide +kernel
theorem dX6_lay_57 : decode cX6_lay 57 = .ok (.iload_n 3, 1) := by decide +kernel
theorem dX6_lay_58 : decode cX6_lay 58 = .ok (.iconst (-1), 1) := by decide +kernel
theorem dX6_lay_59 : decode cX6_lay 59 = .ok (.if_icmp .eq 125, 3) := by decide +kernel
theorem dX6_lay_62 : decode cX6_lay 62 = .ok (.aload_n 0, 1) := by decide +kernel
theorem dX6_lay_63 : decode cX6_lay 63 = .ok (.getfield 23, 3) := by decide +kernel
theorem dX6_lay_66 : decode cX6_lay 66 = .ok (.iload_n 3, 1) := by decide +kernel
theorem dX6_lay_67 : decode cX6_lay 67 = .ok (.iaload, 1) := by decide +kernel
theorem dX6_lay_68 : decode cX6_lay 68 = .ok (.iconst 2, 1) := by decide +kernel
theorem dX6_lay_69 : decode cX6_lay 69 = .ok (.if_icmp .ne 115, 3) := by decide +kernel
theorem dX6_lay_72 : decode cX6_lay 72 = .ok (.iload 5, 2) := by decide +kernel
theorem dX6_lay_74 : decode cX6_lay 74 = .ok (.iconst 2, 1) := by decide +kernel
theorem dX6_lay_75 : decode cX6_lay 75 = .ok (.iadd, 1) := by decide +kernel
theorem dX6_lay_76 : decode cX6_lay 76 = .ok (.aload_n 0, 1) := by decide +kernel
theorem dX6_lay_77 : decode cX6_lay 77 = .ok (.getfield 65, 3) := by decide +kernel
theorem dX6_lay_80 : decode cX6_lay 80 = .ok (.iload 4, 2) := by decide +kernel
theorem dX6_lay_82 : decode cX6_lay 82 = .ok (.iaload, 1) := by decide +kernel
theorem dX6_lay_83 : decode cX6_lay 83 = .ok (.if_icmp .ge 101, 3) := by decide +kernel
theorem dX6_lay_86 : decode cX6_lay 86 = .ok (.aload_n 0, 1) := by decide +kernel
theorem dX6_lay_87 : decode cX6_lay 87 = .ok (.getfield 68, 3) := by decide +kernel
theorem dX6_lay_90 : decode cX6_lay 90 = .ok (.bipush 12, 2) := by decide +kernel
theorem dX6_lay_92 : decode cX6_lay 92 = .ok (.iload 4, 2) := by decide +kernel
theorem dX6_lay_94 : decode cX6_lay 94 = .ok (.imul, 1) := by decide +kernel
theorem dX6_lay_95 : decode cX6_lay 95 = .ok (.iload 5, 2) := by decide +kernel
theorem dX6_lay_97 : decode cX6_lay 97 = .ok (.iadd, 1) := by decide +kernel
theorem dX6_lay_98 : decode cX6_lay 98 = .ok (.iaload, 1) := by decide +kernel
theorem dX6_lay_99 : decode cX6_lay 99 = .ok (.aload_n 0, 1) := by decide +kernel
theorem dX6_lay_100 : decode cX6_lay 100 = .ok (.getfield 68, 3) := by decide +kernel
theorem dX6_lay_103 : decode cX6_lay 103 = .ok (.bipush 12, 2) := by decide +kernel
theorem dX6_lay_105 : decode cX6_lay 105 = .ok (.iload 4, 2) := by decide +kernel
theorem dX6_lay_107 : decode cX6_lay 107 = .ok (.imul, 1) := by decide +kernel
theorem dX6_lay_108 : decode cX6_lay 108 = .ok (.iload 5, 2) := by decide +kernel
theorem dX6_lay_110 : decode cX6_lay 110 = .ok (.iadd, 1) := by decide +kernel
theorem dX6_lay_111 : decode cX6_lay 111 = .ok (.iconst 1, 1) := by decide +kernel
theorem dX6_lay_112 : decode cX6_lay 112 = .ok (.iadd, 1) := by decide +kernel
theorem dX6_lay_113 : decode cX6_lay 113 = .ok (.iaload, 1) := by decide +kernel
theorem dX6_lay_114 : decode cX6_lay 114 = .ok (.aload_n 0, 1) := by decide +kernel
theorem dX6_lay_115 : decode cX6_lay 115 = .ok (.getfield 68, 3) := by decide +kernel
theorem dX6_lay_118 : decode cX6_lay 118 = .ok (.bipush 12, 2) := by decide +kernel
theorem dX6_lay_120 : decode cX6_lay 120 = .ok (.iload 4, 2) := by decide +kernel
theorem dX6_lay_122 : decode cX6_lay 122 = .ok (.imul, 1) := by decide +kernel
theorem dX6_lay_123 : decode cX6_lay 123 = .ok (.iload 5, 2) := by decide +kernel
theorem dX6_lay_125 : decode cX6_lay 125 = .ok (.iadd, 1) := by decide +kernel
theorem dX6_lay_126 : decode cX6_lay 126 = .ok (.iconst 2, 1) := by decide +kernel
theorem dX6_lay_127 : decode cX6_lay 127 = .ok (.iadd, 1) := by decide +kernel
theorem dX6_lay_128 : decode cX6_lay 128 = .ok (.iaload, 1) := by decide +kernel
theorem dX6_lay_129 : decode cX6_lay 129 = .ok (.invokestatic 212, 3) := by decide +kernel
theorem dX6_lay_132 : decode cX6_lay 132 = .ok (.istore 6, 2) := by decide +kernel
theorem dX6_lay_134 : decode cX6_lay 134 = .ok (.aload_n 0, 1) := by decide +kernel
theorem dX6_lay_135 : decode cX6_lay 135 = .ok (.getfield 29, 3) := by decide +kernel
theorem dX6_lay_138 : decode cX6_lay 138 = .ok (.iload_n 3, 1) := by decide +kernel
theorem dX6_lay_139 : decode cX6_lay 139 = .ok (.iaload, 1) := by decide +kernel
theorem dX6_lay_140 : decode cX6_lay 140 = .ok (.iload 6, 2) := by decide +kernel
theorem dX6_lay_142 : decode cX6_lay 142 = .ok (.invokestatic 218, 3) := by decide +kernel
theorem dX6_lay_145 : decode cX6_lay 145 = .ok (.ifCond .ne 33, 3) := by decide +kernel
theorem dX6_lay_148 : decode cX6_lay 148 = .ok (.aload_n 0, 1) := by decide +kernel
theorem dX6_lay_149 : decode cX6_lay 149 = .ok (.iload 6, 2) := by decide +kernel
theorem dX6_lay_151 : decode cX6_lay 151 = .ok (.invokevirtual 221, 3) := by decide +kernel
theorem dX6_lay_154 : decode cX6_lay 154 = .ok (.ifCond .ne 24, 3) := by decide +kernel
theorem dX6_lay_157 : decode cX6_lay 157 = .ok (.aload_n 0, 1) := by decide +kernel
theorem dX6_lay_158 : decode cX6_lay 158 = .ok (.getfield 77, 3) := by decide +kernel
theorem dX6_lay_161 : decode cX6_lay 161 = .ok (.aload_n 0, 1) := by decide +kernel
theorem dX6_lay_162 : decode cX6_lay 162 = .ok (.getfield 215, 3) := by decide +kernel
theorem dX6_lay_165 : decode cX6_lay 165 = .ok (.iload 6, 2) := by decide +kernel
theorem dX6_lay_167 : decode cX6_lay 167 = .ok (.iastore, 1) := by decide +kernel
theorem dX6_lay_168 : decode cX6_lay 168 = .ok (.aload_n 0, 1) := by decide +kernel
theorem dX6_lay_169 : decode cX6_lay 169 = .ok (.dup, 1) := by decide +kernel
theorem dX6_lay_170 : decode cX6_lay 170 = .ok (.getfield 215, 3) := by decide +kernel
theorem dX6_lay_173 : decode cX6_lay 173 = .ok (.iconst 1, 1) := by decide +kernel
theorem dX6_lay_174 : decode cX6_lay 174 = .ok (.iadd, 1) := by decide +kernel
theorem dX6_lay_175 : decode cX6_lay 175 = .ok (.putfield 215, 3) := by decide +kernel
theorem dX6_lay_178 : decode cX6_lay 178 = .ok (.iinc 5 1, 3) := by decide +kernel
theorem dX6_lay_181 : decode cX6_lay 181 = .ok (.goto (-124), 3) := by decide +kernel
theorem dX6_lay_184 : decode cX6_lay 184 = .ok (.iinc 2 1, 3) := by decide +kernel
theorem dX6_lay_187 : decode cX6_lay 187 = .ok (.goto (-180), 3) := by decide +kernel
theorem dX6_lay_190 : decode cX6_lay 190 = .ok (.return_, 1) := by decide +kernel
theorem dX6_fingerprints_0 : decode cX6_fingerprints 0 = .ok (.aload_n 0, 1) := by decide +kernel
theorem dX6_fingerprints_1 : decode cX6_fingerprints 1 = .ok (.iload_n 1, 1) := by decide +kernel
theorem dX6_fingerprints_2 : decode cX6_fingerprints 2 = .ok (.iload_n 2, 1) := by decide +kernel
theorem dX6_fingerprints_3 : decode cX6_fingerprints 3 = .ok (.invokevirtual 209, 3) := by decide +kernel
theorem dX6_fingerprints_6 : decode cX6_fingerprints 6 = .ok (.ifCond .eq 5, 3) := by decide +kernel
theorem dX6_fingerprints_9 : decode cX6_fingerprints 9 = .ok (.iconst 0, 1) := by decide +kernel
theorem dX6_fingerprints_10 : decode cX6_fingerprints 10 = .ok (.ireturn, 1) := by decide +kernel
theorem dX6_fingerprints_11 : decode cX6_fingerprints 11 = .ok (.aload_n 0, 1) := by decide +kernel
theorem dX6_fingerprints_12 : decode cX6_fingerprints 12 = .ok (.bipush 12, 2) := by decide +kernel
theorem dX6_fingerprints_14 : decode cX6_fingerprints 14 = .ok (.iload_n 2, 1) := by decide +kernel
theorem dX6_fingerprints_15 : decode cX6_fingerprints 15 = .ok (.imul, 1) := by decide +kernel
theorem dX6_fingerprints_16 : decode cX6_fingerprints 16 = .ok (.iload_n 1, 1) := by decide +kernel
theorem dX6_fingerprints_17 : decode cX6_fingerprints 17 = .ok (.iadd, 1) := by decide +kernel
theorem dX6_fingerprints_18 : decode cX6_fingerprints 18 = .ok (.invokevirtual 224, 3) := by decide +kernel
theorem dX6_fingerprints_21 : decode cX6_fingerprints 21 = .ok (.aload_n 0, 1) := by decide +kernel
theorem dX6_fingerprints_22 : decode cX6_fingerprints 22 = .ok (.getfield 215, 3) := by decide +kernel
theorem dX6_fingerprints_25 : decode cX6_fingerprints 25 = .ok (.ireturn, 1) := by decide +kernel
theorem dX6_withPrint_0 : decode cX6_withPrint 0 = .ok (.aload_n 0, 1) := by decide +kernel
theorem dX6_withPrint_1 : decode cX6_withPrint 1 = .ok (.iload_n 1, 1) := by decide +kernel
theorem dX6_withPrint_2 : decode cX6_withPrint 2 = .ok (.invokevirtual 165, 3) := by decide +kernel
theorem dX6_withPrint_5 : decode cX6_withPrint 5 = .ok (.ifCond .eq 5, 3) := by decide +kernel
theorem dX6_withPrint_8 : decode cX6_withPrint 8 = .ok (.iconst 0, 1) := by decide +kernel
theorem dX6_withPrint_9 : decode cX6_withPrint 9 = .ok (.ireturn, 1) := by decide +kernel
theorem dX6_withPrint_10 : decode cX6_withPrint 10 = .ok (.iconst 0, 1) := by decide +kernel
theorem dX6_withPrint_11 : decode cX6_withPrint 11 = .ok (.istore_n 3, 1) := by decide +kernel
theorem dX6_withPrint_12 : decode cX6_withPrint 12 = .ok (.iconst 0, 1) := by decide +kernel
theorem dX6_withPrint_13 : decode cX6_withPrint 13 = .ok (.istore 4, 2) := by decide +kernel
theorem dX6_withPrint_15 : decode cX6_withPrint 15 = .ok (.iload 4, 2) := by decide +kernel
theorem dX6_withPrint_17 : decode cX6_withPrint 17 = .ok (.bipush 12, 2) := by decide +kernel
theorem dX6_withPrint_19 : decode cX6_withPrint 19 = .ok (.if_icmp .ge 39, 3) := by decide +kernel
theorem dX6_withPrint_22 : decode cX6_withPrint 22 = .ok (.aload_n 0, 1) := by decide +kernel
theorem dX6_withPrint_23 : decode cX6_withPrint 23 = .ok (.bipush 12, 2) := by decide +kernel
theorem dX6_withPrint_25 : decode cX6_withPrint 25 = .ok (.iload_n 1, 1) := by decide +kernel
theorem dX6_withPrint_26 : decode cX6_withPrint 26 = .ok (.imul, 1) := by decide +kernel
theorem dX6_withPrint_27 : decode cX6_withPrint 27 = .ok (.iload 4, 2) := by decide +kernel
theorem dX6_withPrint_29 : decode cX6_withPrint 29 = .ok (.iadd, 1) := by decide +kernel
theorem dX6_withPrint_30 : decode cX6_withPrint 30 = .ok (.invokevirtual 224, 3) := by decide +kernel
theorem dX6_withPrint_33 : decode cX6_withPrint 33 = .ok (.iload_n 3, 1) := by decide +kernel
theorem dX6_withPrint_34 : decode cX6_withPrint 34 = .ok (.aload_n 0, 1) := by decide +kernel
theorem dX6_withPrint_35 : decode cX6_withPrint 35 = .ok (.iload_n 2, 1) := by decide +kernel
theorem dX6_withPrint_36 : decode cX6_withPrint 36 = .ok (.invokevirtual 221, 3) := by decide +kernel
theorem dX6_withPrint_39 : decode cX6_withPrint 39 = .ok (.ifCond .eq 10, 3) := by decide +kernel
theorem dX6_withPrint_42 : decode cX6_withPrint 42 = .ok (.iconst 1, 1) := by decide +kernel
theorem dX6_withPrint_43 : decode cX6_withPrint 43 = .ok (.iload 4, 2) := by decide +kernel
theorem dX6_withPrint_45 : decode cX6_withPrint 45 = .ok (.ishl, 1) := by decide +kernel
theorem dX6_withPrint_46 : decode cX6_withPrint 46 = .ok (.goto 4, 3) := by decide +kernel
theorem dX6_withPrint_49 : decode cX6_withPrint 49 = .ok (.iconst 0, 1) := by decide +kernel
theorem dX6_withPrint_50 : decode cX6_withPrint 50 = .ok (.ior, 1) := by decide +kernel
theorem dX6_withPrint_51 : decode cX6_withPrint 51 = .ok (.istore_n 3, 1) := by decide +kernel
theorem dX6_withPrint_52 : decode cX6_withPrint 52 = .ok (.iinc 4 1, 3) := by decide +kernel
theorem dX6_withPrint_55 : decode cX6_withPrint 55 = .ok (.goto (-40), 3) := by decide +kernel
theorem dX6_withPrint_58 : decode cX6_withPrint 58 = .ok (.iload_n 3, 1) := by decide +kernel
theorem dX6_withPrint_59 : decode cX6_withPrint 59 = .ok (.ireturn, 1) := by decide +kernel
theorem dX6_alike_0 : decode cX6_alike 0 = .ok (.aload_n 0, 1) := by decide +kernel
theorem dX6_alike_1 : decode cX6_alike 1 = .ok (.iload_n 1, 1) := by decide +kernel
theorem dX6_alike_2 : decode cX6_alike 2 = .ok (.invokevirtual 224, 3) := by decide +kernel
theorem dX6_alike_5 : decode cX6_alike 5 = .ok (.aload_n 0, 1) := by decide +kernel
theorem dX6_alike_6 : decode cX6_alike 6 = .ok (.getfield 215, 3) := by decide +kernel
theorem dX6_alike_9 : decode cX6_alike 9 = .ok (.istore_n 3, 1) := by decide +kernel
theorem dX6_alike_10 : decode cX6_alike 10 = .ok (.iconst 0, 1) := by decide +kernel
theorem dX6_alike_11 : decode cX6_alike 11 = .ok (.istore 4, 2) := by decide +kernel
theorem dX6_alike_13 : decode cX6_alike 13 = .ok (.iload 4, 2) := by decide +kernel
theorem dX6_alike_15 : decode cX6_alike 15 = .ok (.iload_n 3, 1) := by decide +kernel
theorem dX6_alike_16 : decode cX6_alike 16 = .ok (.if_icmp .ge 23, 3) := by decide +kernel
theorem dX6_alike_19 : decode cX6_alike 19 = .ok (.aload_n 0, 1) := by decide +kernel
theorem dX6_alike_20 : decode cX6_alike 20 = .ok (.getfield 80, 3) := by decide +kernel
theorem dX6_alike_23 : decode cX6_alike 23 = .ok (.iload 4, 2) := by decide +kernel
theorem dX6_alike_25 : decode cX6_alike 25 = .ok (.aload_n 0, 1) := by decide +kernel
theorem dX6_alike_26 : decode cX6_alike 26 = .ok (.getfield 77, 3) := by decide +kernel
theorem dX6_alike_29 : decode cX6_alike 29 = .ok (.iload 4, 2) := by decide +kernel
theorem dX6_alike_31 : decode cX6_alike 31 = .ok (.iaload, 1) := by decide +kernel
theorem dX6_alike_32 : decode cX6_alike 32 = .ok (.iastore, 1) := by decide +kernel
theorem dX6_alike_33 : decode cX6_alike 33 = .ok (.iinc 4 1, 3) := by decide +kernel
theorem dX6_alike_36 : decode cX6_alike 36 = .ok (.goto (-23), 3) := by decide +kernel
theorem dX6_alike_39 : decode cX6_alike 39 = .ok (.aload_n 0, 1) := by decide +kernel
theorem dX6_alike_40 : decode cX6_alike 40 = .ok (.iload_n 2, 1) := by decide +kernel
theorem dX6_alike_41 : decode cX6_alike 41 = .ok (.invokevirtual 224, 3) := by decide +kernel
theorem dX6_alike_44 : decode cX6_alike 44 = .ok (.iconst 0, 1) := by decide +kernel
theorem dX6_alike_45 : decode cX6_alike 45 = .ok (.istore 4, 2) := by decide +kernel
theorem dX6_alike_47 : decode cX6_alike 47 = .ok (.iconst 0, 1) := by decide +kernel
theorem dX6_alike_48 : decode cX6_alike 48 = .ok (.istore 5, 2) := by decide +kernel
theorem dX6_alike_50 : decode cX6_alike 50 = .ok (.iload 5, 2) := by decide +kernel
theorem dX6_alike_52 : decode cX6_alike 52 = .ok (.iload_n 3, 1) := by decide +kernel
theorem dX6_alike_53 : decode cX6_alike 53 = .ok (.if_icmp .ge 33, 3) := by decide +kernel
theorem dX6_alike_56 : decode cX6_alike 56 = .ok (.iload 4, 2) := by decide +kernel
theorem dX6_alike_58 : decode cX6_alike 58 = .ok (.aload_n 0, 1) := by decide +kernel
theorem dX6_alike_59 : decode cX6_alike 59 = .ok (.aload_n 0, 1) := by decide +kernel
theorem dX6_alike_60 : decode cX6_alike 60 = .ok (.getfield 80, 3) := by decide +kernel
theorem dX6_alike_63 : decode cX6_alike 63 = .ok (.iload 5, 2) := by decide +kernel
theorem dX6_alike_65 : decode cX6_alike 65 = .ok (.iaload, 1) := by decide +kernel
theorem dX6_alike_66 : decode cX6_alike 66 = .ok (.invokevirtual 221, 3) := by decide +kernel
theorem dX6_alike_69 : decode cX6_alike 69 = .ok (.ifCond .eq 7, 3) := by decide +kernel
theorem dX6_alike_72 : decode cX6_alike 72 = .ok (.iconst 1, 1) := by decide +kernel
theorem dX6_alike_73 : decode cX6_alike 73 = .ok (.goto 4, 3) := by decide +kernel
theorem dX6_alike_76 : decode cX6_alike 76 = .ok (.iconst 0, 1) := by decide +kernel
theorem dX6_alike_77 : decode cX6_alike 77 = .ok (.iadd, 1) := by decide +kernel
theorem dX6_alike_78 : decode cX6_alike 78 = .ok (.istore 4, 2) := by decide +kernel
theorem dX6_alike_80 : decode cX6_alike 80 = .ok (.iinc 5 1, 3) := by decide +kernel
theorem dX6_alike_83 : decode cX6_alike 83 = .ok (.goto (-33), 3) := by decide +kernel
theorem dX6_alike_86 : decode cX6_alike 86 = .ok (.iload_n 3, 1) := by decide +kernel
theorem dX6_alike_87 : decode cX6_alike 87 = .ok (.aload_n 0, 1) := by decide +kernel
theorem dX6_alike_88 : decode cX6_alike 88 = .ok (.getfield 215, 3) := by decide +kernel
theorem dX6_alike_91 : decode cX6_alike 91 = .ok (.if_icmp .ge 7, 3) := by decide +kernel
theorem dX6_alike_94 : decode cX6_alike 94 = .ok (.iload_n 3, 1) := by decide +kernel
theorem dX6_alike_95 : decode cX6_alike 95 = .ok (.goto 7, 3) := by decide +kernel
theorem dX6_alike_98 : decode cX6_alike 98 = .ok (.aload_n 0, 1) := by decide +kernel
theorem dX6_alike_99 : decode cX6_alike 99 = .ok (.getfield 215, 3) := by decide +kernel
theorem dX6_alike_102 : decode cX6_alike 102 = .ok (.istore 5, 2) := by decide +kernel
theorem dX6_alike_104 : decode cX6_alike 104 = .ok (.iload 5, 2) := by decide +kernel
theorem dX6_alike_106 : decode cX6_alike 106 = .ok (.ifCond .ne 7, 3) := by decide +kernel
theorem dX6_alike_109 : decode cX6_alike 109 = .ok (.iconst 0, 1) := by decide +kernel
theorem dX6_alike_110 : decode cX6_alike 110 = .ok (.goto 18, 3) := by decide +kernel
theorem dX6_alike_113 : decode cX6_alike 113 = .ok (.sipush 1000, 3) := by decide +kernel
theorem dX6_alike_116 : decode cX6_alike 116 = .ok (.iload 4, 2) := by decide +kernel
theorem dX6_alike_118 : decode cX6_alike 118 = .ok (.imul, 1) := by decide +kernel
theorem dX6_alike_119 : decode cX6_alike 119 = .ok (.bipush 100, 2) := by decide +kernel
theorem dX6_alike_121 : decode cX6_alike 121 = .ok (.iload 4, 2) := by decide +kernel
theorem dX6_alike_123 : decode cX6_alike 123 = .ok (.imul, 1) := by decide +kernel
theorem dX6_alike_124 : decode cX6_alike 124 = .ok (.iload 5, 2) := by decide +kernel
theorem dX6_alike_126 : decode cX6_alike 126 = .ok (.idiv, 1) := by decide +kernel
theorem dX6_alike_127 : decode cX6_alike 127 = .ok (.iadd, 1) := by decide +kernel
theorem dX6_alike_128 : decode cX6_alike 128 = .ok (.ireturn, 1) := by decide +kernel
theorem dX6_likeness_0 : decode cX6_likeness 0 = .ok (.aload_n 0, 1) := by decide +kernel
theorem dX6_likeness_1 : decode cX6_likeness 1 = .ok (.iload_n 1, 1) := by decide +kernel
theorem dX6_likeness_2 : decode cX6_likeness 2 = .ok (.invokevirtual 94, 3) := by decide +kernel
theorem dX6_likeness_5 : decode cX6_likeness 5 = .ok (.ifCond .eq 21, 3) := by decide +kernel
theorem dX6_likeness_8 : decode cX6_likeness 8 = .ok (.iload_n 2, 1) := by decide +kernel
theorem dX6_likeness_9 : decode cX6_likeness 9 = .ok (.invokestatic 193, 3) := by decide +kernel
theorem dX6_likeness_12 : decode cX6_likeness 12 = .ok (.ifCond .eq 14, 3) := by decide +kernel
theorem dX6_likeness_15 : decode cX6_likeness 15 = .ok (.iload_n 3, 1) := by decide +kernel
theorem dX6_likeness_16 : decode cX6_likeness 16 = .ok (.invokestatic 193, 3) := by decide +kernel
theorem dX6_likeness_19 : decode cX6_likeness 19 = .ok (.ifCond .eq 7, 3) := by decide +kernel
theorem dX6_likeness_22 : decode cX6_likeness 22 = .ok (.iconst 1, 1) := by decide +kernel
theorem dX6_likeness_23 : decode cX6_likeness 23 = .ok (.goto 4, 3) := by decide +kernel
theorem dX6_likeness_26 : decode cX6_likeness 26 = .ok (.iconst 0, 1) := by decide +kernel
theorem dX6_likeness_27 : decode cX6_likeness 27 = .ok (.istore 4, 2) := by decide +kernel
theorem dX6_likeness_29 : decode cX6_likeness 29 = .ok (.aload_n 0, 1) := by decide +kernel
theorem dX6_likeness_30 : decode cX6_likeness 30 = .ok (.iload 4, 2) := by decide +kernel
theorem dX6_likeness_32 : decode cX6_likeness 32 = .ok (.ifCond .eq 7, 3) := by decide +kernel
theorem dX6_likeness_35 : decode cX6_likeness 35 = .ok (.iconst 0, 1) := by decide +kernel
theorem dX6_likeness_36 : decode cX6_likeness 36 = .ok (.goto 4, 3) := by decide +kernel
theorem dX6_likeness_39 : decode cX6_likeness 39 = .ok (.iconst 1, 1) := by decide +kernel
theorem dX6_likeness_40 : decode cX6_likeness 40 = .ok (.invokevirtual 120, 3) := by decide +kernel
theorem dX6_likeness_43 : decode cX6_likeness 43 = .ok (.ifCond .ne 8, 3) := by decide +kernel
theorem dX6_likeness_46 : decode cX6_likeness 46 = .ok (.iload_n 2, 1) := by decide +kernel
theorem dX6_likeness_47 : decode cX6_likeness 47 = .ok (.iload_n 3, 1) := by decide +kernel
theorem dX6_likeness_48 : decode cX6_likeness 48 = .ok (.if_icmp .ne 7, 3) := by decide +kernel
theorem dX6_likeness_51 : decode cX6_likeness 51 = .ok (.iconst 0, 1) := by decide +kernel
theorem dX6_likeness_52 : decode cX6_likeness 52 = .ok (.goto 23, 3) := by decide +kernel
theorem dX6_likeness_55 : decode cX6_likeness 55 = .ok (.aload_n 0, 1) := by decide +kernel
theorem dX6_likeness_56 : decode cX6_likeness 56 = .ok (.bipush 12, 2) := by decide +kernel
theorem dX6_likeness_58 : decode cX6_likeness 58 = .ok (.iload_n 1, 1) := by decide +kernel
theorem dX6_likeness_59 : decode cX6_likeness 59 = .ok (.imul, 1) := by decide +kernel
theorem dX6_likeness_60 : decode cX6_likeness 60 = .ok (.iload_n 2, 1) := by decide +kernel
theorem dX6_likeness_61 : decode cX6_likeness 61 = .ok (.iadd, 1) := by decide +kernel
theorem dX6_likeness_62 : decode cX6_likeness 62 = .ok (.bipush 12, 2) := by decide +kernel
theorem dX6_likeness_64 : decode cX6_likeness 64 = .ok (.iload_n 1, 1) := by decide +kernel
theorem dX6_likeness_65 : decode cX6_likeness 65 = .ok (.imul, 1) := by decide +kernel
theorem dX6_likeness_66 : decode cX6_likeness 66 = .ok (.iload_n 3, 1) := by decide +kernel
theorem dX6_likeness_67 : decode cX6_likeness 67 = .ok (.iadd, 1) := by decide +kernel
theorem dX6_likeness_68 : decode cX6_likeness 68 = .ok (.invokevirtual 227, 3) := by decide +kernel
theorem dX6_likeness_71 : decode cX6_likeness 71 = .ok (.sipush 1000, 3) := by decide +kernel
theorem dX6_likeness_74 : decode cX6_likeness 74 = .ok (.irem, 1) := by decide +kernel
theorem dX6_likeness_75 : decode cX6_likeness 75 = .ok (.ireturn, 1) := by decide +kernel
theorem dX6_isPair_0 : decode cX6_isPair 0 = .ok (.aload_n 0, 1) := by decide +kernel
theorem dX6_isPair_1 : decode cX6_isPair 1 = .ok (.bipush 12, 2) := by decide +kernel
theorem dX6_isPair_3 : decode cX6_isPair 3 = .ok (.iload_n 1, 1) := by decide +kernel
theorem dX6_isPair_4 : decode cX6_isPair 4 = .ok (.imul, 1) := by decide +kernel
theorem dX6_isPair_5 : decode cX6_isPair 5 = .ok (.iload_n 2, 1) := by decide +kernel
theorem dX6_isPair_6 : decode cX6_isPair 6 = .ok (.iadd, 1) := by decide +kernel
theorem dX6_isPair_7 : decode cX6_isPair 7 = .ok (.bipush 12, 2) := by decide +kernel
theorem dX6_isPair_9 : decode cX6_isPair 9 = .ok (.iload_n 1, 1) := by decide +kernel
theorem dX6_isPair_10 : decode cX6_isPair 10 = .ok (.imul, 1) := by decide +kernel
theorem dX6_isPair_11 : decode cX6_isPair 11 = .ok (.iload_n 3, 1) := by decide +kernel
theorem dX6_isPair_12 : decode cX6_isPair 12 = .ok (.iadd, 1) := by decide +kernel
theorem dX6_isPair_13 : decode cX6_isPair 13 = .ok (.invokevirtual 227, 3) := by decide +kernel
theorem dX6_isPair_16 : decode cX6_isPair 16 = .ok (.istore 4, 2) := by decide +kernel
theorem dX6_isPair_18 : decode cX6_isPair 18 = .ok (.iload 4, 2) := by decide +kernel
theorem dX6_isPair_20 : decode cX6_isPair 20 = .ok (.sipush 1000, 3) := by decide +kernel
theorem dX6_isPair_23 : decode cX6_isPair 23 = .ok (.idiv, 1) := by decide +kernel
theorem dX6_isPair_24 : decode cX6_isPair 24 = .ok (.iconst 2, 1) := by decide +kernel
theorem dX6_isPair_25 : decode cX6_isPair 25 = .ok (.if_icmp .lt 18, 3) := by decide +kernel
theorem dX6_isPair_28 : decode cX6_isPair 28 = .ok (.iload 4, 2) := by decide +kernel
theorem dX6_isPair_30 : decode cX6_isPair 30 = .ok (.sipush 1000, 3) := by decide +kernel
theorem dX6_isPair_33 : decode cX6_isPair 33 = .ok (.irem, 1) := by decide +kernel
theorem dX6_isPair_34 : decode cX6_isPair 34 = .ok (.bipush 60, 2) := by decide +kernel
theorem dX6_isPair_36 : decode cX6_isPair 36 = .ok (.if_icmp .lt 7, 3) := by decide +kernel
theorem dX6_isPair_39 : decode cX6_isPair 39 = .ok (.iconst 1, 1) := by decide +kernel
theorem dX6_isPair_40 : decode cX6_isPair 40 = .ok (.goto 4, 3) := by decide +kernel
theorem dX6_isPair_43 : decode cX6_isPair 43 = .ok (.iconst 0, 1) := by decide +kernel
theorem dX6_isPair_44 : decode cX6_isPair 44 = .ok (.ireturn, 1) := by decide +kernel
theorem dX6_pairsOf_0 : decode cX6_pairsOf 0 = .ok (.iconst 0, 1) := by decide +kernel
theorem dX6_pairsOf_1 : decode cX6_pairsOf 1 = .ok (.istore_n 2, 1) := by decide +kernel
theorem dX6_pairsOf_2 : decode cX6_pairsOf 2 = .ok (.iconst 0, 1) := by decide +kernel
theorem dX6_pairsOf_3 : decode cX6_pairsOf 3 = .ok (.istore_n 3, 1) := by decide +kernel
theorem dX6_pairsOf_4 : decode cX6_pairsOf 4 = .ok (.iload_n 3, 1) := by decide +kernel
theorem dX6_pairsOf_5 : decode cX6_pairsOf 5 = .ok (.sipush 144, 3) := by decide +kernel
theorem dX6_pairsOf_8 : decode cX6_pairsOf 8 = .ok (.if_icmp .ge 44, 3) := by decide +kernel
theorem dX6_pairsOf_11 : decode cX6_pairsOf 11 = .ok (.iload_n 2, 1) := by decide +kernel
theorem dX6_pairsOf_12 : decode cX6_pairsOf 12 = .ok (.iload_n 3, 1) := by decide +kernel
theorem dX6_pairsOf_13 : decode cX6_pairsOf 13 = .ok (.bipush 12, 2) := by decide +kernel
theorem dX6_pairsOf_15 : decode cX6_pairsOf 15 = .ok (.idiv, 1) := by decide +kernel
theorem dX6_pairsOf_16 : decode cX6_pairsOf 16 = .ok (.iload_n 3, 1) := by decide +kernel
theorem dX6_pairsOf_17 : decode cX6_pairsOf 17 = .ok (.bipush 12, 2) := by decide +kernel
theorem dX6_pairsOf_19 : decode cX6_pairsOf 19 = .ok (.irem, 1) := by decide +kernel
theorem dX6_pairsOf_20 : decode cX6_pairsOf 20 = .ok (.if_icmp .ge 23, 3) := by decide +kernel
theorem dX6_pairsOf_23 : decode cX6_pairsOf 23 = .ok (.aload_n 0, 1) := by decide +kernel
theorem dX6_pairsOf_24 : decode cX6_pairsOf 24 = .ok (.iload_n 1, 1) := by decide +kernel
theorem dX6_pairsOf_25 : decode cX6_pairsOf 25 = .ok (.iload_n 3, 1) := by decide +kernel
theorem dX6_pairsOf_26 : decode cX6_pairsOf 26 = .ok (.bipush 12, 2) := by decide +kernel
theorem dX6_pairsOf_28 : decode cX6_pairsOf 28 = .ok (.idiv, 1) := by decide +kernel
theorem dX6_pairsOf_29 : decode cX6_pairsOf 29 = .ok (.iload_n 3, 1) := by decide +kernel
theorem dX6_pairsOf_30 : decode cX6_pairsOf 30 = .ok (.bipush 12, 2) := by decide +kernel
theorem dX6_pairsOf_32 : decode cX6_pairsOf 32 = .ok (.irem, 1) := by decide +kernel
theorem dX6_pairsOf_33 : decode cX6_pairsOf 33 = .ok (.invokevirtual 230, 3) := by decide +kernel
theorem dX6_pairsOf_36 : decode cX6_pairsOf 36 = .ok (.ifCond .eq 7, 3) := by decide +kernel
theorem dX6_pairsOf_39 : decode cX6_pairsOf 39 = .ok (.iconst 1, 1) := by decide +kernel
theorem dX6_pairsOf_40 : decode cX6_pairsOf 40 = .ok (.goto 4, 3) := by decide +kernel
theorem dX6_pairsOf_43 : decode cX6_pairsOf 43 = .ok (.iconst 0, 1) := by decide +kernel
theorem dX6_pairsOf_44 : decode cX6_pairsOf 44 = .ok (.iadd, 1) := by decide +kernel
theorem dX6_pairsOf_45 : decode cX6_pairsOf 45 = .ok (.istore_n 2, 1) := by decide +kernel
theorem dX6_pairsOf_46 : decode cX6_pairsOf 46 = .ok (.iinc 3 1, 3) := by decide +kernel
theorem dX6_pairsOf_49 : decode cX6_pairsOf 49 = .ok (.goto (-45), 3) := by decide +kernel
theorem dX6_pairsOf_52 : decode cX6_pairsOf 52 = .ok (.iload_n 2, 1) := by decide +kernel
theorem dX6_pairsOf_53 : decode cX6_pairsOf 53 = .ok (.ireturn, 1) := by decide +kernel
theorem dX6_pairs_0 : decode cX6_pairs 0 = .ok (.aload_n 0, 1) := by decide +kernel
theorem dX6_pairs_1 : decode cX6_pairs 1 = .ok (.iload_n 1, 1) := by decide +kernel
theorem dX6_pairs_2 : decode cX6_pairs 2 = .ok (.invokevirtual 165, 3) := by decide +kernel
theorem dX6_pairs_5 : decode cX6_pairs 5 = .ok (.ifCond .eq 7, 3) := by decide +kernel
theorem dX6_pairs_8 : decode cX6_pairs 8 = .ok (.iconst 0, 1) := by decide +kernel
theorem dX6_pairs_9 : decode cX6_pairs 9 = .ok (.goto 8, 3) := by decide +kernel
theorem dX6_pairs_12 : decode cX6_pairs 12 = .ok (.aload_n 0, 1) := by decide +kernel
theorem dX6_pairs_13 : decode cX6_pairs 13 = .ok (.iload_n 1, 1) := by decide +kernel
theorem dX6_pairs_14 : decode cX6_pairs 14 = .ok (.invokevirtual 233, 3) := by decide +kernel
theorem dX6_pairs_17 : decode cX6_pairs 17 = .ok (.ireturn, 1) := by decide +kernel
theorem dX6_pairAt_0 : decode cX6_pairAt 0 = .ok (.aload_n 0, 1) := by decide +kernel
theorem dX6_pairAt_1 : decode cX6_pairAt 1 = .ok (.iload_n 1, 1) := by decide +kernel
theorem dX6_pairAt_2 : decode cX6_pairAt 2 = .ok (.invokevirtual 94, 3) := by decide +kernel
theorem dX6_pairAt_5 : decode cX6_pairAt 5 = .ok (.ifCond .eq 11, 3) := by decide +kernel
theorem dX6_pairAt_8 : decode cX6_pairAt 8 = .ok (.iload_n 2, 1) := by decide +kernel
theorem dX6_pairAt_9 : decode cX6_pairAt 9 = .ok (.ifCond .lt 7, 3) := by decide +kernel
theorem dX6_pairAt_12 : decode cX6_pairAt 12 = .ok (.iconst 1, 1) := by decide +kernel
theorem dX6_pairAt_13 : decode cX6_pairAt 13 = .ok (.goto 4, 3) := by decide +kernel
theorem dX6_pairAt_16 : decode cX6_pairAt 16 = .ok (.iconst 0, 1) := by decide +kernel
theorem dX6_pairAt_17 : decode cX6_pairAt 17 = .ok (.istore_n 3, 1) := by decide +kernel
theorem dX6_pairAt_18 : decode cX6_pairAt 18 = .ok (.iload_n 2, 1) := by decide +kernel
theorem dX6_pairAt_19 : decode cX6_pairAt 19 = .ok (.istore 4, 2) := by decide +kernel
theorem dX6_pairAt_21 : decode cX6_pairAt 21 = .ok (.iconst (-1), 1) := by decide +kernel
theorem dX6_pairAt_22 : decode cX6_pairAt 22 = .ok (.istore 5, 2) := by decide +kernel
theorem dX6_pairAt_24 : decode cX6_pairAt 24 = .ok (.iconst 0, 1) := by decide +kernel
theorem dX6_pairAt_25 : decode cX6_pairAt 25 = .ok (.istore 6, 2) := by decide +kernel
theorem dX6_pairAt_27 : decode cX6_pairAt 27 = .ok (.iload_n 3, 1) := by decide +kernel
theorem dX6_pairAt_28 : decode cX6_pairAt 28 = .ok (.ifCond .eq 82, 3) := by decide +kernel
theorem dX6_pairAt_31 : decode cX6_pairAt 31 = .ok (.iload 5, 2) := by decide +kernel
theorem dX6_pairAt_33 : decode cX6_pairAt 33 = .ok (.iconst (-1), 1) := by decide +kernel
theorem dX6_pairAt_34 : decode cX6_pairAt 34 = .ok (.if_icmp .ne 76, 3) := by decide +kernel
theorem dX6_pairAt_37 : decode cX6_pairAt 37 = .ok (.iload 6, 2) := by decide +kernel
theorem dX6_pairAt_39 : decode cX6_pairAt 39 = .ok (.sipush 144, 3) := by decide +kernel
theorem dX6_pairAt_42 : decode cX6_pairAt 42 = .ok (.if_icmp .ge 68, 3) := by decide +kernel
theorem dX6_pairAt_45 : decode cX6_pairAt 45 = .ok (.iload 6, 2) := by decide +kernel
theorem dX6_pairAt_47 : decode cX6_pairAt 47 = .ok (.bipush 12, 2) := by decide +kernel
theorem dX6_pairAt_49 : decode cX6_pairAt 49 = .ok (.idiv, 1) := by decide +kernel
theorem dX6_pairAt_50 : decode cX6_pairAt 50 = .ok (.iload 6, 2) := by decide +kernel
theorem dX6_pairAt_52 : decode cX6_pairAt 52 = .ok (.bipush 12, 2) := by decide +kernel
theorem dX6_pairAt_54 : decode cX6_pairAt 54 = .ok (.irem, 1) := by decide +kernel
theorem dX6_pairAt_55 : decode cX6_pairAt 55 = .ok (.if_icmp .ge 49, 3) := by decide +kernel
theorem dX6_pairAt_58 : decode cX6_pairAt 58 = .ok (.aload_n 0, 1) := by decide +kernel
theorem dX6_pairAt_59 : decode cX6_pairAt 59 = .ok (.iload_n 1, 1) := by decide +kernel
theorem dX6_pairAt_60 : decode cX6_pairAt 60 = .ok (.iload 6, 2) := by decide +kernel
theorem dX6_pairAt_62 : decode cX6_pairAt 62 = .ok (.bipush 12, 2) := by decide +kernel
theorem dX6_pairAt_64 : decode cX6_pairAt 64 = .ok (.idiv, 1) := by decide +kernel
theorem dX6_pairAt_65 : decode cX6_pairAt 65 = .ok (.iload 6, 2) := by decide +kernel
theorem dX6_pairAt_67 : decode cX6_pairAt 67 = .ok (.bipush 12, 2) := by decide +kernel
theorem dX6_pairAt_69 : decode cX6_pairAt 69 = .ok (.irem, 1) := by decide +kernel
theorem dX6_pairAt_70 : decode cX6_pairAt 70 = .ok (.invokevirtual 230, 3) := by decide +kernel
theorem dX6_pairAt_73 : decode cX6_pairAt 73 = .ok (.ifCond .eq 31, 3) := by decide +kernel
theorem dX6_pairAt_76 : decode cX6_pairAt 76 = .ok (.iload 4, 2) := by decide +kernel
theorem dX6_pairAt_78 : decode cX6_pairAt 78 = .ok (.ifCond .ne 20, 3) := by decide +kernel
theorem dX6_pairAt_81 : decode cX6_pairAt 81 = .ok (.bipush 100, 2) := by decide +kernel
theorem dX6_pairAt_83 : decode cX6_pairAt 83 = .ok (.iload 6, 2) := by decide +kernel
theorem dX6_pairAt_85 : decode cX6_pairAt 85 = .ok (.bipush 12, 2) := by decide +kernel
theorem dX6_pairAt_87 : decode cX6_pairAt 87 = .ok (.idiv, 1) := by decide +kernel
theorem dX6_pairAt_88 : decode cX6_pairAt 88 = .ok (.imul, 1) := by decide +kernel
theorem dX6_pairAt_89 : decode cX6_pairAt 89 = .ok (.iload 6, 2) := by decide +kernel
theorem dX6_pairAt_91 : decode cX6_pairAt 91 = .ok (.bipush 12, 2) := by decide +kernel
theorem dX6_pairAt_93 : decode cX6_pairAt 93 = .ok (.irem, 1) := by decide +kernel
theorem dX6_pairAt_94 : decode cX6_pairAt 94 = .ok (.iadd, 1) := by decide +kernel
theorem dX6_pairAt_95 : decode cX6_pairAt 95 = .ok (.goto 4, 3) := by decide +kernel
theorem dX6_pairAt_98 : decode cX6_pairAt 98 = .ok (.iconst (-1), 1) := by decide +kernel
theorem dX6_pairAt_99 : decode cX6_pairAt 99 = .ok (.istore 5, 2) := by decide +kernel
theorem dX6_pairAt_101 : decode cX6_pairAt 101 = .ok (.iinc 4 (-1), 3) := by decide +kernel
theorem dX6_pairAt_104 : decode cX6_pairAt 104 = .ok (.iinc 6 1, 3) := by decide +kernel
theorem dX6_pairAt_107 : decode cX6_pairAt 107 = .ok (.goto (-80), 3) := by decide +kernel
theorem dX6_pairAt_110 : decode cX6_pairAt 110 = .ok (.aload_n 0, 1) := by decide +kernel
theorem dX6_pairAt_111 : decode cX6_pairAt 111 = .ok (.iload 5, 2) := by decide +kernel
theorem dX6_pairAt_113 : decode cX6_pairAt 113 = .ok (.iconst (-1), 1) := by decide +kernel
theorem dX6_pairAt_114 : decode cX6_pairAt 114 = .ok (.if_icmp .ne 7, 3) := by decide +kernel
theorem dX6_pairAt_117 : decode cX6_pairAt 117 = .ok (.iconst 1, 1) := by decide +kernel
theorem dX6_pairAt_118 : decode cX6_pairAt 118 = .ok (.goto 4, 3) := by decide +kernel
theorem dX6_pairAt_121 : decode cX6_pairAt 121 = .ok (.iconst 0, 1) := by decide +kernel
theorem dX6_pairAt_122 : decode cX6_pairAt 122 = .ok (.invokevirtual 120, 3) := by decide +kernel
theorem dX6_pairAt_125 : decode cX6_pairAt 125 = .ok (.ifCond .eq 7, 3) := by decide +kernel
theorem dX6_pairAt_128 : decode cX6_pairAt 128 = .ok (.iconst 0, 1) := by decide +kernel
theorem dX6_pairAt_129 : decode cX6_pairAt 129 = .ok (.goto 5, 3) := by decide +kernel
theorem dX6_pairAt_132 : decode cX6_pairAt 132 = .ok (.iload 5, 2) := by decide +kernel
theorem dX6_pairAt_134 : decode cX6_pairAt 134 = .ok (.ireturn, 1) := by decide +kernel
theorem dX6_pairsAnew_0 : decode cX6_pairsAnew 0 = .ok (.aload_n 0, 1) := by decide +kernel
theorem dX6_pairsAnew_1 : decode cX6_pairsAnew 1 = .ok (.iload_n 1, 1) := by decide +kernel
theorem dX6_pairsAnew_2 : decode cX6_pairsAnew 2 = .ok (.invokevirtual 236, 3) := by decide +kernel
theorem dX6_pairsAnew_5 : decode cX6_pairsAnew 5 = .ok (.ireturn, 1) := by decide +kernel
theorem dX6_setQuota_0 : decode cX6_setQuota 0 = .ok (.aload_n 0, 1) := by decide +kernel
theorem dX6_setQuota_1 : decode cX6_setQuota 1 = .ok (.iload_n 1, 1) := by decide +kernel
theorem dX6_setQuota_2 : decode cX6_setQuota 2 = .ok (.invokestatic 127, 3) := by decide +kernel
theorem dX6_setQuota_5 : decode cX6_setQuota 5 = .ok (.ifCond .ne 7, 3) := by decide +kernel
theorem dX6_setQuota_8 : decode cX6_setQuota 8 = .ok (.iconst 1, 1) := by decide +kernel
theorem dX6_setQuota_9 : decode cX6_setQuota 9 = .ok (.goto 19, 3) := by decide +kernel
theorem dX6_setQuota_12 : decode cX6_setQuota 12 = .ok (.iload_n 2, 1) := by decide +kernel
theorem dX6_setQuota_13 : decode cX6_setQuota 13 = .ok (.iconst 0, 1) := by decide +kernel
theorem dX6_setQuota_14 : decode cX6_setQuota 14 = .ok (.sipush 1000, 3) := by decide +kernel
theorem dX6_setQuota_17 : decode cX6_setQuota 17 = .ok (.invokestatic 87, 3) := by decide +kernel
theorem dX6_setQuota_20 : decode cX6_setQuota 20 = .ok (.ifCond .eq 7, 3) := by decide +kernel
theorem dX6_setQuota_23 : decode cX6_setQuota 23 = .ok (.iconst 0, 1) := by decide +kernel
theorem dX6_setQuota_24 : decode cX6_setQuota 24 = .ok (.goto 4, 3) := by decide +kernel
theorem dX6_setQuota_27 : decode cX6_setQuota 27 = .ok (.iconst 2, 1) := by decide +kernel
theorem dX6_setQuota_28 : decode cX6_setQuota 28 = .ok (.invokevirtual 120, 3) := by decide +kernel
theorem dX6_setQuota_31 : decode cX6_setQuota 31 = .ok (.ifCond .eq 5, 3) := by decide +kernel
theorem dX6_setQuota_34 : decode cX6_setQuota 34 = .ok (.iconst 0, 1) := by decide +kernel
theorem dX6_setQuota_35 : decode cX6_setQuota 35 = .ok (.ireturn, 1) := by decide +kernel
theorem dX6_setQuota_36 : decode cX6_setQuota 36 = .ok (.aload_n 0, 1) := by decide +kernel
theorem dX6_setQuota_37 : decode cX6_setQuota 37 = .ok (.getfield 41, 3) := by decide +kernel
theorem dX6_setQuota_40 : decode cX6_setQuota 40 = .ok (.iload_n 1, 1) := by decide +kernel
theorem dX6_setQuota_41 : decode cX6_setQuota 41 = .ok (.iaload, 1) := by decide +kernel
theorem dX6_setQuota_42 : decode cX6_setQuota 42 = .ok (.istore_n 3, 1) := by decide +kernel
theorem dX6_setQuota_43 : decode cX6_setQuota 43 = .ok (.aload_n 0, 1) := by decide +kernel
theorem dX6_setQuota_44 : decode cX6_setQuota 44 = .ok (.getfield 41, 3) := by decide +kernel
theorem dX6_setQuota_47 : decode cX6_setQuota 47 = .ok (.iload_n 1, 1) := by decide +kernel
theorem dX6_setQuota_48 : decode cX6_setQuota 48 = .ok (.iload_n 2, 1) := by decide +kernel
theorem dX6_setQuota_49 : decode cX6_setQuota 49 = .ok (.iastore, 1) := by decide +kernel
theorem dX6_setQuota_50 : decode cX6_setQuota 50 = .ok (.iload_n 3, 1) := by decide +kernel
theorem dX6_setQuota_51 : decode cX6_setQuota 51 = .ok (.ireturn, 1) := by decide +kernel
theorem dX6_used_0 : decode cX6_used 0 = .ok (.aload_n 0, 1) := by decide +kernel
theorem dX6_used_1 : decode cX6_used 1 = .ok (.iload_n 1, 1) := by decide +kernel
theorem dX6_used_2 : decode cX6_used 2 = .ok (.invokestatic 127, 3) := by decide +kernel
theorem dX6_used_5 : decode cX6_used 5 = .ok (.ifCond .eq 7, 3) := by decide +kernel
theorem dX6_used_8 : decode cX6_used 8 = .ok (.iconst 0, 1) := by decide +kernel
theorem dX6_used_9 : decode cX6_used 9 = .ok (.goto 4, 3) := by decide +kernel
theorem dX6_used_12 : decode cX6_used 12 = .ok (.iconst 1, 1) := by decide +kernel
theorem dX6_used_13 : decode cX6_used 13 = .ok (.invokevirtual 120, 3) := by decide +kernel
theorem dX6_used_16 : decode cX6_used 16 = .ok (.ifCond .eq 7, 3) := by decide +kernel
theorem dX6_used_19 : decode cX6_used 19 = .ok (.iconst 0, 1) := by decide +kernel
theorem dX6_used_20 : decode cX6_used 20 = .ok (.goto 8, 3) := by decide +kernel
theorem dX6_used_23 : decode cX6_used 23 = .ok (.aload_n 0, 1) := by decide +kernel
theorem dX6_used_24 : decode cX6_used 24 = .ok (.iload_n 1, 1) := by decide +kernel
theorem dX6_used_25 : decode cX6_used 25 = .ok (.invokevirtual 117, 3) := by decide +kernel
theorem dX6_used_28 : decode cX6_used 28 = .ok (.ireturn, 1) := by decide +kernel
theorem dX6_usedAnew_0 : decode cX6_usedAnew 0 = .ok (.aload_n 0, 1) := by decide +kernel
theorem dX6_usedAnew_1 : decode cX6_usedAnew 1 = .ok (.iload_n 1, 1) := by decide +kernel
theorem dX6_usedAnew_2 : decode cX6_usedAnew 2 = .ok (.invokevirtual 239, 3) := by decide +kernel
theorem dX6_usedAnew_5 : decode cX6_usedAnew 5 = .ok (.ireturn, 1) := by decide +kernel
end
section
/-! MY LAYER: what is known of the heap is a function from addresses to contents (hm_M); one judgement hm_W; one row an instruction. -/
abbrev hm_M : Type := Nat → Option va_E
def hm_up (M : hm_M) (a : Nat) (e : va_E) : hm_M := fun x => if x = a then some e else M x
theorem hm_up_s {M : hm_M} {a : Nat} {e : va_E} : hm_up M a e a = some e := if_pos rfl
theorem hm_up_n {M : hm_M} {a x : Nat} {e : va_E} (h : x ≠ a) : hm_up M a e x = M x := if_neg h
def hm_P (D : va_G) (M : hm_M) (H : Heap) : Prop := ∀ (a : Nat) (e : va_E), M a = some e → va_at D vwCl (a, e) H
def hm_A (A : Nat → Prop) (M : hm_M) : Prop := ∀ (a : Nat) (e : va_E), M a = some e → A a
theorem hm_app_get {α : Type} {l : List α} {x q : α} {k : Nat} (h : (l ++ [x])[k]? = some q) : l[k]? = some q ∨ (k = l.length ∧ q = x) := by
  by_cases hl : k < l.length
  · rw [List.getElem?_append_left hl] at h
    exact Or.inl h
  · rw [List.getElem?_append_right (by omega)] at h
    have hz : k - l.length < 1 := (List.getElem?_eq_some_iff.mp h).1
    rw [show k - l.length = 0 by omega] at h
    cases h
    exact Or.inr ⟨by omega, rfl⟩
theorem hm_list_n (M : hm_M) : ∀ n : Nat, ∃ ws : va_W, (∀ (k : Nat) (q : Nat × va_E), ws[k]? = some q → M q.1 = some q.2 ∧ q.1 < n) ∧ (∀ (a : Nat) (e : va_E), a < n → M a = some e → ∃ k : Nat, ws[k]? = some (a, e)) ∧ (∀ (i j : Nat) (p q : Nat × va_E), ws[i]? = some p → ws[j]? = some q → p.1 = q.1 → i = j)
  | 0 => ⟨[], fun k q h => by simp at h, fun a e h => absurd h (Nat.not_lt_zero a), fun i j p q h => by simp at h⟩
  | n + 1 => by
    obtain ⟨ws, h1, h2, h3⟩ := hm_list_n M n
    cases hM : M n with
    | none =>
      refine ⟨ws, fun k q h => ⟨(h1 k q h).1, Nat.lt_succ_of_lt (h1 k q h).2⟩, fun a e ha he => ?_, h3⟩
      rcases Nat.lt_succ_iff_lt_or_eq.mp ha with h | h
      · exact h2 a e h he
      · subst h
        rw [hM] at he
        cases he
    | some e0 =>
      refine ⟨ws ++ [(n, e0)], fun k q h => ?_, fun a e ha he => ?_, fun i j p q hi hj hpq => ?_⟩
      · rcases hm_app_get h with h | ⟨-, rfl⟩
        · exact ⟨(h1 k q h).1, Nat.lt_succ_of_lt (h1 k q h).2⟩
        · exact ⟨hM, Nat.lt_succ_self n⟩
      · rcases Nat.lt_succ_iff_lt_or_eq.mp ha with h | h
        · obtain ⟨k, hk⟩ := h2 a e h he
          exact ⟨k, by rw [List.getElem?_append_left (List.getElem?_eq_some_iff.mp hk).1]; exact hk⟩
        · subst h
          rw [hM] at he
          cases he
          exact ⟨ws.length, by rw [List.getElem?_append_right (Nat.le_refl _), Nat.sub_self]; rfl⟩
      · rcases hm_app_get hi with hi | ⟨ei, rfl⟩ <;> rcases hm_app_get hj with hj | ⟨ej, rfl⟩
        · exact h3 i j p q hi hj hpq
        · have := (h1 i p hi).2
          rw [hpq] at this
          exact absurd this (Nat.lt_irrefl n)
        · have := (h1 j q hj).2
          rw [← hpq] at this
          exact absurd this (Nat.lt_irrefl n)
        · rw [ei, ej]
theorem hm_list {D : va_G} {A : Nat → Prop} {M : hm_M} {H : Heap} (hP : hm_P D M H) (hA : hm_A A M) : ∃ ws : va_W, va_P D vwCl ws H ∧ va_D A ws ∧ (∀ (a : Nat) (e : va_E), M a = some e → ∃ k : Nat, ws[k]? = some (a, e)) ∧ (∀ (k : Nat) (q : Nat × va_E), ws[k]? = some q → M q.1 = some q.2) := by
  obtain ⟨ws, h1, h2, h3⟩ := hm_list_n M H.size
  exact ⟨ws, fun k q h => hP q.1 q.2 (h1 k q h).1, ⟨h3, fun k q h => hA q.1 q.2 (h1 k q h).1⟩, fun a e h => h2 a e (hP a e h).lt h, fun k q h => (h1 k q h).1⟩
theorem hm_set {D : va_G} {M : hm_M} {ws : va_W} {k a : Nat} {e0 e : va_E} {H1 : Heap} (hin : ∀ (a : Nat) (e : va_E), M a = some e → ∃ k : Nat, ws[k]? = some (a, e)) (hk : ws[k]? = some (a, e0)) (hP1 : va_P D vwCl (ws.set k (a, e)) H1) : hm_P D (hm_up M a e) H1 := by
  intro x e' hx
  by_cases hxa : x = a
  · subst hxa
    rw [hm_up_s] at hx
    cases hx
    exact hP1 k (x, e) (List.getElem?_set_self (List.getElem?_eq_some_iff.mp hk).1)
  · rw [hm_up_n hxa] at hx
    obtain ⟨j, hj⟩ := hin x e' hx
    have hkj : k ≠ j := fun h => by
      subst h
      rw [hk] at hj
      cases hj
      exact hxa rfl
    exact hP1 j (x, e') (by rw [List.getElem?_set_ne hkj]; exact hj)
theorem hm_new {D : va_G} {M : hm_M} {ws : va_W} {a : Nat} {e : va_E} {H1 : Heap} (hin : ∀ (a : Nat) (e : va_E), M a = some e → ∃ k : Nat, ws[k]? = some (a, e)) (hP1 : va_P D vwCl (ws ++ [(a, e)]) H1) : hm_P D (hm_up M a e) H1 := by
  intro x e' hx
  by_cases hxa : x = a
  · subst hxa
    rw [hm_up_s] at hx
    cases hx
    exact hP1 ws.length (x, e) (by rw [List.getElem?_append_right (Nat.le_refl _), Nat.sub_self]; rfl)
  · rw [hm_up_n hxa] at hx
    obtain ⟨j, hj⟩ := hin x e' hx
    exact hP1 j (x, e') (by rw [List.getElem?_append_left (List.getElem?_eq_some_iff.mp hj).1]; exact hj)
theorem hm_fresh {A : Nat → Prop} {M : hm_M} {ws : va_W} {a : Nat} {e : va_E} (hin : ∀ (a : Nat) (e : va_E), M a = some e → ∃ k : Nat, ws[k]? = some (a, e)) (hD : va_D A (ws ++ [(a, e)])) : M a = none := by
  cases h : M a with
  | none => rfl
  | some e2 =>
    obtain ⟨j, hj⟩ := hin a e2 h
    have hl := (List.getElem?_eq_some_iff.mp hj).1
    have h1 : (ws ++ [(a, e)])[j]? = some (a, e2) := by rw [List.getElem?_append_left hl]; exact hj
    have h2 : (ws ++ [(a, e)])[ws.length]? = some (a, e) := by rw [List.getElem?_append_right (Nat.le_refl _), Nat.sub_self]; rfl
    have := hD.1 j ws.length _ _ h1 h2 rfl
    omega
theorem hm_A.up {A : Nat → Prop} {M : hm_M} {a : Nat} {e : va_E} (h : hm_A A M) (ha : A a) : hm_A A (hm_up M a e) := by
  intro x e' hx
  by_cases hxa : x = a
  · rw [hxa]; exact ha
  · rw [hm_up_n hxa] at hx
    exact h x e' hx
theorem hm_one {D : va_G} {M : hm_M} {H : Heap} {a : Nat} {e : va_E} (hP : hm_P D M H) (h : M a = some e) : va_P D vwCl [(a, e)] H := by
  intro k q hk
  have hz : k < 1 := (List.getElem?_eq_some_iff.mp hk).1
  rw [show k = 0 by omega] at hk
  cases hk
  exact hP a e h
/-! locals -/
def hm_al : Nat → List (Option Value) → List (Nat × Value)
  | _, [] => []
  | n, none :: L => hm_al (n + 1) L
  | n, some v :: L => (n, v) :: hm_al (n + 1) L
theorem hm_al_in : ∀ (L : List (Option Value)) (n i : Nat) (v : Value), L[i]? = some (some v) → (n + i, v) ∈ hm_al n L
  | [], n, i, v, h => by simp at h
  | none :: L, n, 0, v, h => by simp at h
  | none :: L, n, i + 1, v, h => by
    rw [List.getElem?_cons_succ] at h
    have := hm_al_in L (n + 1) i v h
    rw [show n + 1 + i = n + (i + 1) by omega] at this
    exact this
  | some w :: L, n, 0, v, h => by
    rw [List.getElem?_cons_zero] at h
    cases h
    exact List.mem_cons_self
  | some w :: L, n, i + 1, v, h => by
    rw [List.getElem?_cons_succ] at h
    have := hm_al_in L (n + 1) i v h
    rw [show n + 1 + i = n + (i + 1) by omega] at this
    exact List.mem_cons_of_mem _ this
theorem hm_al_of : ∀ (L : List (Option Value)) (n j : Nat) (v : Value), (j, v) ∈ hm_al n L → ∃ i : Nat, j = n + i ∧ L[i]? = some (some v)
  | [], n, j, v, h => by simp [hm_al] at h
  | none :: L, n, j, v, h => by
    obtain ⟨i, h1, h2⟩ := hm_al_of L (n + 1) j v h
    exact ⟨i + 1, by omega, by rw [List.getElem?_cons_succ]; exact h2⟩
  | some w :: L, n, j, v, h => by
    rcases List.mem_cons.mp h with h | h
    · cases h
      exact ⟨0, rfl, rfl⟩
    · obtain ⟨i, h1, h2⟩ := hm_al_of L (n + 1) j v h
      exact ⟨i + 1, by omega, by rw [List.getElem?_cons_succ]; exact h2⟩
def hm_L (ls : Array Slot) (L : List (Option Value)) : Prop := ls.size = L.length ∧ lv_wf ls ∧ ∀ (i : Nat) (v : Value), L[i]? = some (some v) → ls[i]? = some (.val v) ∧ v.category = 1
theorem hm_L.has {ls : Array Slot} {L : List (Option Value)} (h : hm_L ls L) : lv_has ls L.length (hm_al 0 L) := ⟨h.1, h.2.1, fun q hq => by
  obtain ⟨j, v⟩ := q
  obtain ⟨i, e, h1⟩ := hm_al_of L 0 j v hq
  rw [Nat.zero_add] at e
  subst e
  exact (h.2.2 _ v h1).1⟩
theorem hm_L.set {ls ls' : Array Slot} {L : List (Option Value)} {i : Nat} {v : Value} (h : hm_L ls L) (hv : v.category = 1) (h' : lv_has ls' L.length ((i, v) :: (hm_al 0 L).filter (fun q => !(q.1 == i) && !(q.1 + 1 == i && q.2.category == 2)))) : hm_L ls' (L.set i (some v)) := by
  refine ⟨by rw [List.length_set]; exact h'.1, h'.2.1, fun j w hj => ?_⟩
  by_cases e : j = i
  · subst e
    have hl : j < L.length := by
      have := (List.getElem?_eq_some_iff.mp hj).1
      rwa [List.length_set] at this
    rw [List.getElem?_set_self hl] at hj
    cases hj
    exact ⟨h'.2.2 (j, v) List.mem_cons_self, hv⟩
  · rw [List.getElem?_set_ne (Ne.symm e)] at hj
    have hc := (h.2.2 j w hj).2
    refine ⟨h'.2.2 (j, w) (List.mem_cons_of_mem _ (List.mem_filter.mpr ⟨?_, ?_⟩)), hc⟩
    · have := hm_al_in L 0 j w hj
      rwa [Nat.zero_add] at this
    · simp [e, hc]
def hm_sub : List (Option Value) → List (Option Value) → Prop
  | [], [] => True
  | none :: a, _ :: b => hm_sub a b
  | some v :: a, some w :: b => w = v ∧ hm_sub a b
  | _, _ => False
theorem hm_sub_get : ∀ (a b : List (Option Value)), hm_sub a b → a.length = b.length ∧ ∀ (i : Nat) (v : Value), a[i]? = some (some v) → b[i]? = some (some v)
  | [], [], _ => ⟨rfl, fun i v h => h⟩
  | none :: a, y :: b, h => by
    obtain ⟨h1, h2⟩ := hm_sub_get a b (by cases y <;> exact h)
    refine ⟨by simp [h1], fun i v hi => ?_⟩
    cases i with
    | zero => simp at hi
    | succ i => rw [List.getElem?_cons_succ] at hi ⊢; exact h2 i v hi
  | some v :: a, some w :: b, h => by
    obtain ⟨h0, h3⟩ := h
    obtain ⟨h1, h2⟩ := hm_sub_get a b h3
    subst h0
    refine ⟨by simp [h1], fun i v hi => ?_⟩
    cases i with
    | zero => exact hi
    | succ i => rw [List.getElem?_cons_succ] at hi ⊢; exact h2 i v hi
  | some v :: a, none :: b, h => absurd h id
  | [], y :: b, h => absurd h id
  | some v :: a, [], h => absurd h id
  | none :: a, [], h => absurd h id
theorem hm_L.sub {ls : Array Slot} {a b : List (Option Value)} (h : hm_L ls b) (hs : hm_sub a b) : hm_L ls a := by
  obtain ⟨h1, h2⟩ := hm_sub_get a b hs
  exact ⟨by rw [h1]; exact h.1, h.2.1, fun i v hi => h.2.2 i v (h2 i v hi)⟩
theorem hm_args_in : ∀ (vs : List Value) (n i : Nat) (v : Value), (∀ w ∈ vs, w.category = 1) → vs[i]? = some v → (n + i, v) ∈ lv_args n vs
  | [], n, i, v, _, h => by simp at h
  | w :: vs, n, 0, v, hc, h => by
    rw [List.getElem?_cons_zero] at h
    cases h
    exact List.mem_cons_self
  | w :: vs, n, i + 1, v, hc, h => by
    rw [List.getElem?_cons_succ] at h
    have h1 := hm_args_in vs (n + 1) i v (fun x hx => hc x (List.mem_cons_of_mem _ hx)) h
    rw [show n + 1 + i = n + (i + 1) by omega] at h1
    refine List.mem_cons_of_mem _ ?_
    have h2 : ¬ w.category = 2 := by rw [hc w List.mem_cons_self]; decide
    rw [if_neg h2]
    exact h1
theorem hm_entry {vs : List Value} {n k : Nat} {ls : Array Slot} (hc : ∀ w ∈ vs, w.category = 1) (hn : vs.length + k = n) (h : lv_has ls n (lv_args 0 vs)) : hm_L ls (vs.map some ++ List.replicate k none) := by
  refine ⟨by rw [h.1]; simp [hn], h.2.1, fun i v hi => ?_⟩
  by_cases hl : i < vs.length
  · rw [List.getElem?_append_left (by rw [List.length_map]; exact hl), List.getElem?_map] at hi
    have h1 : vs[i]? = some v := by
      cases hq : vs[i]? with
      | none => rw [hq] at hi; cases hi
      | some w => rw [hq] at hi; cases hi; rfl
    have h2 := hm_args_in vs 0 i v hc h1
    rw [Nat.zero_add] at h2
    exact ⟨h.2.2 (i, v) h2, hc v (List.mem_of_getElem? h1)⟩
  · rw [List.getElem?_append_right (by rw [List.length_map]; omega)] at hi
    have := List.mem_replicate.mp (List.mem_of_getElem? hi)
    cases this.2
/-! the words, the arrays, what holds of every state -/
def hm_tbl : List Cond := lw_tbl.filter goodWord
theorem hm_in {w : Cond} (i : Nat) (h : lw_tbl[i]? = some w) (g : goodWord w = true) : w ∈ hm_tbl := List.mem_filter.mpr ⟨List.mem_of_getElem? h, g⟩
def hm_ws (y : MethodName) (cc : ByteArray) (maxL : Nat) (ret : Option FieldType) : List Cond := .code y cc maxL ret :: hm_tbl
def hm_tys (cA : Nat → ClassId) : List (ClassId × FieldType) := [(cA 0, .int), (cA 1, .boolean), (cA 2, .long), (cA 3, .object RX3), (cA 4, .object RX4), (cA 5, .object RX1), (cA 6, .object RX0), (cA 7, .object RX2), (cA 8, .array .int)]
def hm_oK (w : Cond) : Prop := (∃ a i x h, w = .methodLinkNest a i x h) ∨ (∃ C, w = .arrayOver (.object C)) ∨ ∃ C T, w = .castable C T
def hm_Z (A : Nat → Prop) (U : State) (H : Heap) : Prop := vx_Zq Bundle.tN "UNASSIGNED_STACK" Bundle.steD A U H ∧ vx_Zq Bundle.tN "SUPPRESSED_SENTINEL" Bundle.listD A U H
/-- the ground: what every state of the walk keeps -/
def hm_G (D : va_G) (cA : Nat → ClassId) (A : Nat → Prop) (oth : List Cond) (strs : List (String × Nat × String)) (U : State) : Prop :=
  va_K D vwCl (hm_tys cA) U ∧ (∀ q, U.heap.size ≤ q → A q) ∧ (∀ w ∈ oth, hm_oK w ∧ va_Nw w U) ∧ hm_Z A U U.heap ∧ ∀ q ∈ strs, ∃ a : Nat, vk_R q.1 q.2.1 q.2.2 a U
theorem hm_G.same {D : va_G} {cA : Nat → ClassId} {A : Nat → Prop} {oth : List Cond} {strs : List (String × Nat × String)} {u U : State} (hv : U.vm = u.vm) (hh : U.heap = u.heap) (h : hm_G D cA A oth strs u) : hm_G D cA A oth strs U := by
  obtain ⟨h1, h2, h3, h4, h5⟩ := h
  have hal : u.vm.Alike U.vm := by rw [hv]; exact Vm.Alike.refl _
  refine ⟨va_K.moved hal h1, by rw [hh]; exact h2, fun w hw => ⟨(h3 w hw).1, ?_⟩, ?_, fun q hq => ?_⟩
  · rcases (h3 w hw).1 with ⟨a, i, x, h, rfl⟩ | ⟨C, rfl⟩ | ⟨C, T, rfl⟩
    · exact va_Nw.same rfl hv.symm (h3 _ hw).2
    · exact va_AO.moved hal (h3 _ hw).2
    · exact va_Nw.same rfl hv.symm (h3 _ hw).2
  · rw [hh]
    exact ⟨h4.1.moved hal, h4.2.moved hal⟩
  · obtain ⟨a, ha⟩ := h5 q hq
    exact ⟨a, vk_R.same hv ha⟩
theorem hm_G.warm {D : va_G} {cA : Nat → ClassId} {A : Nat → Prop} {oth : List Cond} {strs : List (String × Nat × String)} {s U : State} {locs : List Loc} (hW : s.WarmedH U.vm) (hS : va_S A s.heap U.heap locs) (h : hm_G D cA A oth strs s) : hm_G D cA A oth strs U := by
  obtain ⟨h1, h2, h3, h4, h5⟩ := h
  have hal := hW.alike
  refine ⟨va_K.moved hal h1, fun q hq => h2 q (Nat.le_trans hS.1 hq), fun w hw => ⟨(h3 w hw).1, ?_⟩, ?_, fun q hq => ?_⟩
  · rcases (h3 w hw).1 with ⟨a, i, x, h, rfl⟩ | ⟨C, rfl⟩ | ⟨C, T, rfl⟩
    · exact va_Nw.warmM hW (h3 _ hw).2
    · exact va_AO.moved hal (h3 _ hw).2
    · exact va_Nw.warmC hW (h3 _ hw).2
  · exact ⟨(h4.1.kept hS.2.1).moved hal, (h4.2.kept hS.2.1).moved hal⟩
  · obtain ⟨a, ha⟩ := h5 q hq
    exact ⟨a, vk_R.warm hW ha⟩
def hm_B (D : va_G) (cA : Nat → ClassId) (A : Nat → Prop) (oth : List Cond) (strs : List (String × Nat × String)) (M : hm_M) (U : State) : Prop := hm_P D M U.heap ∧ hm_A A M ∧ hm_G D cA A oth strs U
def hm_Q (D : va_G) (A : Nat → Prop) (post : Option Value → hm_M → Prop) : Array Value → State → Outcome → State → Prop := fun _ st oc t => (∃ (v : Option Value) (M' : hm_M), oc = .returned v ∧ post v M' ∧ hm_P D M' t.heap ∧ hm_A A M') ∧ va_F A st t
def hm_Xq (D : va_G) (A : Nat → Prop) (px : String → hm_M → Prop) : String → State → State → Prop := fun E st t => (∃ M' : hm_M, px E M' ∧ hm_P D M' t.heap ∧ hm_A A M') ∧ va_F A st t
end
section
def hm_oth : List Cond := [.methodLinkNest "SheetVault$Answer" 42 ⟨"SheetVault$Said", "<init>", "()V"⟩ "SheetVault", .methodLinkNest "SheetVault$Answer" 51 ⟨"SheetVault", "taskOf", "(LSheetVault$Version;I)LSheetVault$Entry;"⟩ "SheetVault", .methodLinkNest "SheetVault$Answer" 74 ⟨"SheetVault", "ruleHasPrint", "(II)Z"⟩ "SheetVault", .methodLinkNest "SheetVault$Entry" 28 ⟨"SheetVault", "rowLength", "(I)I"⟩ "SheetVault", .methodLinkNest "SheetVault$Said" 33 ⟨"SheetVault", "printOf", "(III)I"⟩ "SheetVault", .methodLinkNest "SheetVault$Sheet" 65 ⟨"SheetVault", "isPairBy", "(III)Z"⟩ "SheetVault", .methodLinkNest "SheetVault$Sheet" 76 ⟨"SheetVault", "classOf", "(I)I"⟩ "SheetVault", .arrayOver (.object "SheetVault$Answer"), .arrayOver (.object "SheetVault$Entry"), .arrayOver (.object "SheetVault$Said"), .arrayOver (.object "SheetVault$Sheet"), .arrayOver (.object "SheetVault$Version"), .castable "java/lang/IllegalArgumentException" "java/lang/IllegalArgumentException", .castable "java/lang/IllegalStateException" "java/lang/IllegalStateException", .castable "java/lang/IndexOutOfBoundsException" "java/lang/IndexOutOfBoundsException"]
def hm_strs : List (String × Nat × String) := [("SheetVault", 39, "there are 4 sheets"), ("SheetVault", 271, "there is no such class"), ("SheetVault", 287, "there is no such sheet"), ("SheetVault", 275, "there is no such task"), ("SheetVault", 279, "an argument is out of its range"), ("SheetVault", 303, "there were 16 versions"), ("SheetVault", 120, "the quota would be passed"), ("SheetVault", 285, "the words are no row"), ("SheetVault", 84, "the head has no such task"), ("SheetVault", 289, "there is no such version"), ("SheetVault", 98, "the version cannot be folded"), ("SheetVault", 309, "the version has no such task of this kind"), ("SheetVault", 273, "there is no such pupil"), ("SheetVault", 164, "there is an answer"), ("SheetVault", 170, "the sheet is closed for the class"), ("SheetVault", 291, "there is no open answer"), ("SheetVault", 187, "the version has no such task"), ("SheetVault", 202, "there are 12 words"), ("SheetVault", 251, "there is no such place")]
end
section
/-! THE JUDGEMENT: C is the method's whole surrounding; M what is known of the heap; L the locals; st the operand stack -/
abbrev hm_C : Type := Program × Launch × Env × Room × State × MethodId × Array Value × List Frame × Method × Code × va_G × (Nat → ClassId) × (Nat → Prop)
def hm_W (C : hm_C) (k n : Nat) (Q : State → Prop) (M : hm_M) (pc : Nat) (L : List (Option Value)) (st : List Value) : Prop := match C with
  | (p, l, e, R, s, m, args, below, meth, c, D, _, A) => ∀ (H : Heap) (locs : List Loc) (ls : Array Slot), hm_P D M H → hm_A A M → va_S A s.heap H locs → hm_L ls L → W p l e R s m args below meth c H locs k n Q (F0 m pc ls st)
/-- what holds of the surrounding in a method of own with the bytes cc, nL locals, the room rm -/
def hm_X (C : hm_C) (own : String) (cc : ByteArray) (nL : Nat) (ret : Option FieldType) (nm : String) (rm : Room) (cA : Nat → ClassId) : Prop := match C with
  | (p, l, _, R, s, m, args, _, meth, c, D, cA', A) => p.tables.exec = Jvm.exec ∧ c.code = cc ∧ meth.sig.returnType = ret ∧ c.maxLocals = nL ∧ s.vm.findClass own = some m.cls ∧ (∀ w ∈ hm_tbl, w.before args s = true) ∧ meth.locks = false ∧ hm_G D cA' A hm_oth hm_strs s ∧ meth.name = nm ∧ R = rm ∧ cA' = cA ∧ l.stackTraces = false
def hm_T (C : hm_C) (post : Option Value → hm_M → Prop) (mc ms : Nat) : State → Prop := match C with
  | (_, _, _, _, s, _, args, below, _, _, D, _, A) => MQ below (hm_Q D A post) args s mc ms A
def hm_TX (C : hm_C) (post : Option Value → hm_M → Prop) (px : String → hm_M → Prop) (mc ms : Nat) : State → Prop := match C with
  | (_, _, _, _, s, _, args, below, _, _, D, _, A) => vx_MQ below (hm_Q D A post) (hm_Xq D A px) args s mc ms A
/-- a contract: from the memory M, with the arguments vs, it returns, and post holds of the answer and the memory then -/
def hm_Met (cA : Nat → ClassId) (y : MethodName) (cc : ByteArray) (maxL : Nat) (ret : Option FieldType) (rm : Room) (vs : List Value) (M : hm_M) (post : Option Value → hm_M → Prop) : Prop :=
  ∀ (l : Launch) (D : va_G) (A : Nat → Prop), l.stackTraces = false → Met l y (hm_ws y cc maxL ret) rm (va_Pc vs (hm_B D cA A hm_oth hm_strs M)) (hm_Q D A post) rm.cells rm.slots A
/-- a contract of a method that may throw: px of the thrown one's name and the memory then -/
def hm_XMet (cA : Nat → ClassId) (y : MethodName) (cc : ByteArray) (maxL : Nat) (ret : Option FieldType) (rm : Room) (vs : List Value) (M : hm_M) (post : Option Value → hm_M → Prop) (px : String → hm_M → Prop) : Prop :=
  ∀ (l : Launch) (D : va_G) (A : Nat → Prop), l.stackTraces = false → vx_Met l y (hm_ws y cc maxL ret) rm (va_Pc vs (hm_B D cA A hm_oth hm_strs M)) (hm_Q D A post) (hm_Xq D A px) rm.cells rm.slots A
def hm_pu (v : Option Value) (M : hm_M) : Option Value → hm_M → Prop := fun v' M' => v' = v ∧ M' = M
theorem hm_rf (o : Option Nat) : va_rf o = .null ∨ ∃ a, va_rf o = .ref a := by
  cases o with
  | none => exact Or.inl rfl
  | some a => exact Or.inr ⟨a, rfl⟩
theorem hm_rc {v : Value} (h : v = .null ∨ ∃ a, v = .ref a) : v.category = 1 := by
  rcases h with rfl | ⟨a, rfl⟩ <;> rfl
section HR
variable {C : hm_C} {own : String} {cc : ByteArray} {nL : Nat} {ret : Option FieldType} {nm : String} {rm : Room} {cA : Nat → ClassId} {k n : Nat} {Q : State → Prop} {M : hm_M} {pc : Nat} {L : List (Option Value)} {st : List Value}
theorem hr_eq {st2 : List Value} (h : st = st2) (kk : hm_W C k n Q M pc L st2) : hm_W C k n Q M pc L st := h ▸ kk
theorem hr_sub {L2 : List (Option Value)} (h : hm_sub L2 L) (kk : hm_W C k n Q M pc L2 st) : hm_W C k n Q M pc L st := by
  obtain ⟨p, l, e, R, s, m, args, below, meth, c, D, cA', A⟩ := C
  exact fun H locs ls hP hA hS hl => kk H locs ls hP hA hS (hl.sub h)
theorem hr_widen {k2 n2 : Nat} (h1 : k ≤ k2) (h2 : n ≤ n2) (kk : hm_W C k2 n2 Q M pc L st) : hm_W C k n Q M pc L st := by
  obtain ⟨p, l, e, R, s, m, args, below, meth, c, D, cA', A⟩ := C
  exact fun H locs ls hP hA hS hl => W.widen h1 h2 (kk H locs ls hP hA hS hl)
/-- the memory seen otherwise: less of it -/
theorem hr_less {M2 : hm_M} (h : ∀ (a : Nat) (e : va_E), M2 a = some e → M a = some e) (kk : hm_W C k n Q M2 pc L st) : hm_W C k n Q M pc L st := by
  obtain ⟨p, l, e, R, s, m, args, below, meth, c, D, cA', A⟩ := C
  exact fun H locs ls hP hA hS hl => kk H locs ls (fun a e he => hP a e (h a e he)) (fun a e he => hA a e (h a e he)) hS hl
theorem hr_iconst {z : Int} (v : Int32) (X : hm_X C own cc nL ret nm rm cA) (d : decode cc pc = .ok (.iconst z, 1)) (hv : Int32.ofInt z = v) (kk : hm_W C k n Q M (pc + 1) L (.int v :: st)) : hm_W C k n Q M pc L (st) := by
  obtain ⟨p, l, e, R, s, m, args, below, meth, c, D, cA', A⟩ := C
  obtain ⟨hx, hb, hr, hml, hown, hts, hlk, hG, hnm, rfl, rfl, hst⟩ := X
  exact fun H locs ls hP hA hS hl => lv_iconst hx hb d hv (kk H locs ls hP hA hS hl)
theorem hr_bipush {z : Int} (v : Int32) (X : hm_X C own cc nL ret nm rm cA) (d : decode cc pc = .ok (.bipush z, 2)) (hv : (Int8.ofInt z).toInt32 = v) (kk : hm_W C k n Q M (pc + 2) L (.int v :: st)) : hm_W C k n Q M pc L (st) := by
  obtain ⟨p, l, e, R, s, m, args, below, meth, c, D, cA', A⟩ := C
  obtain ⟨hx, hb, hr, hml, hown, hts, hlk, hG, hnm, rfl, rfl, hst⟩ := X
  exact fun H locs ls hP hA hS hl => lv_bipush hx hb d hv (kk H locs ls hP hA hS hl)
theorem hr_sipush {z : Int} (v : Int32) (X : hm_X C own cc nL ret nm rm cA) (d : decode cc pc = .ok (.sipush z, 3)) (hv : (Int16.ofInt z).toInt32 = v) (kk : hm_W C k n Q M (pc + 3) L (.int v :: st)) : hm_W C k n Q M pc L (st) := by
  obtain ⟨p, l, e, R, s, m, args, below, meth, c, D, cA', A⟩ := C
  obtain ⟨hx, hb, hr, hml, hown, hts, hlk, hG, hnm, rfl, rfl, hst⟩ := X
  exact fun H locs ls hP hA hS hl => lv_sipush hx hb d hv (kk H locs ls hP hA hS hl)
theorem hr_null  (X : hm_X C own cc nL ret nm rm cA) (d : decode cc pc = .ok (.aconst_null, 1)) (kk : hm_W C k n Q M (pc + 1) L (.null :: st)) : hm_W C k n Q M pc L (st) := by
  obtain ⟨p, l, e, R, s, m, args, below, meth, c, D, cA', A⟩ := C
  obtain ⟨hx, hb, hr, hml, hown, hts, hlk, hG, hnm, rfl, rfl, hst⟩ := X
  exact fun H locs ls hP hA hS hl => lv_null hx hb d (kk H locs ls hP hA hS hl)
theorem hr_iload_n {i : Fin 4} {x : Int32} (X : hm_X C own cc nL ret nm rm cA) (d : decode cc pc = .ok (.iload_n i, 1)) (h : L[(i : Nat)]? = some (some (.int x))) (kk : hm_W C k n Q M (pc + 1) L (.int x :: st)) : hm_W C k n Q M pc L (st) := by
  obtain ⟨p, l, e, R, s, m, args, below, meth, c, D, cA', A⟩ := C
  obtain ⟨hx, hb, hr, hml, hown, hts, hlk, hG, hnm, rfl, rfl, hst⟩ := X
  exact fun H locs ls hP hA hS hl => lv_iload_n hx hb d rfl (hl.2.2 _ _ h).1 (kk H locs ls hP hA hS hl)
theorem hr_iload {i : Nat} {x : Int32} (X : hm_X C own cc nL ret nm rm cA) (d : decode cc pc = .ok (.iload i, 2)) (h : L[i]? = some (some (.int x))) (kk : hm_W C k n Q M (pc + 2) L (.int x :: st)) : hm_W C k n Q M pc L (st) := by
  obtain ⟨p, l, e, R, s, m, args, below, meth, c, D, cA', A⟩ := C
  obtain ⟨hx, hb, hr, hml, hown, hts, hlk, hG, hnm, rfl, rfl, hst⟩ := X
  exact fun H locs ls hP hA hS hl => lv_iload hx hb d (hl.2.2 _ _ h).1 (kk H locs ls hP hA hS hl)
theorem hr_aload_n {i : Fin 4} {v : Value} (X : hm_X C own cc nL ret nm rm cA) (d : decode cc pc = .ok (.aload_n i, 1)) (h : L[(i : Nat)]? = some (some v)) (hv : v = .null ∨ ∃ a, v = .ref a) (kk : hm_W C k n Q M (pc + 1) L (v :: st)) : hm_W C k n Q M pc L st := by
  obtain ⟨p, l, e, R, s, m, args, below, meth, c, D, cA', A⟩ := C
  obtain ⟨hx, hb, hr, hml, hown, hts, hlk, hG, hnm, rfl, rfl, hst⟩ := X
  intro H locs ls hP hA hS hl
  rcases hv with rfl | ⟨a, rfl⟩
  · exact lv_aload_nN hx hb d rfl (hl.2.2 _ _ h).1 (kk H locs ls hP hA hS hl)
  · exact lv_aload_n hx hb d rfl (hl.2.2 _ _ h).1 (kk H locs ls hP hA hS hl)
theorem hr_aload {i : Nat} {v : Value} (X : hm_X C own cc nL ret nm rm cA) (d : decode cc pc = .ok (.aload i, 2)) (h : L[i]? = some (some v)) (hv : v = .null ∨ ∃ a, v = .ref a) (kk : hm_W C k n Q M (pc + 2) L (v :: st)) : hm_W C k n Q M pc L st := by
  obtain ⟨p, l, e, R, s, m, args, below, meth, c, D, cA', A⟩ := C
  obtain ⟨hx, hb, hr, hml, hown, hts, hlk, hG, hnm, rfl, rfl, hst⟩ := X
  intro H locs ls hP hA hS hl
  rcases hv with rfl | ⟨a, rfl⟩
  · exact lv_aloadN hx hb d (hl.2.2 _ _ h).1 (kk H locs ls hP hA hS hl)
  · exact lv_aload hx hb d (hl.2.2 _ _ h).1 (kk H locs ls hP hA hS hl)
theorem hr_istore_n {i : Fin 4} {x : Int32} (X : hm_X C own cc nL ret nm rm cA) (d : decode cc pc = .ok (.istore_n i, 1)) (hi : (i : Nat) < L.length) (kk : hm_W C k n Q M (pc + 1) (L.set (i : Nat) (some (.int x))) st) : hm_W C k n Q M pc L (.int x :: st) := by
  obtain ⟨p, l, e, R, s, m, args, below, meth, c, D, cA', A⟩ := C
  obtain ⟨hx, hb, hr, hml, hown, hts, hlk, hG, hnm, rfl, rfl, hst⟩ := X
  exact fun H locs ls hP hA hS hl => lv_istore_n hx hb d rfl hl.has hi rfl (fun ls' h' => kk H locs ls' hP hA hS (hl.set rfl h'))
theorem hr_istore {i : Nat} {x : Int32} (X : hm_X C own cc nL ret nm rm cA) (d : decode cc pc = .ok (.istore i, 2)) (hi : i < L.length) (kk : hm_W C k n Q M (pc + 2) (L.set i (some (.int x))) st) : hm_W C k n Q M pc L (.int x :: st) := by
  obtain ⟨p, l, e, R, s, m, args, below, meth, c, D, cA', A⟩ := C
  obtain ⟨hx, hb, hr, hml, hown, hts, hlk, hG, hnm, rfl, rfl, hst⟩ := X
  exact fun H locs ls hP hA hS hl => lv_istore hx hb d hl.has hi rfl (fun ls' h' => kk H locs ls' hP hA hS (hl.set rfl h'))
theorem hr_astore_n {i : Fin 4} {v : Value} (X : hm_X C own cc nL ret nm rm cA) (d : decode cc pc = .ok (.astore_n i, 1)) (hi : (i : Nat) < L.length) (hv : v = .null ∨ ∃ a, v = .ref a) (kk : hm_W C k n Q M (pc + 1) (L.set (i : Nat) (some v)) st) : hm_W C k n Q M pc L (v :: st) := by
  obtain ⟨p, l, e, R, s, m, args, below, meth, c, D, cA', A⟩ := C
  obtain ⟨hx, hb, hr, hml, hown, hts, hlk, hG, hnm, rfl, rfl, hst⟩ := X
  intro H locs ls hP hA hS hl
  rcases hv with rfl | ⟨a, rfl⟩
  · exact lv_astore_nN hx hb d rfl hl.has hi rfl (fun ls' h' => kk H locs ls' hP hA hS (hl.set rfl h'))
  · exact lv_astore_n hx hb d rfl hl.has hi rfl (fun ls' h' => kk H locs ls' hP hA hS (hl.set rfl h'))
theorem hr_astore {i : Nat} {v : Value} (X : hm_X C own cc nL ret nm rm cA) (d : decode cc pc = .ok (.astore i, 2)) (hi : i < L.length) (hv : v = .null ∨ ∃ a, v = .ref a) (kk : hm_W C k n Q M (pc + 2) (L.set i (some v)) st) : hm_W C k n Q M pc L (v :: st) := by
  obtain ⟨p, l, e, R, s, m, args, below, meth, c, D, cA', A⟩ := C
  obtain ⟨hx, hb, hr, hml, hown, hts, hlk, hG, hnm, rfl, rfl, hst⟩ := X
  intro H locs ls hP hA hS hl
  rcases hv with rfl | ⟨a, rfl⟩
  · exact lv_astoreN hx hb d hl.has hi rfl (fun ls' h' => kk H locs ls' hP hA hS (hl.set rfl h'))
  · exact lv_astore hx hb d hl.has hi rfl (fun ls' h' => kk H locs ls' hP hA hS (hl.set rfl h'))
theorem hm_alk {L : List (Option Value)} {i : Nat} {v : Value} (h : L[i]? = some (some v)) : ∃ j : Nat, (hm_al 0 L)[j]? = some (i, v) := by
  have h1 := hm_al_in L 0 i v h
  rw [Nat.zero_add] at h1
  exact List.getElem?_of_mem h1
theorem hr_iinc {i : Nat} {z : Int} {x : Int32} (y : Int32) (X : hm_X C own cc nL ret nm rm cA) (d : decode cc pc = .ok (.iinc i z, 3)) (h : L[i]? = some (some (.int x))) (hz : Int32.ofInt z = y) (kk : hm_W C k n Q M (pc + 3) (L.set i (some (.int (x + y)))) st) : hm_W C k n Q M pc L st := by
  obtain ⟨p, l, e, R, s, m, args, below, meth, c, D, cA', A⟩ := C
  obtain ⟨hx, hb, hr, hml, hown, hts, hlk, hG, hnm, rfl, rfl, hst⟩ := X
  intro H locs ls hP hA hS hl
  obtain ⟨j, hj⟩ := hm_alk h
  exact lv_iinc (v := x + y) hx hb d hl.has hj (by rw [hz]) (List.getElem?_eq_some_iff.mp h).1 rfl (fun ls' h' => kk H locs ls' hP hA hS (hl.set rfl h'))
theorem hr_iadd {x y : Int32} (X : hm_X C own cc nL ret nm rm cA) (d : decode cc pc = .ok (.iadd, 1)) (kk : hm_W C k n Q M (pc + 1) L (.int (x + y) :: st)) : hm_W C k n Q M pc L (.int y :: .int x :: st) := by
  obtain ⟨p, l, e, R, s, m, args, below, meth, c, D, cA', A⟩ := C
  obtain ⟨hx, hb, hr, hml, hown, hts, hlk, hG, hnm, rfl, rfl, hst⟩ := X
  exact fun H locs ls hP hA hS hl => lv_iadd hx hb d (kk H locs ls hP hA hS hl)
theorem hr_isub {x y : Int32} (X : hm_X C own cc nL ret nm rm cA) (d : decode cc pc = .ok (.isub, 1)) (kk : hm_W C k n Q M (pc + 1) L (.int (x - y) :: st)) : hm_W C k n Q M pc L (.int y :: .int x :: st) := by
  obtain ⟨p, l, e, R, s, m, args, below, meth, c, D, cA', A⟩ := C
  obtain ⟨hx, hb, hr, hml, hown, hts, hlk, hG, hnm, rfl, rfl, hst⟩ := X
  exact fun H locs ls hP hA hS hl => lv_isub hx hb d (kk H locs ls hP hA hS hl)
theorem hr_imul {x y : Int32} (X : hm_X C own cc nL ret nm rm cA) (d : decode cc pc = .ok (.imul, 1)) (kk : hm_W C k n Q M (pc + 1) L (.int (x * y) :: st)) : hm_W C k n Q M pc L (.int y :: .int x :: st) := by
  obtain ⟨p, l, e, R, s, m, args, below, meth, c, D, cA', A⟩ := C
  obtain ⟨hx, hb, hr, hml, hown, hts, hlk, hG, hnm, rfl, rfl, hst⟩ := X
  exact fun H locs ls hP hA hS hl => lv_imul hx hb d (kk H locs ls hP hA hS hl)
theorem hr_iand {x y : Int32} (X : hm_X C own cc nL ret nm rm cA) (d : decode cc pc = .ok (.iand, 1)) (kk : hm_W C k n Q M (pc + 1) L (.int (x &&& y) :: st)) : hm_W C k n Q M pc L (.int y :: .int x :: st) := by
  obtain ⟨p, l, e, R, s, m, args, below, meth, c, D, cA', A⟩ := C
  obtain ⟨hx, hb, hr, hml, hown, hts, hlk, hG, hnm, rfl, rfl, hst⟩ := X
  exact fun H locs ls hP hA hS hl => lv_iand hx hb d (kk H locs ls hP hA hS hl)
theorem hr_ior {x y : Int32} (X : hm_X C own cc nL ret nm rm cA) (d : decode cc pc = .ok (.ior, 1)) (kk : hm_W C k n Q M (pc + 1) L (.int (x ||| y) :: st)) : hm_W C k n Q M pc L (.int y :: .int x :: st) := by
  obtain ⟨p, l, e, R, s, m, args, below, meth, c, D, cA', A⟩ := C
  obtain ⟨hx, hb, hr, hml, hown, hts, hlk, hG, hnm, rfl, rfl, hst⟩ := X
  exact fun H locs ls hP hA hS hl => lv_ior hx hb d (kk H locs ls hP hA hS hl)
theorem hr_ixor {x y : Int32} (X : hm_X C own cc nL ret nm rm cA) (d : decode cc pc = .ok (.ixor, 1)) (kk : hm_W C k n Q M (pc + 1) L (.int (x ^^^ y) :: st)) : hm_W C k n Q M pc L (.int y :: .int x :: st) := by
  obtain ⟨p, l, e, R, s, m, args, below, meth, c, D, cA', A⟩ := C
  obtain ⟨hx, hb, hr, hml, hown, hts, hlk, hG, hnm, rfl, rfl, hst⟩ := X
  exact fun H locs ls hP hA hS hl => lv_ixor hx hb d (kk H locs ls hP hA hS hl)
theorem hr_ishl {x y : Int32} (X : hm_X C own cc nL ret nm rm cA) (d : decode cc pc = .ok (.ishl, 1)) (kk : hm_W C k n Q M (pc + 1) L (.int (x <<< (y &&& 31)) :: st)) : hm_W C k n Q M pc L (.int y :: .int x :: st) := by
  obtain ⟨p, l, e, R, s, m, args, below, meth, c, D, cA', A⟩ := C
  obtain ⟨hx, hb, hr, hml, hown, hts, hlk, hG, hnm, rfl, rfl, hst⟩ := X
  exact fun H locs ls hP hA hS hl => lv_ishl hx hb d (kk H locs ls hP hA hS hl)
theorem hr_ishr {x y : Int32} (X : hm_X C own cc nL ret nm rm cA) (d : decode cc pc = .ok (.ishr, 1)) (kk : hm_W C k n Q M (pc + 1) L (.int (x >>> (y &&& 31)) :: st)) : hm_W C k n Q M pc L (.int y :: .int x :: st) := by
  obtain ⟨p, l, e, R, s, m, args, below, meth, c, D, cA', A⟩ := C
  obtain ⟨hx, hb, hr, hml, hown, hts, hlk, hG, hnm, rfl, rfl, hst⟩ := X
  exact fun H locs ls hP hA hS hl => lv_ishr hx hb d (kk H locs ls hP hA hS hl)
theorem hr_iushr {x y : Int32} (X : hm_X C own cc nL ret nm rm cA) (d : decode cc pc = .ok (.iushr, 1)) (kk : hm_W C k n Q M (pc + 1) L (.int ((x.toUInt32 >>> (y.toUInt32 &&& Int32.toUInt32 31)).toInt32) :: st)) : hm_W C k n Q M pc L (.int y :: .int x :: st) := by
  obtain ⟨p, l, e, R, s, m, args, below, meth, c, D, cA', A⟩ := C
  obtain ⟨hx, hb, hr, hml, hown, hts, hlk, hG, hnm, rfl, rfl, hst⟩ := X
  exact fun H locs ls hP hA hS hl => lv_iushr hx hb d rfl (kk H locs ls hP hA hS hl)
theorem hr_idiv {x y : Int32} (X : hm_X C own cc nL ret nm rm cA) (d : decode cc pc = .ok (.idiv, 1)) (h : ¬ y = 0) (kk : hm_W C k n Q M (pc + 1) L (.int (x / y) :: st)) : hm_W C k n Q M pc L (.int y :: .int x :: st) := by
  obtain ⟨p, l, e, R, s, m, args, below, meth, c, D, cA', A⟩ := C
  obtain ⟨hx, hb, hr, hml, hown, hts, hlk, hG, hnm, rfl, rfl, hst⟩ := X
  exact fun H locs ls hP hA hS hl => lv_idiv hx hb d h (kk H locs ls hP hA hS hl)
theorem hr_irem {x y : Int32} (X : hm_X C own cc nL ret nm rm cA) (d : decode cc pc = .ok (.irem, 1)) (h : ¬ y = 0) (kk : hm_W C k n Q M (pc + 1) L (.int (x - x / y * y) :: st)) : hm_W C k n Q M pc L (.int y :: .int x :: st) := by
  obtain ⟨p, l, e, R, s, m, args, below, meth, c, D, cA', A⟩ := C
  obtain ⟨hx, hb, hr, hml, hown, hts, hlk, hG, hnm, rfl, rfl, hst⟩ := X
  exact fun H locs ls hP hA hS hl => lv_irem hx hb d h (kk H locs ls hP hA hS hl)
theorem hr_ineg {x : Int32} (X : hm_X C own cc nL ret nm rm cA) (d : decode cc pc = .ok (.ineg, 1)) (kk : hm_W C k n Q M (pc + 1) L (.int (-x) :: st)) : hm_W C k n Q M pc L (.int x :: st) := by
  obtain ⟨p, l, e, R, s, m, args, below, meth, c, D, cA', A⟩ := C
  obtain ⟨hx, hb, hr, hml, hown, hts, hlk, hG, hnm, rfl, rfl, hst⟩ := X
  exact fun H locs ls hP hA hS hl => lv_ineg hx hb d (kk H locs ls hP hA hS hl)
theorem hr_i2l {x : Int32} (X : hm_X C own cc nL ret nm rm cA) (d : decode cc pc = .ok (.i2l, 1)) (kk : hm_W C k n Q M (pc + 1) L (.long x.toInt64 :: st)) : hm_W C k n Q M pc L (.int x :: st) := by
  obtain ⟨p, l, e, R, s, m, args, below, meth, c, D, cA', A⟩ := C
  obtain ⟨hx, hb, hr, hml, hown, hts, hlk, hG, hnm, rfl, rfl, hst⟩ := X
  exact fun H locs ls hP hA hS hl => lv_i2l hx hb d rfl (kk H locs ls hP hA hS hl)
theorem hr_lcmp {x y : Int64} (X : hm_X C own cc nL ret nm rm cA) (d : decode cc pc = .ok (.lcmp, 1)) (kk : hm_W C k n Q M (pc + 1) L (.int (lg_cmp x y) :: st)) : hm_W C k n Q M pc L (.long y :: .long x :: st) := by
  obtain ⟨p, l, e, R, s, m, args, below, meth, c, D, cA', A⟩ := C
  obtain ⟨hx, hb, hr, hml, hown, hts, hlk, hG, hnm, rfl, rfl, hst⟩ := X
  exact fun H locs ls hP hA hS hl => W.lcmp hx hb d (kk H locs ls hP hA hS hl)
theorem hr_dup {v : Value} (X : hm_X C own cc nL ret nm rm cA) (d : decode cc pc = .ok (.dup, 1)) (hv : v.category = 1) (kk : hm_W C k n Q M (pc + 1) L (v :: v :: st)) : hm_W C k n Q M pc L (v :: st) := by
  obtain ⟨p, l, e, R, s, m, args, below, meth, c, D, cA', A⟩ := C
  obtain ⟨hx, hb, hr, hml, hown, hts, hlk, hG, hnm, rfl, rfl, hst⟩ := X
  exact fun H locs ls hP hA hS hl => lv_dup hx hb d hv (kk H locs ls hP hA hS hl)
theorem hr_dup2 {v w : Value} (X : hm_X C own cc nL ret nm rm cA) (d : decode cc pc = .ok (.dup2, 1)) (hv : v.category = 1) (hw : w.category = 1) (kk : hm_W C k n Q M (pc + 1) L (v :: w :: v :: w :: st)) : hm_W C k n Q M pc L (v :: w :: st) := by
  obtain ⟨p, l, e, R, s, m, args, below, meth, c, D, cA', A⟩ := C
  obtain ⟨hx, hb, hr, hml, hown, hts, hlk, hG, hnm, rfl, rfl, hst⟩ := X
  exact fun H locs ls hP hA hS hl => lv_dup2_11 hx hb d hv hw (kk H locs ls hP hA hS hl)
theorem hr_goto {off : Int} (tgt : Nat) (X : hm_X C own cc nL ret nm rm cA) (d : decode cc pc = .ok (.goto off, 3)) (ht : (pc : Int) + off = (tgt : Int)) (kk : hm_W C k n Q M tgt L st) : hm_W C k n Q M pc L st := by
  obtain ⟨p, l, e, R, s, m, args, below, meth, c, D, cA', A⟩ := C
  obtain ⟨hx, hb, hr, hml, hown, hts, hlk, hG, hnm, rfl, rfl, hst⟩ := X
  exact fun H locs ls hP hA hS hl => lv_goto hx hb d ht (kk H locs ls hP hA hS hl)
theorem hr_if_eq {x : Int32} {off : Int} (tgt : Nat) (X : hm_X C own cc nL ret nm rm cA) (d : decode cc pc = .ok (.ifCond .eq off, 3)) (ht : (pc : Int) + off = (tgt : Int)) (kt : x = 0 → hm_W C k n Q M tgt L st) (kf : ¬ (x = 0) → hm_W C k n Q M (pc + 3) L st) : hm_W C k n Q M pc L (.int x :: st) := by
  obtain ⟨p, l, e, R, s, m, args, below, meth, c, D, cA', A⟩ := C
  obtain ⟨hx, hb, hr, hml, hown, hts, hlk, hG, hnm, rfl, rfl, hst⟩ := X
  exact fun H locs ls hP hA hS hl => lv_if_eq hx hb d ht (fun q => kt q H locs ls hP hA hS hl) (fun q => kf q H locs ls hP hA hS hl)
theorem hr_if_ne {x : Int32} {off : Int} (tgt : Nat) (X : hm_X C own cc nL ret nm rm cA) (d : decode cc pc = .ok (.ifCond .ne off, 3)) (ht : (pc : Int) + off = (tgt : Int)) (kt : ¬ x = 0 → hm_W C k n Q M tgt L st) (kf : x = 0 → hm_W C k n Q M (pc + 3) L st) : hm_W C k n Q M pc L (.int x :: st) := by
  obtain ⟨p, l, e, R, s, m, args, below, meth, c, D, cA', A⟩ := C
  obtain ⟨hx, hb, hr, hml, hown, hts, hlk, hG, hnm, rfl, rfl, hst⟩ := X
  exact fun H locs ls hP hA hS hl => lv_if_ne hx hb d ht (fun q => kt q H locs ls hP hA hS hl) (fun q => kf q H locs ls hP hA hS hl)
theorem hr_if_lt {x : Int32} {off : Int} (tgt : Nat) (X : hm_X C own cc nL ret nm rm cA) (d : decode cc pc = .ok (.ifCond .lt off, 3)) (ht : (pc : Int) + off = (tgt : Int)) (kt : x < 0 → hm_W C k n Q M tgt L st) (kf : ¬ (x < 0) → hm_W C k n Q M (pc + 3) L st) : hm_W C k n Q M pc L (.int x :: st) := by
  obtain ⟨p, l, e, R, s, m, args, below, meth, c, D, cA', A⟩ := C
  obtain ⟨hx, hb, hr, hml, hown, hts, hlk, hG, hnm, rfl, rfl, hst⟩ := X
  exact fun H locs ls hP hA hS hl => lv_if_lt hx hb d ht (fun q => kt q H locs ls hP hA hS hl) (fun q => kf q H locs ls hP hA hS hl)
theorem hr_if_ge {x : Int32} {off : Int} (tgt : Nat) (X : hm_X C own cc nL ret nm rm cA) (d : decode cc pc = .ok (.ifCond .ge off, 3)) (ht : (pc : Int) + off = (tgt : Int)) (kt : 0 ≤ x → hm_W C k n Q M tgt L st) (kf : ¬ (0 ≤ x) → hm_W C k n Q M (pc + 3) L st) : hm_W C k n Q M pc L (.int x :: st) := by
  obtain ⟨p, l, e, R, s, m, args, below, meth, c, D, cA', A⟩ := C
  obtain ⟨hx, hb, hr, hml, hown, hts, hlk, hG, hnm, rfl, rfl, hst⟩ := X
  exact fun H locs ls hP hA hS hl => lv_if_ge hx hb d ht (fun q => kt q H locs ls hP hA hS hl) (fun q => kf q H locs ls hP hA hS hl)
theorem hr_if_gt {x : Int32} {off : Int} (tgt : Nat) (X : hm_X C own cc nL ret nm rm cA) (d : decode cc pc = .ok (.ifCond .gt off, 3)) (ht : (pc : Int) + off = (tgt : Int)) (kt : 0 < x → hm_W C k n Q M tgt L st) (kf : ¬ (0 < x) → hm_W C k n Q M (pc + 3) L st) : hm_W C k n Q M pc L (.int x :: st) := by
  obtain ⟨p, l, e, R, s, m, args, below, meth, c, D, cA', A⟩ := C
  obtain ⟨hx, hb, hr, hml, hown, hts, hlk, hG, hnm, rfl, rfl, hst⟩ := X
  exact fun H locs ls hP hA hS hl => lv_if_gt hx hb d ht (fun q => kt q H locs ls hP hA hS hl) (fun q => kf q H locs ls hP hA hS hl)
theorem hr_if_le {x : Int32} {off : Int} (tgt : Nat) (X : hm_X C own cc nL ret nm rm cA) (d : decode cc pc = .ok (.ifCond .le off, 3)) (ht : (pc : Int) + off = (tgt : Int)) (kt : x ≤ 0 → hm_W C k n Q M tgt L st) (kf : ¬ (x ≤ 0) → hm_W C k n Q M (pc + 3) L st) : hm_W C k n Q M pc L (.int x :: st) := by
  obtain ⟨p, l, e, R, s, m, args, below, meth, c, D, cA', A⟩ := C
  obtain ⟨hx, hb, hr, hml, hown, hts, hlk, hG, hnm, rfl, rfl, hst⟩ := X
  exact fun H locs ls hP hA hS hl => lv_if_le hx hb d ht (fun q => kt q H locs ls hP hA hS hl) (fun q => kf q H locs ls hP hA hS hl)
theorem hr_icmp_eq {x y : Int32} {off : Int} (tgt : Nat) (X : hm_X C own cc nL ret nm rm cA) (d : decode cc pc = .ok (.if_icmp .eq off, 3)) (ht : (pc : Int) + off = (tgt : Int)) (kt : x = y → hm_W C k n Q M tgt L st) (kf : ¬ (x = y) → hm_W C k n Q M (pc + 3) L st) : hm_W C k n Q M pc L (.int y :: .int x :: st) := by
  obtain ⟨p, l, e, R, s, m, args, below, meth, c, D, cA', A⟩ := C
  obtain ⟨hx, hb, hr, hml, hown, hts, hlk, hG, hnm, rfl, rfl, hst⟩ := X
  exact fun H locs ls hP hA hS hl => lv_icmp_eq hx hb d ht (fun q => kt q H locs ls hP hA hS hl) (fun q => kf q H locs ls hP hA hS hl)
theorem hr_icmp_ne {x y : Int32} {off : Int} (tgt : Nat) (X : hm_X C own cc nL ret nm rm cA) (d : decode cc pc = .ok (.if_icmp .ne off, 3)) (ht : (pc : Int) + off = (tgt : Int)) (kt : ¬ x = y → hm_W C k n Q M tgt L st) (kf : x = y → hm_W C k n Q M (pc + 3) L st) : hm_W C k n Q M pc L (.int y :: .int x :: st) := by
  obtain ⟨p, l, e, R, s, m, args, below, meth, c, D, cA', A⟩ := C
  obtain ⟨hx, hb, hr, hml, hown, hts, hlk, hG, hnm, rfl, rfl, hst⟩ := X
  exact fun H locs ls hP hA hS hl => lv_icmp_ne hx hb d ht (fun q => kt q H locs ls hP hA hS hl) (fun q => kf q H locs ls hP hA hS hl)
theorem hr_icmp_lt {x y : Int32} {off : Int} (tgt : Nat) (X : hm_X C own cc nL ret nm rm cA) (d : decode cc pc = .ok (.if_icmp .lt off, 3)) (ht : (pc : Int) + off = (tgt : Int)) (kt : x < y → hm_W C k n Q M tgt L st) (kf : ¬ (x < y) → hm_W C k n Q M (pc + 3) L st) : hm_W C k n Q M pc L (.int y :: .int x :: st) := by
  obtain ⟨p, l, e, R, s, m, args, below, meth, c, D, cA', A⟩ := C
  obtain ⟨hx, hb, hr, hml, hown, hts, hlk, hG, hnm, rfl, rfl, hst⟩ := X
  exact fun H locs ls hP hA hS hl => lv_icmp_lt hx hb d ht (fun q => kt q H locs ls hP hA hS hl) (fun q => kf q H locs ls hP hA hS hl)
theorem hr_icmp_ge {x y : Int32} {off : Int} (tgt : Nat) (X : hm_X C own cc nL ret nm rm cA) (d : decode cc pc = .ok (.if_icmp .ge off, 3)) (ht : (pc : Int) + off = (tgt : Int)) (kt : y ≤ x → hm_W C k n Q M tgt L st) (kf : ¬ (y ≤ x) → hm_W C k n Q M (pc + 3) L st) : hm_W C k n Q M pc L (.int y :: .int x :: st) := by
  obtain ⟨p, l, e, R, s, m, args, below, meth, c, D, cA', A⟩ := C
  obtain ⟨hx, hb, hr, hml, hown, hts, hlk, hG, hnm, rfl, rfl, hst⟩ := X
  exact fun H locs ls hP hA hS hl => lv_icmp_ge hx hb d ht (fun q => kt q H locs ls hP hA hS hl) (fun q => kf q H locs ls hP hA hS hl)
theorem hr_icmp_gt {x y : Int32} {off : Int} (tgt : Nat) (X : hm_X C own cc nL ret nm rm cA) (d : decode cc pc = .ok (.if_icmp .gt off, 3)) (ht : (pc : Int) + off = (tgt : Int)) (kt : y < x → hm_W C k n Q M tgt L st) (kf : ¬ (y < x) → hm_W C k n Q M (pc + 3) L st) : hm_W C k n Q M pc L (.int y :: .int x :: st) := by
  obtain ⟨p, l, e, R, s, m, args, below, meth, c, D, cA', A⟩ := C
  obtain ⟨hx, hb, hr, hml, hown, hts, hlk, hG, hnm, rfl, rfl, hst⟩ := X
  exact fun H locs ls hP hA hS hl => lv_icmp_gt hx hb d ht (fun q => kt q H locs ls hP hA hS hl) (fun q => kf q H locs ls hP hA hS hl)
theorem hr_icmp_le {x y : Int32} {off : Int} (tgt : Nat) (X : hm_X C own cc nL ret nm rm cA) (d : decode cc pc = .ok (.if_icmp .le off, 3)) (ht : (pc : Int) + off = (tgt : Int)) (kt : x ≤ y → hm_W C k n Q M tgt L st) (kf : ¬ (x ≤ y) → hm_W C k n Q M (pc + 3) L st) : hm_W C k n Q M pc L (.int y :: .int x :: st) := by
  obtain ⟨p, l, e, R, s, m, args, below, meth, c, D, cA', A⟩ := C
  obtain ⟨hx, hb, hr, hml, hown, hts, hlk, hG, hnm, rfl, rfl, hst⟩ := X
  exact fun H locs ls hP hA hS hl => lv_icmp_le hx hb d ht (fun q => kt q H locs ls hP hA hS hl) (fun q => kf q H locs ls hP hA hS hl)
theorem hr_ifnull {o : Option Nat} {off : Int} (tgt : Nat) (X : hm_X C own cc nL ret nm rm cA) (d : decode cc pc = .ok (.ifnull off, 3)) (ht : (pc : Int) + off = (tgt : Int)) (kt : o = none → hm_W C k n Q M tgt L st) (kf : ∀ a, o = some a → hm_W C k n Q M (pc + 3) L st) : hm_W C k n Q M pc L (va_rf o :: st) := by
  obtain ⟨p, l, e, R, s, m, args, below, meth, c, D, cA', A⟩ := C
  obtain ⟨hx, hb, hr, hml, hown, hts, hlk, hG, hnm, rfl, rfl, hst⟩ := X
  intro H locs ls hP hA hS hl
  cases o with
  | none => exact lv_ifnullN hx hb d ht (kt rfl H locs ls hP hA hS hl)
  | some a => exact lv_ifnull hx hb d (kf a rfl H locs ls hP hA hS hl)
theorem hr_ifnonnull {o : Option Nat} {off : Int} (tgt : Nat) (X : hm_X C own cc nL ret nm rm cA) (d : decode cc pc = .ok (.ifnonnull off, 3)) (ht : (pc : Int) + off = (tgt : Int)) (kt : ∀ a, o = some a → hm_W C k n Q M tgt L st) (kf : o = none → hm_W C k n Q M (pc + 3) L st) : hm_W C k n Q M pc L (va_rf o :: st) := by
  obtain ⟨p, l, e, R, s, m, args, below, meth, c, D, cA', A⟩ := C
  obtain ⟨hx, hb, hr, hml, hown, hts, hlk, hG, hnm, rfl, rfl, hst⟩ := X
  intro H locs ls hP hA hS hl
  cases o with
  | none => exact lv_ifnonnullN hx hb d (kf rfl H locs ls hP hA hS hl)
  | some a => exact lv_ifnonnull hx hb d ht (kt a rfl H locs ls hP hA hS hl)
theorem hr_ifnullR {a : Nat} {off : Int} (X : hm_X C own cc nL ret nm rm cA) (d : decode cc pc = .ok (.ifnull off, 3)) (kk : hm_W C k n Q M (pc + 3) L st) : hm_W C k n Q M pc L (.ref a :: st) := by
  obtain ⟨p, l, e, R, s, m, args, below, meth, c, D, cA', A⟩ := C
  obtain ⟨hx, hb, hr, hml, hown, hts, hlk, hG, hnm, rfl, rfl, hst⟩ := X
  exact fun H locs ls hP hA hS hl => lv_ifnull hx hb d (kk H locs ls hP hA hS hl)
theorem hr_ifnonnullR {a : Nat} {off : Int} (tgt : Nat) (X : hm_X C own cc nL ret nm rm cA) (d : decode cc pc = .ok (.ifnonnull off, 3)) (ht : (pc : Int) + off = (tgt : Int)) (kk : hm_W C k n Q M tgt L st) : hm_W C k n Q M pc L (.ref a :: st) := by
  obtain ⟨p, l, e, R, s, m, args, below, meth, c, D, cA', A⟩ := C
  obtain ⟨hx, hb, hr, hml, hown, hts, hlk, hG, hnm, rfl, rfl, hst⟩ := X
  exact fun H locs ls hP hA hS hl => lv_ifnonnull hx hb d ht (kk H locs ls hP hA hS hl)
theorem hr_acmp_ne {rx ry : Option Nat} {off : Int} (tgt : Nat) (X : hm_X C own cc nL ret nm rm cA) (d : decode cc pc = .ok (.if_acmp .ne off, 3)) (ht : (pc : Int) + off = (tgt : Int)) (kt : ¬ rx = ry → hm_W C k n Q M tgt L st) (kf : rx = ry → hm_W C k n Q M (pc + 3) L st) : hm_W C k n Q M pc L (va_rf ry :: va_rf rx :: st) := by
  obtain ⟨p, l, e, R, s, m, args, below, meth, c, D, cA', A⟩ := C
  obtain ⟨hx, hb, hr, hml, hown, hts, hlk, hG, hnm, rfl, rfl, hst⟩ := X
  exact fun H locs ls hP hA hS hl => lv_acmp_ne hx hb d ht (fun q => kt q H locs ls hP hA hS hl) (fun q => kf q H locs ls hP hA hS hl)
/-- a field's place: the field k of the objects ci, as own's entry idx links it -/
def hm_lF (own : String) (idx ci k : Nat) (rt : FieldType) (fin ini : Bool) : Prop := ∃ (E : String) (T : u_T) (N : Nat) (ty0 : Nat → FieldType), vwCl[ci]? = some (E, T, N) ∧ k < N ∧ Cond.fieldLink own idx (T k).1 (T k).2.1 (T k).2.2.1 ∈ hm_tbl ∧ (∀ w ∈ u_ws E T N, w ∈ hm_tbl) ∧ (∀ j, j < N → parseFieldDescriptor (T j).2.2.1 = some (ty0 j)) ∧ (∀ a, a < N → ∀ b, b < N → a ≠ b → (T a).2.1 ≠ (T b).2.1) ∧ ty0 k = rt ∧ (T k).2.2.2 = fin ∧ (ini = true → fin = true ∧ (T k).1 = own)
theorem hr_get {idx ci j a : Nat} {rt : FieldType} {fin ini : Bool} {fs : List Value} {v : Value} (X : hm_X C own cc nL ret nm rm cA) (lF : hm_lF own idx ci j rt fin ini) (d : decode cc pc = .ok (.getfield idx, 3)) (hM : M a = some (.inr (ci, fs))) (hv : fs[j]? = some v) (kk : hm_W C k n Q M (pc + 3) L (v :: st)) : hm_W C k n Q M pc L (.ref a :: st) := by
  obtain ⟨p, l, e, R, s, m, args, below, meth, c, D, cA', A⟩ := C
  obtain ⟨hx, hb, hr, hml, hown, hts, hlk, hG, hnm, rfl, rfl, hst⟩ := X
  obtain ⟨E, T, N, ty0, h1, h2, h3, h4, -⟩ := lF
  exact fun H locs ls hP hA hS hl => va_get (D := D) (cl := vwCl) (tys := hm_tys cA') hx hb hts h4 hown hG.1 (hm_one hP hM) 0 rfl h1 j h2 (hts _ h3) (fun _ h => h) hv d (kk H locs ls hP hA hS hl)
theorem hr_put {idx ci j a : Nat} {rt : FieldType} {ini : Bool} {fs : List Value} {v : Value} (X : hm_X C own cc nL ret nm rm cA) (lF : hm_lF own idx ci j rt false ini) (d : decode cc pc = .ok (.putfield idx, 3)) (hM : M a = some (.inr (ci, fs))) (hn : narrow rt v = v) (hf : fits rt v = true) (hl0 : j < fs.length) (kk : hm_W C k n Q (hm_up M a (.inr (ci, fs.set j v))) (pc + 3) L st) : hm_W C k n Q M pc L (v :: .ref a :: st) := by
  obtain ⟨p, l, e, R, s, m, args, below, meth, c, D, cA', A⟩ := C
  obtain ⟨hx, hb, hr, hml, hown, hts, hlk, hG, hnm, rfl, rfl, hst⟩ := X
  obtain ⟨E, T, N, ty0, h1, h2, h3, h4, h5, h6, rfl, h8, h9⟩ := lF
  intro H locs ls hP hA hS hl
  obtain ⟨ws, wP, wD, hin', -⟩ := hm_list hP hA
  obtain ⟨q0, hq⟩ := hin' _ _ hM
  exact va_put (D := D) (cl := vwCl) (tys := hm_tys cA') hx hb hts h4 ty0 h5 h6 hown hG.1 wP wD hS q0 hq h1 j h2 (hts _ h3) (fun _ h => h) h8 (h5 j h2) hn hf hl0 d (fun H1 locs1 p1 _ s1 => kk H1 locs1 ls (hm_set hin' hq p1) (hA.up (hA _ _ hM)) s1 hl)
theorem hr_putF {idx ci j a : Nat} {rt : FieldType} {ini : Bool} {fs : List Value} {v : Value} (X : hm_X C own cc nL ret nm rm cA) (lF : hm_lF own idx ci j rt true true) (d : decode cc pc = .ok (.putfield idx, 3)) (hM : M a = some (.inr (ci, fs))) (hn : narrow rt v = v) (hf : fits rt v = true) (hl0 : j < fs.length) (hin : nm = "<init>") (kk : hm_W C k n Q (hm_up M a (.inr (ci, fs.set j v))) (pc + 3) L st) : hm_W C k n Q M pc L (v :: .ref a :: st) := by
  obtain ⟨p, l, e, R, s, m, args, below, meth, c, D, cA', A⟩ := C
  obtain ⟨hx, hb, hr, hml, hown, hts, hlk, hG, hnm, rfl, rfl, hst⟩ := X
  obtain ⟨E, T, N, ty0, h1, h2, h3, h4, h5, h6, rfl, h8, h9⟩ := lF
  intro H locs ls hP hA hS hl
  obtain ⟨ws, wP, wD, hin', -⟩ := hm_list hP hA
  obtain ⟨q0, hq⟩ := hin' _ _ hM
  exact va_putF (D := D) (cl := vwCl) (tys := hm_tys cA') hx hb hts h4 ty0 h5 h6 hown hG.1 wP wD hS q0 hq h1 j h2 (hts _ h3) (fun _ h => h) h8 (hnm.trans hin) (h9 rfl).2 (h5 j h2) hn hf hl0 d (fun H1 locs1 p1 _ s1 => kk H1 locs1 ls (hm_set hin' hq p1) (hA.up (hA _ _ hM)) s1 hl)
theorem hr_iald {a N : Nat} {f : Nat → Int32} {i : Int32} (X : hm_X C own cc nL ret nm rm cA) (d : decode cc pc = .ok (.iaload, 1)) (hM : M a = some (.inl (cA 0, N, .inl f))) (hi : vp_in i N) (kk : hm_W C k n Q M (pc + 1) L (.int (f i.toNatClampNeg) :: st)) : hm_W C k n Q M pc L (.int i :: .ref a :: st) := by
  obtain ⟨p, l, e, R, s, m, args, below, meth, c, D, cA', A⟩ := C
  obtain ⟨hx, hb, hr, hml, hown, hts, hlk, hG, hnm, rfl, rfl, hst⟩ := X
  exact fun H locs ls hP hA hS hl => va_iald (D := D) (cl := vwCl) (tys := hm_tys cA') hx hb hG.1 (hm_one hP hM) 0 0 rfl rfl hi d (kk H locs ls hP hA hS hl)
theorem hr_zald {a N : Nat} {f : Nat → Int32} {i : Int32} (X : hm_X C own cc nL ret nm rm cA) (d : decode cc pc = .ok (.baload, 1)) (hM : M a = some (.inl (cA 1, N, .inl f))) (hi : vp_in i N) (kk : hm_W C k n Q M (pc + 1) L (.int (f i.toNatClampNeg) :: st)) : hm_W C k n Q M pc L (.int i :: .ref a :: st) := by
  obtain ⟨p, l, e, R, s, m, args, below, meth, c, D, cA', A⟩ := C
  obtain ⟨hx, hb, hr, hml, hown, hts, hlk, hG, hnm, rfl, rfl, hst⟩ := X
  exact fun H locs ls hP hA hS hl => va_zald (D := D) (cl := vwCl) (tys := hm_tys cA') hx hb hG.1 (hm_one hP hM) 0 1 rfl rfl hi d (kk H locs ls hP hA hS hl)
theorem hr_lald {a N : Nat} {f : Nat → Int64} {i : Int32} (X : hm_X C own cc nL ret nm rm cA) (d : decode cc pc = .ok (.laload, 1)) (hM : M a = some (.inl (cA 2, N, .inr (.inl f)))) (hi : vp_in i N) (kk : hm_W C k n Q M (pc + 1) L (.long (f i.toNatClampNeg) :: st)) : hm_W C k n Q M pc L (.int i :: .ref a :: st) := by
  obtain ⟨p, l, e, R, s, m, args, below, meth, c, D, cA', A⟩ := C
  obtain ⟨hx, hb, hr, hml, hown, hts, hlk, hG, hnm, rfl, rfl, hst⟩ := X
  exact fun H locs ls hP hA hS hl => va_lald (D := D) (cl := vwCl) (tys := hm_tys cA') hx hb hG.1 (hm_one hP hM) 0 2 rfl rfl hi d (kk H locs ls hP hA hS hl)
theorem hr_iast {a N : Nat} {f : Nat → Int32} {i : Int32} {x : Int32} (X : hm_X C own cc nL ret nm rm cA) (d : decode cc pc = .ok (.iastore, 1)) (hM : M a = some (.inl (cA 0, N, .inl f))) (hi : vp_in i N) (kk : hm_W C k n Q (hm_up M a (.inl (cA 0, N, .inl (upd f i.toNatClampNeg x)))) (pc + 1) L st) : hm_W C k n Q M pc L (.int x :: .int i :: .ref a :: st) := by
  obtain ⟨p, l, e, R, s, m, args, below, meth, c, D, cA', A⟩ := C
  obtain ⟨hx, hb, hr, hml, hown, hts, hlk, hG, hnm, rfl, rfl, hst⟩ := X
  intro H locs ls hP hA hS hl
  obtain ⟨ws, wP, wD, hin', -⟩ := hm_list hP hA
  obtain ⟨q0, hq⟩ := hin' _ _ hM
  exact va_iast (D := D) (cl := vwCl) (tys := hm_tys cA') hx hb hG.1 wP wD hS q0 0 hq rfl hi d (fun H1 locs1 p1 _ s1 => kk H1 locs1 ls (hm_set hin' hq p1) (hA.up (hA _ _ hM)) s1 hl)
theorem hr_zast {a N : Nat} {f : Nat → Int32} {i : Int32} {x : Int32} (X : hm_X C own cc nL ret nm rm cA) (d : decode cc pc = .ok (.bastore, 1)) (hM : M a = some (.inl (cA 1, N, .inl f))) (hi : vp_in i N) (kk : hm_W C k n Q (hm_up M a (.inl (cA 1, N, .inl (upd f i.toNatClampNeg (vp_nar .boolean x))))) (pc + 1) L st) : hm_W C k n Q M pc L (.int x :: .int i :: .ref a :: st) := by
  obtain ⟨p, l, e, R, s, m, args, below, meth, c, D, cA', A⟩ := C
  obtain ⟨hx, hb, hr, hml, hown, hts, hlk, hG, hnm, rfl, rfl, hst⟩ := X
  intro H locs ls hP hA hS hl
  obtain ⟨ws, wP, wD, hin', -⟩ := hm_list hP hA
  obtain ⟨q0, hq⟩ := hin' _ _ hM
  exact va_zast (D := D) (cl := vwCl) (tys := hm_tys cA') hx hb hG.1 wP wD hS q0 1 hq rfl hi d (fun H1 locs1 p1 _ s1 => kk H1 locs1 ls (hm_set hin' hq p1) (hA.up (hA _ _ hM)) s1 hl)
theorem hr_last {a N : Nat} {f : Nat → Int64} {i : Int32} {x : Int64} (X : hm_X C own cc nL ret nm rm cA) (d : decode cc pc = .ok (.lastore, 1)) (hM : M a = some (.inl (cA 2, N, .inr (.inl f)))) (hi : vp_in i N) (kk : hm_W C k n Q (hm_up M a (.inl (cA 2, N, .inr (.inl (vp_updL f i.toNatClampNeg x))))) (pc + 1) L st) : hm_W C k n Q M pc L (.long x :: .int i :: .ref a :: st) := by
  obtain ⟨p, l, e, R, s, m, args, below, meth, c, D, cA', A⟩ := C
  obtain ⟨hx, hb, hr, hml, hown, hts, hlk, hG, hnm, rfl, rfl, hst⟩ := X
  intro H locs ls hP hA hS hl
  obtain ⟨ws, wP, wD, hin', -⟩ := hm_list hP hA
  obtain ⟨q0, hq⟩ := hin' _ _ hM
  exact va_last (D := D) (cl := vwCl) (tys := hm_tys cA') hx hb hG.1 wP wD hS q0 2 hq rfl hi d (fun H1 locs1 p1 _ s1 => kk H1 locs1 ls (hm_set hin' hq p1) (hA.up (hA _ _ hM)) s1 hl)
theorem hr_aald (t : Nat) {a N : Nat} {f : Nat → Option Nat} {i : Int32} {E : String} (X : hm_X C own cc nL ret nm rm cA) (ht : (hm_tys cA)[t]? = some (cA t, .object E)) (d : decode cc pc = .ok (.aaload, 1)) (hM : M a = some (.inl (cA t, N, .inr (.inr (.inr (.inr f)))))) (hi : vp_in i N) (kk : hm_W C k n Q M (pc + 1) L (va_rf (f i.toNatClampNeg) :: st)) : hm_W C k n Q M pc L (.int i :: .ref a :: st) := by
  obtain ⟨p, l, e, R, s, m, args, below, meth, c, D, cA', A⟩ := C
  obtain ⟨hx, hb, hr, hml, hown, hts, hlk, hG, hnm, rfl, rfl, hst⟩ := X
  exact fun H locs ls hP hA hS hl => va_aldq (D := D) (cl := vwCl) (tys := hm_tys cA') hx hb hG.1 (hm_one hP hM) 0 t rfl ht hi d (kk H locs ls hP hA hS hl)
theorem hr_aast (t ci : Nat) {a N v : Nat} {f : Nat → Option Nat} {i : Int32} {r : vw_C} {vs : List Value} (X : hm_X C own cc nL ret nm rm cA) (ht : (hm_tys cA)[t]? = some (cA t, .object r.1)) (hc : vwCl[ci]? = some r) (d : decode cc pc = .ok (.aastore, 1)) (hM : M a = some (.inl (cA t, N, .inr (.inr (.inr (.inr f)))))) (hv : M v = some (.inr (ci, vs))) (hi : vp_in i N) (kk : hm_W C k n Q (hm_up M a (.inl (cA t, N, .inr (.inr (.inr (.inr (va_up f i.toNatClampNeg (some v)))))))) (pc + 1) L st) : hm_W C k n Q M pc L (.ref v :: .int i :: .ref a :: st) := by
  obtain ⟨p, l, e, R, s, m, args, below, meth, c, D, cA', A⟩ := C
  obtain ⟨hx, hb, hr, hml, hown, hts, hlk, hG, hnm, rfl, rfl, hst⟩ := X
  intro H locs ls hP hA hS hl
  obtain ⟨ws, wP, wD, hin', -⟩ := hm_list hP hA
  obtain ⟨q0, hq⟩ := hin' _ _ hM
  obtain ⟨q1, hq1⟩ := hin' _ _ hv
  exact va_astq (D := D) (cl := vwCl) (tys := hm_tys cA') hx hb hG.1 wP wD hS q0 t q1 ci hq ht hq1 hc hi d (fun H1 locs1 p1 _ s1 => kk H1 locs1 ls (hm_set hin' hq p1) (hA.up (hA _ _ hM)) s1 hl)
theorem hr_aastN (t : Nat) {a N : Nat} {f : Nat → Option Nat} {i : Int32} {E : String} (X : hm_X C own cc nL ret nm rm cA) (ht : (hm_tys cA)[t]? = some (cA t, .object E)) (d : decode cc pc = .ok (.aastore, 1)) (hM : M a = some (.inl (cA t, N, .inr (.inr (.inr (.inr f)))))) (hi : vp_in i N) (kk : hm_W C k n Q (hm_up M a (.inl (cA t, N, .inr (.inr (.inr (.inr (va_up f i.toNatClampNeg none))))))) (pc + 1) L st) : hm_W C k n Q M pc L (.null :: .int i :: .ref a :: st) := by
  obtain ⟨p, l, e, R, s, m, args, below, meth, c, D, cA', A⟩ := C
  obtain ⟨hx, hb, hr, hml, hown, hts, hlk, hG, hnm, rfl, rfl, hst⟩ := X
  intro H locs ls hP hA hS hl
  obtain ⟨ws, wP, wD, hin', -⟩ := hm_list hP hA
  obtain ⟨q0, hq⟩ := hin' _ _ hM
  exact va_astqN (D := D) (cl := vwCl) (tys := hm_tys cA') hx hb hG.1 wP wD hS q0 t hq ht hi d (fun H1 locs1 p1 _ s1 => kk H1 locs1 ls (hm_set hin' hq p1) (hA.up (hA _ _ hM)) s1 hl)
theorem hm_end {D : va_G} {A : Nat → Prop} {s t : State} {M : hm_M} {H : Heap} {locs : List Loc} {post : Option Value → hm_M → Prop} {v : Option Value} {args : Array Value} (hP : hm_P D M H) (hA : hm_A A M) (hS : va_S A s.heap H locs) (ht : t.heap = H) (hp : post v M) : hm_Q D A post args s (.returned v) t := ⟨⟨v, M, rfl, hp, by rw [ht]; exact hP, hA⟩, hS.F ht⟩
theorem hr_iret {v : Int32} {post : Option Value → hm_M → Prop} {mc ms : Nat} (X : hm_X C own cc nL (some .int) nm rm cA) (d : decode cc pc = .ok (.ireturn, 1)) (h1 : k ≤ mc) (h2 : n ≤ ms) (hp : post (some (.int v)) M) : hm_W C k n (hm_T C post mc ms) M pc L [.int v] := by
  obtain ⟨p, l, e, R, s, m, args, below, meth, c, D, cA', A⟩ := C
  obtain ⟨hx, hb, hr, hml, hown, hts, hlk, hG, hnm, rfl, rfl, hst⟩ := X
  exact fun H locs ls hP hA hS hl => W.widen h1 h2 ((W.iret hx hb hr (fun t ht _ => hm_end hP hA hS ht hp) hS.2.2 d hlk))
theorem hr_iretX {v : Int32} {post : Option Value → hm_M → Prop} {px : String → hm_M → Prop} {mc ms : Nat} (X : hm_X C own cc nL (some .int) nm rm cA) (d : decode cc pc = .ok (.ireturn, 1)) (h1 : k ≤ mc) (h2 : n ≤ ms) (hp : post (some (.int v)) M) : hm_W C k n (hm_TX C post px mc ms) M pc L [.int v] := by
  obtain ⟨p, l, e, R, s, m, args, below, meth, c, D, cA', A⟩ := C
  obtain ⟨hx, hb, hr, hml, hown, hts, hlk, hG, hnm, rfl, rfl, hst⟩ := X
  exact fun H locs ls hP hA hS hl => W.widen h1 h2 (vx_ret (W.iret hx hb hr (fun t ht _ => hm_end hP hA hS ht hp) hS.2.2 d hlk))
theorem hr_zret {v : Int32} {post : Option Value → hm_M → Prop} {mc ms : Nat} (X : hm_X C own cc nL (some .boolean) nm rm cA) (d : decode cc pc = .ok (.ireturn, 1)) (hz : narrow .boolean (.int v) = .int v) (h1 : k ≤ mc) (h2 : n ≤ ms) (hp : post (some (.int v)) M) : hm_W C k n (hm_T C post mc ms) M pc L [.int v] := by
  obtain ⟨p, l, e, R, s, m, args, below, meth, c, D, cA', A⟩ := C
  obtain ⟨hx, hb, hr, hml, hown, hts, hlk, hG, hnm, rfl, rfl, hst⟩ := X
  exact fun H locs ls hP hA hS hl => W.widen h1 h2 ((W.zret hx hb hr hz (fun t ht _ => hm_end hP hA hS ht hp) hS.2.2 d hlk))
theorem hr_zretX {v : Int32} {post : Option Value → hm_M → Prop} {px : String → hm_M → Prop} {mc ms : Nat} (X : hm_X C own cc nL (some .boolean) nm rm cA) (d : decode cc pc = .ok (.ireturn, 1)) (hz : narrow .boolean (.int v) = .int v) (h1 : k ≤ mc) (h2 : n ≤ ms) (hp : post (some (.int v)) M) : hm_W C k n (hm_TX C post px mc ms) M pc L [.int v] := by
  obtain ⟨p, l, e, R, s, m, args, below, meth, c, D, cA', A⟩ := C
  obtain ⟨hx, hb, hr, hml, hown, hts, hlk, hG, hnm, rfl, rfl, hst⟩ := X
  exact fun H locs ls hP hA hS hl => W.widen h1 h2 (vx_ret (W.zret hx hb hr hz (fun t ht _ => hm_end hP hA hS ht hp) hS.2.2 d hlk))
theorem hr_vret {post : Option Value → hm_M → Prop} {mc ms : Nat} (X : hm_X C own cc nL none nm rm cA) (d : decode cc pc = .ok (.return_, 1)) (h1 : k ≤ mc) (h2 : n ≤ ms) (hp : post (none) M) : hm_W C k n (hm_T C post mc ms) M pc L [] := by
  obtain ⟨p, l, e, R, s, m, args, below, meth, c, D, cA', A⟩ := C
  obtain ⟨hx, hb, hr, hml, hown, hts, hlk, hG, hnm, rfl, rfl, hst⟩ := X
  exact fun H locs ls hP hA hS hl => W.widen h1 h2 ((W.vret hx hb hr (fun t ht _ => hm_end hP hA hS ht hp) hS.2.2 d hlk))
theorem hr_vretX {post : Option Value → hm_M → Prop} {px : String → hm_M → Prop} {mc ms : Nat} (X : hm_X C own cc nL none nm rm cA) (d : decode cc pc = .ok (.return_, 1)) (h1 : k ≤ mc) (h2 : n ≤ ms) (hp : post (none) M) : hm_W C k n (hm_TX C post px mc ms) M pc L [] := by
  obtain ⟨p, l, e, R, s, m, args, below, meth, c, D, cA', A⟩ := C
  obtain ⟨hx, hb, hr, hml, hown, hts, hlk, hG, hnm, rfl, rfl, hst⟩ := X
  exact fun H locs ls hP hA hS hl => W.widen h1 h2 (vx_ret (W.vret hx hb hr (fun t ht _ => hm_end hP hA hS ht hp) hS.2.2 d hlk))
theorem hr_aret {E : String} {v : Value} {post : Option Value → hm_M → Prop} {mc ms : Nat} (X : hm_X C own cc nL (some (.object E)) nm rm cA) (d : decode cc pc = .ok (.areturn, 1)) (hv : v = .null ∨ ∃ a, v = .ref a) (h1 : k ≤ mc) (h2 : n ≤ ms) (hp : post (some v) M) : hm_W C k n (hm_T C post mc ms) M pc L [v] := by
  obtain ⟨p, l, e, R, s, m, args, below, meth, c, D, cA', A⟩ := C
  obtain ⟨hx, hb, hr, hml, hown, hts, hlk, hG, hnm, rfl, rfl, hst⟩ := X
  exact fun H locs ls hP hA hS hl => W.widen h1 h2 ((W.aret hx hb hr (Or.inl ⟨_, rfl⟩) hv (fun t ht _ => hm_end hP hA hS ht hp) hS.2.2 d hlk))
theorem hr_aretX {E : String} {v : Value} {post : Option Value → hm_M → Prop} {px : String → hm_M → Prop} {mc ms : Nat} (X : hm_X C own cc nL (some (.object E)) nm rm cA) (d : decode cc pc = .ok (.areturn, 1)) (hv : v = .null ∨ ∃ a, v = .ref a) (h1 : k ≤ mc) (h2 : n ≤ ms) (hp : post (some v) M) : hm_W C k n (hm_TX C post px mc ms) M pc L [v] := by
  obtain ⟨p, l, e, R, s, m, args, below, meth, c, D, cA', A⟩ := C
  obtain ⟨hx, hb, hr, hml, hown, hts, hlk, hG, hnm, rfl, rfl, hst⟩ := X
  exact fun H locs ls hP hA hS hl => W.widen h1 h2 (vx_ret (W.aret hx hb hr (Or.inl ⟨_, rfl⟩) hv (fun t ht _ => hm_end hP hA hS ht hp) hS.2.2 d hlk))
end HR
end
section
/-! a method from its entry; calls; throws; what is made -/
theorem hm_sl : ∀ (vs : List Value), (∀ w ∈ vs, w.category = 1) → (lg_sl vs).length = vs.length
  | [], _ => rfl
  | v :: vs, h => by
    have h2 : ¬ v.category = 2 := by rw [h v List.mem_cons_self]; decide
    have ih := hm_sl vs (fun w hw => h w (List.mem_cons_of_mem _ hw))
    unfold lg_sl at ih ⊢
    rw [List.flatMap_cons, if_neg h2, List.length_append, ih]
    simp [Nat.add_comm]
theorem hm_met {cA : Nat → ClassId} {y : MethodName} {cc : ByteArray} {maxL : Nat} {ret : Option FieldType} {rm : Room} {vs : List Value} {M : hm_M} {post : Option Value → hm_M → Prop} (j : Nat) (hy : plainName y.cls = true) (hc : ∀ w ∈ vs, w.category = 1) (hn : vs.length + j = maxL)
    (body : ∀ C : hm_C, hm_X C y.cls cc maxL ret y.name rm cA → hm_W C 0 0 (hm_T C post rm.cells rm.slots) M 0 (vs.map some ++ List.replicate j none) []) : hm_Met cA y cc maxL ret rm vs M post := by
  intro l D A hst
  refine Met.ofW (cc := cc) (maxL := maxL) (ret := ret) hy rfl ?_
  intro p e s m args below meth c s₁ B hml hv
  obtain ⟨rfl, hP, hA, hG⟩ := hv
  have hts := atoms_spec (ws := hm_ws y cc maxL ret) B.pre
  have hown : s.vm.findClass y.cls = some m.cls := findClass_of_methodNamed B.named
  have X : hm_X (p, l, e, rm, s, m, vs.toArray, below, meth, c, D, cA, A) y.cls cc maxL ret y.name rm cA := ⟨B.exec, B.bytes, B.returns, hml, hown, fun w h => hts w (List.mem_cons_of_mem _ h), B.notSynchronized, hG, (name_of_methodNamed B.named B.method).1, rfl, rfl, hst⟩
  have hl := lv_entry vs (n := maxL) (by rw [hm_sl vs hc]; omega)
  rw [lg_entry_eq]
  exact body _ X s.heap [] _ hP hA va_S.rf (hm_entry hc hn hl)
def hm_NT (C : hm_C) : Prop := match C with
  | (_, _, _, _, _, _, _, _, _, c, _, _, _) => ∀ x ∈ c.exceptionTable.toList, False
theorem hm_xmet {cA : Nat → ClassId} {y : MethodName} {cc : ByteArray} {maxL : Nat} {ret : Option FieldType} {rm : Room} {vs : List Value} {M : hm_M} {post : Option Value → hm_M → Prop} {px : String → hm_M → Prop} (j : Nat) (hy : plainName y.cls = true) (hc : ∀ w ∈ vs, w.category = 1) (hn : vs.length + j = maxL)
    (body : ∀ C : hm_C, hm_X C y.cls cc maxL ret y.name rm cA → hm_NT C → hm_W C 0 0 (hm_TX C post px rm.cells rm.slots) M 0 (vs.map some ++ List.replicate j none) []) : hm_XMet cA y cc maxL ret rm vs M post px := by
  intro l D A hst
  refine vx_ofW (cc := cc) (maxL := maxL) (ret := ret) hy rfl ?_
  intro p e s m args below meth c s₁ B hml hnt hv
  obtain ⟨rfl, hP, hA, hG⟩ := hv
  have hts := atoms_spec (ws := hm_ws y cc maxL ret) B.pre
  have hown : s.vm.findClass y.cls = some m.cls := findClass_of_methodNamed B.named
  have X : hm_X (p, l, e, rm, s, m, vs.toArray, below, meth, c, D, cA, A) y.cls cc maxL ret y.name rm cA := ⟨B.exec, B.bytes, B.returns, hml, hown, fun w h => hts w (List.mem_cons_of_mem _ h), B.notSynchronized, hG, (name_of_methodNamed B.named B.method).1, rfl, rfl, hst⟩
  have hl := lv_entry vs (n := maxL) (by rw [hm_sl vs hc]; omega)
  rw [lg_entry_eq]
  exact body _ X hnt s.heap [] _ hP hA va_S.rf (hm_entry hc hn hl)
/-! calls: the links, by their words -/
def hm_dk (y : MethodName) (n : Nat) : Prop := y.cls ≠ "java/lang/invoke/MethodHandle" ∧ y.cls ≠ "java/lang/invoke/VarHandle" ∧ (parseMethodDescriptor y.desc).map (fun d => d.parameters.length) = some n
def hm_lS (own : String) (idx : Nat) (y : MethodName) (cc : ByteArray) (maxL : Nat) (ret : Option FieldType) (n : Nat) : Prop := Cond.methodLink own idx y ∈ hm_tbl ∧ Cond.static y ∈ hm_tbl ∧ Cond.initialized y.cls ∈ hm_tbl ∧ Cond.code y cc maxL ret ∈ hm_tbl ∧ hm_dk y n
def hm_lSN (own host : String) (idx : Nat) (y : MethodName) (cc : ByteArray) (maxL : Nat) (ret : Option FieldType) (n : Nat) : Prop := Cond.methodLinkNest own idx y host ∈ hm_oth ∧ Cond.static y ∈ hm_tbl ∧ Cond.initialized y.cls ∈ hm_tbl ∧ Cond.code y cc maxL ret ∈ hm_tbl ∧ hm_dk y n
def hm_lV (own : String) (idx : Nat) (y : MethodName) (cc : ByteArray) (maxL : Nat) (ret : Option FieldType) (n : Nat) : Prop := Cond.methodLink own idx y ∈ hm_tbl ∧ Cond.instanceMethod y ∈ hm_tbl ∧ Cond.selects y.cls y y ∈ hm_tbl ∧ Cond.initialized y.cls ∈ hm_tbl ∧ Cond.code y cc maxL ret ∈ hm_tbl ∧ hm_dk y n
def hm_lI (own : String) (idx : Nat) (y : MethodName) (cc : ByteArray) (maxL n : Nat) : Prop := Cond.methodLink own idx y ∈ hm_tbl ∧ Cond.instanceMethod y ∈ hm_tbl ∧ Cond.initialized y.cls ∈ hm_tbl ∧ Cond.code y cc maxL none ∈ hm_tbl ∧ hm_dk y n ∧ y.name = "<init>"
def hm_lIN (own host : String) (idx : Nat) (y : MethodName) (cc : ByteArray) (maxL n : Nat) : Prop := Cond.methodLinkNest own idx y host ∈ hm_oth ∧ Cond.instanceMethod y ∈ hm_tbl ∧ Cond.initialized y.cls ∈ hm_tbl ∧ Cond.code y cc maxL none ∈ hm_tbl ∧ hm_dk y n ∧ y.name = "<init>"
theorem hm_gd {w : Cond} (h : w ∈ hm_tbl) : (w.onTables && w.keeps) = true ∨ ∃ ty, w = .arrayClass ty := good_of_word (List.mem_filter.mp h).2
theorem hm_gw {y : MethodName} {cc : ByteArray} {maxL : Nat} {ret : Option FieldType} (h : Cond.code y cc maxL ret ∈ hm_tbl) : GoodIn hm_tbl (hm_ws y cc maxL ret) := by
  intro w hw
  rcases List.mem_cons.mp hw with rfl | hw
  · exact ⟨h, hm_gd h⟩
  · exact ⟨hw, hm_gd hw⟩
theorem hm_blind {D : va_G} {cA : Nat → ClassId} {A : Nat → Prop} {oth : List Cond} {strs : List (String × Nat × String)} {M : hm_M} {vs : List Value} : FrameBlind (va_Pc vs (hm_B D cA A oth strs M)) := fun a U g mk h => ⟨h.1, h.2.1, h.2.2.1, hm_G.same (u := U) (U := U.calling g mk a) rfl rfl h.2.2.2⟩
section HC
variable {p : Program} {l : Launch} {e : Env} {R : Room} {s : State} {m : MethodId} {args : Array Value} {below : List Frame} {meth : Method} {c : Code} {H : Heap} {locs : List Loc} {k n : Nat} {Q : State → Prop}
theorem hm_back {D : va_G} {A : Nat → Prop} {post : Option Value → hm_M → Prop} {pc mc ms : Nat} {ls : Array Slot} {st0 st : List Value} {a : Array Value} (hr : va_Run p l e R s m args below meth c H locs k n mc ms (F0 m pc ls st0) st (hm_Q D A post a) A) (hS : va_S A s.heap H locs)
    (kk : ∀ (v : Option Value) (M' : hm_M) (H1 : Heap) (locs1 : List Loc), post v M' → hm_P D M' H1 → hm_A A M' → va_S A s.heap H1 locs1 → W p l e R s m args below meth c H1 locs1 (k + mc) (n + ms) Q (F0 m (pc + 3) ls (v.toList ++ st))) : W p l e R s m args below meth c H locs k n Q (F0 m pc ls st0) := by
  intro T hT X
  obtain ⟨v, st₀, t, T', L, h0, X', hL, e1, e2, ⟨⟨v', M', hv, hp, hP', hA'⟩, hz, hk⟩, st⟩ := hr T hT X
  cases hv
  rw [h0] at hz hk
  obtain ⟨t2, a1, b1⟩ := kk v M' T'.heap (locs ++ L) hp (by rw [e1]; exact hP') hA' ⟨Nat.le_trans hS.1 (by rw [e1]; exact hz), fun q h1 h2 => by rw [e1, hk q (Nat.lt_of_lt_of_le h1 hS.1) h2]; exact hS.2.1 q h1 h2, fun q hq => (List.mem_append.mp hq).elim (hS.2.2 q) (hL q)⟩ T' rfl X'
  exact ⟨t2, st t2 a1, b1⟩
theorem hm_backX {D : va_G} {A : Nat → Prop} {post : Option Value → hm_M → Prop} {px : String → hm_M → Prop} {pc mc ms : Nat} {ls : Array Slot} {st0 st : List Value} {a : Array Value} (hr : vx_Run p l e R s m args below meth c H locs k n mc ms (F0 m pc ls st0) st (hm_Q D A post a) (hm_Xq D A px) A) (hS : va_S A s.heap H locs)
    (kx : ∀ (E : String) (ce : Cell) (q9 : Addr) (M' : hm_M) (H1 : Heap) (locs1 : List Loc), px E M' → hm_P D M' H1 → hm_A A M' → va_S A s.heap H1 locs1 → H1[q9]? = some ce → ce.vm = .none → s.vm.findClass E = some ce.cls → vx_W p l e R s m args below meth c H1 locs1 (k + mc) (n + ms) Q (F0 m pc ls st) q9)
    (kk : ∀ (v : Option Value) (M' : hm_M) (H1 : Heap) (locs1 : List Loc), post v M' → hm_P D M' H1 → hm_A A M' → va_S A s.heap H1 locs1 → W p l e R s m args below meth c H1 locs1 (k + mc) (n + ms) Q (F0 m (pc + 3) ls (v.toList ++ st))) : W p l e R s m args below meth c H locs k n Q (F0 m pc ls st0) := by
  intro T hT X
  rcases hr T hT X with ⟨v, st₀, t, T', L, h0, X', hL, e1, e2, ⟨⟨v', M', hv, hp, hP', hA'⟩, hz, hk⟩, st⟩ | ⟨q9, st₀, t, T', L, E, ce, h0, X', hL, e1, e2, ⟨⟨M', hp, hP', hA'⟩, hz, hk⟩, hc1, hc2, hc3, st⟩
  · cases hv
    rw [h0] at hz hk
    obtain ⟨t2, a1, b1⟩ := kk v M' T'.heap (locs ++ L) hp (by rw [e1]; exact hP') hA' ⟨Nat.le_trans hS.1 (by rw [e1]; exact hz), fun q h1 h2 => by rw [e1, hk q (Nat.lt_of_lt_of_le h1 hS.1) h2]; exact hS.2.1 q h1 h2, fun q hq => (List.mem_append.mp hq).elim (hS.2.2 q) (hL q)⟩ T' rfl X'
    exact ⟨t2, st t2 a1, b1⟩
  · rw [h0] at hz hk
    obtain ⟨t2, a1, b1⟩ := kx E ce q9 M' T'.heap (locs ++ L) hp (by rw [e1]; exact hP') hA' ⟨Nat.le_trans hS.1 (by rw [e1]; exact hz), fun q h1 h2 => by rw [e1, hk q (Nat.lt_of_lt_of_le h1 hS.1) h2]; exact hS.2.1 q h1 h2, fun q hq => (List.mem_append.mp hq).elim (hS.2.2 q) (hL q)⟩ (by rw [e1]; exact hc1) hc2 hc3 T' rfl X'
    exact ⟨t2, st.trans a1, b1⟩
end HC
section HRC
variable {C : hm_C} {own : String} {cc : ByteArray} {nL : Nat} {ret : Option FieldType} {nm : String} {rm : Room} {cA : Nat → ClassId} {k n : Nat} {Q : State → Prop} {M : hm_M} {pc : Nat} {L : List (Option Value)} {st st0 : List Value}
variable {y : MethodName} {cc' : ByteArray} {maxL' j idx : Nat} {ret' : Option FieldType} {rm' : Room} {vs : List Value} {post : Option Value → hm_M → Prop} {px : String → hm_M → Prop}
def hm_fit (rm rm' : Room) (maxL' k n : Nat) : Prop := (rm'.frames + 1 ≤ rm.frames ∧ 8 + (maxL' + 11) + rm'.locals ≤ rm.locals) ∧ k + rm'.cells ≤ rm.cells ∧ n + rm'.slots ≤ rm.slots
theorem hr_callS (X : hm_X C own cc nL ret nm rm cA) (lk : hm_lS own idx y cc' maxL' ret' j) (d : decode cc pc = .ok (.invokestatic idx, 3)) (hm : hm_Met cA y cc' maxL' ret' rm' vs M post) (hst : st0 = vs.reverse ++ st) (hn : vs.length = j) (hL : L.length = nL) (hcat : (st.map fun v => v.category).sum ≤ 8) (hf : hm_fit rm rm' maxL' k n)
    (kk : ∀ (v : Option Value) (M' : hm_M), post v M' → hm_W C (k + rm'.cells) (n + rm'.slots) Q M' (pc + 3) L (v.toList ++ st)) : hm_W C k n Q M pc L st0 := by
  obtain ⟨p, l, e, R, s, m, args, below, meth, c, D, cA', A⟩ := C
  obtain ⟨hx, hb, hr, hml, hown, hts, hlk, hG, hnm, rfl, rfl, hst'⟩ := X
  obtain ⟨h1, h2, h3, h4, h5⟩ := lk
  subst hst
  intro H locs ls hP hA hS hl
  refine hm_back (va_runS (Ts := hm_tbl) ⟨hx, hb, hml, hown, hts⟩ (hm l D A hst') (va_cwS j hts (goodIn_app (fun w hw => ?_) (hm_gw h4)) rfl rfl rfl h5 hf.1) ⟨hm_blind, fun U hU hW => ⟨rfl, by rw [hU]; exact hP, hA, hG.warm hW (by rw [hU]; exact hS)⟩⟩ rfl hn (hl.1.trans hL) rfl (lv_room hcat) d hf.2) hS (fun v M' H1 locs1 hp p1 a1 s1 => kk v M' hp H1 locs1 ls p1 a1 s1 hl)
  rcases List.mem_cons.mp hw with rfl | hw
  · exact ⟨h1, hm_gd h1⟩
  rcases List.mem_cons.mp hw with rfl | hw
  · exact ⟨h2, hm_gd h2⟩
  rcases List.mem_cons.mp hw with rfl | hw
  · exact ⟨h3, hm_gd h3⟩
  · cases hw
theorem hr_callSN {host : String} (X : hm_X C own cc nL ret nm rm cA) (lk : hm_lSN own host idx y cc' maxL' ret' j) (d : decode cc pc = .ok (.invokestatic idx, 3)) (hm : hm_Met cA y cc' maxL' ret' rm' vs M post) (hst : st0 = vs.reverse ++ st) (hn : vs.length = j) (hL : L.length = nL) (hcat : (st.map fun v => v.category).sum ≤ 8) (hf : hm_fit rm rm' maxL' k n)
    (kk : ∀ (v : Option Value) (M' : hm_M), post v M' → hm_W C (k + rm'.cells) (n + rm'.slots) Q M' (pc + 3) L (v.toList ++ st)) : hm_W C k n Q M pc L st0 := by
  obtain ⟨p, l, e, R, s, m, args, below, meth, c, D, cA', A⟩ := C
  obtain ⟨hx, hb, hr, hml, hown, hts, hlk, hG, hnm, rfl, rfl, hst'⟩ := X
  obtain ⟨h1, h2, h3, h4, h5⟩ := lk
  subst hst
  intro H locs ls hP hA hS hl
  exact hm_back (va_runSN (Ts := hm_tbl) ⟨hx, hb, hml, hown, hts⟩ (hm l D A hst') ⟨va_cnB j hts (hm_gw h4) rfl rfl rfl (hG.2.2.1 _ h1).2 (hts _ h3) h5 hf.1, hts _ h2, trivial⟩ ⟨hm_blind, fun U hU hW => ⟨rfl, by rw [hU]; exact hP, hA, hG.warm hW (by rw [hU]; exact hS)⟩⟩ rfl hn (hl.1.trans hL) rfl (lv_room hcat) d hf.2) hS (fun v M' H1 locs1 hp p1 a1 s1 => kk v M' hp H1 locs1 ls p1 a1 s1 hl)
theorem hr_callV {ci b : Nat} {fs : List Value} {T : u_T} {N : Nat} (X : hm_X C own cc nL ret nm rm cA) (lk : hm_lV own idx y cc' maxL' ret' j) (d : decode cc pc = .ok (.invokevirtual idx, 3)) (hm : hm_Met cA y cc' maxL' ret' rm' (.ref b :: vs) M post) (hb0 : M b = some (.inr (ci, fs))) (hci : vwCl[ci]? = some (y.cls, T, N)) (hst : st0 = vs.reverse ++ .ref b :: st) (hn : vs.length = j) (hL : L.length = nL) (hcat : (st.map fun v => v.category).sum ≤ 8) (hf : hm_fit rm rm' maxL' k n)
    (kk : ∀ (v : Option Value) (M' : hm_M), post v M' → hm_W C (k + rm'.cells) (n + rm'.slots) Q M' (pc + 3) L (v.toList ++ st)) : hm_W C k n Q M pc L st0 := by
  obtain ⟨p, l, e, R, s, m, args, below, meth, c, D, cA', A⟩ := C
  obtain ⟨hx, hb, hr, hml, hown, hts, hlk, hG, hnm, rfl, rfl, hst'⟩ := X
  obtain ⟨h1, h2, h3, h4, h5, h6⟩ := lk
  subst hst
  intro H locs ls hP hA hS hl
  refine hm_back (va_runV (Ts := hm_tbl) (C := y.cls) ⟨hx, hb, hml, hown, hts⟩ (hm l D A hst') (cwV j hts (goodIn_app (fun w hw => ?_) (hm_gw h5)) rfl rfl rfl ⟨rfl, h6⟩ hf.1) ⟨hm_blind, va_recv hG.1 (hm_one hP hb0) (q0 := 0) hci rfl, fun U hU hW => ⟨rfl, by rw [hU]; exact hP, hA, hG.warm hW (by rw [hU]; exact hS)⟩⟩ rfl hn (hl.1.trans hL) rfl (lv_room hcat) d hf.2) hS (fun v M' H1 locs1 hp p1 a1 s1 => kk v M' hp H1 locs1 ls p1 a1 s1 hl)
  rcases List.mem_cons.mp hw with rfl | hw
  · exact ⟨h1, hm_gd h1⟩
  rcases List.mem_cons.mp hw with rfl | hw
  · exact ⟨h2, hm_gd h2⟩
  rcases List.mem_cons.mp hw with rfl | hw
  · exact ⟨h3, hm_gd h3⟩
  rcases List.mem_cons.mp hw with rfl | hw
  · exact ⟨h4, hm_gd h4⟩
  · cases hw
theorem hr_callI {b : Nat} (X : hm_X C own cc nL ret nm rm cA) (lk : hm_lI own idx y cc' maxL' j) (d : decode cc pc = .ok (.invokespecial idx, 3)) (hm : hm_Met cA y cc' maxL' none rm' (.ref b :: vs) M post) (hst : st0 = vs.reverse ++ .ref b :: st) (hn : vs.length = j) (hL : L.length = nL) (hcat : (st.map fun v => v.category).sum ≤ 8) (hf : hm_fit rm rm' maxL' k n)
    (kk : ∀ (v : Option Value) (M' : hm_M), post v M' → hm_W C (k + rm'.cells) (n + rm'.slots) Q M' (pc + 3) L (v.toList ++ st)) : hm_W C k n Q M pc L st0 := by
  obtain ⟨p, l, e, R, s, m, args, below, meth, c, D, cA', A⟩ := C
  obtain ⟨hx, hb, hr, hml, hown, hts, hlk, hG, hnm, rfl, rfl, hst'⟩ := X
  obtain ⟨h1, h2, h3, h4, h5, h6⟩ := lk
  subst hst
  intro H locs ls hP hA hS hl
  exact hm_back (va_runI (Ts := hm_tbl) ⟨hx, hb, hml, hown, hts⟩ (hm l D A hst') (cwI j hts (hm_gw h4) rfl rfl rfl (hts _ h3) (hts _ h1) (hts _ h2) h6 h5 hf.1) ⟨hm_blind, fun U hU hW => ⟨rfl, by rw [hU]; exact hP, hA, hG.warm hW (by rw [hU]; exact hS)⟩⟩ rfl hn (hl.1.trans hL) rfl (lv_room hcat) d hf.2) hS (fun v M' H1 locs1 hp p1 a1 s1 => kk v M' hp H1 locs1 ls p1 a1 s1 hl)
theorem hr_callIN {b : Nat} {host : String} (X : hm_X C own cc nL ret nm rm cA) (lk : hm_lIN own host idx y cc' maxL' j) (d : decode cc pc = .ok (.invokespecial idx, 3)) (hm : hm_Met cA y cc' maxL' none rm' (.ref b :: vs) M post) (hst : st0 = vs.reverse ++ .ref b :: st) (hn : vs.length = j) (hL : L.length = nL) (hcat : (st.map fun v => v.category).sum ≤ 8) (hf : hm_fit rm rm' maxL' k n)
    (kk : ∀ (v : Option Value) (M' : hm_M), post v M' → hm_W C (k + rm'.cells) (n + rm'.slots) Q M' (pc + 3) L (v.toList ++ st)) : hm_W C k n Q M pc L st0 := by
  obtain ⟨p, l, e, R, s, m, args, below, meth, c, D, cA', A⟩ := C
  obtain ⟨hx, hb, hr, hml, hown, hts, hlk, hG, hnm, rfl, rfl, hst'⟩ := X
  obtain ⟨h1, h2, h3, h4, h5, h6⟩ := lk
  subst hst
  intro H locs ls hP hA hS hl
  exact hm_back (va_runIN (Ts := hm_tbl) ⟨hx, hb, hml, hown, hts⟩ (hm l D A hst') ⟨va_cnB j hts (hm_gw h4) rfl rfl rfl (hG.2.2.1 _ h1).2 (hts _ h3) h5 hf.1, h6, hts _ h2⟩ ⟨hm_blind, fun U hU hW => ⟨rfl, by rw [hU]; exact hP, hA, hG.warm hW (by rw [hU]; exact hS)⟩⟩ rfl hn (hl.1.trans hL) rfl (lv_room hcat) d hf.2) hS (fun v M' H1 locs1 hp p1 a1 s1 => kk v M' hp H1 locs1 ls p1 a1 s1 hl)
theorem hm_gone {D : va_G} {A : Nat → Prop} {s : State} {M : hm_M} {H : Heap} {locs : List Loc} {E : String} (hP : hm_P D M H) (hA : hm_A A M) (hS : va_S A s.heap H locs) (hp : px E M) : ∀ t : State, t.heap = H → s.vm.Alike t.vm → hm_Xq D A px E s t := fun t ht _ => ⟨⟨M, hp, by rw [ht]; exact hP, hA⟩, hS.F ht⟩
theorem hr_callSX {mc ms : Nat} {post2 : Option Value → hm_M → Prop} {px2 : String → hm_M → Prop} (X : hm_X C own cc nL ret nm rm cA) (XE : hm_NT C) (lk : hm_lS own idx y cc' maxL' ret' j) (d : decode cc pc = .ok (.invokestatic idx, 3)) (hm : hm_XMet cA y cc' maxL' ret' rm' vs M post px) (hst : st0 = vs.reverse ++ st) (hn : vs.length = j) (hL : L.length = nL) (hcat : (st.map fun v => v.category).sum ≤ 8) (hf : hm_fit rm rm' maxL' k n) (h8 : k + rm'.cells ≤ mc) (h9 : n + rm'.slots ≤ ms)
    (kx : ∀ (E : String) (M' : hm_M), px E M' → px2 E M')
    (kk : ∀ (v : Option Value) (M' : hm_M), post v M' → hm_W C (k + rm'.cells) (n + rm'.slots) (hm_TX C post2 px2 mc ms) M' (pc + 3) L (v.toList ++ st)) : hm_W C k n (hm_TX C post2 px2 mc ms) M pc L st0 := by
  obtain ⟨p, l, e, R, s, m, args, below, meth, c, D, cA', A⟩ := C
  obtain ⟨hx, hb, hr, hml, hown, hts, hlk, hG, hnm, rfl, rfl, hst'⟩ := X
  obtain ⟨h1, h2, h3, h4, h5⟩ := lk
  subst hst
  intro H locs ls hP hA hS hl
  refine hm_backX (vx_runS (Ts := hm_tbl) ⟨hx, hb, hml, hown, hts⟩ (hm l D A hst') (va_cwS j hts (goodIn_app (fun w hw => ?_) (hm_gw h4)) rfl rfl rfl h5 hf.1) ⟨hm_blind, fun U hU hW => ⟨rfl, by rw [hU]; exact hP, hA, hG.warm hW (by rw [hU]; exact hS)⟩⟩ rfl hn (hl.1.trans hL) rfl (lv_room hcat) d hf.2) hS (fun E ce q9 M' H1 locs1 hp p1 a1 s1 c1 c2 c3 => vx_out (fun x hx => absurd (XE x hx) id) hlk c1 c2 c3 (hm_gone p1 a1 s1 (kx E M' hp)) s1.2.2 h8 h9) (fun v M' H1 locs1 hp p1 a1 s1 => kk v M' hp H1 locs1 ls p1 a1 s1 hl)
  rcases List.mem_cons.mp hw with rfl | hw
  · exact ⟨h1, hm_gd h1⟩
  rcases List.mem_cons.mp hw with rfl | hw
  · exact ⟨h2, hm_gd h2⟩
  rcases List.mem_cons.mp hw with rfl | hw
  · exact ⟨h3, hm_gd h3⟩
  · cases hw
theorem hr_callVX {mc ms : Nat} {post2 : Option Value → hm_M → Prop} {px2 : String → hm_M → Prop} {ci b : Nat} {fs : List Value} {T : u_T} {N : Nat} (X : hm_X C own cc nL ret nm rm cA) (XE : hm_NT C) (lk : hm_lV own idx y cc' maxL' ret' j) (d : decode cc pc = .ok (.invokevirtual idx, 3)) (hm : hm_XMet cA y cc' maxL' ret' rm' (.ref b :: vs) M post px) (hb0 : M b = some (.inr (ci, fs))) (hci : vwCl[ci]? = some (y.cls, T, N)) (hst : st0 = vs.reverse ++ .ref b :: st) (hn : vs.length = j) (hL : L.length = nL) (hcat : (st.map fun v => v.category).sum ≤ 8) (hf : hm_fit rm rm' maxL' k n) (h8 : k + rm'.cells ≤ mc) (h9 : n + rm'.slots ≤ ms)
    (kx : ∀ (E : String) (M' : hm_M), px E M' → px2 E M')
    (kk : ∀ (v : Option Value) (M' : hm_M), post v M' → hm_W C (k + rm'.cells) (n + rm'.slots) (hm_TX C post2 px2 mc ms) M' (pc + 3) L (v.toList ++ st)) : hm_W C k n (hm_TX C post2 px2 mc ms) M pc L st0 := by
  obtain ⟨p, l, e, R, s, m, args, below, meth, c, D, cA', A⟩ := C
  obtain ⟨hx, hb, hr, hml, hown, hts, hlk, hG, hnm, rfl, rfl, hst'⟩ := X
  obtain ⟨h1, h2, h3, h4, h5, h6⟩ := lk
  subst hst
  intro H locs ls hP hA hS hl
  refine hm_backX (vx_runV (Ts := hm_tbl) (C := y.cls) ⟨hx, hb, hml, hown, hts⟩ (hm l D A hst') (cwV j hts (goodIn_app (fun w hw => ?_) (hm_gw h5)) rfl rfl rfl ⟨rfl, h6⟩ hf.1) ⟨hm_blind, va_recv hG.1 (hm_one hP hb0) (q0 := 0) hci rfl, fun U hU hW => ⟨rfl, by rw [hU]; exact hP, hA, hG.warm hW (by rw [hU]; exact hS)⟩⟩ rfl hn (hl.1.trans hL) rfl (lv_room hcat) d hf.2) hS (fun E ce q9 M' H1 locs1 hp p1 a1 s1 c1 c2 c3 => vx_out (fun x hx => absurd (XE x hx) id) hlk c1 c2 c3 (hm_gone p1 a1 s1 (kx E M' hp)) s1.2.2 h8 h9) (fun v M' H1 locs1 hp p1 a1 s1 => kk v M' hp H1 locs1 ls p1 a1 s1 hl)
  rcases List.mem_cons.mp hw with rfl | hw
  · exact ⟨h1, hm_gd h1⟩
  rcases List.mem_cons.mp hw with rfl | hw
  · exact ⟨h2, hm_gd h2⟩
  rcases List.mem_cons.mp hw with rfl | hw
  · exact ⟨h3, hm_gd h3⟩
  rcases List.mem_cons.mp hw with rfl | hw
  · exact ⟨h4, hm_gd h4⟩
  · cases hw
def hm_xn : List String := ["java/lang/RuntimeException", "java/lang/Exception"]
def hm_lT (own : String) (ik is ic : Nat) (cls text : String) : Prop := Bundle.fit cls = true ∧ (∀ n ∈ hm_xn, Bundle.fit n = true) ∧ Cond.classLink own ik cls ∈ hm_tbl ∧ Cond.initialized cls ∈ hm_tbl ∧ (own, is, text) ∈ hm_strs ∧ (∀ w ∈ (vx_atS own ic cls hm_xn).filter goodWord, w ∈ hm_tbl) ∧ (∀ w ∈ (vx_atS own ic cls hm_xn).filter (fun w => !goodWord w), w ∈ hm_oth.filter Cond.onTables) ∧ ∀ w ∈ Cond.classLink own ik cls :: Cond.initialized cls :: vx_atS own ic cls hm_xn, vx_ot w = true
theorem hr_throw {ik is ic : Nat} {cls text : String} {mc ms : Nat} {post2 : Option Value → hm_M → Prop} {px2 : String → hm_M → Prop} (X : hm_X C own cc nL ret nm rm cA) (XE : hm_NT C) (lT : hm_lT own ik is ic cls text) (d0 : decode cc pc = .ok (.new ik, 3)) (d3 : decode cc (pc + 3) = .ok (.dup, 1)) (d4 : decode cc (pc + 4) = .ok (.ldc is, 2)) (d6 : decode cc (pc + 6) = .ok (.invokespecial ic, 3)) (d9 : decode cc (pc + 9) = .ok (.athrow, 1)) (hL : L.length = nL)
    (hf : 5 < rm.frames ∧ (st.map fun v => v.category).sum + 82 ≤ rm.locals ∧ k + 1 ≤ rm.cells ∧ n + 6 ≤ rm.slots) (h8 : k + 1 ≤ mc) (h9 : n + 6 ≤ ms) (hp : px2 cls M) : hm_W C k n (hm_TX C post2 px2 mc ms) M pc L st := by
  obtain ⟨p, l, e, R, s, m, args, below, meth, c, D, cA', A⟩ := C
  obtain ⟨hx, hb, hr, hml, hown, hts, hlk, hG, hnm, rfl, rfl, hst'⟩ := X
  obtain ⟨t1, t2, t3, t4, t5, t6, t7, t8⟩ := lT
  intro H locs ls hP hA hS hl
  obtain ⟨sa, hsa⟩ := hG.2.2.2.2 _ t5
  exact vx_throwS (own := own) (cls := cls) (text := text) (names := hm_xn) (A := A) hx hb hst' hown t1 t2 (hts _ t3) (hts _ t4) hsa (vx_hat (B := hm_oth.filter Cond.onTables) (fun w hw => hts _ (t6 w hw)) t7 (fun w hw => va_Nw.use (List.mem_filter.mp hw).2 (hG.2.2.1 w (List.mem_filter.mp hw).1).2)) t8 hG.2.2.2.1.1 hG.2.2.2.1.2 hS ((hl.1.trans hL).trans hml.symm) d0 d3 d4 d6 d9 (fun x hx => absurd (XE x hx) id) hf.1 hf.2.1 hf.2.2.1 hf.2.2.2 hlk (fun t _ z1 z2 => ⟨⟨M, hp, fun a e he => (hP a e he).kept (z2 a (hP a e he).lt), hA⟩, Nat.le_trans hS.1 z1, fun q h1 h2 => (z2 q (Nat.lt_of_lt_of_le h1 hS.1)).trans (hS.2.1 q h1 h2)⟩) hS.2.2 h8 h9
end HRC
end
section
set_option maxRecDepth 20000 in
theorem hF_in0 : ∀ w ∈ u_ws RX0 TX0 8, w ∈ hm_tbl := fun w h => List.mem_filter.mpr ⟨inX0 w h, (show ∀ w ∈ u_ws RX0 TX0 8, goodWord w = true by decide +kernel) w h⟩
set_option maxRecDepth 20000 in
theorem hF_in1 : ∀ w ∈ u_ws RX1 TX1 4, w ∈ hm_tbl := fun w h => List.mem_filter.mpr ⟨inX1 w h, (show ∀ w ∈ u_ws RX1 TX1 4, goodWord w = true by decide +kernel) w h⟩
set_option maxRecDepth 20000 in
theorem hF_in2 : ∀ w ∈ u_ws RX2 TX2 5, w ∈ hm_tbl := fun w h => List.mem_filter.mpr ⟨inX2 w h, (show ∀ w ∈ u_ws RX2 TX2 5, goodWord w = true by decide +kernel) w h⟩
set_option maxRecDepth 20000 in
theorem hF_in3 : ∀ w ∈ u_ws RX3 TX3 5, w ∈ hm_tbl := fun w h => List.mem_filter.mpr ⟨inX3 w h, (show ∀ w ∈ u_ws RX3 TX3 5, goodWord w = true by decide +kernel) w h⟩
set_option maxRecDepth 20000 in
theorem hF_in4 : ∀ w ∈ u_ws RX4 TX4 4, w ∈ hm_tbl := fun w h => List.mem_filter.mpr ⟨inX4 w h, (show ∀ w ∈ u_ws RX4 TX4 4, goodWord w = true by decide +kernel) w h⟩
set_option maxRecDepth 20000 in
theorem hF_in5 : ∀ w ∈ u_ws RX5 TX5 7, w ∈ hm_tbl := fun w h => List.mem_filter.mpr ⟨inX5 w h, (show ∀ w ∈ u_ws RX5 TX5 7, goodWord w = true by decide +kernel) w h⟩
set_option maxRecDepth 20000 in
theorem hF_in6 : ∀ w ∈ u_ws RX6 TX6 27, w ∈ hm_tbl := fun w h => List.mem_filter.mpr ⟨inX6 w h, (show ∀ w ∈ u_ws RX6 TX6 27, goodWord w = true by decide +kernel) w h⟩
set_option maxRecDepth 20000 in
theorem kF5_11 : hm_lF RX5 11 5 0 (tyX5 0) true true := ⟨RX5, TX5, 7, tyX5, rfl, by decide, (hm_in 83 (by decide +kernel) (by decide +kernel)), hF_in5, tyX5_ok, nmX5, rfl, rfl, fun _ => ⟨rfl, rfl⟩⟩
set_option maxRecDepth 20000 in
theorem kF5_15 : hm_lF RX5 15 5 1 (tyX5 1) false false := ⟨RX5, TX5, 7, tyX5, rfl, by decide, (hm_in 84 (by decide +kernel) (by decide +kernel)), hF_in5, tyX5_ok, nmX5, rfl, rfl, fun h => absurd h (by decide)⟩
set_option maxRecDepth 20000 in
theorem kF5_19 : hm_lF RX5 19 5 2 (tyX5 2) true true := ⟨RX5, TX5, 7, tyX5, rfl, by decide, (hm_in 85 (by decide +kernel) (by decide +kernel)), hF_in5, tyX5_ok, nmX5, rfl, rfl, fun _ => ⟨rfl, rfl⟩⟩
set_option maxRecDepth 20000 in
theorem kF5_23 : hm_lF RX5 23 5 3 (tyX5 3) true true := ⟨RX5, TX5, 7, tyX5, rfl, by decide, (hm_in 86 (by decide +kernel) (by decide +kernel)), hF_in5, tyX5_ok, nmX5, rfl, rfl, fun _ => ⟨rfl, rfl⟩⟩
set_option maxRecDepth 20000 in
theorem kF5_26 : hm_lF RX5 26 5 4 (tyX5 4) true true := ⟨RX5, TX5, 7, tyX5, rfl, by decide, (hm_in 87 (by decide +kernel) (by decide +kernel)), hF_in5, tyX5_ok, nmX5, rfl, rfl, fun _ => ⟨rfl, rfl⟩⟩
set_option maxRecDepth 20000 in
theorem kF5_31 : hm_lF RX5 31 5 5 (tyX5 5) true true := ⟨RX5, TX5, 7, tyX5, rfl, by decide, (hm_in 88 (by decide +kernel) (by decide +kernel)), hF_in5, tyX5_ok, nmX5, rfl, rfl, fun _ => ⟨rfl, rfl⟩⟩
set_option maxRecDepth 20000 in
theorem kF5_34 : hm_lF RX5 34 5 6 (tyX5 6) true true := ⟨RX5, TX5, 7, tyX5, rfl, by decide, (hm_in 89 (by decide +kernel) (by decide +kernel)), hF_in5, tyX5_ok, nmX5, rfl, rfl, fun _ => ⟨rfl, rfl⟩⟩
set_option maxRecDepth 20000 in
theorem kF4_17 : hm_lF RX4 17 4 0 (tyX4 0) true true := ⟨RX4, TX4, 4, tyX4, rfl, by decide, (hm_in 202 (by decide +kernel) (by decide +kernel)), hF_in4, tyX4_ok, nmX4, rfl, rfl, fun _ => ⟨rfl, rfl⟩⟩
set_option maxRecDepth 20000 in
theorem kF3_37 : hm_lF RX3 37 4 0 (tyX4 0) true false := ⟨RX4, TX4, 4, tyX4, rfl, by decide, (hm_in 203 (by decide +kernel) (by decide +kernel)), hF_in4, tyX4_ok, nmX4, rfl, rfl, fun h => absurd h (by decide)⟩
set_option maxRecDepth 20000 in
theorem kF5_293 : hm_lF RX5 293 4 0 (tyX4 0) true false := ⟨RX4, TX4, 4, tyX4, rfl, by decide, (hm_in 204 (by decide +kernel) (by decide +kernel)), hF_in4, tyX4_ok, nmX4, rfl, rfl, fun h => absurd h (by decide)⟩
set_option maxRecDepth 20000 in
theorem kF4_21 : hm_lF RX4 21 4 1 (tyX4 1) true true := ⟨RX4, TX4, 4, tyX4, rfl, by decide, (hm_in 205 (by decide +kernel) (by decide +kernel)), hF_in4, tyX4_ok, nmX4, rfl, rfl, fun _ => ⟨rfl, rfl⟩⟩
set_option maxRecDepth 20000 in
theorem kF5_113 : hm_lF RX5 113 4 1 (tyX4 1) true false := ⟨RX4, TX4, 4, tyX4, rfl, by decide, (hm_in 206 (by decide +kernel) (by decide +kernel)), hF_in4, tyX4_ok, nmX4, rfl, rfl, fun h => absurd h (by decide)⟩
set_option maxRecDepth 20000 in
theorem kF3_69 : hm_lF RX3 69 4 1 (tyX4 1) true false := ⟨RX4, TX4, 4, tyX4, rfl, by decide, (hm_in 207 (by decide +kernel) (by decide +kernel)), hF_in4, tyX4_ok, nmX4, rfl, rfl, fun h => absurd h (by decide)⟩
set_option maxRecDepth 20000 in
theorem kF4_24 : hm_lF RX4 24 4 2 (tyX4 2) false false := ⟨RX4, TX4, 4, tyX4, rfl, by decide, (hm_in 208 (by decide +kernel) (by decide +kernel)), hF_in4, tyX4_ok, nmX4, rfl, rfl, fun h => absurd h (by decide)⟩
set_option maxRecDepth 20000 in
theorem kF3_55 : hm_lF RX3 55 4 2 (tyX4 2) false false := ⟨RX4, TX4, 4, tyX4, rfl, by decide, (hm_in 209 (by decide +kernel) (by decide +kernel)), hF_in4, tyX4_ok, nmX4, rfl, rfl, fun h => absurd h (by decide)⟩
set_option maxRecDepth 20000 in
theorem kF5_135 : hm_lF RX5 135 4 2 (tyX4 2) false false := ⟨RX4, TX4, 4, tyX4, rfl, by decide, (hm_in 210 (by decide +kernel) (by decide +kernel)), hF_in4, tyX4_ok, nmX4, rfl, rfl, fun h => absurd h (by decide)⟩
set_option maxRecDepth 20000 in
theorem kF4_11 : hm_lF RX4 11 4 3 (tyX4 3) true true := ⟨RX4, TX4, 4, tyX4, rfl, by decide, (hm_in 211 (by decide +kernel) (by decide +kernel)), hF_in4, tyX4_ok, nmX4, rfl, rfl, fun _ => ⟨rfl, rfl⟩⟩
set_option maxRecDepth 20000 in
theorem kF5_296 : hm_lF RX5 296 4 3 (tyX4 3) true false := ⟨RX4, TX4, 4, tyX4, rfl, by decide, (hm_in 212 (by decide +kernel) (by decide +kernel)), hF_in4, tyX4_ok, nmX4, rfl, rfl, fun h => absurd h (by decide)⟩
set_option maxRecDepth 20000 in
theorem kF3_11 : hm_lF RX3 11 3 0 (tyX3 0) true true := ⟨RX3, TX3, 5, tyX3, rfl, by decide, (hm_in 223 (by decide +kernel) (by decide +kernel)), hF_in3, tyX3_ok, nmX3, rfl, rfl, fun _ => ⟨rfl, rfl⟩⟩
set_option maxRecDepth 20000 in
theorem kF5_132 : hm_lF RX5 132 3 0 (tyX3 0) true false := ⟨RX3, TX3, 5, tyX3, rfl, by decide, (hm_in 224 (by decide +kernel) (by decide +kernel)), hF_in3, tyX3_ok, nmX3, rfl, rfl, fun h => absurd h (by decide)⟩
set_option maxRecDepth 20000 in
theorem kF3_17 : hm_lF RX3 17 3 1 (tyX3 1) false false := ⟨RX3, TX3, 5, tyX3, rfl, by decide, (hm_in 225 (by decide +kernel) (by decide +kernel)), hF_in3, tyX3_ok, nmX3, rfl, rfl, fun h => absurd h (by decide)⟩
set_option maxRecDepth 20000 in
theorem kF5_300 : hm_lF RX5 300 3 1 (tyX3 1) false false := ⟨RX3, TX3, 5, tyX3, rfl, by decide, (hm_in 226 (by decide +kernel) (by decide +kernel)), hF_in3, tyX3_ok, nmX3, rfl, rfl, fun h => absurd h (by decide)⟩
set_option maxRecDepth 20000 in
theorem kF3_21 : hm_lF RX3 21 3 2 (tyX3 2) true true := ⟨RX3, TX3, 5, tyX3, rfl, by decide, (hm_in 227 (by decide +kernel) (by decide +kernel)), hF_in3, tyX3_ok, nmX3, rfl, rfl, fun _ => ⟨rfl, rfl⟩⟩
set_option maxRecDepth 20000 in
theorem kF5_76 : hm_lF RX5 76 3 2 (tyX3 2) true false := ⟨RX3, TX3, 5, tyX3, rfl, by decide, (hm_in 228 (by decide +kernel) (by decide +kernel)), hF_in3, tyX3_ok, nmX3, rfl, rfl, fun h => absurd h (by decide)⟩
set_option maxRecDepth 20000 in
theorem kF3_24 : hm_lF RX3 24 3 3 (tyX3 3) true true := ⟨RX3, TX3, 5, tyX3, rfl, by decide, (hm_in 229 (by decide +kernel) (by decide +kernel)), hF_in3, tyX3_ok, nmX3, rfl, rfl, fun _ => ⟨rfl, rfl⟩⟩
set_option maxRecDepth 20000 in
theorem kF5_166 : hm_lF RX5 166 3 3 (tyX3 3) true false := ⟨RX3, TX3, 5, tyX3, rfl, by decide, (hm_in 230 (by decide +kernel) (by decide +kernel)), hF_in3, tyX3_ok, nmX3, rfl, rfl, fun h => absurd h (by decide)⟩
set_option maxRecDepth 20000 in
theorem kF3_30 : hm_lF RX3 30 3 4 (tyX3 4) true true := ⟨RX3, TX3, 5, tyX3, rfl, by decide, (hm_in 231 (by decide +kernel) (by decide +kernel)), hF_in3, tyX3_ok, nmX3, rfl, rfl, fun _ => ⟨rfl, rfl⟩⟩
set_option maxRecDepth 20000 in
theorem kF5_160 : hm_lF RX5 160 3 4 (tyX3 4) true false := ⟨RX3, TX3, 5, tyX3, rfl, by decide, (hm_in 232 (by decide +kernel) (by decide +kernel)), hF_in3, tyX3_ok, nmX3, rfl, rfl, fun h => absurd h (by decide)⟩
set_option maxRecDepth 20000 in
theorem kF1_9 : hm_lF RX1 9 1 0 (tyX1 0) true true := ⟨RX1, TX1, 4, tyX1, rfl, by decide, (hm_in 309 (by decide +kernel) (by decide +kernel)), hF_in1, tyX1_ok, nmX1, rfl, rfl, fun _ => ⟨rfl, rfl⟩⟩
set_option maxRecDepth 20000 in
theorem kF0_55 : hm_lF RX0 55 1 0 (tyX1 0) true false := ⟨RX1, TX1, 4, tyX1, rfl, by decide, (hm_in 310 (by decide +kernel) (by decide +kernel)), hF_in1, tyX1_ok, nmX1, rfl, rfl, fun h => absurd h (by decide)⟩
set_option maxRecDepth 20000 in
theorem kF5_139 : hm_lF RX5 139 1 0 (tyX1 0) true false := ⟨RX1, TX1, 4, tyX1, rfl, by decide, (hm_in 311 (by decide +kernel) (by decide +kernel)), hF_in1, tyX1_ok, nmX1, rfl, rfl, fun h => absurd h (by decide)⟩
set_option maxRecDepth 20000 in
theorem kF1_15 : hm_lF RX1 15 1 1 (tyX1 1) true true := ⟨RX1, TX1, 4, tyX1, rfl, by decide, (hm_in 312 (by decide +kernel) (by decide +kernel)), hF_in1, tyX1_ok, nmX1, rfl, rfl, fun _ => ⟨rfl, rfl⟩⟩
set_option maxRecDepth 20000 in
theorem kF5_146 : hm_lF RX5 146 1 1 (tyX1 1) true false := ⟨RX1, TX1, 4, tyX1, rfl, by decide, (hm_in 313 (by decide +kernel) (by decide +kernel)), hF_in1, tyX1_ok, nmX1, rfl, rfl, fun h => absurd h (by decide)⟩
set_option maxRecDepth 20000 in
theorem kF1_18 : hm_lF RX1 18 1 2 (tyX1 2) false false := ⟨RX1, TX1, 4, tyX1, rfl, by decide, (hm_in 314 (by decide +kernel) (by decide +kernel)), hF_in1, tyX1_ok, nmX1, rfl, rfl, fun h => absurd h (by decide)⟩
set_option maxRecDepth 20000 in
theorem kF0_60 : hm_lF RX0 60 1 2 (tyX1 2) false false := ⟨RX1, TX1, 4, tyX1, rfl, by decide, (hm_in 315 (by decide +kernel) (by decide +kernel)), hF_in1, tyX1_ok, nmX1, rfl, rfl, fun h => absurd h (by decide)⟩
set_option maxRecDepth 20000 in
theorem kF5_314 : hm_lF RX5 314 1 2 (tyX1 2) false false := ⟨RX1, TX1, 4, tyX1, rfl, by decide, (hm_in 316 (by decide +kernel) (by decide +kernel)), hF_in1, tyX1_ok, nmX1, rfl, rfl, fun h => absurd h (by decide)⟩
set_option maxRecDepth 20000 in
theorem kF1_21 : hm_lF RX1 21 1 3 (tyX1 3) false false := ⟨RX1, TX1, 4, tyX1, rfl, by decide, (hm_in 317 (by decide +kernel) (by decide +kernel)), hF_in1, tyX1_ok, nmX1, rfl, rfl, fun h => absurd h (by decide)⟩
set_option maxRecDepth 20000 in
theorem kF5_317 : hm_lF RX5 317 1 3 (tyX1 3) false false := ⟨RX1, TX1, 4, tyX1, rfl, by decide, (hm_in 318 (by decide +kernel) (by decide +kernel)), hF_in1, tyX1_ok, nmX1, rfl, rfl, fun h => absurd h (by decide)⟩
set_option maxRecDepth 20000 in
theorem kF2_9 : hm_lF RX2 9 2 0 (tyX2 0) false false := ⟨RX2, TX2, 5, tyX2, rfl, by decide, (hm_in 635 (by decide +kernel) (by decide +kernel)), hF_in2, tyX2_ok, nmX2, rfl, rfl, fun h => absurd h (by decide)⟩
set_option maxRecDepth 20000 in
theorem kF1_31 : hm_lF RX1 31 2 0 (tyX2 0) false false := ⟨RX2, TX2, 5, tyX2, rfl, by decide, (hm_in 636 (by decide +kernel) (by decide +kernel)), hF_in2, tyX2_ok, nmX2, rfl, rfl, fun h => absurd h (by decide)⟩
set_option maxRecDepth 20000 in
theorem kF2_15 : hm_lF RX2 15 2 1 (tyX2 1) false false := ⟨RX2, TX2, 5, tyX2, rfl, by decide, (hm_in 637 (by decide +kernel) (by decide +kernel)), hF_in2, tyX2_ok, nmX2, rfl, rfl, fun h => absurd h (by decide)⟩
set_option maxRecDepth 20000 in
theorem kF1_37 : hm_lF RX1 37 2 1 (tyX2 1) false false := ⟨RX2, TX2, 5, tyX2, rfl, by decide, (hm_in 638 (by decide +kernel) (by decide +kernel)), hF_in2, tyX2_ok, nmX2, rfl, rfl, fun h => absurd h (by decide)⟩
set_option maxRecDepth 20000 in
theorem kF2_19 : hm_lF RX2 19 2 2 (tyX2 2) false false := ⟨RX2, TX2, 5, tyX2, rfl, by decide, (hm_in 639 (by decide +kernel) (by decide +kernel)), hF_in2, tyX2_ok, nmX2, rfl, rfl, fun h => absurd h (by decide)⟩
set_option maxRecDepth 20000 in
theorem kF1_45 : hm_lF RX1 45 2 2 (tyX2 2) false false := ⟨RX2, TX2, 5, tyX2, rfl, by decide, (hm_in 640 (by decide +kernel) (by decide +kernel)), hF_in2, tyX2_ok, nmX2, rfl, rfl, fun h => absurd h (by decide)⟩
set_option maxRecDepth 20000 in
theorem kF2_22 : hm_lF RX2 22 2 3 (tyX2 3) true true := ⟨RX2, TX2, 5, tyX2, rfl, by decide, (hm_in 641 (by decide +kernel) (by decide +kernel)), hF_in2, tyX2_ok, nmX2, rfl, rfl, fun _ => ⟨rfl, rfl⟩⟩
set_option maxRecDepth 20000 in
theorem kF5_349 : hm_lF RX5 349 2 3 (tyX2 3) true false := ⟨RX2, TX2, 5, tyX2, rfl, by decide, (hm_in 642 (by decide +kernel) (by decide +kernel)), hF_in2, tyX2_ok, nmX2, rfl, rfl, fun h => absurd h (by decide)⟩
set_option maxRecDepth 20000 in
theorem kF2_26 : hm_lF RX2 26 2 4 (tyX2 4) false false := ⟨RX2, TX2, 5, tyX2, rfl, by decide, (hm_in 643 (by decide +kernel) (by decide +kernel)), hF_in2, tyX2_ok, nmX2, rfl, rfl, fun h => absurd h (by decide)⟩
set_option maxRecDepth 20000 in
theorem kF0_67 : hm_lF RX0 67 2 4 (tyX2 4) false false := ⟨RX2, TX2, 5, tyX2, rfl, by decide, (hm_in 644 (by decide +kernel) (by decide +kernel)), hF_in2, tyX2_ok, nmX2, rfl, rfl, fun h => absurd h (by decide)⟩
set_option maxRecDepth 20000 in
theorem kF5_346 : hm_lF RX5 346 2 4 (tyX2 4) false false := ⟨RX2, TX2, 5, tyX2, rfl, by decide, (hm_in 645 (by decide +kernel) (by decide +kernel)), hF_in2, tyX2_ok, nmX2, rfl, rfl, fun h => absurd h (by decide)⟩
set_option maxRecDepth 20000 in
theorem kF0_38 : hm_lF RX0 38 0 0 (tyX0 0) true true := ⟨RX0, TX0, 8, tyX0, rfl, by decide, (hm_in 657 (by decide +kernel) (by decide +kernel)), hF_in0, tyX0_ok, nmX0, rfl, rfl, fun _ => ⟨rfl, rfl⟩⟩
set_option maxRecDepth 20000 in
theorem kF3_51 : hm_lF RX3 51 0 0 (tyX0 0) true false := ⟨RX0, TX0, 8, tyX0, rfl, by decide, (hm_in 658 (by decide +kernel) (by decide +kernel)), hF_in0, tyX0_ok, nmX0, rfl, rfl, fun h => absurd h (by decide)⟩
set_option maxRecDepth 20000 in
theorem kF5_180 : hm_lF RX5 180 0 0 (tyX0 0) true false := ⟨RX0, TX0, 8, tyX0, rfl, by decide, (hm_in 659 (by decide +kernel) (by decide +kernel)), hF_in0, tyX0_ok, nmX0, rfl, rfl, fun h => absurd h (by decide)⟩
set_option maxRecDepth 20000 in
theorem kF0_11 : hm_lF RX0 11 0 1 (tyX0 1) true true := ⟨RX0, TX0, 8, tyX0, rfl, by decide, (hm_in 660 (by decide +kernel) (by decide +kernel)), hF_in0, tyX0_ok, nmX0, rfl, rfl, fun _ => ⟨rfl, rfl⟩⟩
set_option maxRecDepth 20000 in
theorem kF5_183 : hm_lF RX5 183 0 1 (tyX0 1) true false := ⟨RX0, TX0, 8, tyX0, rfl, by decide, (hm_in 661 (by decide +kernel) (by decide +kernel)), hF_in0, tyX0_ok, nmX0, rfl, rfl, fun h => absurd h (by decide)⟩
set_option maxRecDepth 20000 in
theorem kF0_17 : hm_lF RX0 17 0 2 (tyX0 2) false false := ⟨RX0, TX0, 8, tyX0, rfl, by decide, (hm_in 662 (by decide +kernel) (by decide +kernel)), hF_in0, tyX0_ok, nmX0, rfl, rfl, fun h => absurd h (by decide)⟩
set_option maxRecDepth 20000 in
theorem kF5_208 : hm_lF RX5 208 0 2 (tyX0 2) false false := ⟨RX0, TX0, 8, tyX0, rfl, by decide, (hm_in 663 (by decide +kernel) (by decide +kernel)), hF_in0, tyX0_ok, nmX0, rfl, rfl, fun h => absurd h (by decide)⟩
set_option maxRecDepth 20000 in
theorem kF0_21 : hm_lF RX0 21 0 3 (tyX0 3) false false := ⟨RX0, TX0, 8, tyX0, rfl, by decide, (hm_in 664 (by decide +kernel) (by decide +kernel)), hF_in0, tyX0_ok, nmX0, rfl, rfl, fun h => absurd h (by decide)⟩
set_option maxRecDepth 20000 in
theorem kF5_219 : hm_lF RX5 219 0 3 (tyX0 3) false false := ⟨RX0, TX0, 8, tyX0, rfl, by decide, (hm_in 665 (by decide +kernel) (by decide +kernel)), hF_in0, tyX0_ok, nmX0, rfl, rfl, fun h => absurd h (by decide)⟩
set_option maxRecDepth 20000 in
theorem kF0_25 : hm_lF RX0 25 0 4 (tyX0 4) false false := ⟨RX0, TX0, 8, tyX0, rfl, by decide, (hm_in 666 (by decide +kernel) (by decide +kernel)), hF_in0, tyX0_ok, nmX0, rfl, rfl, fun h => absurd h (by decide)⟩
set_option maxRecDepth 20000 in
theorem kF5_216 : hm_lF RX5 216 0 4 (tyX0 4) false false := ⟨RX0, TX0, 8, tyX0, rfl, by decide, (hm_in 667 (by decide +kernel) (by decide +kernel)), hF_in0, tyX0_ok, nmX0, rfl, rfl, fun h => absurd h (by decide)⟩
set_option maxRecDepth 20000 in
theorem kF0_28 : hm_lF RX0 28 0 5 (tyX0 5) false false := ⟨RX0, TX0, 8, tyX0, rfl, by decide, (hm_in 668 (by decide +kernel) (by decide +kernel)), hF_in0, tyX0_ok, nmX0, rfl, rfl, fun h => absurd h (by decide)⟩
set_option maxRecDepth 20000 in
theorem kF5_229 : hm_lF RX5 229 0 5 (tyX0 5) false false := ⟨RX0, TX0, 8, tyX0, rfl, by decide, (hm_in 669 (by decide +kernel) (by decide +kernel)), hF_in0, tyX0_ok, nmX0, rfl, rfl, fun h => absurd h (by decide)⟩
set_option maxRecDepth 20000 in
theorem kF0_31 : hm_lF RX0 31 0 6 (tyX0 6) true true := ⟨RX0, TX0, 8, tyX0, rfl, by decide, (hm_in 670 (by decide +kernel) (by decide +kernel)), hF_in0, tyX0_ok, nmX0, rfl, rfl, fun _ => ⟨rfl, rfl⟩⟩
set_option maxRecDepth 20000 in
theorem kF0_35 : hm_lF RX0 35 0 7 (tyX0 7) false false := ⟨RX0, TX0, 8, tyX0, rfl, by decide, (hm_in 671 (by decide +kernel) (by decide +kernel)), hF_in0, tyX0_ok, nmX0, rfl, rfl, fun h => absurd h (by decide)⟩
set_option maxRecDepth 20000 in
theorem kF3_62 : hm_lF RX3 62 0 7 (tyX0 7) false false := ⟨RX0, TX0, 8, tyX0, rfl, by decide, (hm_in 672 (by decide +kernel) (by decide +kernel)), hF_in0, tyX0_ok, nmX0, rfl, rfl, fun h => absurd h (by decide)⟩
set_option maxRecDepth 20000 in
theorem kF5_232 : hm_lF RX5 232 0 7 (tyX0 7) false false := ⟨RX0, TX0, 8, tyX0, rfl, by decide, (hm_in 673 (by decide +kernel) (by decide +kernel)), hF_in0, tyX0_ok, nmX0, rfl, rfl, fun h => absurd h (by decide)⟩
set_option maxRecDepth 20000 in
theorem kF6_83 : hm_lF RX6 83 6 0 (tyX6 0) false false := ⟨RX6, TX6, 27, tyX6, rfl, by decide, (hm_in 906 (by decide +kernel) (by decide +kernel)), hF_in6, tyX6_ok, nmX6, rfl, rfl, fun h => absurd h (by decide)⟩
set_option maxRecDepth 20000 in
theorem kF6_91 : hm_lF RX6 91 6 1 (tyX6 1) false false := ⟨RX6, TX6, 27, tyX6, rfl, by decide, (hm_in 907 (by decide +kernel) (by decide +kernel)), hF_in6, tyX6_ok, nmX6, rfl, rfl, fun h => absurd h (by decide)⟩
set_option maxRecDepth 20000 in
theorem kF6_7 : hm_lF RX6 7 6 2 (tyX6 2) true true := ⟨RX6, TX6, 27, tyX6, rfl, by decide, (hm_in 908 (by decide +kernel) (by decide +kernel)), hF_in6, tyX6_ok, nmX6, rfl, rfl, fun _ => ⟨rfl, rfl⟩⟩
set_option maxRecDepth 20000 in
theorem kF6_13 : hm_lF RX6 13 6 3 (tyX6 3) true true := ⟨RX6, TX6, 27, tyX6, rfl, by decide, (hm_in 909 (by decide +kernel) (by decide +kernel)), hF_in6, tyX6_ok, nmX6, rfl, rfl, fun _ => ⟨rfl, rfl⟩⟩
set_option maxRecDepth 20000 in
theorem kF6_17 : hm_lF RX6 17 6 4 (tyX6 4) true true := ⟨RX6, TX6, 27, tyX6, rfl, by decide, (hm_in 910 (by decide +kernel) (by decide +kernel)), hF_in6, tyX6_ok, nmX6, rfl, rfl, fun _ => ⟨rfl, rfl⟩⟩
set_option maxRecDepth 20000 in
theorem kF6_20 : hm_lF RX6 20 6 5 (tyX6 5) true true := ⟨RX6, TX6, 27, tyX6, rfl, by decide, (hm_in 911 (by decide +kernel) (by decide +kernel)), hF_in6, tyX6_ok, nmX6, rfl, rfl, fun _ => ⟨rfl, rfl⟩⟩
set_option maxRecDepth 20000 in
theorem kF6_23 : hm_lF RX6 23 6 6 (tyX6 6) true true := ⟨RX6, TX6, 27, tyX6, rfl, by decide, (hm_in 912 (by decide +kernel) (by decide +kernel)), hF_in6, tyX6_ok, nmX6, rfl, rfl, fun _ => ⟨rfl, rfl⟩⟩
set_option maxRecDepth 20000 in
theorem kF6_26 : hm_lF RX6 26 6 7 (tyX6 7) true true := ⟨RX6, TX6, 27, tyX6, rfl, by decide, (hm_in 913 (by decide +kernel) (by decide +kernel)), hF_in6, tyX6_ok, nmX6, rfl, rfl, fun _ => ⟨rfl, rfl⟩⟩
set_option maxRecDepth 20000 in
theorem kF6_29 : hm_lF RX6 29 6 8 (tyX6 8) true true := ⟨RX6, TX6, 27, tyX6, rfl, by decide, (hm_in 914 (by decide +kernel) (by decide +kernel)), hF_in6, tyX6_ok, nmX6, rfl, rfl, fun _ => ⟨rfl, rfl⟩⟩
set_option maxRecDepth 20000 in
theorem kF6_32 : hm_lF RX6 32 6 9 (tyX6 9) true true := ⟨RX6, TX6, 27, tyX6, rfl, by decide, (hm_in 915 (by decide +kernel) (by decide +kernel)), hF_in6, tyX6_ok, nmX6, rfl, rfl, fun _ => ⟨rfl, rfl⟩⟩
set_option maxRecDepth 20000 in
theorem kF6_35 : hm_lF RX6 35 6 10 (tyX6 10) true true := ⟨RX6, TX6, 27, tyX6, rfl, by decide, (hm_in 916 (by decide +kernel) (by decide +kernel)), hF_in6, tyX6_ok, nmX6, rfl, rfl, fun _ => ⟨rfl, rfl⟩⟩
set_option maxRecDepth 20000 in
theorem kF6_38 : hm_lF RX6 38 6 11 (tyX6 11) true true := ⟨RX6, TX6, 27, tyX6, rfl, by decide, (hm_in 917 (by decide +kernel) (by decide +kernel)), hF_in6, tyX6_ok, nmX6, rfl, rfl, fun _ => ⟨rfl, rfl⟩⟩
set_option maxRecDepth 20000 in
theorem kF6_41 : hm_lF RX6 41 6 12 (tyX6 12) true true := ⟨RX6, TX6, 27, tyX6, rfl, by decide, (hm_in 918 (by decide +kernel) (by decide +kernel)), hF_in6, tyX6_ok, nmX6, rfl, rfl, fun _ => ⟨rfl, rfl⟩⟩
set_option maxRecDepth 20000 in
theorem kF6_44 : hm_lF RX6 44 6 13 (tyX6 13) true true := ⟨RX6, TX6, 27, tyX6, rfl, by decide, (hm_in 919 (by decide +kernel) (by decide +kernel)), hF_in6, tyX6_ok, nmX6, rfl, rfl, fun _ => ⟨rfl, rfl⟩⟩
set_option maxRecDepth 20000 in
theorem kF6_47 : hm_lF RX6 47 6 14 (tyX6 14) true true := ⟨RX6, TX6, 27, tyX6, rfl, by decide, (hm_in 920 (by decide +kernel) (by decide +kernel)), hF_in6, tyX6_ok, nmX6, rfl, rfl, fun _ => ⟨rfl, rfl⟩⟩
set_option maxRecDepth 20000 in
theorem kF6_50 : hm_lF RX6 50 6 15 (tyX6 15) true true := ⟨RX6, TX6, 27, tyX6, rfl, by decide, (hm_in 921 (by decide +kernel) (by decide +kernel)), hF_in6, tyX6_ok, nmX6, rfl, rfl, fun _ => ⟨rfl, rfl⟩⟩
set_option maxRecDepth 20000 in
theorem kF6_53 : hm_lF RX6 53 6 16 (tyX6 16) true true := ⟨RX6, TX6, 27, tyX6, rfl, by decide, (hm_in 922 (by decide +kernel) (by decide +kernel)), hF_in6, tyX6_ok, nmX6, rfl, rfl, fun _ => ⟨rfl, rfl⟩⟩
set_option maxRecDepth 20000 in
theorem kF6_56 : hm_lF RX6 56 6 17 (tyX6 17) true true := ⟨RX6, TX6, 27, tyX6, rfl, by decide, (hm_in 923 (by decide +kernel) (by decide +kernel)), hF_in6, tyX6_ok, nmX6, rfl, rfl, fun _ => ⟨rfl, rfl⟩⟩
set_option maxRecDepth 20000 in
theorem kF6_59 : hm_lF RX6 59 6 18 (tyX6 18) true true := ⟨RX6, TX6, 27, tyX6, rfl, by decide, (hm_in 924 (by decide +kernel) (by decide +kernel)), hF_in6, tyX6_ok, nmX6, rfl, rfl, fun _ => ⟨rfl, rfl⟩⟩
set_option maxRecDepth 20000 in
theorem kF6_62 : hm_lF RX6 62 6 19 (tyX6 19) true true := ⟨RX6, TX6, 27, tyX6, rfl, by decide, (hm_in 925 (by decide +kernel) (by decide +kernel)), hF_in6, tyX6_ok, nmX6, rfl, rfl, fun _ => ⟨rfl, rfl⟩⟩
set_option maxRecDepth 20000 in
theorem kF6_65 : hm_lF RX6 65 6 20 (tyX6 20) true true := ⟨RX6, TX6, 27, tyX6, rfl, by decide, (hm_in 926 (by decide +kernel) (by decide +kernel)), hF_in6, tyX6_ok, nmX6, rfl, rfl, fun _ => ⟨rfl, rfl⟩⟩
set_option maxRecDepth 20000 in
theorem kF6_68 : hm_lF RX6 68 6 21 (tyX6 21) true true := ⟨RX6, TX6, 27, tyX6, rfl, by decide, (hm_in 927 (by decide +kernel) (by decide +kernel)), hF_in6, tyX6_ok, nmX6, rfl, rfl, fun _ => ⟨rfl, rfl⟩⟩
set_option maxRecDepth 20000 in
theorem kF6_71 : hm_lF RX6 71 6 22 (tyX6 22) true true := ⟨RX6, TX6, 27, tyX6, rfl, by decide, (hm_in 928 (by decide +kernel) (by decide +kernel)), hF_in6, tyX6_ok, nmX6, rfl, rfl, fun _ => ⟨rfl, rfl⟩⟩
set_option maxRecDepth 20000 in
theorem kF6_74 : hm_lF RX6 74 6 23 (tyX6 23) true true := ⟨RX6, TX6, 27, tyX6, rfl, by decide, (hm_in 929 (by decide +kernel) (by decide +kernel)), hF_in6, tyX6_ok, nmX6, rfl, rfl, fun _ => ⟨rfl, rfl⟩⟩
set_option maxRecDepth 20000 in
theorem kF6_77 : hm_lF RX6 77 6 24 (tyX6 24) true true := ⟨RX6, TX6, 27, tyX6, rfl, by decide, (hm_in 930 (by decide +kernel) (by decide +kernel)), hF_in6, tyX6_ok, nmX6, rfl, rfl, fun _ => ⟨rfl, rfl⟩⟩
set_option maxRecDepth 20000 in
theorem kF6_215 : hm_lF RX6 215 6 25 (tyX6 25) false false := ⟨RX6, TX6, 27, tyX6, rfl, by decide, (hm_in 931 (by decide +kernel) (by decide +kernel)), hF_in6, tyX6_ok, nmX6, rfl, rfl, fun h => absurd h (by decide)⟩
set_option maxRecDepth 20000 in
theorem kF6_80 : hm_lF RX6 80 6 26 (tyX6 26) true true := ⟨RX6, TX6, 27, tyX6, rfl, by decide, (hm_in 932 (by decide +kernel) (by decide +kernel)), hF_in6, tyX6_ok, nmX6, rfl, rfl, fun _ => ⟨rfl, rfl⟩⟩
set_option maxRecDepth 20000 in
theorem kCL_124 : hm_lI RL 124 yX5_init cX5_init 2 0 := ⟨(hm_in 73 (by decide +kernel) (by decide +kernel)), (hm_in 74 (by decide +kernel) (by decide +kernel)), (hm_in 56 (by decide +kernel) (by decide +kernel)), (hm_in 75 (by decide +kernel) (by decide +kernel)), ⟨by decide +kernel, by decide +kernel, by decide +kernel⟩, rfl⟩
set_option maxRecDepth 20000 in
theorem kCL_159 : hm_lV RL 159 yX5_sheets cX5_sheets 1 (some .int) 0 := ⟨(hm_in 106 (by decide +kernel) (by decide +kernel)), (hm_in 107 (by decide +kernel) (by decide +kernel)), (hm_in 108 (by decide +kernel) (by decide +kernel)), (hm_in 56 (by decide +kernel) (by decide +kernel)), (hm_in 109 (by decide +kernel) (by decide +kernel)), ⟨by decide +kernel, by decide +kernel, by decide +kernel⟩⟩
set_option maxRecDepth 20000 in
theorem kCL_7 : hm_lV RL 7 yX5_addSheet cX5_addSheet 2 (some .int) 0 := ⟨(hm_in 114 (by decide +kernel) (by decide +kernel)), (hm_in 115 (by decide +kernel) (by decide +kernel)), (hm_in 116 (by decide +kernel) (by decide +kernel)), (hm_in 56 (by decide +kernel) (by decide +kernel)), (hm_in 117 (by decide +kernel) (by decide +kernel)), ⟨by decide +kernel, by decide +kernel, by decide +kernel⟩⟩
set_option maxRecDepth 20000 in
theorem kC5_44 : hm_lI RX5 44 yX3_init cX3_init 3 0 := ⟨(hm_in 187 (by decide +kernel) (by decide +kernel)), (hm_in 188 (by decide +kernel) (by decide +kernel)), (hm_in 62 (by decide +kernel) (by decide +kernel)), (hm_in 189 (by decide +kernel) (by decide +kernel)), ⟨by decide +kernel, by decide +kernel, by decide +kernel⟩, rfl⟩
set_option maxRecDepth 20000 in
theorem kC3_34 : hm_lI RX3 34 yX4_init cX4_init 4 3 := ⟨(hm_in 196 (by decide +kernel) (by decide +kernel)), (hm_in 197 (by decide +kernel) (by decide +kernel)), (hm_in 63 (by decide +kernel) (by decide +kernel)), (hm_in 198 (by decide +kernel) (by decide +kernel)), ⟨by decide +kernel, by decide +kernel, by decide +kernel⟩, rfl⟩
set_option maxRecDepth 20000 in
theorem kCL_15 : hm_lV RL 15 yX5_setNumber cX5_setNumber 8 (some .int) 6 := ⟨(hm_in 249 (by decide +kernel) (by decide +kernel)), (hm_in 250 (by decide +kernel) (by decide +kernel)), (hm_in 251 (by decide +kernel) (by decide +kernel)), (hm_in 56 (by decide +kernel) (by decide +kernel)), (hm_in 252 (by decide +kernel) (by decide +kernel)), ⟨by decide +kernel, by decide +kernel, by decide +kernel⟩⟩
set_option maxRecDepth 20000 in
theorem kC5_45 : hm_lS RX5 45 yX5_checkClass cX5_checkClass 1 none 1 := ⟨(hm_in 253 (by decide +kernel) (by decide +kernel)), (hm_in 254 (by decide +kernel) (by decide +kernel)), (hm_in 56 (by decide +kernel) (by decide +kernel)), (hm_in 255 (by decide +kernel) (by decide +kernel)), ⟨by decide +kernel, by decide +kernel, by decide +kernel⟩⟩
set_option maxRecDepth 20000 in
theorem kC5_49 : hm_lV RX5 49 yX5_sheetAt cX5_sheetAt 3 (some (.object "SheetVault$Sheet")) 1 := ⟨(hm_in 272 (by decide +kernel) (by decide +kernel)), (hm_in 274 (by decide +kernel) (by decide +kernel)), (hm_in 1 (by decide +kernel) (by decide +kernel)), (hm_in 56 (by decide +kernel) (by decide +kernel)), (hm_in 275 (by decide +kernel) (by decide +kernel)), ⟨by decide +kernel, by decide +kernel, by decide +kernel⟩⟩
set_option maxRecDepth 20000 in
theorem kC5_53 : hm_lS RX5 53 yX5_checkTask cX5_checkTask 1 none 1 := ⟨(hm_in 277 (by decide +kernel) (by decide +kernel)), (hm_in 278 (by decide +kernel) (by decide +kernel)), (hm_in 56 (by decide +kernel) (by decide +kernel)), (hm_in 279 (by decide +kernel) (by decide +kernel)), ⟨by decide +kernel, by decide +kernel, by decide +kernel⟩⟩
set_option maxRecDepth 20000 in
theorem kC5_56 : hm_lS RX5 56 yX5_checkRange cX5_checkRange 3 none 3 := ⟨(hm_in 281 (by decide +kernel) (by decide +kernel)), (hm_in 282 (by decide +kernel) (by decide +kernel)), (hm_in 56 (by decide +kernel) (by decide +kernel)), (hm_in 283 (by decide +kernel) (by decide +kernel)), ⟨by decide +kernel, by decide +kernel, by decide +kernel⟩⟩
set_option maxRecDepth 20000 in
theorem kC5_60 : hm_lS RX5 60 yX5_checkNumberRule cX5_checkNumberRule 2 none 2 := ⟨(hm_in 300 (by decide +kernel) (by decide +kernel)), (hm_in 301 (by decide +kernel) (by decide +kernel)), (hm_in 56 (by decide +kernel) (by decide +kernel)), (hm_in 302 (by decide +kernel) (by decide +kernel)), ⟨by decide +kernel, by decide +kernel, by decide +kernel⟩⟩
set_option maxRecDepth 20000 in
theorem kC5_66 : hm_lI RX5 66 yX1_init cX1_init 5 4 := ⟨(hm_in 305 (by decide +kernel) (by decide +kernel)), (hm_in 306 (by decide +kernel) (by decide +kernel)), (hm_in 66 (by decide +kernel) (by decide +kernel)), (hm_in 307 (by decide +kernel) (by decide +kernel)), ⟨by decide +kernel, by decide +kernel, by decide +kernel⟩, rfl⟩
set_option maxRecDepth 20000 in
theorem kC5_69 : hm_lV RX5 69 yX5_revise cX5_revise 6 (some .int) 4 := ⟨(hm_in 328 (by decide +kernel) (by decide +kernel)), (hm_in 330 (by decide +kernel) (by decide +kernel)), (hm_in 2 (by decide +kernel) (by decide +kernel)), (hm_in 56 (by decide +kernel) (by decide +kernel)), (hm_in 331 (by decide +kernel) (by decide +kernel)), ⟨by decide +kernel, by decide +kernel, by decide +kernel⟩⟩
set_option maxRecDepth 20000 in
theorem kC5_305 : hm_lV RX5 305 yX1_size cX1_size 1 (some .int) 0 := ⟨(hm_in 333 (by decide +kernel) (by decide +kernel)), (hm_in 334 (by decide +kernel) (by decide +kernel)), (hm_in 335 (by decide +kernel) (by decide +kernel)), (hm_in 66 (by decide +kernel) (by decide +kernel)), (hm_in 336 (by decide +kernel) (by decide +kernel)), ⟨by decide +kernel, by decide +kernel, by decide +kernel⟩⟩
set_option maxRecDepth 20000 in
theorem kC1_24 : hm_lV RX1 24 yX1_sizeWith cX1_sizeWith 2 (some .int) 1 := ⟨(hm_in 337 (by decide +kernel) (by decide +kernel)), (hm_in 338 (by decide +kernel) (by decide +kernel)), (hm_in 339 (by decide +kernel) (by decide +kernel)), (hm_in 66 (by decide +kernel) (by decide +kernel)), (hm_in 340 (by decide +kernel) (by decide +kernel)), ⟨by decide +kernel, by decide +kernel, by decide +kernel⟩⟩
set_option maxRecDepth 20000 in
theorem kC1_28 : hm_lSN RX1 "SheetVault" 28 yX5_rowLength cX5_rowLength 2 (some .int) 1 := ⟨by decide +kernel, (hm_in 342 (by decide +kernel) (by decide +kernel)), (hm_in 56 (by decide +kernel) (by decide +kernel)), (hm_in 343 (by decide +kernel) (by decide +kernel)), ⟨by decide +kernel, by decide +kernel, by decide +kernel⟩⟩
set_option maxRecDepth 20000 in
theorem kC5_343 : hm_lS RX5 343 yX5_wordAt cX5_wordAt 2 (some .int) 2 := ⟨(hm_in 344 (by decide +kernel) (by decide +kernel)), (hm_in 345 (by decide +kernel) (by decide +kernel)), (hm_in 56 (by decide +kernel) (by decide +kernel)), (hm_in 346 (by decide +kernel) (by decide +kernel)), ⟨by decide +kernel, by decide +kernel, by decide +kernel⟩⟩
set_option maxRecDepth 20000 in
theorem kC5_116 : hm_lV RX5 116 yX5_passesQuota cX5_passesQuota 3 (some .boolean) 2 := ⟨(hm_in 347 (by decide +kernel) (by decide +kernel)), (hm_in 349 (by decide +kernel) (by decide +kernel)), (hm_in 3 (by decide +kernel) (by decide +kernel)), (hm_in 56 (by decide +kernel) (by decide +kernel)), (hm_in 350 (by decide +kernel) (by decide +kernel)), ⟨by decide +kernel, by decide +kernel, by decide +kernel⟩⟩
set_option maxRecDepth 20000 in
theorem kC5_390 : hm_lS RX5 390 yX5_isClass cX5_isClass 1 (some .boolean) 1 := ⟨(hm_in 351 (by decide +kernel) (by decide +kernel)), (hm_in 352 (by decide +kernel) (by decide +kernel)), (hm_in 56 (by decide +kernel) (by decide +kernel)), (hm_in 353 (by decide +kernel) (by decide +kernel)), ⟨by decide +kernel, by decide +kernel, by decide +kernel⟩⟩
set_option maxRecDepth 20000 in
theorem kC5_306 : hm_lI RX5 306 yX4_init cX4_init 4 3 := ⟨(hm_in 356 (by decide +kernel) (by decide +kernel)), (hm_in 197 (by decide +kernel) (by decide +kernel)), (hm_in 63 (by decide +kernel) (by decide +kernel)), (hm_in 198 (by decide +kernel) (by decide +kernel)), ⟨by decide +kernel, by decide +kernel, by decide +kernel⟩, rfl⟩
set_option maxRecDepth 20000 in
theorem kC5_122 : hm_lV RX5 122 yX5_addUse cX5_addUse 3 none 2 := ⟨(hm_in 357 (by decide +kernel) (by decide +kernel)), (hm_in 359 (by decide +kernel) (by decide +kernel)), (hm_in 4 (by decide +kernel) (by decide +kernel)), (hm_in 56 (by decide +kernel) (by decide +kernel)), (hm_in 360 (by decide +kernel) (by decide +kernel)), ⟨by decide +kernel, by decide +kernel, by decide +kernel⟩⟩
set_option maxRecDepth 20000 in
theorem kCL_23 : hm_lV RL 23 yX5_setChoice cX5_setChoice 7 (some .int) 5 := ⟨(hm_in 364 (by decide +kernel) (by decide +kernel)), (hm_in 365 (by decide +kernel) (by decide +kernel)), (hm_in 366 (by decide +kernel) (by decide +kernel)), (hm_in 56 (by decide +kernel) (by decide +kernel)), (hm_in 367 (by decide +kernel) (by decide +kernel)), ⟨by decide +kernel, by decide +kernel, by decide +kernel⟩⟩
set_option maxRecDepth 20000 in
theorem kCL_27 : hm_lV RL 27 yX5_setWords cX5_setWords 7 (some .int) 5 := ⟨(hm_in 371 (by decide +kernel) (by decide +kernel)), (hm_in 372 (by decide +kernel) (by decide +kernel)), (hm_in 373 (by decide +kernel) (by decide +kernel)), (hm_in 56 (by decide +kernel) (by decide +kernel)), (hm_in 374 (by decide +kernel) (by decide +kernel)), ⟨by decide +kernel, by decide +kernel, by decide +kernel⟩⟩
set_option maxRecDepth 20000 in
theorem kC5_73 : hm_lS RX5 73 yX5_checkWordsRule cX5_checkWordsRule 2 none 1 := ⟨(hm_in 375 (by decide +kernel) (by decide +kernel)), (hm_in 376 (by decide +kernel) (by decide +kernel)), (hm_in 56 (by decide +kernel) (by decide +kernel)), (hm_in 377 (by decide +kernel) (by decide +kernel)), ⟨by decide +kernel, by decide +kernel, by decide +kernel⟩⟩
set_option maxRecDepth 20000 in
theorem kC5_282 : hm_lS RX5 282 yX5_rowLength cX5_rowLength 2 (some .int) 1 := ⟨(hm_in 378 (by decide +kernel) (by decide +kernel)), (hm_in 342 (by decide +kernel) (by decide +kernel)), (hm_in 56 (by decide +kernel) (by decide +kernel)), (hm_in 343 (by decide +kernel) (by decide +kernel)), ⟨by decide +kernel, by decide +kernel, by decide +kernel⟩⟩
set_option maxRecDepth 20000 in
theorem kCL_30 : hm_lV RL 30 yX5_drop cX5_drop 5 (some .int) 3 := ⟨(hm_in 383 (by decide +kernel) (by decide +kernel)), (hm_in 384 (by decide +kernel) (by decide +kernel)), (hm_in 385 (by decide +kernel) (by decide +kernel)), (hm_in 56 (by decide +kernel) (by decide +kernel)), (hm_in 386 (by decide +kernel) (by decide +kernel)), ⟨by decide +kernel, by decide +kernel, by decide +kernel⟩⟩
set_option maxRecDepth 20000 in
theorem kC5_80 : hm_lS RX5 80 yX5_taskOf cX5_taskOf 4 (some (.object "SheetVault$Entry")) 2 := ⟨(hm_in 387 (by decide +kernel) (by decide +kernel)), (hm_in 388 (by decide +kernel) (by decide +kernel)), (hm_in 56 (by decide +kernel) (by decide +kernel)), (hm_in 389 (by decide +kernel) (by decide +kernel)), ⟨by decide +kernel, by decide +kernel, by decide +kernel⟩⟩
set_option maxRecDepth 20000 in
theorem kC5_142 : hm_lS RX5 142 yX5_tellerOf cX5_tellerOf 3 (some (.object "SheetVault$Version")) 2 := ⟨(hm_in 390 (by decide +kernel) (by decide +kernel)), (hm_in 391 (by decide +kernel) (by decide +kernel)), (hm_in 56 (by decide +kernel) (by decide +kernel)), (hm_in 392 (by decide +kernel) (by decide +kernel)), ⟨by decide +kernel, by decide +kernel, by decide +kernel⟩⟩
set_option maxRecDepth 20000 in
theorem kCL_34 : hm_lV RL 34 yX5_adopt cX5_adopt 7 (some .int) 3 := ⟨(hm_in 397 (by decide +kernel) (by decide +kernel)), (hm_in 398 (by decide +kernel) (by decide +kernel)), (hm_in 399 (by decide +kernel) (by decide +kernel)), (hm_in 56 (by decide +kernel) (by decide +kernel)), (hm_in 400 (by decide +kernel) (by decide +kernel)), ⟨by decide +kernel, by decide +kernel, by decide +kernel⟩⟩
set_option maxRecDepth 20000 in
theorem kC5_86 : hm_lS RX5 86 yX5_versionAt cX5_versionAt 3 (some (.object "SheetVault$Version")) 2 := ⟨(hm_in 401 (by decide +kernel) (by decide +kernel)), (hm_in 402 (by decide +kernel) (by decide +kernel)), (hm_in 56 (by decide +kernel) (by decide +kernel)), (hm_in 403 (by decide +kernel) (by decide +kernel)), ⟨by decide +kernel, by decide +kernel, by decide +kernel⟩⟩
set_option maxRecDepth 20000 in
theorem kC5_90 : hm_lS RX5 90 yX5_numberOf cX5_numberOf 1 (some .int) 1 := ⟨(hm_in 405 (by decide +kernel) (by decide +kernel)), (hm_in 406 (by decide +kernel) (by decide +kernel)), (hm_in 56 (by decide +kernel) (by decide +kernel)), (hm_in 407 (by decide +kernel) (by decide +kernel)), ⟨by decide +kernel, by decide +kernel, by decide +kernel⟩⟩
set_option maxRecDepth 20000 in
theorem kCL_37 : hm_lV RL 37 yX5_fold cX5_fold 8 (some .int) 2 := ⟨(hm_in 411 (by decide +kernel) (by decide +kernel)), (hm_in 412 (by decide +kernel) (by decide +kernel)), (hm_in 413 (by decide +kernel) (by decide +kernel)), (hm_in 56 (by decide +kernel) (by decide +kernel)), (hm_in 414 (by decide +kernel) (by decide +kernel)), ⟨by decide +kernel, by decide +kernel, by decide +kernel⟩⟩
set_option maxRecDepth 20000 in
theorem kC5_94 : hm_lV RX5 94 yX3_canFold cX3_canFold 2 (some .boolean) 1 := ⟨(hm_in 415 (by decide +kernel) (by decide +kernel)), (hm_in 416 (by decide +kernel) (by decide +kernel)), (hm_in 417 (by decide +kernel) (by decide +kernel)), (hm_in 62 (by decide +kernel) (by decide +kernel)), (hm_in 418 (by decide +kernel) (by decide +kernel)), ⟨by decide +kernel, by decide +kernel, by decide +kernel⟩⟩
set_option maxRecDepth 20000 in
theorem kC3_40 : hm_lV RX3 40 yX3_isHead cX3_isHead 3 (some .boolean) 1 := ⟨(hm_in 419 (by decide +kernel) (by decide +kernel)), (hm_in 421 (by decide +kernel) (by decide +kernel)), (hm_in 5 (by decide +kernel) (by decide +kernel)), (hm_in 62 (by decide +kernel) (by decide +kernel)), (hm_in 422 (by decide +kernel) (by decide +kernel)), ⟨by decide +kernel, by decide +kernel, by decide +kernel⟩⟩
set_option maxRecDepth 20000 in
theorem kC3_44 : hm_lV RX3 44 yX3_isTied cX3_isTied 3 (some .boolean) 1 := ⟨(hm_in 423 (by decide +kernel) (by decide +kernel)), (hm_in 425 (by decide +kernel) (by decide +kernel)), (hm_in 6 (by decide +kernel) (by decide +kernel)), (hm_in 62 (by decide +kernel) (by decide +kernel)), (hm_in 426 (by decide +kernel) (by decide +kernel)), ⟨by decide +kernel, by decide +kernel, by decide +kernel⟩⟩
set_option maxRecDepth 20000 in
theorem kC3_47 : hm_lV RX3 47 yX3_countChildren cX3_countChildren 4 (some .int) 1 := ⟨(hm_in 427 (by decide +kernel) (by decide +kernel)), (hm_in 429 (by decide +kernel) (by decide +kernel)), (hm_in 7 (by decide +kernel) (by decide +kernel)), (hm_in 62 (by decide +kernel) (by decide +kernel)), (hm_in 430 (by decide +kernel) (by decide +kernel)), ⟨by decide +kernel, by decide +kernel, by decide +kernel⟩⟩
set_option maxRecDepth 20000 in
theorem kC5_100 : hm_lV RX5 100 yX3_childOf cX3_childOf 3 (some (.object "SheetVault$Version")) 1 := ⟨(hm_in 432 (by decide +kernel) (by decide +kernel)), (hm_in 433 (by decide +kernel) (by decide +kernel)), (hm_in 434 (by decide +kernel) (by decide +kernel)), (hm_in 62 (by decide +kernel) (by decide +kernel)), (hm_in 435 (by decide +kernel) (by decide +kernel)), ⟨by decide +kernel, by decide +kernel, by decide +kernel⟩⟩
set_option maxRecDepth 20000 in
theorem kC5_104 : hm_lV RX5 104 yX4_size cX4_size 3 (some .int) 0 := ⟨(hm_in 436 (by decide +kernel) (by decide +kernel)), (hm_in 437 (by decide +kernel) (by decide +kernel)), (hm_in 438 (by decide +kernel) (by decide +kernel)), (hm_in 63 (by decide +kernel) (by decide +kernel)), (hm_in 439 (by decide +kernel) (by decide +kernel)), ⟨by decide +kernel, by decide +kernel, by decide +kernel⟩⟩
set_option maxRecDepth 20000 in
theorem kC4_28 : hm_lV RX4 28 yX1_size cX1_size 1 (some .int) 0 := ⟨(hm_in 440 (by decide +kernel) (by decide +kernel)), (hm_in 334 (by decide +kernel) (by decide +kernel)), (hm_in 335 (by decide +kernel) (by decide +kernel)), (hm_in 66 (by decide +kernel) (by decide +kernel)), (hm_in 336 (by decide +kernel) (by decide +kernel)), ⟨by decide +kernel, by decide +kernel, by decide +kernel⟩⟩
set_option maxRecDepth 20000 in
theorem kC5_110 : hm_lV RX5 110 yX4_sizeMissingIn cX4_sizeMissingIn 4 (some .int) 1 := ⟨(hm_in 441 (by decide +kernel) (by decide +kernel)), (hm_in 442 (by decide +kernel) (by decide +kernel)), (hm_in 443 (by decide +kernel) (by decide +kernel)), (hm_in 63 (by decide +kernel) (by decide +kernel)), (hm_in 444 (by decide +kernel) (by decide +kernel)), ⟨by decide +kernel, by decide +kernel, by decide +kernel⟩⟩
set_option maxRecDepth 20000 in
theorem kC5_125 : hm_lV RX5 125 yX4_inherit cX4_inherit 3 none 1 := ⟨(hm_in 445 (by decide +kernel) (by decide +kernel)), (hm_in 446 (by decide +kernel) (by decide +kernel)), (hm_in 447 (by decide +kernel) (by decide +kernel)), (hm_in 63 (by decide +kernel) (by decide +kernel)), (hm_in 448 (by decide +kernel) (by decide +kernel)), ⟨by decide +kernel, by decide +kernel, by decide +kernel⟩⟩
set_option maxRecDepth 20000 in
theorem kC5_129 : hm_lV RX5 129 yX3_remove cX3_remove 2 none 1 := ⟨(hm_in 449 (by decide +kernel) (by decide +kernel)), (hm_in 450 (by decide +kernel) (by decide +kernel)), (hm_in 451 (by decide +kernel) (by decide +kernel)), (hm_in 62 (by decide +kernel) (by decide +kernel)), (hm_in 452 (by decide +kernel) (by decide +kernel)), ⟨by decide +kernel, by decide +kernel, by decide +kernel⟩⟩
set_option maxRecDepth 20000 in
theorem kCL_41 : hm_lV RL 41 yX5_versions cX5_versions 5 (some .int) 1 := ⟨(hm_in 456 (by decide +kernel) (by decide +kernel)), (hm_in 457 (by decide +kernel) (by decide +kernel)), (hm_in 458 (by decide +kernel) (by decide +kernel)), (hm_in 56 (by decide +kernel) (by decide +kernel)), (hm_in 459 (by decide +kernel) (by decide +kernel)), ⟨by decide +kernel, by decide +kernel, by decide +kernel⟩⟩
set_option maxRecDepth 20000 in
theorem kCL_45 : hm_lV RL 45 yX5_head cX5_head 3 (some .int) 2 := ⟨(hm_in 463 (by decide +kernel) (by decide +kernel)), (hm_in 464 (by decide +kernel) (by decide +kernel)), (hm_in 465 (by decide +kernel) (by decide +kernel)), (hm_in 56 (by decide +kernel) (by decide +kernel)), (hm_in 466 (by decide +kernel) (by decide +kernel)), ⟨by decide +kernel, by decide +kernel, by decide +kernel⟩⟩
set_option maxRecDepth 20000 in
theorem kCL_48 : hm_lV RL 48 yX5_parent cX5_parent 3 (some .int) 2 := ⟨(hm_in 470 (by decide +kernel) (by decide +kernel)), (hm_in 471 (by decide +kernel) (by decide +kernel)), (hm_in 472 (by decide +kernel) (by decide +kernel)), (hm_in 56 (by decide +kernel) (by decide +kernel)), (hm_in 473 (by decide +kernel) (by decide +kernel)), ⟨by decide +kernel, by decide +kernel, by decide +kernel⟩⟩
set_option maxRecDepth 20000 in
theorem kCL_51 : hm_lV RL 51 yX5_kindOf cX5_kindOf 6 (some .int) 3 := ⟨(hm_in 477 (by decide +kernel) (by decide +kernel)), (hm_in 478 (by decide +kernel) (by decide +kernel)), (hm_in 479 (by decide +kernel) (by decide +kernel)), (hm_in 56 (by decide +kernel) (by decide +kernel)), (hm_in 480 (by decide +kernel) (by decide +kernel)), ⟨by decide +kernel, by decide +kernel, by decide +kernel⟩⟩
set_option maxRecDepth 20000 in
theorem kCL_54 : hm_lV RL 54 yX5_toldIn cX5_toldIn 5 (some .int) 3 := ⟨(hm_in 484 (by decide +kernel) (by decide +kernel)), (hm_in 485 (by decide +kernel) (by decide +kernel)), (hm_in 486 (by decide +kernel) (by decide +kernel)), (hm_in 56 (by decide +kernel) (by decide +kernel)), (hm_in 487 (by decide +kernel) (by decide +kernel)), ⟨by decide +kernel, by decide +kernel, by decide +kernel⟩⟩
set_option maxRecDepth 20000 in
theorem kCL_57 : hm_lV RL 57 yX5_points cX5_points 7 (some .int) 2 := ⟨(hm_in 491 (by decide +kernel) (by decide +kernel)), (hm_in 492 (by decide +kernel) (by decide +kernel)), (hm_in 493 (by decide +kernel) (by decide +kernel)), (hm_in 56 (by decide +kernel) (by decide +kernel)), (hm_in 494 (by decide +kernel) (by decide +kernel)), ⟨by decide +kernel, by decide +kernel, by decide +kernel⟩⟩
set_option maxRecDepth 20000 in
theorem kCL_60 : hm_lV RL 60 yX5_mendNumber cX5_mendNumber 8 (some .int) 5 := ⟨(hm_in 498 (by decide +kernel) (by decide +kernel)), (hm_in 499 (by decide +kernel) (by decide +kernel)), (hm_in 500 (by decide +kernel) (by decide +kernel)), (hm_in 56 (by decide +kernel) (by decide +kernel)), (hm_in 501 (by decide +kernel) (by decide +kernel)), ⟨by decide +kernel, by decide +kernel, by decide +kernel⟩⟩
set_option maxRecDepth 20000 in
theorem kC5_149 : hm_lV RX5 149 yX5_mend cX5_mend 10 (some .int) 6 := ⟨(hm_in 502 (by decide +kernel) (by decide +kernel)), (hm_in 504 (by decide +kernel) (by decide +kernel)), (hm_in 8 (by decide +kernel) (by decide +kernel)), (hm_in 56 (by decide +kernel) (by decide +kernel)), (hm_in 505 (by decide +kernel) (by decide +kernel)), ⟨by decide +kernel, by decide +kernel, by decide +kernel⟩⟩
set_option maxRecDepth 20000 in
theorem kC5_311 : hm_lV RX5 311 yX1_sizeWith cX1_sizeWith 2 (some .int) 1 := ⟨(hm_in 507 (by decide +kernel) (by decide +kernel)), (hm_in 338 (by decide +kernel) (by decide +kernel)), (hm_in 339 (by decide +kernel) (by decide +kernel)), (hm_in 66 (by decide +kernel) (by decide +kernel)), (hm_in 340 (by decide +kernel) (by decide +kernel)), ⟨by decide +kernel, by decide +kernel, by decide +kernel⟩⟩
set_option maxRecDepth 20000 in
theorem kC5_320 : hm_lV RX5 320 yX5_gradeAgain cX5_gradeAgain 6 (some .int) 1 := ⟨(hm_in 508 (by decide +kernel) (by decide +kernel)), (hm_in 510 (by decide +kernel) (by decide +kernel)), (hm_in 9 (by decide +kernel) (by decide +kernel)), (hm_in 56 (by decide +kernel) (by decide +kernel)), (hm_in 511 (by decide +kernel) (by decide +kernel)), ⟨by decide +kernel, by decide +kernel, by decide +kernel⟩⟩
set_option maxRecDepth 20000 in
theorem kC5_212 : hm_lV RX5 212 yX5_grade cX5_grade 7 (some .int) 2 := ⟨(hm_in 512 (by decide +kernel) (by decide +kernel)), (hm_in 514 (by decide +kernel) (by decide +kernel)), (hm_in 10 (by decide +kernel) (by decide +kernel)), (hm_in 56 (by decide +kernel) (by decide +kernel)), (hm_in 515 (by decide +kernel) (by decide +kernel)), ⟨by decide +kernel, by decide +kernel, by decide +kernel⟩⟩
set_option maxRecDepth 20000 in
theorem kC5_328 : hm_lV RX5 328 yX5_commonWords cX5_commonWords 4 (some .int) 3 := ⟨(hm_in 516 (by decide +kernel) (by decide +kernel)), (hm_in 518 (by decide +kernel) (by decide +kernel)), (hm_in 11 (by decide +kernel) (by decide +kernel)), (hm_in 56 (by decide +kernel) (by decide +kernel)), (hm_in 519 (by decide +kernel) (by decide +kernel)), ⟨by decide +kernel, by decide +kernel, by decide +kernel⟩⟩
set_option maxRecDepth 20000 in
theorem kC5_336 : hm_lS RX5 336 yX5_longestKept cX5_longestKept 6 (some .int) 2 := ⟨(hm_in 520 (by decide +kernel) (by decide +kernel)), (hm_in 521 (by decide +kernel) (by decide +kernel)), (hm_in 56 (by decide +kernel) (by decide +kernel)), (hm_in 522 (by decide +kernel) (by decide +kernel)), ⟨by decide +kernel, by decide +kernel, by decide +kernel⟩⟩
set_option maxRecDepth 20000 in
theorem kC5_357 : hm_lS RX5 357 yJ6_bitCount_0f7a4 cJ6_bitCount_0f7a4 1 (some .int) 1 := ⟨(hm_in 523 (by decide +kernel) (by decide +kernel)), (hm_in 524 (by decide +kernel) (by decide +kernel)), (hm_in 67 (by decide +kernel) (by decide +kernel)), (hm_in 525 (by decide +kernel) (by decide +kernel)), ⟨by decide +kernel, by decide +kernel, by decide +kernel⟩⟩
set_option maxRecDepth 20000 in
theorem kC5_362 : hm_lS RX5 362 yX5_keepWords cX5_keepWords 5 (some .int) 2 := ⟨(hm_in 529 (by decide +kernel) (by decide +kernel)), (hm_in 530 (by decide +kernel) (by decide +kernel)), (hm_in 56 (by decide +kernel) (by decide +kernel)), (hm_in 531 (by decide +kernel) (by decide +kernel)), ⟨by decide +kernel, by decide +kernel, by decide +kernel⟩⟩
set_option maxRecDepth 20000 in
theorem kC5_365 : hm_lV RX5 365 yX2_holdsInOrder cX2_holdsInOrder 4 (some .boolean) 1 := ⟨(hm_in 532 (by decide +kernel) (by decide +kernel)), (hm_in 533 (by decide +kernel) (by decide +kernel)), (hm_in 534 (by decide +kernel) (by decide +kernel)), (hm_in 70 (by decide +kernel) (by decide +kernel)), (hm_in 535 (by decide +kernel) (by decide +kernel)), ⟨by decide +kernel, by decide +kernel, by decide +kernel⟩⟩
set_option maxRecDepth 20000 in
theorem kC5_340 : hm_lV RX5 340 yX5_longestCommon cX5_longestCommon 8 (some .int) 2 := ⟨(hm_in 536 (by decide +kernel) (by decide +kernel)), (hm_in 538 (by decide +kernel) (by decide +kernel)), (hm_in 12 (by decide +kernel) (by decide +kernel)), (hm_in 56 (by decide +kernel) (by decide +kernel)), (hm_in 539 (by decide +kernel) (by decide +kernel)), ⟨by decide +kernel, by decide +kernel, by decide +kernel⟩⟩
set_option maxRecDepth 20000 in
theorem kC5_352 : hm_lS RX5 352 yJ9_max_7cf53 cJ9_max_7cf53 2 (some .int) 2 := ⟨(hm_in 540 (by decide +kernel) (by decide +kernel)), (hm_in 541 (by decide +kernel) (by decide +kernel)), (hm_in 68 (by decide +kernel) (by decide +kernel)), (hm_in 542 (by decide +kernel) (by decide +kernel)), ⟨by decide +kernel, by decide +kernel, by decide +kernel⟩⟩
set_option maxRecDepth 20000 in
theorem kC5_332 : hm_lV RX5 332 yX1_earned cX1_earned 4 (some .int) 2 := ⟨(hm_in 543 (by decide +kernel) (by decide +kernel)), (hm_in 544 (by decide +kernel) (by decide +kernel)), (hm_in 545 (by decide +kernel) (by decide +kernel)), (hm_in 66 (by decide +kernel) (by decide +kernel)), (hm_in 546 (by decide +kernel) (by decide +kernel)), ⟨by decide +kernel, by decide +kernel, by decide +kernel⟩⟩
set_option maxRecDepth 20000 in
theorem kC1_40 : hm_lS RX1 40 yJ9_abs_0f7a4 cJ9_abs_0f7a4 1 (some .int) 1 := ⟨(hm_in 547 (by decide +kernel) (by decide +kernel)), (hm_in 548 (by decide +kernel) (by decide +kernel)), (hm_in 68 (by decide +kernel) (by decide +kernel)), (hm_in 549 (by decide +kernel) (by decide +kernel)), ⟨by decide +kernel, by decide +kernel, by decide +kernel⟩⟩
set_option maxRecDepth 20000 in
theorem kC1_48 : hm_lV RX1 48 yX1_earnedByChoice cX1_earnedByChoice 5 (some .int) 1 := ⟨(hm_in 550 (by decide +kernel) (by decide +kernel)), (hm_in 552 (by decide +kernel) (by decide +kernel)), (hm_in 13 (by decide +kernel) (by decide +kernel)), (hm_in 66 (by decide +kernel) (by decide +kernel)), (hm_in 553 (by decide +kernel) (by decide +kernel)), ⟨by decide +kernel, by decide +kernel, by decide +kernel⟩⟩
set_option maxRecDepth 20000 in
theorem kC1_51 : hm_lS RX1 51 yJ6_bitCount_0f7a4 cJ6_bitCount_0f7a4 1 (some .int) 1 := ⟨(hm_in 554 (by decide +kernel) (by decide +kernel)), (hm_in 524 (by decide +kernel) (by decide +kernel)), (hm_in 67 (by decide +kernel) (by decide +kernel)), (hm_in 525 (by decide +kernel) (by decide +kernel)), ⟨by decide +kernel, by decide +kernel, by decide +kernel⟩⟩
set_option maxRecDepth 20000 in
theorem kC1_56 : hm_lS RX1 56 yJ9_max_7cf53 cJ9_max_7cf53 2 (some .int) 2 := ⟨(hm_in 555 (by decide +kernel) (by decide +kernel)), (hm_in 541 (by decide +kernel) (by decide +kernel)), (hm_in 68 (by decide +kernel) (by decide +kernel)), (hm_in 542 (by decide +kernel) (by decide +kernel)), ⟨by decide +kernel, by decide +kernel, by decide +kernel⟩⟩
set_option maxRecDepth 20000 in
theorem kC5_156 : hm_lS RX5 156 yX5_classOf cX5_classOf 1 (some .int) 1 := ⟨(hm_in 556 (by decide +kernel) (by decide +kernel)), (hm_in 557 (by decide +kernel) (by decide +kernel)), (hm_in 56 (by decide +kernel) (by decide +kernel)), (hm_in 558 (by decide +kernel) (by decide +kernel)), ⟨by decide +kernel, by decide +kernel, by decide +kernel⟩⟩
set_option maxRecDepth 20000 in
theorem kC5_324 : hm_lV RX5 324 yX0_takeDueMark cX0_takeDueMark 3 none 2 := ⟨(hm_in 559 (by decide +kernel) (by decide +kernel)), (hm_in 560 (by decide +kernel) (by decide +kernel)), (hm_in 561 (by decide +kernel) (by decide +kernel)), (hm_in 69 (by decide +kernel) (by decide +kernel)), (hm_in 562 (by decide +kernel) (by decide +kernel)), ⟨by decide +kernel, by decide +kernel, by decide +kernel⟩⟩
set_option maxRecDepth 20000 in
theorem kC5_222 : hm_lV RX5 222 yX0_findPrints cX0_findPrints 3 none 0 := ⟨(hm_in 563 (by decide +kernel) (by decide +kernel)), (hm_in 564 (by decide +kernel) (by decide +kernel)), (hm_in 565 (by decide +kernel) (by decide +kernel)), (hm_in 69 (by decide +kernel) (by decide +kernel)), (hm_in 566 (by decide +kernel) (by decide +kernel)), ⟨by decide +kernel, by decide +kernel, by decide +kernel⟩⟩
set_option maxRecDepth 20000 in
theorem kC0_47 : hm_lV RX0 47 yX0_isInIndex cX0_isInIndex 1 (some .boolean) 0 := ⟨(hm_in 567 (by decide +kernel) (by decide +kernel)), (hm_in 568 (by decide +kernel) (by decide +kernel)), (hm_in 569 (by decide +kernel) (by decide +kernel)), (hm_in 69 (by decide +kernel) (by decide +kernel)), (hm_in 570 (by decide +kernel) (by decide +kernel)), ⟨by decide +kernel, by decide +kernel, by decide +kernel⟩⟩
set_option maxRecDepth 20000 in
theorem kC0_51 : hm_lSN RX0 "SheetVault" 51 yX5_taskOf cX5_taskOf 4 (some (.object "SheetVault$Entry")) 2 := ⟨by decide +kernel, (hm_in 388 (by decide +kernel) (by decide +kernel)), (hm_in 56 (by decide +kernel) (by decide +kernel)), (hm_in 389 (by decide +kernel) (by decide +kernel)), ⟨by decide +kernel, by decide +kernel, by decide +kernel⟩⟩
set_option maxRecDepth 20000 in
theorem kC0_63 : hm_lV RX0 63 yX0_findPrintsOf cX0_findPrintsOf 5 none 2 := ⟨(hm_in 572 (by decide +kernel) (by decide +kernel)), (hm_in 574 (by decide +kernel) (by decide +kernel)), (hm_in 14 (by decide +kernel) (by decide +kernel)), (hm_in 69 (by decide +kernel) (by decide +kernel)), (hm_in 576 (by decide +kernel) (by decide +kernel)), ⟨by decide +kernel, by decide +kernel, by decide +kernel⟩⟩
set_option maxRecDepth 20000 in
theorem kC0_70 : hm_lV RX0 70 yX2_printAt cX2_printAt 2 (some .int) 1 := ⟨(hm_in 577 (by decide +kernel) (by decide +kernel)), (hm_in 578 (by decide +kernel) (by decide +kernel)), (hm_in 579 (by decide +kernel) (by decide +kernel)), (hm_in 70 (by decide +kernel) (by decide +kernel)), (hm_in 580 (by decide +kernel) (by decide +kernel)), ⟨by decide +kernel, by decide +kernel, by decide +kernel⟩⟩
set_option maxRecDepth 20000 in
theorem kC2_33 : hm_lSN RX2 "SheetVault" 33 yX5_printOf cX5_printOf 3 (some .int) 3 := ⟨by decide +kernel, (hm_in 582 (by decide +kernel) (by decide +kernel)), (hm_in 56 (by decide +kernel) (by decide +kernel)), (hm_in 583 (by decide +kernel) (by decide +kernel)), ⟨by decide +kernel, by decide +kernel, by decide +kernel⟩⟩
set_option maxRecDepth 20000 in
theorem kC0_74 : hm_lSN RX0 "SheetVault" 74 yX5_ruleHasPrint cX5_ruleHasPrint 4 (some .boolean) 2 := ⟨by decide +kernel, (hm_in 585 (by decide +kernel) (by decide +kernel)), (hm_in 56 (by decide +kernel) (by decide +kernel)), (hm_in 586 (by decide +kernel) (by decide +kernel)), ⟨by decide +kernel, by decide +kernel, by decide +kernel⟩⟩
set_option maxRecDepth 20000 in
theorem kC5_368 : hm_lS RX5 368 yX5_printOf cX5_printOf 3 (some .int) 3 := ⟨(hm_in 587 (by decide +kernel) (by decide +kernel)), (hm_in 582 (by decide +kernel) (by decide +kernel)), (hm_in 56 (by decide +kernel) (by decide +kernel)), (hm_in 583 (by decide +kernel) (by decide +kernel)), ⟨by decide +kernel, by decide +kernel, by decide +kernel⟩⟩
set_option maxRecDepth 20000 in
theorem kC0_78 : hm_lV RX0 78 yX0_insertPrint cX0_insertPrint 5 none 1 := ⟨(hm_in 588 (by decide +kernel) (by decide +kernel)), (hm_in 590 (by decide +kernel) (by decide +kernel)), (hm_in 15 (by decide +kernel) (by decide +kernel)), (hm_in 69 (by decide +kernel) (by decide +kernel)), (hm_in 591 (by decide +kernel) (by decide +kernel)), ⟨by decide +kernel, by decide +kernel, by decide +kernel⟩⟩
set_option maxRecDepth 20000 in
theorem kC0_82 : hm_lV RX0 82 yX0_placeOf cX0_placeOf 3 (some .int) 1 := ⟨(hm_in 592 (by decide +kernel) (by decide +kernel)), (hm_in 594 (by decide +kernel) (by decide +kernel)), (hm_in 16 (by decide +kernel) (by decide +kernel)), (hm_in 69 (by decide +kernel) (by decide +kernel)), (hm_in 595 (by decide +kernel) (by decide +kernel)), ⟨by decide +kernel, by decide +kernel, by decide +kernel⟩⟩
set_option maxRecDepth 20000 in
theorem kCL_63 : hm_lV RL 63 yX5_mendChoice cX5_mendChoice 7 (some .int) 4 := ⟨(hm_in 599 (by decide +kernel) (by decide +kernel)), (hm_in 600 (by decide +kernel) (by decide +kernel)), (hm_in 601 (by decide +kernel) (by decide +kernel)), (hm_in 56 (by decide +kernel) (by decide +kernel)), (hm_in 602 (by decide +kernel) (by decide +kernel)), ⟨by decide +kernel, by decide +kernel, by decide +kernel⟩⟩
set_option maxRecDepth 20000 in
theorem kCL_67 : hm_lV RL 67 yX5_mendWords cX5_mendWords 7 (some .int) 4 := ⟨(hm_in 606 (by decide +kernel) (by decide +kernel)), (hm_in 607 (by decide +kernel) (by decide +kernel)), (hm_in 608 (by decide +kernel) (by decide +kernel)), (hm_in 56 (by decide +kernel) (by decide +kernel)), (hm_in 609 (by decide +kernel) (by decide +kernel)), ⟨by decide +kernel, by decide +kernel, by decide +kernel⟩⟩
set_option maxRecDepth 20000 in
theorem kCL_70 : hm_lV RL 70 yX5_open cX5_open 6 (some .int) 2 := ⟨(hm_in 613 (by decide +kernel) (by decide +kernel)), (hm_in 614 (by decide +kernel) (by decide +kernel)), (hm_in 615 (by decide +kernel) (by decide +kernel)), (hm_in 56 (by decide +kernel) (by decide +kernel)), (hm_in 616 (by decide +kernel) (by decide +kernel)), ⟨by decide +kernel, by decide +kernel, by decide +kernel⟩⟩
set_option maxRecDepth 20000 in
theorem kC5_153 : hm_lS RX5 153 yX5_checkPupil cX5_checkPupil 1 none 1 := ⟨(hm_in 617 (by decide +kernel) (by decide +kernel)), (hm_in 618 (by decide +kernel) (by decide +kernel)), (hm_in 56 (by decide +kernel) (by decide +kernel)), (hm_in 619 (by decide +kernel) (by decide +kernel)), ⟨by decide +kernel, by decide +kernel, by decide +kernel⟩⟩
set_option maxRecDepth 20000 in
theorem kC5_174 : hm_lI RX5 174 yX0_init cX0_init 3 1 := ⟨(hm_in 624 (by decide +kernel) (by decide +kernel)), (hm_in 625 (by decide +kernel) (by decide +kernel)), (hm_in 69 (by decide +kernel) (by decide +kernel)), (hm_in 626 (by decide +kernel) (by decide +kernel)), ⟨by decide +kernel, by decide +kernel, by decide +kernel⟩, rfl⟩
set_option maxRecDepth 20000 in
theorem kC0_42 : hm_lIN RX0 "SheetVault" 42 yX2_init cX2_init 1 0 := ⟨by decide +kernel, (hm_in 632 (by decide +kernel) (by decide +kernel)), (hm_in 70 (by decide +kernel) (by decide +kernel)), (hm_in 633 (by decide +kernel) (by decide +kernel)), ⟨by decide +kernel, by decide +kernel, by decide +kernel⟩, rfl⟩
set_option maxRecDepth 20000 in
theorem kCL_73 : hm_lV RL 73 yX5_say cX5_say 10 (some .int) 4 := ⟨(hm_in 694 (by decide +kernel) (by decide +kernel)), (hm_in 695 (by decide +kernel) (by decide +kernel)), (hm_in 696 (by decide +kernel) (by decide +kernel)), (hm_in 56 (by decide +kernel) (by decide +kernel)), (hm_in 697 (by decide +kernel) (by decide +kernel)), ⟨by decide +kernel, by decide +kernel, by decide +kernel⟩⟩
set_option maxRecDepth 20000 in
theorem kC5_176 : hm_lS RX5 176 yX5_openAnswer cX5_openAnswer 3 (some (.object "SheetVault$Answer")) 2 := ⟨(hm_in 698 (by decide +kernel) (by decide +kernel)), (hm_in 699 (by decide +kernel) (by decide +kernel)), (hm_in 56 (by decide +kernel) (by decide +kernel)), (hm_in 700 (by decide +kernel) (by decide +kernel)), ⟨by decide +kernel, by decide +kernel, by decide +kernel⟩⟩
set_option maxRecDepth 20000 in
theorem kC5_189 : hm_lS RX5 189 yX5_checkSaid cX5_checkSaid 2 none 2 := ⟨(hm_in 703 (by decide +kernel) (by decide +kernel)), (hm_in 704 (by decide +kernel) (by decide +kernel)), (hm_in 56 (by decide +kernel) (by decide +kernel)), (hm_in 705 (by decide +kernel) (by decide +kernel)), ⟨by decide +kernel, by decide +kernel, by decide +kernel⟩⟩
set_option maxRecDepth 20000 in
theorem kC5_192 : hm_lV RX5 192 yX2_growthBy cX2_growthBy 3 (some .int) 2 := ⟨(hm_in 706 (by decide +kernel) (by decide +kernel)), (hm_in 707 (by decide +kernel) (by decide +kernel)), (hm_in 708 (by decide +kernel) (by decide +kernel)), (hm_in 70 (by decide +kernel) (by decide +kernel)), (hm_in 709 (by decide +kernel) (by decide +kernel)), ⟨by decide +kernel, by decide +kernel, by decide +kernel⟩⟩
set_option maxRecDepth 20000 in
theorem kC2_29 : hm_lS RX2 29 yX2_sizeOfSigns cX2_sizeOfSigns 1 (some .int) 1 := ⟨(hm_in 710 (by decide +kernel) (by decide +kernel)), (hm_in 711 (by decide +kernel) (by decide +kernel)), (hm_in 70 (by decide +kernel) (by decide +kernel)), (hm_in 712 (by decide +kernel) (by decide +kernel)), ⟨by decide +kernel, by decide +kernel, by decide +kernel⟩⟩
set_option maxRecDepth 20000 in
theorem kC5_198 : hm_lV RX5 198 yX2_isFull cX2_isFull 2 (some .boolean) 1 := ⟨(hm_in 713 (by decide +kernel) (by decide +kernel)), (hm_in 714 (by decide +kernel) (by decide +kernel)), (hm_in 715 (by decide +kernel) (by decide +kernel)), (hm_in 70 (by decide +kernel) (by decide +kernel)), (hm_in 716 (by decide +kernel) (by decide +kernel)), ⟨by decide +kernel, by decide +kernel, by decide +kernel⟩⟩
set_option maxRecDepth 20000 in
theorem kC5_204 : hm_lV RX5 204 yX2_add cX2_add 3 none 2 := ⟨(hm_in 718 (by decide +kernel) (by decide +kernel)), (hm_in 719 (by decide +kernel) (by decide +kernel)), (hm_in 720 (by decide +kernel) (by decide +kernel)), (hm_in 70 (by decide +kernel) (by decide +kernel)), (hm_in 721 (by decide +kernel) (by decide +kernel)), ⟨by decide +kernel, by decide +kernel, by decide +kernel⟩⟩
set_option maxRecDepth 20000 in
theorem kC5_207 : hm_lV RX5 207 yX0_size cX0_size 3 (some .int) 0 := ⟨(hm_in 722 (by decide +kernel) (by decide +kernel)), (hm_in 723 (by decide +kernel) (by decide +kernel)), (hm_in 724 (by decide +kernel) (by decide +kernel)), (hm_in 69 (by decide +kernel) (by decide +kernel)), (hm_in 725 (by decide +kernel) (by decide +kernel)), ⟨by decide +kernel, by decide +kernel, by decide +kernel⟩⟩
set_option maxRecDepth 20000 in
theorem kC0_43 : hm_lV RX0 43 yX2_size cX2_size 1 (some .int) 0 := ⟨(hm_in 726 (by decide +kernel) (by decide +kernel)), (hm_in 727 (by decide +kernel) (by decide +kernel)), (hm_in 728 (by decide +kernel) (by decide +kernel)), (hm_in 70 (by decide +kernel) (by decide +kernel)), (hm_in 729 (by decide +kernel) (by decide +kernel)), ⟨by decide +kernel, by decide +kernel, by decide +kernel⟩⟩
set_option maxRecDepth 20000 in
theorem kCL_76 : hm_lV RL 76 yX5_hand cX5_hand 5 (some .int) 2 := ⟨(hm_in 733 (by decide +kernel) (by decide +kernel)), (hm_in 734 (by decide +kernel) (by decide +kernel)), (hm_in 735 (by decide +kernel) (by decide +kernel)), (hm_in 56 (by decide +kernel) (by decide +kernel)), (hm_in 736 (by decide +kernel) (by decide +kernel)), ⟨by decide +kernel, by decide +kernel, by decide +kernel⟩⟩
set_option maxRecDepth 20000 in
theorem kCL_79 : hm_lV RL 79 yX5_close cX5_close 7 (some .int) 2 := ⟨(hm_in 740 (by decide +kernel) (by decide +kernel)), (hm_in 741 (by decide +kernel) (by decide +kernel)), (hm_in 742 (by decide +kernel) (by decide +kernel)), (hm_in 56 (by decide +kernel) (by decide +kernel)), (hm_in 743 (by decide +kernel) (by decide +kernel)), ⟨by decide +kernel, by decide +kernel, by decide +kernel⟩⟩
set_option maxRecDepth 20000 in
theorem kCL_82 : hm_lV RL 82 yX5_answer cX5_answer 4 (some .int) 2 := ⟨(hm_in 747 (by decide +kernel) (by decide +kernel)), (hm_in 748 (by decide +kernel) (by decide +kernel)), (hm_in 749 (by decide +kernel) (by decide +kernel)), (hm_in 56 (by decide +kernel) (by decide +kernel)), (hm_in 750 (by decide +kernel) (by decide +kernel)), ⟨by decide +kernel, by decide +kernel, by decide +kernel⟩⟩
set_option maxRecDepth 20000 in
theorem kC5_225 : hm_lV RX5 225 yX5_answerAt cX5_answerAt 3 (some (.object "SheetVault$Answer")) 2 := ⟨(hm_in 751 (by decide +kernel) (by decide +kernel)), (hm_in 753 (by decide +kernel) (by decide +kernel)), (hm_in 17 (by decide +kernel) (by decide +kernel)), (hm_in 56 (by decide +kernel) (by decide +kernel)), (hm_in 754 (by decide +kernel) (by decide +kernel)), ⟨by decide +kernel, by decide +kernel, by decide +kernel⟩⟩
set_option maxRecDepth 20000 in
theorem kCL_85 : hm_lV RL 85 yX5_mark cX5_mark 4 (some .int) 2 := ⟨(hm_in 758 (by decide +kernel) (by decide +kernel)), (hm_in 759 (by decide +kernel) (by decide +kernel)), (hm_in 760 (by decide +kernel) (by decide +kernel)), (hm_in 56 (by decide +kernel) (by decide +kernel)), (hm_in 761 (by decide +kernel) (by decide +kernel)), ⟨by decide +kernel, by decide +kernel, by decide +kernel⟩⟩
set_option maxRecDepth 20000 in
theorem kCL_88 : hm_lV RL 88 yX5_due cX5_due 4 (some .int) 2 := ⟨(hm_in 765 (by decide +kernel) (by decide +kernel)), (hm_in 766 (by decide +kernel) (by decide +kernel)), (hm_in 767 (by decide +kernel) (by decide +kernel)), (hm_in 56 (by decide +kernel) (by decide +kernel)), (hm_in 768 (by decide +kernel) (by decide +kernel)), ⟨by decide +kernel, by decide +kernel, by decide +kernel⟩⟩
set_option maxRecDepth 20000 in
theorem kCL_91 : hm_lV RL 91 yX5_told cX5_told 4 (some .int) 2 := ⟨(hm_in 772 (by decide +kernel) (by decide +kernel)), (hm_in 773 (by decide +kernel) (by decide +kernel)), (hm_in 774 (by decide +kernel) (by decide +kernel)), (hm_in 56 (by decide +kernel) (by decide +kernel)), (hm_in 775 (by decide +kernel) (by decide +kernel)), ⟨by decide +kernel, by decide +kernel, by decide +kernel⟩⟩
set_option maxRecDepth 20000 in
theorem kCL_94 : hm_lV RL 94 yX5_average cX5_average 8 (some .int) 2 := ⟨(hm_in 779 (by decide +kernel) (by decide +kernel)), (hm_in 780 (by decide +kernel) (by decide +kernel)), (hm_in 781 (by decide +kernel) (by decide +kernel)), (hm_in 56 (by decide +kernel) (by decide +kernel)), (hm_in 782 (by decide +kernel) (by decide +kernel)), ⟨by decide +kernel, by decide +kernel, by decide +kernel⟩⟩
set_option maxRecDepth 20000 in
theorem kCL_97 : hm_lV RL 97 yX5_fingerprints cX5_fingerprints 4 (some .int) 2 := ⟨(hm_in 786 (by decide +kernel) (by decide +kernel)), (hm_in 787 (by decide +kernel) (by decide +kernel)), (hm_in 788 (by decide +kernel) (by decide +kernel)), (hm_in 56 (by decide +kernel) (by decide +kernel)), (hm_in 789 (by decide +kernel) (by decide +kernel)), ⟨by decide +kernel, by decide +kernel, by decide +kernel⟩⟩
set_option maxRecDepth 20000 in
theorem kCL_100 : hm_lV RL 100 yX5_withPrint cX5_withPrint 7 (some .int) 2 := ⟨(hm_in 793 (by decide +kernel) (by decide +kernel)), (hm_in 794 (by decide +kernel) (by decide +kernel)), (hm_in 795 (by decide +kernel) (by decide +kernel)), (hm_in 56 (by decide +kernel) (by decide +kernel)), (hm_in 796 (by decide +kernel) (by decide +kernel)), ⟨by decide +kernel, by decide +kernel, by decide +kernel⟩⟩
set_option maxRecDepth 20000 in
theorem kC5_235 : hm_lV RX5 235 yX0_hasPrint cX0_hasPrint 3 (some .boolean) 1 := ⟨(hm_in 797 (by decide +kernel) (by decide +kernel)), (hm_in 798 (by decide +kernel) (by decide +kernel)), (hm_in 799 (by decide +kernel) (by decide +kernel)), (hm_in 69 (by decide +kernel) (by decide +kernel)), (hm_in 800 (by decide +kernel) (by decide +kernel)), ⟨by decide +kernel, by decide +kernel, by decide +kernel⟩⟩
set_option maxRecDepth 20000 in
theorem kCL_103 : hm_lV RL 103 yX5_likeness cX5_likeness 7 (some .int) 3 := ⟨(hm_in 804 (by decide +kernel) (by decide +kernel)), (hm_in 805 (by decide +kernel) (by decide +kernel)), (hm_in 806 (by decide +kernel) (by decide +kernel)), (hm_in 56 (by decide +kernel) (by decide +kernel)), (hm_in 807 (by decide +kernel) (by decide +kernel)), ⟨by decide +kernel, by decide +kernel, by decide +kernel⟩⟩
set_option maxRecDepth 20000 in
theorem kC5_238 : hm_lV RX5 238 yX0_commonPrints cX0_commonPrints 7 (some .int) 1 := ⟨(hm_in 808 (by decide +kernel) (by decide +kernel)), (hm_in 809 (by decide +kernel) (by decide +kernel)), (hm_in 810 (by decide +kernel) (by decide +kernel)), (hm_in 69 (by decide +kernel) (by decide +kernel)), (hm_in 811 (by decide +kernel) (by decide +kernel)), ⟨by decide +kernel, by decide +kernel, by decide +kernel⟩⟩
set_option maxRecDepth 20000 in
theorem kC5_242 : hm_lS RX5 242 yX5_likenessBy cX5_likenessBy 4 (some .int) 3 := ⟨(hm_in 812 (by decide +kernel) (by decide +kernel)), (hm_in 813 (by decide +kernel) (by decide +kernel)), (hm_in 56 (by decide +kernel) (by decide +kernel)), (hm_in 814 (by decide +kernel) (by decide +kernel)), ⟨by decide +kernel, by decide +kernel, by decide +kernel⟩⟩
set_option maxRecDepth 20000 in
theorem kC5_371 : hm_lS RX5 371 yJ9_min_7cf53 cJ9_min_7cf53 2 (some .int) 2 := ⟨(hm_in 815 (by decide +kernel) (by decide +kernel)), (hm_in 816 (by decide +kernel) (by decide +kernel)), (hm_in 68 (by decide +kernel) (by decide +kernel)), (hm_in 817 (by decide +kernel) (by decide +kernel)), ⟨by decide +kernel, by decide +kernel, by decide +kernel⟩⟩
set_option maxRecDepth 20000 in
theorem kCL_106 : hm_lV RL 106 yX5_pairs cX5_pairs 6 (some .int) 1 := ⟨(hm_in 821 (by decide +kernel) (by decide +kernel)), (hm_in 822 (by decide +kernel) (by decide +kernel)), (hm_in 823 (by decide +kernel) (by decide +kernel)), (hm_in 56 (by decide +kernel) (by decide +kernel)), (hm_in 824 (by decide +kernel) (by decide +kernel)), ⟨by decide +kernel, by decide +kernel, by decide +kernel⟩⟩
set_option maxRecDepth 20000 in
theorem kC5_246 : hm_lV RX5 246 yX3_arePair cX3_arePair 5 (some .boolean) 2 := ⟨(hm_in 825 (by decide +kernel) (by decide +kernel)), (hm_in 826 (by decide +kernel) (by decide +kernel)), (hm_in 827 (by decide +kernel) (by decide +kernel)), (hm_in 62 (by decide +kernel) (by decide +kernel)), (hm_in 828 (by decide +kernel) (by decide +kernel)), ⟨by decide +kernel, by decide +kernel, by decide +kernel⟩⟩
set_option maxRecDepth 20000 in
theorem kC3_58 : hm_lV RX3 58 yX0_commonPrints cX0_commonPrints 7 (some .int) 1 := ⟨(hm_in 829 (by decide +kernel) (by decide +kernel)), (hm_in 809 (by decide +kernel) (by decide +kernel)), (hm_in 810 (by decide +kernel) (by decide +kernel)), (hm_in 69 (by decide +kernel) (by decide +kernel)), (hm_in 811 (by decide +kernel) (by decide +kernel)), ⟨by decide +kernel, by decide +kernel, by decide +kernel⟩⟩
set_option maxRecDepth 20000 in
theorem kC3_65 : hm_lSN RX3 "SheetVault" 65 yX5_isPairBy cX5_isPairBy 3 (some .boolean) 3 := ⟨by decide +kernel, (hm_in 831 (by decide +kernel) (by decide +kernel)), (hm_in 56 (by decide +kernel) (by decide +kernel)), (hm_in 832 (by decide +kernel) (by decide +kernel)), ⟨by decide +kernel, by decide +kernel, by decide +kernel⟩⟩
set_option maxRecDepth 20000 in
theorem kCL_109 : hm_lV RL 109 yX5_pairAt cX5_pairAt 7 (some .int) 2 := ⟨(hm_in 836 (by decide +kernel) (by decide +kernel)), (hm_in 837 (by decide +kernel) (by decide +kernel)), (hm_in 838 (by decide +kernel) (by decide +kernel)), (hm_in 56 (by decide +kernel) (by decide +kernel)), (hm_in 839 (by decide +kernel) (by decide +kernel)), ⟨by decide +kernel, by decide +kernel, by decide +kernel⟩⟩
set_option maxRecDepth 20000 in
theorem kCL_112 : hm_lV RL 112 yX5_pairsAnew cX5_pairsAnew 6 (some .int) 1 := ⟨(hm_in 844 (by decide +kernel) (by decide +kernel)), (hm_in 845 (by decide +kernel) (by decide +kernel)), (hm_in 846 (by decide +kernel) (by decide +kernel)), (hm_in 56 (by decide +kernel) (by decide +kernel)), (hm_in 847 (by decide +kernel) (by decide +kernel)), ⟨by decide +kernel, by decide +kernel, by decide +kernel⟩⟩
set_option maxRecDepth 20000 in
theorem kC5_254 : hm_lV RX5 254 yX5_collectThrees cX5_collectThrees 8 none 2 := ⟨(hm_in 848 (by decide +kernel) (by decide +kernel)), (hm_in 850 (by decide +kernel) (by decide +kernel)), (hm_in 18 (by decide +kernel) (by decide +kernel)), (hm_in 56 (by decide +kernel) (by decide +kernel)), (hm_in 851 (by decide +kernel) (by decide +kernel)), ⟨by decide +kernel, by decide +kernel, by decide +kernel⟩⟩
set_option maxRecDepth 20000 in
theorem kC5_374 : hm_lV RX5 374 yX0_isInIndex cX0_isInIndex 1 (some .boolean) 0 := ⟨(hm_in 852 (by decide +kernel) (by decide +kernel)), (hm_in 568 (by decide +kernel) (by decide +kernel)), (hm_in 569 (by decide +kernel) (by decide +kernel)), (hm_in 69 (by decide +kernel) (by decide +kernel)), (hm_in 570 (by decide +kernel) (by decide +kernel)), ⟨by decide +kernel, by decide +kernel, by decide +kernel⟩⟩
set_option maxRecDepth 20000 in
theorem kC5_378 : hm_lV RX5 378 yX2_printAt cX2_printAt 2 (some .int) 1 := ⟨(hm_in 853 (by decide +kernel) (by decide +kernel)), (hm_in 578 (by decide +kernel) (by decide +kernel)), (hm_in 579 (by decide +kernel) (by decide +kernel)), (hm_in 70 (by decide +kernel) (by decide +kernel)), (hm_in 580 (by decide +kernel) (by decide +kernel)), ⟨by decide +kernel, by decide +kernel, by decide +kernel⟩⟩
set_option maxRecDepth 20000 in
theorem kC5_381 : hm_lS RX5 381 yX5_ruleHasPrint cX5_ruleHasPrint 4 (some .boolean) 2 := ⟨(hm_in 854 (by decide +kernel) (by decide +kernel)), (hm_in 585 (by decide +kernel) (by decide +kernel)), (hm_in 56 (by decide +kernel) (by decide +kernel)), (hm_in 586 (by decide +kernel) (by decide +kernel)), ⟨by decide +kernel, by decide +kernel, by decide +kernel⟩⟩
set_option maxRecDepth 20000 in
theorem kC5_384 : hm_lV RX5 384 yX5_collectThree cX5_collectThree 4 none 2 := ⟨(hm_in 855 (by decide +kernel) (by decide +kernel)), (hm_in 857 (by decide +kernel) (by decide +kernel)), (hm_in 19 (by decide +kernel) (by decide +kernel)), (hm_in 56 (by decide +kernel) (by decide +kernel)), (hm_in 858 (by decide +kernel) (by decide +kernel)), ⟨by decide +kernel, by decide +kernel, by decide +kernel⟩⟩
set_option maxRecDepth 20000 in
theorem kC5_387 : hm_lV RX5 387 yX5_isCollected cX5_isCollected 4 (some .boolean) 2 := ⟨(hm_in 859 (by decide +kernel) (by decide +kernel)), (hm_in 861 (by decide +kernel) (by decide +kernel)), (hm_in 20 (by decide +kernel) (by decide +kernel)), (hm_in 56 (by decide +kernel) (by decide +kernel)), (hm_in 862 (by decide +kernel) (by decide +kernel)), ⟨by decide +kernel, by decide +kernel, by decide +kernel⟩⟩
set_option maxRecDepth 20000 in
theorem kC5_258 : hm_lV RX5 258 yX5_commonThrees cX5_commonThrees 5 (some .int) 2 := ⟨(hm_in 863 (by decide +kernel) (by decide +kernel)), (hm_in 865 (by decide +kernel) (by decide +kernel)), (hm_in 21 (by decide +kernel) (by decide +kernel)), (hm_in 56 (by decide +kernel) (by decide +kernel)), (hm_in 866 (by decide +kernel) (by decide +kernel)), ⟨by decide +kernel, by decide +kernel, by decide +kernel⟩⟩
set_option maxRecDepth 20000 in
theorem kC5_261 : hm_lS RX5 261 yX5_isPairBy cX5_isPairBy 3 (some .boolean) 3 := ⟨(hm_in 867 (by decide +kernel) (by decide +kernel)), (hm_in 831 (by decide +kernel) (by decide +kernel)), (hm_in 56 (by decide +kernel) (by decide +kernel)), (hm_in 832 (by decide +kernel) (by decide +kernel)), ⟨by decide +kernel, by decide +kernel, by decide +kernel⟩⟩
set_option maxRecDepth 20000 in
theorem kCL_115 : hm_lV RL 115 yX5_setQuota cX5_setQuota 4 (some .int) 2 := ⟨(hm_in 871 (by decide +kernel) (by decide +kernel)), (hm_in 872 (by decide +kernel) (by decide +kernel)), (hm_in 873 (by decide +kernel) (by decide +kernel)), (hm_in 56 (by decide +kernel) (by decide +kernel)), (hm_in 874 (by decide +kernel) (by decide +kernel)), ⟨by decide +kernel, by decide +kernel, by decide +kernel⟩⟩
set_option maxRecDepth 20000 in
theorem kCL_118 : hm_lV RL 118 yX5_used cX5_used 2 (some .int) 1 := ⟨(hm_in 878 (by decide +kernel) (by decide +kernel)), (hm_in 879 (by decide +kernel) (by decide +kernel)), (hm_in 880 (by decide +kernel) (by decide +kernel)), (hm_in 56 (by decide +kernel) (by decide +kernel)), (hm_in 881 (by decide +kernel) (by decide +kernel)), ⟨by decide +kernel, by decide +kernel, by decide +kernel⟩⟩
set_option maxRecDepth 20000 in
theorem kCL_121 : hm_lV RL 121 yX5_usedAnew cX5_usedAnew 5 (some .int) 1 := ⟨(hm_in 885 (by decide +kernel) (by decide +kernel)), (hm_in 886 (by decide +kernel) (by decide +kernel)), (hm_in 887 (by decide +kernel) (by decide +kernel)), (hm_in 56 (by decide +kernel) (by decide +kernel)), (hm_in 888 (by decide +kernel) (by decide +kernel)), ⟨by decide +kernel, by decide +kernel, by decide +kernel⟩⟩
set_option maxRecDepth 20000 in
theorem kC5_265 : hm_lV RX5 265 yX3_sizeOfVersions cX3_sizeOfVersions 4 (some .int) 1 := ⟨(hm_in 889 (by decide +kernel) (by decide +kernel)), (hm_in 890 (by decide +kernel) (by decide +kernel)), (hm_in 891 (by decide +kernel) (by decide +kernel)), (hm_in 62 (by decide +kernel) (by decide +kernel)), (hm_in 892 (by decide +kernel) (by decide +kernel)), ⟨by decide +kernel, by decide +kernel, by decide +kernel⟩⟩
set_option maxRecDepth 20000 in
theorem kC3_72 : hm_lV RX3 72 yX4_size cX4_size 3 (some .int) 0 := ⟨(hm_in 893 (by decide +kernel) (by decide +kernel)), (hm_in 437 (by decide +kernel) (by decide +kernel)), (hm_in 438 (by decide +kernel) (by decide +kernel)), (hm_in 63 (by decide +kernel) (by decide +kernel)), (hm_in 439 (by decide +kernel) (by decide +kernel)), ⟨by decide +kernel, by decide +kernel, by decide +kernel⟩⟩
set_option maxRecDepth 20000 in
theorem kC5_268 : hm_lV RX5 268 yX3_sizeOfAnswers cX3_sizeOfAnswers 4 (some .int) 1 := ⟨(hm_in 894 (by decide +kernel) (by decide +kernel)), (hm_in 895 (by decide +kernel) (by decide +kernel)), (hm_in 896 (by decide +kernel) (by decide +kernel)), (hm_in 62 (by decide +kernel) (by decide +kernel)), (hm_in 897 (by decide +kernel) (by decide +kernel)), ⟨by decide +kernel, by decide +kernel, by decide +kernel⟩⟩
set_option maxRecDepth 20000 in
theorem kC3_76 : hm_lSN RX3 "SheetVault" 76 yX5_classOf cX5_classOf 1 (some .int) 1 := ⟨by decide +kernel, (hm_in 557 (by decide +kernel) (by decide +kernel)), (hm_in 56 (by decide +kernel) (by decide +kernel)), (hm_in 558 (by decide +kernel) (by decide +kernel)), ⟨by decide +kernel, by decide +kernel, by decide +kernel⟩⟩
set_option maxRecDepth 20000 in
theorem kC3_80 : hm_lV RX3 80 yX0_size cX0_size 3 (some .int) 0 := ⟨(hm_in 899 (by decide +kernel) (by decide +kernel)), (hm_in 723 (by decide +kernel) (by decide +kernel)), (hm_in 724 (by decide +kernel) (by decide +kernel)), (hm_in 69 (by decide +kernel) (by decide +kernel)), (hm_in 725 (by decide +kernel) (by decide +kernel)), ⟨by decide +kernel, by decide +kernel, by decide +kernel⟩⟩
set_option maxRecDepth 20000 in
theorem kCL_127 : hm_lI RL 127 yX6_init cX6_init 2 0 := ⟨(hm_in 902 (by decide +kernel) (by decide +kernel)), (hm_in 903 (by decide +kernel) (by decide +kernel)), (hm_in 57 (by decide +kernel) (by decide +kernel)), (hm_in 904 (by decide +kernel) (by decide +kernel)), ⟨by decide +kernel, by decide +kernel, by decide +kernel⟩, rfl⟩
set_option maxRecDepth 20000 in
theorem kCL_134 : hm_lV RL 134 yX6_thrown cX6_thrown 1 (some .int) 0 := ⟨(hm_in 988 (by decide +kernel) (by decide +kernel)), (hm_in 989 (by decide +kernel) (by decide +kernel)), (hm_in 990 (by decide +kernel) (by decide +kernel)), (hm_in 57 (by decide +kernel) (by decide +kernel)), (hm_in 991 (by decide +kernel) (by decide +kernel)), ⟨by decide +kernel, by decide +kernel, by decide +kernel⟩⟩
set_option maxRecDepth 20000 in
theorem kCL_133 : hm_lV RL 133 yX6_addSheet cX6_addSheet 1 (some .int) 0 := ⟨(hm_in 992 (by decide +kernel) (by decide +kernel)), (hm_in 993 (by decide +kernel) (by decide +kernel)), (hm_in 994 (by decide +kernel) (by decide +kernel)), (hm_in 57 (by decide +kernel) (by decide +kernel)), (hm_in 995 (by decide +kernel) (by decide +kernel)), ⟨by decide +kernel, by decide +kernel, by decide +kernel⟩⟩
set_option maxRecDepth 20000 in
theorem kC6_120 : hm_lV RX6 120 yX6_refused cX6_refused 2 (some .boolean) 1 := ⟨(hm_in 996 (by decide +kernel) (by decide +kernel)), (hm_in 998 (by decide +kernel) (by decide +kernel)), (hm_in 22 (by decide +kernel) (by decide +kernel)), (hm_in 57 (by decide +kernel) (by decide +kernel)), (hm_in 999 (by decide +kernel) (by decide +kernel)), ⟨by decide +kernel, by decide +kernel, by decide +kernel⟩⟩
set_option maxRecDepth 20000 in
theorem kCL_140 : hm_lV RL 140 yX6_setNumber cX6_setNumber 9 (some .int) 6 := ⟨(hm_in 1000 (by decide +kernel) (by decide +kernel)), (hm_in 1001 (by decide +kernel) (by decide +kernel)), (hm_in 1002 (by decide +kernel) (by decide +kernel)), (hm_in 57 (by decide +kernel) (by decide +kernel)), (hm_in 1003 (by decide +kernel) (by decide +kernel)), ⟨by decide +kernel, by decide +kernel, by decide +kernel⟩⟩
set_option maxRecDepth 20000 in
theorem kC6_87 : hm_lS RX6 87 yX6_in cX6_in 3 (some .boolean) 3 := ⟨(hm_in 1004 (by decide +kernel) (by decide +kernel)), (hm_in 1005 (by decide +kernel) (by decide +kernel)), (hm_in 57 (by decide +kernel) (by decide +kernel)), (hm_in 1006 (by decide +kernel) (by decide +kernel)), ⟨by decide +kernel, by decide +kernel, by decide +kernel⟩⟩
set_option maxRecDepth 20000 in
theorem kC6_133 : hm_lV RX6 133 yX6_canName cX6_canName 4 (some .boolean) 3 := ⟨(hm_in 1007 (by decide +kernel) (by decide +kernel)), (hm_in 1009 (by decide +kernel) (by decide +kernel)), (hm_in 23 (by decide +kernel) (by decide +kernel)), (hm_in 57 (by decide +kernel) (by decide +kernel)), (hm_in 1010 (by decide +kernel) (by decide +kernel)), ⟨by decide +kernel, by decide +kernel, by decide +kernel⟩⟩
set_option maxRecDepth 20000 in
theorem kC6_127 : hm_lS RX6 127 yX6_isClass cX6_isClass 1 (some .boolean) 1 := ⟨(hm_in 1011 (by decide +kernel) (by decide +kernel)), (hm_in 1012 (by decide +kernel) (by decide +kernel)), (hm_in 57 (by decide +kernel) (by decide +kernel)), (hm_in 1013 (by decide +kernel) (by decide +kernel)), ⟨by decide +kernel, by decide +kernel, by decide +kernel⟩⟩
set_option maxRecDepth 20000 in
theorem kC6_94 : hm_lV RX6 94 yX6_isSheet cX6_isSheet 2 (some .boolean) 1 := ⟨(hm_in 1014 (by decide +kernel) (by decide +kernel)), (hm_in 1016 (by decide +kernel) (by decide +kernel)), (hm_in 24 (by decide +kernel) (by decide +kernel)), (hm_in 57 (by decide +kernel) (by decide +kernel)), (hm_in 1017 (by decide +kernel) (by decide +kernel)), ⟨by decide +kernel, by decide +kernel, by decide +kernel⟩⟩
set_option maxRecDepth 20000 in
theorem kC6_130 : hm_lS RX6 130 yX6_isTask cX6_isTask 1 (some .boolean) 1 := ⟨(hm_in 1018 (by decide +kernel) (by decide +kernel)), (hm_in 1019 (by decide +kernel) (by decide +kernel)), (hm_in 57 (by decide +kernel) (by decide +kernel)), (hm_in 1020 (by decide +kernel) (by decide +kernel)), ⟨by decide +kernel, by decide +kernel, by decide +kernel⟩⟩
set_option maxRecDepth 20000 in
theorem kC6_136 : hm_lV RX6 136 yX6_canRevise cX6_canRevise 4 (some .boolean) 3 := ⟨(hm_in 1021 (by decide +kernel) (by decide +kernel)), (hm_in 1023 (by decide +kernel) (by decide +kernel)), (hm_in 25 (by decide +kernel) (by decide +kernel)), (hm_in 57 (by decide +kernel) (by decide +kernel)), (hm_in 1024 (by decide +kernel) (by decide +kernel)), ⟨by decide +kernel, by decide +kernel, by decide +kernel⟩⟩
set_option maxRecDepth 20000 in
theorem kC6_123 : hm_lV RX6 123 yX6_fits cX6_fits 3 (some .boolean) 2 := ⟨(hm_in 1025 (by decide +kernel) (by decide +kernel)), (hm_in 1027 (by decide +kernel) (by decide +kernel)), (hm_in 26 (by decide +kernel) (by decide +kernel)), (hm_in 57 (by decide +kernel) (by decide +kernel)), (hm_in 1028 (by decide +kernel) (by decide +kernel)), ⟨by decide +kernel, by decide +kernel, by decide +kernel⟩⟩
set_option maxRecDepth 20000 in
theorem kC6_117 : hm_lV RX6 117 yX6_usedBy cX6_usedBy 4 (some .int) 1 := ⟨(hm_in 1029 (by decide +kernel) (by decide +kernel)), (hm_in 1031 (by decide +kernel) (by decide +kernel)), (hm_in 27 (by decide +kernel) (by decide +kernel)), (hm_in 57 (by decide +kernel) (by decide +kernel)), (hm_in 1032 (by decide +kernel) (by decide +kernel)), ⟨by decide +kernel, by decide +kernel, by decide +kernel⟩⟩
set_option maxRecDepth 20000 in
theorem kC6_111 : hm_lV RX6 111 yX6_costOf cX6_costOf 3 (some .int) 1 := ⟨(hm_in 1033 (by decide +kernel) (by decide +kernel)), (hm_in 1035 (by decide +kernel) (by decide +kernel)), (hm_in 28 (by decide +kernel) (by decide +kernel)), (hm_in 57 (by decide +kernel) (by decide +kernel)), (hm_in 1036 (by decide +kernel) (by decide +kernel)), ⟨by decide +kernel, by decide +kernel, by decide +kernel⟩⟩
set_option maxRecDepth 20000 in
theorem kC6_103 : hm_lS RX6 103 yX6_lengthOf cX6_lengthOf 2 (some .int) 1 := ⟨(hm_in 1037 (by decide +kernel) (by decide +kernel)), (hm_in 1038 (by decide +kernel) (by decide +kernel)), (hm_in 57 (by decide +kernel) (by decide +kernel)), (hm_in 1039 (by decide +kernel) (by decide +kernel)), ⟨by decide +kernel, by decide +kernel, by decide +kernel⟩⟩
set_option maxRecDepth 20000 in
theorem kC6_98 : hm_lS RX6 98 yX6_wordAt cX6_wordAt 2 (some .int) 2 := ⟨(hm_in 1040 (by decide +kernel) (by decide +kernel)), (hm_in 1041 (by decide +kernel) (by decide +kernel)), (hm_in 57 (by decide +kernel) (by decide +kernel)), (hm_in 1042 (by decide +kernel) (by decide +kernel)), ⟨by decide +kernel, by decide +kernel, by decide +kernel⟩⟩
set_option maxRecDepth 20000 in
theorem kC6_114 : hm_lV RX6 114 yX6_taken cX6_taken 4 (some .int) 1 := ⟨(hm_in 1043 (by decide +kernel) (by decide +kernel)), (hm_in 1045 (by decide +kernel) (by decide +kernel)), (hm_in 29 (by decide +kernel) (by decide +kernel)), (hm_in 57 (by decide +kernel) (by decide +kernel)), (hm_in 1046 (by decide +kernel) (by decide +kernel)), ⟨by decide +kernel, by decide +kernel, by decide +kernel⟩⟩
set_option maxRecDepth 20000 in
theorem kC6_139 : hm_lV RX6 139 yX6_revise cX6_revise 11 (some .int) 7 := ⟨(hm_in 1047 (by decide +kernel) (by decide +kernel)), (hm_in 1049 (by decide +kernel) (by decide +kernel)), (hm_in 30 (by decide +kernel) (by decide +kernel)), (hm_in 57 (by decide +kernel) (by decide +kernel)), (hm_in 1050 (by decide +kernel) (by decide +kernel)), ⟨by decide +kernel, by decide +kernel, by decide +kernel⟩⟩
set_option maxRecDepth 20000 in
theorem kCL_144 : hm_lV RL 144 yX6_setChoice cX6_setChoice 8 (some .int) 5 := ⟨(hm_in 1051 (by decide +kernel) (by decide +kernel)), (hm_in 1052 (by decide +kernel) (by decide +kernel)), (hm_in 1053 (by decide +kernel) (by decide +kernel)), (hm_in 57 (by decide +kernel) (by decide +kernel)), (hm_in 1054 (by decide +kernel) (by decide +kernel)), ⟨by decide +kernel, by decide +kernel, by decide +kernel⟩⟩
set_option maxRecDepth 20000 in
theorem kCL_147 : hm_lV RL 147 yX6_setWords cX6_setWords 8 (some .int) 5 := ⟨(hm_in 1055 (by decide +kernel) (by decide +kernel)), (hm_in 1056 (by decide +kernel) (by decide +kernel)), (hm_in 1057 (by decide +kernel) (by decide +kernel)), (hm_in 57 (by decide +kernel) (by decide +kernel)), (hm_in 1058 (by decide +kernel) (by decide +kernel)), ⟨by decide +kernel, by decide +kernel, by decide +kernel⟩⟩
set_option maxRecDepth 20000 in
theorem kC6_143 : hm_lS RX6 143 yX6_isRow cX6_isRow 1 (some .boolean) 1 := ⟨(hm_in 1059 (by decide +kernel) (by decide +kernel)), (hm_in 1060 (by decide +kernel) (by decide +kernel)), (hm_in 57 (by decide +kernel) (by decide +kernel)), (hm_in 1061 (by decide +kernel) (by decide +kernel)), ⟨by decide +kernel, by decide +kernel, by decide +kernel⟩⟩
set_option maxRecDepth 20000 in
theorem kCL_151 : hm_lV RL 151 yX6_drop cX6_drop 6 (some .int) 3 := ⟨(hm_in 1063 (by decide +kernel) (by decide +kernel)), (hm_in 1064 (by decide +kernel) (by decide +kernel)), (hm_in 1065 (by decide +kernel) (by decide +kernel)), (hm_in 57 (by decide +kernel) (by decide +kernel)), (hm_in 1066 (by decide +kernel) (by decide +kernel)), ⟨by decide +kernel, by decide +kernel, by decide +kernel⟩⟩
set_option maxRecDepth 20000 in
theorem kC6_146 : hm_lV RX6 146 yX6_has cX6_has 5 (some .int) 3 := ⟨(hm_in 1067 (by decide +kernel) (by decide +kernel)), (hm_in 1069 (by decide +kernel) (by decide +kernel)), (hm_in 31 (by decide +kernel) (by decide +kernel)), (hm_in 57 (by decide +kernel) (by decide +kernel)), (hm_in 1070 (by decide +kernel) (by decide +kernel)), ⟨by decide +kernel, by decide +kernel, by decide +kernel⟩⟩
set_option maxRecDepth 20000 in
theorem kC6_107 : hm_lV RX6 107 yX6_entryFor cX6_entryFor 5 (some .int) 3 := ⟨(hm_in 1071 (by decide +kernel) (by decide +kernel)), (hm_in 1073 (by decide +kernel) (by decide +kernel)), (hm_in 32 (by decide +kernel) (by decide +kernel)), (hm_in 57 (by decide +kernel) (by decide +kernel)), (hm_in 1074 (by decide +kernel) (by decide +kernel)), ⟨by decide +kernel, by decide +kernel, by decide +kernel⟩⟩
set_option maxRecDepth 20000 in
theorem kCL_154 : hm_lV RL 154 yX6_adopt cX6_adopt 5 (some .int) 3 := ⟨(hm_in 1075 (by decide +kernel) (by decide +kernel)), (hm_in 1076 (by decide +kernel) (by decide +kernel)), (hm_in 1077 (by decide +kernel) (by decide +kernel)), (hm_in 57 (by decide +kernel) (by decide +kernel)), (hm_in 1078 (by decide +kernel) (by decide +kernel)), ⟨by decide +kernel, by decide +kernel, by decide +kernel⟩⟩
set_option maxRecDepth 20000 in
theorem kC6_149 : hm_lV RX6 149 yX6_isVersion cX6_isVersion 3 (some .boolean) 2 := ⟨(hm_in 1079 (by decide +kernel) (by decide +kernel)), (hm_in 1081 (by decide +kernel) (by decide +kernel)), (hm_in 33 (by decide +kernel) (by decide +kernel)), (hm_in 57 (by decide +kernel) (by decide +kernel)), (hm_in 1082 (by decide +kernel) (by decide +kernel)), ⟨by decide +kernel, by decide +kernel, by decide +kernel⟩⟩
set_option maxRecDepth 20000 in
theorem kCL_158 : hm_lV RL 158 yX6_fold cX6_fold 10 (some .int) 2 := ⟨(hm_in 1083 (by decide +kernel) (by decide +kernel)), (hm_in 1084 (by decide +kernel) (by decide +kernel)), (hm_in 1085 (by decide +kernel) (by decide +kernel)), (hm_in 57 (by decide +kernel) (by decide +kernel)), (hm_in 1086 (by decide +kernel) (by decide +kernel)), ⟨by decide +kernel, by decide +kernel, by decide +kernel⟩⟩
set_option maxRecDepth 20000 in
theorem kC6_162 : hm_lV RX6 162 yX6_canFold cX6_canFold 7 (some .boolean) 2 := ⟨(hm_in 1087 (by decide +kernel) (by decide +kernel)), (hm_in 1089 (by decide +kernel) (by decide +kernel)), (hm_in 34 (by decide +kernel) (by decide +kernel)), (hm_in 57 (by decide +kernel) (by decide +kernel)), (hm_in 1090 (by decide +kernel) (by decide +kernel)), ⟨by decide +kernel, by decide +kernel, by decide +kernel⟩⟩
set_option maxRecDepth 20000 in
theorem kC6_155 : hm_lV RX6 155 yX6_isNeeded cX6_isNeeded 5 (some .boolean) 2 := ⟨(hm_in 1091 (by decide +kernel) (by decide +kernel)), (hm_in 1093 (by decide +kernel) (by decide +kernel)), (hm_in 35 (by decide +kernel) (by decide +kernel)), (hm_in 57 (by decide +kernel) (by decide +kernel)), (hm_in 1094 (by decide +kernel) (by decide +kernel)), ⟨by decide +kernel, by decide +kernel, by decide +kernel⟩⟩
set_option maxRecDepth 20000 in
theorem kC6_152 : hm_lV RX6 152 yX6_child cX6_child 6 (some .int) 2 := ⟨(hm_in 1095 (by decide +kernel) (by decide +kernel)), (hm_in 1097 (by decide +kernel) (by decide +kernel)), (hm_in 36 (by decide +kernel) (by decide +kernel)), (hm_in 57 (by decide +kernel) (by decide +kernel)), (hm_in 1098 (by decide +kernel) (by decide +kernel)), ⟨by decide +kernel, by decide +kernel, by decide +kernel⟩⟩
set_option maxRecDepth 20000 in
theorem kC6_158 : hm_lV RX6 158 yX6_passes cX6_passes 7 (some .int) 3 := ⟨(hm_in 1099 (by decide +kernel) (by decide +kernel)), (hm_in 1101 (by decide +kernel) (by decide +kernel)), (hm_in 37 (by decide +kernel) (by decide +kernel)), (hm_in 57 (by decide +kernel) (by decide +kernel)), (hm_in 1102 (by decide +kernel) (by decide +kernel)), ⟨by decide +kernel, by decide +kernel, by decide +kernel⟩⟩
set_option maxRecDepth 20000 in
theorem kCL_162 : hm_lV RL 162 yX6_sheets cX6_sheets 1 (some .int) 0 := ⟨(hm_in 1103 (by decide +kernel) (by decide +kernel)), (hm_in 1104 (by decide +kernel) (by decide +kernel)), (hm_in 1105 (by decide +kernel) (by decide +kernel)), (hm_in 57 (by decide +kernel) (by decide +kernel)), (hm_in 1106 (by decide +kernel) (by decide +kernel)), ⟨by decide +kernel, by decide +kernel, by decide +kernel⟩⟩
set_option maxRecDepth 20000 in
theorem kCL_166 : hm_lV RL 166 yX6_versions cX6_versions 4 (some .int) 1 := ⟨(hm_in 1107 (by decide +kernel) (by decide +kernel)), (hm_in 1108 (by decide +kernel) (by decide +kernel)), (hm_in 1109 (by decide +kernel) (by decide +kernel)), (hm_in 57 (by decide +kernel) (by decide +kernel)), (hm_in 1110 (by decide +kernel) (by decide +kernel)), ⟨by decide +kernel, by decide +kernel, by decide +kernel⟩⟩
set_option maxRecDepth 20000 in
theorem kC6_165 : hm_lV RX6 165 yX6_noSheet cX6_noSheet 2 (some .boolean) 1 := ⟨(hm_in 1111 (by decide +kernel) (by decide +kernel)), (hm_in 1113 (by decide +kernel) (by decide +kernel)), (hm_in 38 (by decide +kernel) (by decide +kernel)), (hm_in 57 (by decide +kernel) (by decide +kernel)), (hm_in 1114 (by decide +kernel) (by decide +kernel)), ⟨by decide +kernel, by decide +kernel, by decide +kernel⟩⟩
set_option maxRecDepth 20000 in
theorem kCL_169 : hm_lV RL 169 yX6_head cX6_head 3 (some .int) 2 := ⟨(hm_in 1115 (by decide +kernel) (by decide +kernel)), (hm_in 1116 (by decide +kernel) (by decide +kernel)), (hm_in 1117 (by decide +kernel) (by decide +kernel)), (hm_in 57 (by decide +kernel) (by decide +kernel)), (hm_in 1118 (by decide +kernel) (by decide +kernel)), ⟨by decide +kernel, by decide +kernel, by decide +kernel⟩⟩
set_option maxRecDepth 20000 in
theorem kCL_172 : hm_lV RL 172 yX6_parent cX6_parent 3 (some .int) 2 := ⟨(hm_in 1119 (by decide +kernel) (by decide +kernel)), (hm_in 1120 (by decide +kernel) (by decide +kernel)), (hm_in 1121 (by decide +kernel) (by decide +kernel)), (hm_in 57 (by decide +kernel) (by decide +kernel)), (hm_in 1122 (by decide +kernel) (by decide +kernel)), ⟨by decide +kernel, by decide +kernel, by decide +kernel⟩⟩
set_option maxRecDepth 20000 in
theorem kCL_175 : hm_lV RL 175 yX6_kindOf cX6_kindOf 5 (some .int) 3 := ⟨(hm_in 1123 (by decide +kernel) (by decide +kernel)), (hm_in 1124 (by decide +kernel) (by decide +kernel)), (hm_in 1125 (by decide +kernel) (by decide +kernel)), (hm_in 57 (by decide +kernel) (by decide +kernel)), (hm_in 1126 (by decide +kernel) (by decide +kernel)), ⟨by decide +kernel, by decide +kernel, by decide +kernel⟩⟩
set_option maxRecDepth 20000 in
theorem kC6_168 : hm_lV RX6 168 yX6_noTask cX6_noTask 4 (some .boolean) 3 := ⟨(hm_in 1127 (by decide +kernel) (by decide +kernel)), (hm_in 1129 (by decide +kernel) (by decide +kernel)), (hm_in 39 (by decide +kernel) (by decide +kernel)), (hm_in 57 (by decide +kernel) (by decide +kernel)), (hm_in 1130 (by decide +kernel) (by decide +kernel)), ⟨by decide +kernel, by decide +kernel, by decide +kernel⟩⟩
set_option maxRecDepth 20000 in
theorem kCL_178 : hm_lV RL 178 yX6_toldIn cX6_toldIn 5 (some .int) 3 := ⟨(hm_in 1131 (by decide +kernel) (by decide +kernel)), (hm_in 1132 (by decide +kernel) (by decide +kernel)), (hm_in 1133 (by decide +kernel) (by decide +kernel)), (hm_in 57 (by decide +kernel) (by decide +kernel)), (hm_in 1134 (by decide +kernel) (by decide +kernel)), ⟨by decide +kernel, by decide +kernel, by decide +kernel⟩⟩
set_option maxRecDepth 20000 in
theorem kCL_181 : hm_lV RL 181 yX6_points cX6_points 6 (some .int) 2 := ⟨(hm_in 1135 (by decide +kernel) (by decide +kernel)), (hm_in 1136 (by decide +kernel) (by decide +kernel)), (hm_in 1137 (by decide +kernel) (by decide +kernel)), (hm_in 57 (by decide +kernel) (by decide +kernel)), (hm_in 1138 (by decide +kernel) (by decide +kernel)), ⟨by decide +kernel, by decide +kernel, by decide +kernel⟩⟩
set_option maxRecDepth 20000 in
theorem kCL_184 : hm_lV RL 184 yX6_mendNumber cX6_mendNumber 8 (some .int) 5 := ⟨(hm_in 1139 (by decide +kernel) (by decide +kernel)), (hm_in 1140 (by decide +kernel) (by decide +kernel)), (hm_in 1141 (by decide +kernel) (by decide +kernel)), (hm_in 57 (by decide +kernel) (by decide +kernel)), (hm_in 1142 (by decide +kernel) (by decide +kernel)), ⟨by decide +kernel, by decide +kernel, by decide +kernel⟩⟩
set_option maxRecDepth 20000 in
theorem kC6_183 : hm_lV RX6 183 yX6_isNamed cX6_isNamed 4 (some .boolean) 3 := ⟨(hm_in 1143 (by decide +kernel) (by decide +kernel)), (hm_in 1145 (by decide +kernel) (by decide +kernel)), (hm_in 40 (by decide +kernel) (by decide +kernel)), (hm_in 57 (by decide +kernel) (by decide +kernel)), (hm_in 1146 (by decide +kernel) (by decide +kernel)), ⟨by decide +kernel, by decide +kernel, by decide +kernel⟩⟩
set_option maxRecDepth 20000 in
theorem kC6_186 : hm_lV RX6 186 yX6_mended cX6_mended 6 (some .int) 4 := ⟨(hm_in 1147 (by decide +kernel) (by decide +kernel)), (hm_in 1149 (by decide +kernel) (by decide +kernel)), (hm_in 41 (by decide +kernel) (by decide +kernel)), (hm_in 57 (by decide +kernel) (by decide +kernel)), (hm_in 1150 (by decide +kernel) (by decide +kernel)), ⟨by decide +kernel, by decide +kernel, by decide +kernel⟩⟩
set_option maxRecDepth 20000 in
theorem kC6_190 : hm_lV RX6 190 yX6_mend cX6_mend 8 (some .int) 4 := ⟨(hm_in 1151 (by decide +kernel) (by decide +kernel)), (hm_in 1153 (by decide +kernel) (by decide +kernel)), (hm_in 42 (by decide +kernel) (by decide +kernel)), (hm_in 57 (by decide +kernel) (by decide +kernel)), (hm_in 1154 (by decide +kernel) (by decide +kernel)), ⟨by decide +kernel, by decide +kernel, by decide +kernel⟩⟩
set_option maxRecDepth 20000 in
theorem kC6_180 : hm_lV RX6 180 yX6_dueOf cX6_dueOf 5 (some .int) 1 := ⟨(hm_in 1155 (by decide +kernel) (by decide +kernel)), (hm_in 1157 (by decide +kernel) (by decide +kernel)), (hm_in 43 (by decide +kernel) (by decide +kernel)), (hm_in 57 (by decide +kernel) (by decide +kernel)), (hm_in 1158 (by decide +kernel) (by decide +kernel)), ⟨by decide +kernel, by decide +kernel, by decide +kernel⟩⟩
set_option maxRecDepth 20000 in
theorem kC6_177 : hm_lV RX6 177 yX6_gained cX6_gained 6 (some .int) 2 := ⟨(hm_in 1159 (by decide +kernel) (by decide +kernel)), (hm_in 1161 (by decide +kernel) (by decide +kernel)), (hm_in 44 (by decide +kernel) (by decide +kernel)), (hm_in 57 (by decide +kernel) (by decide +kernel)), (hm_in 1162 (by decide +kernel) (by decide +kernel)), ⟨by decide +kernel, by decide +kernel, by decide +kernel⟩⟩
set_option maxRecDepth 20000 in
theorem kC6_171 : hm_lS RX6 171 yX6_bits cX6_bits 3 (some .int) 1 := ⟨(hm_in 1163 (by decide +kernel) (by decide +kernel)), (hm_in 1164 (by decide +kernel) (by decide +kernel)), (hm_in 57 (by decide +kernel) (by decide +kernel)), (hm_in 1165 (by decide +kernel) (by decide +kernel)), ⟨by decide +kernel, by decide +kernel, by decide +kernel⟩⟩
set_option maxRecDepth 20000 in
theorem kC6_174 : hm_lV RX6 174 yX6_common cX6_common 9 (some .int) 2 := ⟨(hm_in 1166 (by decide +kernel) (by decide +kernel)), (hm_in 1168 (by decide +kernel) (by decide +kernel)), (hm_in 45 (by decide +kernel) (by decide +kernel)), (hm_in 57 (by decide +kernel) (by decide +kernel)), (hm_in 1169 (by decide +kernel) (by decide +kernel)), ⟨by decide +kernel, by decide +kernel, by decide +kernel⟩⟩
set_option maxRecDepth 20000 in
theorem kCL_188 : hm_lV RL 188 yX6_mendChoice cX6_mendChoice 7 (some .int) 4 := ⟨(hm_in 1170 (by decide +kernel) (by decide +kernel)), (hm_in 1171 (by decide +kernel) (by decide +kernel)), (hm_in 1172 (by decide +kernel) (by decide +kernel)), (hm_in 57 (by decide +kernel) (by decide +kernel)), (hm_in 1173 (by decide +kernel) (by decide +kernel)), ⟨by decide +kernel, by decide +kernel, by decide +kernel⟩⟩
set_option maxRecDepth 20000 in
theorem kCL_191 : hm_lV RL 191 yX6_mendWords cX6_mendWords 9 (some .int) 4 := ⟨(hm_in 1174 (by decide +kernel) (by decide +kernel)), (hm_in 1175 (by decide +kernel) (by decide +kernel)), (hm_in 1176 (by decide +kernel) (by decide +kernel)), (hm_in 57 (by decide +kernel) (by decide +kernel)), (hm_in 1177 (by decide +kernel) (by decide +kernel)), ⟨by decide +kernel, by decide +kernel, by decide +kernel⟩⟩
set_option maxRecDepth 20000 in
theorem kCL_194 : hm_lV RL 194 yX6_open cX6_open 6 (some .int) 2 := ⟨(hm_in 1178 (by decide +kernel) (by decide +kernel)), (hm_in 1179 (by decide +kernel) (by decide +kernel)), (hm_in 1180 (by decide +kernel) (by decide +kernel)), (hm_in 57 (by decide +kernel) (by decide +kernel)), (hm_in 1181 (by decide +kernel) (by decide +kernel)), ⟨by decide +kernel, by decide +kernel, by decide +kernel⟩⟩
set_option maxRecDepth 20000 in
theorem kC6_196 : hm_lV RX6 196 yX6_areBoth cX6_areBoth 3 (some .boolean) 2 := ⟨(hm_in 1182 (by decide +kernel) (by decide +kernel)), (hm_in 1184 (by decide +kernel) (by decide +kernel)), (hm_in 46 (by decide +kernel) (by decide +kernel)), (hm_in 57 (by decide +kernel) (by decide +kernel)), (hm_in 1185 (by decide +kernel) (by decide +kernel)), ⟨by decide +kernel, by decide +kernel, by decide +kernel⟩⟩
set_option maxRecDepth 20000 in
theorem kC6_193 : hm_lS RX6 193 yX6_isPupil cX6_isPupil 1 (some .boolean) 1 := ⟨(hm_in 1186 (by decide +kernel) (by decide +kernel)), (hm_in 1187 (by decide +kernel) (by decide +kernel)), (hm_in 57 (by decide +kernel) (by decide +kernel)), (hm_in 1188 (by decide +kernel) (by decide +kernel)), ⟨by decide +kernel, by decide +kernel, by decide +kernel⟩⟩
set_option maxRecDepth 20000 in
theorem kCL_197 : hm_lV RL 197 yX6_say cX6_say 11 (some .int) 4 := ⟨(hm_in 1189 (by decide +kernel) (by decide +kernel)), (hm_in 1190 (by decide +kernel) (by decide +kernel)), (hm_in 1191 (by decide +kernel) (by decide +kernel)), (hm_in 57 (by decide +kernel) (by decide +kernel)), (hm_in 1192 (by decide +kernel) (by decide +kernel)), ⟨by decide +kernel, by decide +kernel, by decide +kernel⟩⟩
set_option maxRecDepth 20000 in
theorem kC6_199 : hm_lS RX6 199 yX6_isSaid cX6_isSaid 2 (some .boolean) 2 := ⟨(hm_in 1193 (by decide +kernel) (by decide +kernel)), (hm_in 1194 (by decide +kernel) (by decide +kernel)), (hm_in 57 (by decide +kernel) (by decide +kernel)), (hm_in 1195 (by decide +kernel) (by decide +kernel)), ⟨by decide +kernel, by decide +kernel, by decide +kernel⟩⟩
set_option maxRecDepth 20000 in
theorem kC6_202 : hm_lV RX6 202 yX6_more cX6_more 5 (some .int) 3 := ⟨(hm_in 1196 (by decide +kernel) (by decide +kernel)), (hm_in 1198 (by decide +kernel) (by decide +kernel)), (hm_in 47 (by decide +kernel) (by decide +kernel)), (hm_in 57 (by decide +kernel) (by decide +kernel)), (hm_in 1199 (by decide +kernel) (by decide +kernel)), ⟨by decide +kernel, by decide +kernel, by decide +kernel⟩⟩
set_option maxRecDepth 20000 in
theorem kCL_200 : hm_lV RL 200 yX6_hand cX6_hand 5 (some .int) 2 := ⟨(hm_in 1200 (by decide +kernel) (by decide +kernel)), (hm_in 1201 (by decide +kernel) (by decide +kernel)), (hm_in 1202 (by decide +kernel) (by decide +kernel)), (hm_in 57 (by decide +kernel) (by decide +kernel)), (hm_in 1203 (by decide +kernel) (by decide +kernel)), ⟨by decide +kernel, by decide +kernel, by decide +kernel⟩⟩
set_option maxRecDepth 20000 in
theorem kCL_203 : hm_lV RL 203 yX6_close cX6_close 6 (some .int) 2 := ⟨(hm_in 1204 (by decide +kernel) (by decide +kernel)), (hm_in 1205 (by decide +kernel) (by decide +kernel)), (hm_in 1206 (by decide +kernel) (by decide +kernel)), (hm_in 57 (by decide +kernel) (by decide +kernel)), (hm_in 1207 (by decide +kernel) (by decide +kernel)), ⟨by decide +kernel, by decide +kernel, by decide +kernel⟩⟩
set_option maxRecDepth 20000 in
theorem kC6_205 : hm_lV RX6 205 yX6_forget cX6_forget 3 none 1 := ⟨(hm_in 1208 (by decide +kernel) (by decide +kernel)), (hm_in 1210 (by decide +kernel) (by decide +kernel)), (hm_in 48 (by decide +kernel) (by decide +kernel)), (hm_in 57 (by decide +kernel) (by decide +kernel)), (hm_in 1211 (by decide +kernel) (by decide +kernel)), ⟨by decide +kernel, by decide +kernel, by decide +kernel⟩⟩
set_option maxRecDepth 20000 in
theorem kCL_206 : hm_lV RL 206 yX6_answer cX6_answer 3 (some .int) 2 := ⟨(hm_in 1212 (by decide +kernel) (by decide +kernel)), (hm_in 1213 (by decide +kernel) (by decide +kernel)), (hm_in 1214 (by decide +kernel) (by decide +kernel)), (hm_in 57 (by decide +kernel) (by decide +kernel)), (hm_in 1215 (by decide +kernel) (by decide +kernel)), ⟨by decide +kernel, by decide +kernel, by decide +kernel⟩⟩
set_option maxRecDepth 20000 in
theorem kC6_209 : hm_lV RX6 209 yX6_noAnswer cX6_noAnswer 3 (some .boolean) 2 := ⟨(hm_in 1216 (by decide +kernel) (by decide +kernel)), (hm_in 1218 (by decide +kernel) (by decide +kernel)), (hm_in 49 (by decide +kernel) (by decide +kernel)), (hm_in 57 (by decide +kernel) (by decide +kernel)), (hm_in 1219 (by decide +kernel) (by decide +kernel)), ⟨by decide +kernel, by decide +kernel, by decide +kernel⟩⟩
set_option maxRecDepth 20000 in
theorem kCL_209 : hm_lV RL 209 yX6_mark cX6_mark 3 (some .int) 2 := ⟨(hm_in 1220 (by decide +kernel) (by decide +kernel)), (hm_in 1221 (by decide +kernel) (by decide +kernel)), (hm_in 1222 (by decide +kernel) (by decide +kernel)), (hm_in 57 (by decide +kernel) (by decide +kernel)), (hm_in 1223 (by decide +kernel) (by decide +kernel)), ⟨by decide +kernel, by decide +kernel, by decide +kernel⟩⟩
set_option maxRecDepth 20000 in
theorem kCL_212 : hm_lV RL 212 yX6_due cX6_due 3 (some .int) 2 := ⟨(hm_in 1224 (by decide +kernel) (by decide +kernel)), (hm_in 1225 (by decide +kernel) (by decide +kernel)), (hm_in 1226 (by decide +kernel) (by decide +kernel)), (hm_in 57 (by decide +kernel) (by decide +kernel)), (hm_in 1227 (by decide +kernel) (by decide +kernel)), ⟨by decide +kernel, by decide +kernel, by decide +kernel⟩⟩
set_option maxRecDepth 20000 in
theorem kCL_215 : hm_lV RL 215 yX6_told cX6_told 3 (some .int) 2 := ⟨(hm_in 1228 (by decide +kernel) (by decide +kernel)), (hm_in 1229 (by decide +kernel) (by decide +kernel)), (hm_in 1230 (by decide +kernel) (by decide +kernel)), (hm_in 57 (by decide +kernel) (by decide +kernel)), (hm_in 1231 (by decide +kernel) (by decide +kernel)), ⟨by decide +kernel, by decide +kernel, by decide +kernel⟩⟩
set_option maxRecDepth 20000 in
theorem kCL_218 : hm_lV RL 218 yX6_average cX6_average 6 (some .int) 2 := ⟨(hm_in 1232 (by decide +kernel) (by decide +kernel)), (hm_in 1233 (by decide +kernel) (by decide +kernel)), (hm_in 1234 (by decide +kernel) (by decide +kernel)), (hm_in 57 (by decide +kernel) (by decide +kernel)), (hm_in 1235 (by decide +kernel) (by decide +kernel)), ⟨by decide +kernel, by decide +kernel, by decide +kernel⟩⟩
set_option maxRecDepth 20000 in
theorem kCL_221 : hm_lV RL 221 yX6_fingerprints cX6_fingerprints 3 (some .int) 2 := ⟨(hm_in 1236 (by decide +kernel) (by decide +kernel)), (hm_in 1237 (by decide +kernel) (by decide +kernel)), (hm_in 1238 (by decide +kernel) (by decide +kernel)), (hm_in 57 (by decide +kernel) (by decide +kernel)), (hm_in 1239 (by decide +kernel) (by decide +kernel)), ⟨by decide +kernel, by decide +kernel, by decide +kernel⟩⟩
set_option maxRecDepth 20000 in
theorem kC6_224 : hm_lV RX6 224 yX6_lay cX6_lay 7 none 1 := ⟨(hm_in 1240 (by decide +kernel) (by decide +kernel)), (hm_in 1242 (by decide +kernel) (by decide +kernel)), (hm_in 50 (by decide +kernel) (by decide +kernel)), (hm_in 57 (by decide +kernel) (by decide +kernel)), (hm_in 1243 (by decide +kernel) (by decide +kernel)), ⟨by decide +kernel, by decide +kernel, by decide +kernel⟩⟩
set_option maxRecDepth 20000 in
theorem kC6_212 : hm_lS RX6 212 yX6_print cX6_print 3 (some .int) 3 := ⟨(hm_in 1244 (by decide +kernel) (by decide +kernel)), (hm_in 1245 (by decide +kernel) (by decide +kernel)), (hm_in 57 (by decide +kernel) (by decide +kernel)), (hm_in 1246 (by decide +kernel) (by decide +kernel)), ⟨by decide +kernel, by decide +kernel, by decide +kernel⟩⟩
set_option maxRecDepth 20000 in
theorem kC6_218 : hm_lS RX6 218 yX6_isInRule cX6_isInRule 4 (some .boolean) 2 := ⟨(hm_in 1247 (by decide +kernel) (by decide +kernel)), (hm_in 1248 (by decide +kernel) (by decide +kernel)), (hm_in 57 (by decide +kernel) (by decide +kernel)), (hm_in 1249 (by decide +kernel) (by decide +kernel)), ⟨by decide +kernel, by decide +kernel, by decide +kernel⟩⟩
set_option maxRecDepth 20000 in
theorem kC6_221 : hm_lV RX6 221 yX6_isPrint cX6_isPrint 4 (some .boolean) 1 := ⟨(hm_in 1250 (by decide +kernel) (by decide +kernel)), (hm_in 1252 (by decide +kernel) (by decide +kernel)), (hm_in 51 (by decide +kernel) (by decide +kernel)), (hm_in 57 (by decide +kernel) (by decide +kernel)), (hm_in 1253 (by decide +kernel) (by decide +kernel)), ⟨by decide +kernel, by decide +kernel, by decide +kernel⟩⟩
set_option maxRecDepth 20000 in
theorem kCL_224 : hm_lV RL 224 yX6_withPrint cX6_withPrint 5 (some .int) 2 := ⟨(hm_in 1254 (by decide +kernel) (by decide +kernel)), (hm_in 1255 (by decide +kernel) (by decide +kernel)), (hm_in 1256 (by decide +kernel) (by decide +kernel)), (hm_in 57 (by decide +kernel) (by decide +kernel)), (hm_in 1257 (by decide +kernel) (by decide +kernel)), ⟨by decide +kernel, by decide +kernel, by decide +kernel⟩⟩
set_option maxRecDepth 20000 in
theorem kCL_227 : hm_lV RL 227 yX6_likeness cX6_likeness 5 (some .int) 3 := ⟨(hm_in 1258 (by decide +kernel) (by decide +kernel)), (hm_in 1259 (by decide +kernel) (by decide +kernel)), (hm_in 1260 (by decide +kernel) (by decide +kernel)), (hm_in 57 (by decide +kernel) (by decide +kernel)), (hm_in 1261 (by decide +kernel) (by decide +kernel)), ⟨by decide +kernel, by decide +kernel, by decide +kernel⟩⟩
set_option maxRecDepth 20000 in
theorem kC6_227 : hm_lV RX6 227 yX6_alike cX6_alike 6 (some .int) 2 := ⟨(hm_in 1262 (by decide +kernel) (by decide +kernel)), (hm_in 1264 (by decide +kernel) (by decide +kernel)), (hm_in 52 (by decide +kernel) (by decide +kernel)), (hm_in 57 (by decide +kernel) (by decide +kernel)), (hm_in 1265 (by decide +kernel) (by decide +kernel)), ⟨by decide +kernel, by decide +kernel, by decide +kernel⟩⟩
set_option maxRecDepth 20000 in
theorem kCL_230 : hm_lV RL 230 yX6_pairs cX6_pairs 2 (some .int) 1 := ⟨(hm_in 1266 (by decide +kernel) (by decide +kernel)), (hm_in 1267 (by decide +kernel) (by decide +kernel)), (hm_in 1268 (by decide +kernel) (by decide +kernel)), (hm_in 57 (by decide +kernel) (by decide +kernel)), (hm_in 1269 (by decide +kernel) (by decide +kernel)), ⟨by decide +kernel, by decide +kernel, by decide +kernel⟩⟩
set_option maxRecDepth 20000 in
theorem kC6_233 : hm_lV RX6 233 yX6_pairsOf cX6_pairsOf 4 (some .int) 1 := ⟨(hm_in 1270 (by decide +kernel) (by decide +kernel)), (hm_in 1272 (by decide +kernel) (by decide +kernel)), (hm_in 53 (by decide +kernel) (by decide +kernel)), (hm_in 57 (by decide +kernel) (by decide +kernel)), (hm_in 1273 (by decide +kernel) (by decide +kernel)), ⟨by decide +kernel, by decide +kernel, by decide +kernel⟩⟩
set_option maxRecDepth 20000 in
theorem kC6_230 : hm_lV RX6 230 yX6_isPair cX6_isPair 5 (some .boolean) 3 := ⟨(hm_in 1274 (by decide +kernel) (by decide +kernel)), (hm_in 1276 (by decide +kernel) (by decide +kernel)), (hm_in 54 (by decide +kernel) (by decide +kernel)), (hm_in 57 (by decide +kernel) (by decide +kernel)), (hm_in 1277 (by decide +kernel) (by decide +kernel)), ⟨by decide +kernel, by decide +kernel, by decide +kernel⟩⟩
set_option maxRecDepth 20000 in
theorem kCL_233 : hm_lV RL 233 yX6_pairAt cX6_pairAt 7 (some .int) 2 := ⟨(hm_in 1278 (by decide +kernel) (by decide +kernel)), (hm_in 1279 (by decide +kernel) (by decide +kernel)), (hm_in 1280 (by decide +kernel) (by decide +kernel)), (hm_in 57 (by decide +kernel) (by decide +kernel)), (hm_in 1281 (by decide +kernel) (by decide +kernel)), ⟨by decide +kernel, by decide +kernel, by decide +kernel⟩⟩
set_option maxRecDepth 20000 in
theorem kCL_236 : hm_lV RL 236 yX6_pairsAnew cX6_pairsAnew 2 (some .int) 1 := ⟨(hm_in 1282 (by decide +kernel) (by decide +kernel)), (hm_in 1283 (by decide +kernel) (by decide +kernel)), (hm_in 1284 (by decide +kernel) (by decide +kernel)), (hm_in 57 (by decide +kernel) (by decide +kernel)), (hm_in 1285 (by decide +kernel) (by decide +kernel)), ⟨by decide +kernel, by decide +kernel, by decide +kernel⟩⟩
set_option maxRecDepth 20000 in
theorem kC6_236 : hm_lV RX6 236 yX6_pairs cX6_pairs 2 (some .int) 1 := ⟨(hm_in 1286 (by decide +kernel) (by decide +kernel)), (hm_in 1267 (by decide +kernel) (by decide +kernel)), (hm_in 1268 (by decide +kernel) (by decide +kernel)), (hm_in 57 (by decide +kernel) (by decide +kernel)), (hm_in 1269 (by decide +kernel) (by decide +kernel)), ⟨by decide +kernel, by decide +kernel, by decide +kernel⟩⟩
set_option maxRecDepth 20000 in
theorem kCL_239 : hm_lV RL 239 yX6_setQuota cX6_setQuota 4 (some .int) 2 := ⟨(hm_in 1287 (by decide +kernel) (by decide +kernel)), (hm_in 1288 (by decide +kernel) (by decide +kernel)), (hm_in 1289 (by decide +kernel) (by decide +kernel)), (hm_in 57 (by decide +kernel) (by decide +kernel)), (hm_in 1290 (by decide +kernel) (by decide +kernel)), ⟨by decide +kernel, by decide +kernel, by decide +kernel⟩⟩
set_option maxRecDepth 20000 in
theorem kCL_242 : hm_lV RL 242 yX6_used cX6_used 2 (some .int) 1 := ⟨(hm_in 1291 (by decide +kernel) (by decide +kernel)), (hm_in 1292 (by decide +kernel) (by decide +kernel)), (hm_in 1293 (by decide +kernel) (by decide +kernel)), (hm_in 57 (by decide +kernel) (by decide +kernel)), (hm_in 1294 (by decide +kernel) (by decide +kernel)), ⟨by decide +kernel, by decide +kernel, by decide +kernel⟩⟩
set_option maxRecDepth 20000 in
theorem kCL_245 : hm_lV RL 245 yX6_usedAnew cX6_usedAnew 2 (some .int) 1 := ⟨(hm_in 1295 (by decide +kernel) (by decide +kernel)), (hm_in 1296 (by decide +kernel) (by decide +kernel)), (hm_in 1297 (by decide +kernel) (by decide +kernel)), (hm_in 57 (by decide +kernel) (by decide +kernel)), (hm_in 1298 (by decide +kernel) (by decide +kernel)), ⟨by decide +kernel, by decide +kernel, by decide +kernel⟩⟩
set_option maxRecDepth 20000 in
theorem kC6_239 : hm_lV RX6 239 yX6_used cX6_used 2 (some .int) 1 := ⟨(hm_in 1299 (by decide +kernel) (by decide +kernel)), (hm_in 1292 (by decide +kernel) (by decide +kernel)), (hm_in 1293 (by decide +kernel) (by decide +kernel)), (hm_in 57 (by decide +kernel) (by decide +kernel)), (hm_in 1294 (by decide +kernel) (by decide +kernel)), ⟨by decide +kernel, by decide +kernel, by decide +kernel⟩⟩
end
section
/-! what is made; numbers of the pool; rows of rows; the throw behind a wide ldc -/
section HM
variable {C : hm_C} {own : String} {cc : ByteArray} {nL : Nat} {ret : Option FieldType} {nm : String} {rm : Room} {cA : Nat → ClassId} {k n : Nat} {Q : State → Prop} {M : hm_M} {pc : Nat} {L : List (Option Value)} {st st0 : List Value}
theorem hr_ldc {idx : Nat} (v : Int32) (X : hm_X C own cc nL ret nm rm cA) (d : decode cc pc = .ok (.ldc idx, 2)) (hw : Cond.constant own idx v ∈ hm_tbl) (kk : hm_W C k n Q M (pc + 2) L (.int v :: st)) : hm_W C k n Q M pc L st := by
  obtain ⟨p, l, e, R, s, m, args, below, meth, c, D, cA', A⟩ := C
  obtain ⟨hx, hb, hr, hml, hown, hts, hlk, hG, hnm, rfl, rfl, hst⟩ := X
  exact fun H locs ls hP hA hS hl => lv_ldc hx hb hown (hts _ hw) d (kk H locs ls hP hA hS hl)
theorem hr_ldcw {idx : Nat} (v : Int32) (X : hm_X C own cc nL ret nm rm cA) (d : decode cc pc = .ok (.ldc_w idx, 3)) (hw : Cond.constant own idx v ∈ hm_tbl) (kk : hm_W C k n Q M (pc + 3) L (.int v :: st)) : hm_W C k n Q M pc L st := by
  obtain ⟨p, l, e, R, s, m, args, below, meth, c, D, cA', A⟩ := C
  obtain ⟨hx, hb, hr, hml, hown, hts, hlk, hG, hnm, rfl, rfl, hst⟩ := X
  exact fun H locs ls hP hA hS hl => lv_ldcw hx hb hown (hts _ hw) d (kk H locs ls hP hA hS hl)
theorem hr_throwW {ik is ic : Nat} {cls text : String} {mc ms : Nat} {post2 : Option Value → hm_M → Prop} {px2 : String → hm_M → Prop} (X : hm_X C own cc nL ret nm rm cA) (XE : hm_NT C) (lT : hm_lT own ik is ic cls text) (d0 : decode cc pc = .ok (.new ik, 3)) (d3 : decode cc (pc + 3) = .ok (.dup, 1)) (d4 : decode cc (pc + 4) = .ok (.ldc_w is, 3)) (d7 : decode cc (pc + 7) = .ok (.invokespecial ic, 3)) (d10 : decode cc (pc + 10) = .ok (.athrow, 1)) (hL : L.length = nL)
    (hf : 5 < rm.frames ∧ (st.map fun v => v.category).sum + 82 ≤ rm.locals ∧ k + 1 ≤ rm.cells ∧ n + 6 ≤ rm.slots) (h8 : k + 1 ≤ mc) (h9 : n + 6 ≤ ms) (hp : px2 cls M) : hm_W C k n (hm_TX C post2 px2 mc ms) M pc L st := by
  obtain ⟨p, l, e, R, s, m, args, below, meth, c, D, cA', A⟩ := C
  obtain ⟨hx, hb, hr, hml, hown, hts, hlk, hG, hnm, rfl, rfl, hst'⟩ := X
  obtain ⟨t1, t2, t3, t4, t5, t6, t7, t8⟩ := lT
  intro H locs ls hP hA hS hl
  obtain ⟨sa, hsa⟩ := hG.2.2.2.2 _ t5
  exact vx_throwSW (own := own) (cls := cls) (text := text) (names := hm_xn) (A := A) hx hb hst' hown t1 t2 (hts _ t3) (hts _ t4) hsa (vx_hat (B := hm_oth.filter Cond.onTables) (fun w hw => hts _ (t6 w hw)) t7 (fun w hw => va_Nw.use (List.mem_filter.mp hw).2 (hG.2.2.1 w (List.mem_filter.mp hw).1).2)) t8 hG.2.2.2.1.1 hG.2.2.2.1.2 hS ((hl.1.trans hL).trans hml.symm) d0 d3 d4 d7 d10 (fun x hx => absurd (XE x hx) id) hf.1 hf.2.1 hf.2.2.1 hf.2.2.2 hlk (fun t _ z1 z2 => ⟨⟨M, hp, fun a e he => (hP a e he).kept (z2 a (hP a e he).lt), hA⟩, Nat.le_trans hS.1 z1, fun q h1 h2 => (z2 q (Nat.lt_of_lt_of_le h1 hS.1)).trans (hS.2.1 q h1 h2)⟩) hS.2.2 h8 h9
/-- what an own object's making links -/
def hm_lN (own : String) (idx ci N : Nat) (ty : Nat → FieldType) : Prop := ∃ (E : String) (T : u_T), vwCl[ci]? = some (E, T, N) ∧ (∀ w ∈ u_ws E T N, w ∈ hm_tbl) ∧ (∀ j, j < N → parseFieldDescriptor (T j).2.2.1 = some (ty j)) ∧ Cond.classLink own idx E ∈ hm_tbl ∧ Cond.instantiable E N ∈ hm_tbl ∧ Cond.initialized E ∈ hm_tbl
theorem hr_new {idx ci N : Nat} {ty : Nat → FieldType} (fs : List Value) (X : hm_X C own cc nL ret nm rm cA) (lN : hm_lN own idx ci N ty) (d : decode cc pc = .ok (.new idx, 3)) (hfs : ∀ j, j < N → defaultValue (ty j) = vp_V fs j) (hf : k + 1 ≤ rm.cells ∧ n + N ≤ rm.slots)
    (kk : ∀ q : Nat, M q = none → hm_W C (k + 1) (n + N) Q (hm_up M q (.inr (ci, fs))) (pc + 3) L (.ref q :: st)) : hm_W C k n Q M pc L st := by
  obtain ⟨p, l, e, R, s, m, args, below, meth, c, D, cA', A⟩ := C
  obtain ⟨hx, hb, hr, hml, hown, hts, hlk, hG, hnm, rfl, rfl, hst'⟩ := X
  obtain ⟨E, T, h1, h2, h3, h4, h5, h6⟩ := lN
  intro H locs ls hP hA hS hl
  obtain ⟨ws, wP, wD, hin', -⟩ := hm_list hP hA
  exact va_new (D := D) (cl := vwCl) (tys := hm_tys cA') hx hb hts h2 ty h3 hown (hts _ h4) (hts _ h5) (hts _ h6) hG.1 wP wD hS hG.2.1 h1 hfs hf.1 hf.2 d (fun q H1 p1 d1 s1 => kk q (hm_fresh hin' d1) H1 locs ls (hm_new hin' p1) (hA.up (d1.2 ws.length _ (by rw [List.getElem?_append_right (Nat.le_refl _), Nat.sub_self]; rfl))) s1 hl)
theorem hm_last {α : Type} {l : List α} {x : α} : (l ++ [x])[l.length]? = some x := by rw [List.getElem?_append_right (Nat.le_refl _), Nat.sub_self]; rfl
/-- a new row of numbers -/
theorem hr_newa (t : Nat) (atype : ArrayType) (N : Nat) (z : vp_A) {v : Int32} (X : hm_X C own cc nL ret nm rm cA) (d : decode cc pc = .ok (.newarray atype, 2)) (ht : (hm_tys cA)[t]? = some (cA t, newarray.typeOf atype)) (hw : Cond.arrayClass (newarray.typeOf atype) ∈ hm_tbl) (hz : ∀ c : ClassId, vp_cell c z = arrV c N (fun _ => defaultValue (newarray.typeOf atype))) (hn : ¬ v < 0) (hN : v.toNatClampNeg = N) (hby : N * componentBytes (newarray.typeOf atype) ≤ 536870912) (hf : k + 1 ≤ rm.cells ∧ n + N ≤ rm.slots) (hnu : ∀ (U : State) (c c' : ClassId), va_RA U c (newarray.typeOf atype) → va_RA U c' (newarray.typeOf atype) → c = c')
    (kk : ∀ q : Nat, M q = none → hm_W C (k + 1) (n + N) Q (hm_up M q (.inl (cA t, z))) (pc + 2) L (.ref q :: st)) : hm_W C k n Q M pc L (.int v :: st) := by
  obtain ⟨p, l, e, R, s, m, args, below, meth, c, D, cA', A⟩ := C
  obtain ⟨hx, hb, hr, hml, hown, hts, hlk, hG, hnm, rfl, rfl, hst'⟩ := X
  intro H locs ls hP hA hS hl
  obtain ⟨ws, wP, wD, hin', -⟩ := hm_list hP hA
  refine va_newa (D := D) (cl := vwCl) (tys := hm_tys cA') hx hb (hts _ hw) rfl hG.1 wP wD hS hG.2.1 hz hn hN hby hf.1 hf.2 d (fun q c2 H1 k1 p1 d1 s1 => ?_)
  have e1 : c2 = cA' t := hnu s _ _ (k1.2 (hm_tys cA').length _ hm_last).2 (hG.1.2 t _ ht).2
  subst e1
  exact kk q (hm_fresh hin' d1) H1 locs ls (hm_new hin' p1) (hA.up (d1.2 ws.length _ hm_last)) s1 hl
theorem hm_nuI (U : State) (c c' : ClassId) (h : va_RA U c .int) (h' : va_RA U c' .int) : c = c' := Option.some.inj (h.symm.trans h')
theorem hm_nuZ (U : State) (c c' : ClassId) (h : va_RA U c .boolean) (h' : va_RA U c' .boolean) : c = c' := Option.some.inj (h.symm.trans h')
theorem hm_nuJ (U : State) (c c' : ClassId) (h : va_RA U c .long) (h' : va_RA U c' .long) : c = c' := Option.some.inj (h.symm.trans h')
theorem hm_nuO (E : String) (U : State) (c c' : ClassId) (h : va_RA U c (.object E)) (h' : va_RA U c' (.object E)) : c = c' := by
  obtain ⟨_, _, _, _, _, h1⟩ := h
  obtain ⟨_, _, _, _, _, h2⟩ := h'
  exact Option.some.inj (h1.symm.trans h2)
/-- a new row of references -/
theorem hr_anew (t N : Nat) (E : String) {idx : Nat} {v : Int32} (X : hm_X C own cc nL ret nm rm cA) (d : decode cc pc = .ok (.anewarray idx, 3)) (ht : (hm_tys cA)[t]? = some (cA t, .object E)) (hw : Cond.classLink own idx E ∈ hm_tbl) (ho : Cond.arrayOver (.object E) ∈ hm_oth) (hn : ¬ v < 0) (hN : v.toNatClampNeg = N) (hby : N * 4 ≤ 536870912) (hf : k + 1 ≤ rm.cells ∧ n + N ≤ rm.slots)
    (kk : ∀ q : Nat, M q = none → hm_W C (k + 1) (n + N) Q (hm_up M q (.inl (cA t, N, .inr (.inr (.inr (.inr (fun _ => none))))))) (pc + 3) L (.ref q :: st)) : hm_W C k n Q M pc L (.int v :: st) := by
  obtain ⟨p, l, e, R, s, m, args, below, meth, c, D, cA', A⟩ := C
  obtain ⟨hx, hb, hr, hml, hown, hts, hlk, hG, hnm, rfl, rfl, hst'⟩ := X
  intro H locs ls hP hA hS hl
  obtain ⟨ws, wP, wD, hin', -⟩ := hm_list hP hA
  refine va_newq (D := D) (cl := vwCl) (tys := hm_tys cA') hx hb hown (hts _ hw) (hG.2.2.1 _ ho).2 hG.1 wP wD hS hG.2.1 hn hN hby hf.1 hf.2 d (fun q c2 H1 k1 p1 d1 s1 => ?_)
  have e1 : c2 = cA' t := hm_nuO E s _ _ (k1.2 (hm_tys cA').length _ hm_last).2 (hG.1.2 t _ ht).2
  subst e1
  exact kk q (hm_fresh hin' d1) H1 locs ls (hm_new hin' p1) (hA.up (d1.2 ws.length _ hm_last)) s1 hl
theorem hr_objInit {a : Nat} {idx : Nat} (X : hm_X C own cc nL ret nm rm cA) (d : decode cc pc = .ok (.invokespecial idx, 3)) (h1 : Cond.methodLink own idx objectInit ∈ hm_tbl) (h2 : Cond.instanceMethod objectInit ∈ hm_tbl) (h3 : Cond.code objectInit ⟨#[0xb1]⟩ 1 none ∈ hm_tbl) (hL : L.length = nL) (hf : 1 ≤ rm.frames ∧ (st.map fun v => v.category).sum + 12 ≤ rm.locals)
    (kk : hm_W C k n Q M (pc + 3) L st) : hm_W C k n Q M pc L (.ref a :: st) := by
  obtain ⟨p, l, e, R, s, m, args, below, meth, c, D, cA', A⟩ := C
  obtain ⟨hx, hb, hr, hml, hown, hts, hlk, hG, hnm, rfl, rfl, hst'⟩ := X
  intro H locs ls hP hA hS hl
  exact W.objInit hx hb hown (hts _ h1) (hts _ h2) (hts _ h3) rfl ((hl.1.trans hL).trans hml.symm) rfl d hf.1 (by show 2 * 0 + _ + 12 ≤ _; omega) (kk H locs ls hP hA hS hl)
end HM
end
section
set_option maxRecDepth 20000 in
theorem kKJ6_265 : Cond.constant RJ6 265 1431655765 ∈ hm_tbl := (hm_in 526 (by decide +kernel) (by decide +kernel))
set_option maxRecDepth 20000 in
theorem kKJ6_266 : Cond.constant RJ6 266 858993459 ∈ hm_tbl := (hm_in 527 (by decide +kernel) (by decide +kernel))
set_option maxRecDepth 20000 in
theorem kKJ6_267 : Cond.constant RJ6 267 252645135 ∈ hm_tbl := (hm_in 528 (by decide +kernel) (by decide +kernel))
set_option maxRecDepth 20000 in
theorem kK6_102 : Cond.constant RX6 102 1073741824 ∈ hm_tbl := (hm_in 1062 (by decide +kernel) (by decide +kernel))
set_option maxRecDepth 20000 in
theorem kNL_8 : hm_lN RL 8 5 7 tyX5 := ⟨RX5, TX5, rfl, hF_in5, tyX5_ok, (hm_in 71 (by decide +kernel) (by decide +kernel)), (hm_in 72 (by decide +kernel) (by decide +kernel)), (hm_in 56 (by decide +kernel) (by decide +kernel))⟩
set_option maxRecDepth 20000 in
theorem kRL_8 : Cond.classLink RL 8 RX5 ∈ hm_tbl := (hm_in 71 (by decide +kernel) (by decide +kernel))
set_option maxRecDepth 20000 in
theorem kN5_9 : hm_lN RX5 9 3 5 tyX3 := ⟨RX3, TX3, rfl, hF_in3, tyX3_ok, (hm_in 79 (by decide +kernel) (by decide +kernel)), (hm_in 186 (by decide +kernel) (by decide +kernel)), (hm_in 62 (by decide +kernel) (by decide +kernel))⟩
set_option maxRecDepth 20000 in
theorem kR5_9 : Cond.classLink RX5 9 RX3 ∈ hm_tbl := (hm_in 79 (by decide +kernel) (by decide +kernel))
set_option maxRecDepth 20000 in
theorem kN3_9 : hm_lN RX3 9 4 4 tyX4 := ⟨RX4, TX4, rfl, hF_in4, tyX4_ok, (hm_in 191 (by decide +kernel) (by decide +kernel)), (hm_in 195 (by decide +kernel) (by decide +kernel)), (hm_in 63 (by decide +kernel) (by decide +kernel))⟩
set_option maxRecDepth 20000 in
theorem kR3_9 : Cond.classLink RX3 9 RX4 ∈ hm_tbl := (hm_in 191 (by decide +kernel) (by decide +kernel))
set_option maxRecDepth 20000 in
theorem kN3_28 : hm_lN RX3 28 0 8 tyX0 := ⟨RX0, TX0, rfl, hF_in0, tyX0_ok, (hm_in 193 (by decide +kernel) (by decide +kernel)), (hm_in 575 (by decide +kernel) (by decide +kernel)), (hm_in 69 (by decide +kernel) (by decide +kernel))⟩
set_option maxRecDepth 20000 in
theorem kR3_28 : Cond.classLink RX3 28 RX0 ∈ hm_tbl := (hm_in 193 (by decide +kernel) (by decide +kernel))
set_option maxRecDepth 20000 in
theorem kN4_9 : hm_lN RX4 9 1 4 tyX1 := ⟨RX1, TX1, rfl, hF_in1, tyX1_ok, (hm_in 200 (by decide +kernel) (by decide +kernel)), (hm_in 304 (by decide +kernel) (by decide +kernel)), (hm_in 66 (by decide +kernel) (by decide +kernel))⟩
set_option maxRecDepth 20000 in
theorem kR4_9 : Cond.classLink RX4 9 RX1 ∈ hm_tbl := (hm_in 200 (by decide +kernel) (by decide +kernel))
set_option maxRecDepth 20000 in
theorem kN5_64 : hm_lN RX5 64 1 4 tyX1 := ⟨RX1, TX1, rfl, hF_in1, tyX1_ok, (hm_in 303 (by decide +kernel) (by decide +kernel)), (hm_in 304 (by decide +kernel) (by decide +kernel)), (hm_in 66 (by decide +kernel) (by decide +kernel))⟩
set_option maxRecDepth 20000 in
theorem kR5_64 : Cond.classLink RX5 64 RX1 ∈ hm_tbl := (hm_in 303 (by decide +kernel) (by decide +kernel))
set_option maxRecDepth 20000 in
theorem kN5_105 : hm_lN RX5 105 4 4 tyX4 := ⟨RX4, TX4, rfl, hF_in4, tyX4_ok, (hm_in 355 (by decide +kernel) (by decide +kernel)), (hm_in 195 (by decide +kernel) (by decide +kernel)), (hm_in 63 (by decide +kernel) (by decide +kernel))⟩
set_option maxRecDepth 20000 in
theorem kR5_105 : Cond.classLink RX5 105 RX4 ∈ hm_tbl := (hm_in 355 (by decide +kernel) (by decide +kernel))
set_option maxRecDepth 20000 in
theorem kN5_172 : hm_lN RX5 172 0 8 tyX0 := ⟨RX0, TX0, rfl, hF_in0, tyX0_ok, (hm_in 623 (by decide +kernel) (by decide +kernel)), (hm_in 575 (by decide +kernel) (by decide +kernel)), (hm_in 69 (by decide +kernel) (by decide +kernel))⟩
set_option maxRecDepth 20000 in
theorem kR5_172 : Cond.classLink RX5 172 RX0 ∈ hm_tbl := (hm_in 623 (by decide +kernel) (by decide +kernel))
set_option maxRecDepth 20000 in
theorem kN0_9 : hm_lN RX0 9 2 5 tyX2 := ⟨RX2, TX2, rfl, hF_in2, tyX2_ok, (hm_in 628 (by decide +kernel) (by decide +kernel)), (hm_in 630 (by decide +kernel) (by decide +kernel)), (hm_in 70 (by decide +kernel) (by decide +kernel))⟩
set_option maxRecDepth 20000 in
theorem kR0_9 : Cond.classLink RX0 9 RX2 ∈ hm_tbl := (hm_in 628 (by decide +kernel) (by decide +kernel))
set_option maxRecDepth 20000 in
theorem kNL_125 : hm_lN RL 125 6 27 tyX6 := ⟨RX6, TX6, rfl, hF_in6, tyX6_ok, (hm_in 900 (by decide +kernel) (by decide +kernel)), (hm_in 901 (by decide +kernel) (by decide +kernel)), (hm_in 57 (by decide +kernel) (by decide +kernel))⟩
set_option maxRecDepth 20000 in
theorem kRL_125 : Cond.classLink RL 125 RX6 ∈ hm_tbl := (hm_in 900 (by decide +kernel) (by decide +kernel))
set_option maxRecDepth 20000 in
theorem kA_int : Cond.arrayClass .int ∈ hm_tbl := (hm_in 105 (by decide +kernel) (by decide +kernel))
set_option maxRecDepth 20000 in
theorem kA_boolean : Cond.arrayClass .boolean ∈ hm_tbl := (hm_in 222 (by decide +kernel) (by decide +kernel))
set_option maxRecDepth 20000 in
theorem kA_long : Cond.arrayClass .long ∈ hm_tbl := (hm_in 1300 (by decide +kernel) (by decide +kernel))
set_option maxRecDepth 20000 in
theorem kO5_3 : Cond.methodLink RX5 3 objectInit ∈ hm_tbl := (hm_in 76 (by decide +kernel) (by decide +kernel))
set_option maxRecDepth 20000 in
theorem kO3_3 : Cond.methodLink RX3 3 objectInit ∈ hm_tbl := (hm_in 190 (by decide +kernel) (by decide +kernel))
set_option maxRecDepth 20000 in
theorem kO4_3 : Cond.methodLink RX4 3 objectInit ∈ hm_tbl := (hm_in 199 (by decide +kernel) (by decide +kernel))
set_option maxRecDepth 20000 in
theorem kO1_3 : Cond.methodLink RX1 3 objectInit ∈ hm_tbl := (hm_in 308 (by decide +kernel) (by decide +kernel))
set_option maxRecDepth 20000 in
theorem kO0_3 : Cond.methodLink RX0 3 objectInit ∈ hm_tbl := (hm_in 627 (by decide +kernel) (by decide +kernel))
set_option maxRecDepth 20000 in
theorem kO2_3 : Cond.methodLink RX2 3 objectInit ∈ hm_tbl := (hm_in 634 (by decide +kernel) (by decide +kernel))
set_option maxRecDepth 20000 in
theorem kO6_1 : Cond.methodLink RX6 1 objectInit ∈ hm_tbl := (hm_in 905 (by decide +kernel) (by decide +kernel))
set_option maxRecDepth 20000 in
theorem kO_i : Cond.instanceMethod objectInit ∈ hm_tbl := (hm_in 77 (by decide +kernel) (by decide +kernel))
set_option maxRecDepth 20000 in
theorem kO_c : Cond.code objectInit ⟨#[0xb1]⟩ 1 none ∈ hm_tbl := (hm_in 78 (by decide +kernel) (by decide +kernel))
end
section
abbrev r_J6_bitCount_0f7a4 : Room := { frames := 0, cells := 0, slots := 0, locals := 0 }
abbrev r_J9_abs_0f7a4 : Room := { frames := 0, cells := 0, slots := 0, locals := 0 }
abbrev r_J9_max_7cf53 : Room := { frames := 0, cells := 0, slots := 0, locals := 0 }
abbrev r_J9_min_7cf53 : Room := { frames := 0, cells := 0, slots := 0, locals := 0 }
abbrev r_X0_commonPrints : Room := { frames := 0, cells := 0, slots := 0, locals := 0 }
abbrev r_X0_findPrints : Room := { frames := 4, cells := 0, slots := 0, locals := 89 }
abbrev r_X0_findPrintsOf : Room := { frames := 3, cells := 0, slots := 0, locals := 65 }
abbrev r_X0_hasPrint : Room := { frames := 1, cells := 0, slots := 0, locals := 22 }
abbrev r_X0_init : Room := { frames := 2, cells := 0, slots := 0, locals := 40 }
abbrev r_X0_insertPrint : Room := { frames := 1, cells := 0, slots := 0, locals := 22 }
abbrev r_X0_isInIndex : Room := { frames := 0, cells := 0, slots := 0, locals := 0 }
abbrev r_X0_placeOf : Room := { frames := 0, cells := 0, slots := 0, locals := 0 }
abbrev r_X0_size : Room := { frames := 2, cells := 0, slots := 0, locals := 40 }
abbrev r_X0_takeDueMark : Room := { frames := 0, cells := 0, slots := 0, locals := 0 }
abbrev r_X1_earned : Room := { frames := 2, cells := 0, slots := 0, locals := 45 }
abbrev r_X1_earnedByChoice : Room := { frames := 1, cells := 0, slots := 0, locals := 21 }
abbrev r_X1_init : Room := { frames := 1, cells := 0, slots := 0, locals := 20 }
abbrev r_X1_size : Room := { frames := 3, cells := 0, slots := 0, locals := 63 }
abbrev r_X1_sizeWith : Room := { frames := 2, cells := 0, slots := 0, locals := 42 }
abbrev r_X2_add : Room := { frames := 0, cells := 0, slots := 0, locals := 0 }
abbrev r_X2_growthBy : Room := { frames := 1, cells := 0, slots := 0, locals := 20 }
abbrev r_X2_holdsInOrder : Room := { frames := 0, cells := 0, slots := 0, locals := 0 }
abbrev r_X2_init : Room := { frames := 1, cells := 0, slots := 0, locals := 20 }
abbrev r_X2_isFull : Room := { frames := 0, cells := 0, slots := 0, locals := 0 }
abbrev r_X2_printAt : Room := { frames := 1, cells := 0, slots := 0, locals := 22 }
abbrev r_X2_size : Room := { frames := 1, cells := 0, slots := 0, locals := 20 }
abbrev r_X2_sizeOfSigns : Room := { frames := 0, cells := 0, slots := 0, locals := 0 }
abbrev r_X3_arePair : Room := { frames := 3, cells := 0, slots := 0, locals := 66 }
abbrev r_X3_canFold : Room := { frames := 1, cells := 0, slots := 0, locals := 23 }
abbrev r_X3_childOf : Room := { frames := 0, cells := 0, slots := 0, locals := 0 }
abbrev r_X3_countChildren : Room := { frames := 0, cells := 0, slots := 0, locals := 0 }
abbrev r_X3_init : Room := { frames := 2, cells := 0, slots := 0, locals := 43 }
abbrev r_X3_isHead : Room := { frames := 0, cells := 0, slots := 0, locals := 0 }
abbrev r_X3_isTied : Room := { frames := 0, cells := 0, slots := 0, locals := 0 }
abbrev r_X3_remove : Room := { frames := 0, cells := 0, slots := 0, locals := 0 }
abbrev r_X3_sizeOfAnswers : Room := { frames := 3, cells := 0, slots := 0, locals := 62 }
abbrev r_X3_sizeOfVersions : Room := { frames := 5, cells := 0, slots := 0, locals := 105 }
abbrev r_X4_inherit : Room := { frames := 0, cells := 0, slots := 0, locals := 0 }
abbrev r_X4_init : Room := { frames := 1, cells := 0, slots := 0, locals := 20 }
abbrev r_X4_size : Room := { frames := 4, cells := 0, slots := 0, locals := 83 }
abbrev r_X4_sizeMissingIn : Room := { frames := 4, cells := 0, slots := 0, locals := 83 }
abbrev r_X5_addSheet : Room := { frames := 6, cells := 1, slots := 6, locals := 90 }
abbrev r_X5_addUse : Room := { frames := 1, cells := 0, slots := 0, locals := 20 }
abbrev r_X5_adopt : Room := { frames := 7, cells := 3, slots := 18, locals := 112 }
abbrev r_X5_answer : Room := { frames := 8, cells := 2, slots := 12, locals := 134 }
abbrev r_X5_answerAt : Room := { frames := 7, cells := 2, slots := 12, locals := 112 }
abbrev r_X5_average : Room := { frames := 7, cells := 2, slots := 12, locals := 112 }
abbrev r_X5_checkClass : Room := { frames := 6, cells := 1, slots := 6, locals := 90 }
abbrev r_X5_checkNumberRule : Room := { frames := 7, cells := 2, slots := 12, locals := 112 }
abbrev r_X5_checkPupil : Room := { frames := 6, cells := 1, slots := 6, locals := 90 }
abbrev r_X5_checkRange : Room := { frames := 6, cells := 1, slots := 6, locals := 90 }
abbrev r_X5_checkSaid : Room := { frames := 7, cells := 3, slots := 18, locals := 112 }
abbrev r_X5_checkTask : Room := { frames := 6, cells := 1, slots := 6, locals := 90 }
abbrev r_X5_checkWordsRule : Room := { frames := 6, cells := 1, slots := 6, locals := 90 }
abbrev r_X5_classOf : Room := { frames := 0, cells := 0, slots := 0, locals := 0 }
abbrev r_X5_close : Room := { frames := 7, cells := 3, slots := 18, locals := 112 }
abbrev r_X5_collectThree : Room := { frames := 1, cells := 0, slots := 0, locals := 23 }
abbrev r_X5_collectThrees : Room := { frames := 3, cells := 0, slots := 0, locals := 65 }
abbrev r_X5_commonThrees : Room := { frames := 1, cells := 0, slots := 0, locals := 23 }
abbrev r_X5_commonWords : Room := { frames := 3, cells := 0, slots := 0, locals := 70 }
abbrev r_X5_drop : Room := { frames := 7, cells := 5, slots := 30, locals := 115 }
abbrev r_X5_due : Room := { frames := 8, cells := 2, slots := 12, locals := 134 }
abbrev r_X5_fingerprints : Room := { frames := 8, cells := 2, slots := 12, locals := 134 }
abbrev r_X5_fold : Room := { frames := 7, cells := 3, slots := 18, locals := 112 }
abbrev r_X5_grade : Room := { frames := 4, cells := 0, slots := 0, locals := 93 }
abbrev r_X5_gradeAgain : Room := { frames := 5, cells := 0, slots := 0, locals := 119 }
abbrev r_X5_hand : Room := { frames := 7, cells := 3, slots := 18, locals := 119 }
abbrev r_X5_head : Room := { frames := 7, cells := 2, slots := 12, locals := 112 }
abbrev r_X5_init : Room := { frames := 1, cells := 0, slots := 0, locals := 20 }
abbrev r_X5_isClass : Room := { frames := 0, cells := 0, slots := 0, locals := 0 }
abbrev r_X5_isCollected : Room := { frames := 0, cells := 0, slots := 0, locals := 0 }
abbrev r_X5_isPairBy : Room := { frames := 2, cells := 0, slots := 0, locals := 44 }
abbrev r_X5_keepWords : Room := { frames := 1, cells := 0, slots := 0, locals := 21 }
abbrev r_X5_kindOf : Room := { frames := 7, cells := 3, slots := 18, locals := 112 }
abbrev r_X5_likeness : Room := { frames := 7, cells := 3, slots := 18, locals := 112 }
abbrev r_X5_likenessBy : Room := { frames := 1, cells := 0, slots := 0, locals := 21 }
abbrev r_X5_longestCommon : Room := { frames := 2, cells := 0, slots := 0, locals := 42 }
abbrev r_X5_longestKept : Room := { frames := 2, cells := 0, slots := 0, locals := 45 }
abbrev r_X5_mark : Room := { frames := 8, cells := 2, slots := 12, locals := 134 }
abbrev r_X5_mend : Room := { frames := 6, cells := 1, slots := 6, locals := 144 }
abbrev r_X5_mendChoice : Room := { frames := 7, cells := 5, slots := 30, locals := 173 }
abbrev r_X5_mendNumber : Room := { frames := 8, cells := 6, slots := 36, locals := 173 }
abbrev r_X5_mendWords : Room := { frames := 7, cells := 5, slots := 30, locals := 173 }
abbrev r_X5_numberOf : Room := { frames := 0, cells := 0, slots := 0, locals := 0 }
abbrev r_X5_open : Room := { frames := 7, cells := 3, slots := 18, locals := 112 }
abbrev r_X5_openAnswer : Room := { frames := 6, cells := 1, slots := 6, locals := 90 }
abbrev r_X5_pairAt : Room := { frames := 7, cells := 2, slots := 12, locals := 112 }
abbrev r_X5_pairs : Room := { frames := 7, cells := 1, slots := 6, locals := 112 }
abbrev r_X5_pairsAnew : Room := { frames := 7, cells := 1, slots := 6, locals := 112 }
abbrev r_X5_parent : Room := { frames := 7, cells := 2, slots := 12, locals := 112 }
abbrev r_X5_passesQuota : Room := { frames := 1, cells := 0, slots := 0, locals := 20 }
abbrev r_X5_points : Room := { frames := 7, cells := 2, slots := 12, locals := 112 }
abbrev r_X5_printOf : Room := { frames := 0, cells := 0, slots := 0, locals := 0 }
abbrev r_X5_revise : Room := { frames := 6, cells := 1, slots := 6, locals := 90 }
abbrev r_X5_rowLength : Room := { frames := 1, cells := 0, slots := 0, locals := 21 }
abbrev r_X5_ruleHasPrint : Room := { frames := 2, cells := 0, slots := 0, locals := 42 }
abbrev r_X5_say : Room := { frames := 8, cells := 8, slots := 48, locals := 133 }
abbrev r_X5_setChoice : Room := { frames := 7, cells := 6, slots := 36, locals := 115 }
abbrev r_X5_setNumber : Room := { frames := 8, cells := 7, slots := 42, locals := 133 }
abbrev r_X5_setQuota : Room := { frames := 7, cells := 2, slots := 12, locals := 112 }
abbrev r_X5_setWords : Room := { frames := 7, cells := 6, slots := 36, locals := 115 }
abbrev r_X5_sheetAt : Room := { frames := 6, cells := 1, slots := 6, locals := 90 }
abbrev r_X5_sheets : Room := { frames := 0, cells := 0, slots := 0, locals := 0 }
abbrev r_X5_taskOf : Room := { frames := 1, cells := 0, slots := 0, locals := 22 }
abbrev r_X5_tellerOf : Room := { frames := 0, cells := 0, slots := 0, locals := 0 }
abbrev r_X5_told : Room := { frames := 8, cells := 2, slots := 12, locals := 134 }
abbrev r_X5_toldIn : Room := { frames := 7, cells := 3, slots := 18, locals := 112 }
abbrev r_X5_used : Room := { frames := 7, cells := 1, slots := 6, locals := 110 }
abbrev r_X5_usedAnew : Room := { frames := 7, cells := 1, slots := 6, locals := 128 }
abbrev r_X5_versionAt : Room := { frames := 6, cells := 1, slots := 6, locals := 90 }
abbrev r_X5_versions : Room := { frames := 7, cells := 1, slots := 6, locals := 112 }
abbrev r_X5_withPrint : Room := { frames := 7, cells := 1, slots := 6, locals := 112 }
abbrev r_X5_wordAt : Room := { frames := 0, cells := 0, slots := 0, locals := 0 }
abbrev r_X6_addSheet : Room := { frames := 1, cells := 0, slots := 0, locals := 21 }
abbrev r_X6_adopt : Room := { frames := 3, cells := 0, slots := 0, locals := 65 }
abbrev r_X6_alike : Room := { frames := 4, cells := 0, slots := 0, locals := 91 }
abbrev r_X6_answer : Room := { frames := 4, cells := 0, slots := 0, locals := 87 }
abbrev r_X6_areBoth : Room := { frames := 2, cells := 0, slots := 0, locals := 43 }
abbrev r_X6_average : Room := { frames := 2, cells := 0, slots := 0, locals := 43 }
abbrev r_X6_bits : Room := { frames := 0, cells := 0, slots := 0, locals := 0 }
abbrev r_X6_canFold : Room := { frames := 5, cells := 0, slots := 0, locals := 109 }
abbrev r_X6_canName : Room := { frames := 2, cells := 0, slots := 0, locals := 43 }
abbrev r_X6_canRevise : Room := { frames := 5, cells := 0, slots := 0, locals := 109 }
abbrev r_X6_child : Room := { frames := 0, cells := 0, slots := 0, locals := 0 }
abbrev r_X6_close : Room := { frames := 2, cells := 0, slots := 0, locals := 43 }
abbrev r_X6_common : Room := { frames := 2, cells := 0, slots := 0, locals := 42 }
abbrev r_X6_costOf : Room := { frames := 2, cells := 0, slots := 0, locals := 42 }
abbrev r_X6_drop : Room := { frames := 6, cells := 0, slots := 0, locals := 132 }
abbrev r_X6_due : Room := { frames := 5, cells := 0, slots := 0, locals := 119 }
abbrev r_X6_dueOf : Room := { frames := 4, cells := 0, slots := 0, locals := 95 }
abbrev r_X6_entryFor : Room := { frames := 0, cells := 0, slots := 0, locals := 0 }
abbrev r_X6_fingerprints : Room := { frames := 4, cells := 0, slots := 0, locals := 91 }
abbrev r_X6_fits : Room := { frames := 4, cells := 0, slots := 0, locals := 87 }
abbrev r_X6_fold : Room := { frames := 6, cells := 0, slots := 0, locals := 135 }
abbrev r_X6_forget : Room := { frames := 0, cells := 0, slots := 0, locals := 0 }
abbrev r_X6_gained : Room := { frames := 3, cells := 0, slots := 0, locals := 70 }
abbrev r_X6_hand : Room := { frames := 5, cells := 0, slots := 0, locals := 119 }
abbrev r_X6_has : Room := { frames := 1, cells := 0, slots := 0, locals := 24 }
abbrev r_X6_head : Room := { frames := 2, cells := 0, slots := 0, locals := 43 }
abbrev r_X6_in : Room := { frames := 0, cells := 0, slots := 0, locals := 0 }
abbrev r_X6_init : Room := { frames := 1, cells := 0, slots := 0, locals := 20 }
abbrev r_X6_isClass : Room := { frames := 1, cells := 0, slots := 0, locals := 22 }
abbrev r_X6_isInRule : Room := { frames := 2, cells := 0, slots := 0, locals := 42 }
abbrev r_X6_isNamed : Room := { frames := 3, cells := 0, slots := 0, locals := 65 }
abbrev r_X6_isNeeded : Room := { frames := 1, cells := 0, slots := 0, locals := 25 }
abbrev r_X6_isPair : Room := { frames := 5, cells := 0, slots := 0, locals := 116 }
abbrev r_X6_isPrint : Room := { frames := 0, cells := 0, slots := 0, locals := 0 }
abbrev r_X6_isPupil : Room := { frames := 1, cells := 0, slots := 0, locals := 22 }
abbrev r_X6_isRow : Room := { frames := 2, cells := 0, slots := 0, locals := 42 }
abbrev r_X6_isSaid : Room := { frames := 1, cells := 0, slots := 0, locals := 22 }
abbrev r_X6_isSheet : Room := { frames := 1, cells := 0, slots := 0, locals := 22 }
abbrev r_X6_isTask : Room := { frames := 1, cells := 0, slots := 0, locals := 22 }
abbrev r_X6_isVersion : Room := { frames := 2, cells := 0, slots := 0, locals := 43 }
abbrev r_X6_kindOf : Room := { frames := 4, cells := 0, slots := 0, locals := 88 }
abbrev r_X6_lay : Room := { frames := 3, cells := 0, slots := 0, locals := 65 }
abbrev r_X6_lengthOf : Room := { frames := 1, cells := 0, slots := 0, locals := 21 }
abbrev r_X6_likeness : Room := { frames := 5, cells := 0, slots := 0, locals := 116 }
abbrev r_X6_mark : Room := { frames := 4, cells := 0, slots := 0, locals := 87 }
abbrev r_X6_mend : Room := { frames := 5, cells := 0, slots := 0, locals := 119 }
abbrev r_X6_mendChoice : Room := { frames := 6, cells := 0, slots := 0, locals := 146 }
abbrev r_X6_mendNumber : Room := { frames := 6, cells := 0, slots := 0, locals := 146 }
abbrev r_X6_mendWords : Room := { frames := 6, cells := 0, slots := 0, locals := 146 }
abbrev r_X6_mended : Room := { frames := 2, cells := 0, slots := 0, locals := 48 }
abbrev r_X6_more : Room := { frames := 0, cells := 0, slots := 0, locals := 0 }
abbrev r_X6_noAnswer : Room := { frames := 3, cells := 0, slots := 0, locals := 65 }
abbrev r_X6_noSheet : Room := { frames := 2, cells := 0, slots := 0, locals := 43 }
abbrev r_X6_noTask : Room := { frames := 3, cells := 0, slots := 0, locals := 65 }
abbrev r_X6_open : Room := { frames := 3, cells := 0, slots := 0, locals := 65 }
abbrev r_X6_pairAt : Room := { frames := 6, cells := 0, slots := 0, locals := 140 }
abbrev r_X6_pairs : Room := { frames := 7, cells := 0, slots := 0, locals := 163 }
abbrev r_X6_pairsAnew : Room := { frames := 8, cells := 0, slots := 0, locals := 184 }
abbrev r_X6_pairsOf : Room := { frames := 6, cells := 0, slots := 0, locals := 140 }
abbrev r_X6_parent : Room := { frames := 3, cells := 0, slots := 0, locals := 65 }
abbrev r_X6_passes : Room := { frames := 3, cells := 0, slots := 0, locals := 64 }
abbrev r_X6_points : Room := { frames := 3, cells := 0, slots := 0, locals := 65 }
abbrev r_X6_print : Room := { frames := 0, cells := 0, slots := 0, locals := 0 }
abbrev r_X6_refused : Room := { frames := 0, cells := 0, slots := 0, locals := 0 }
abbrev r_X6_revise : Room := { frames := 0, cells := 0, slots := 0, locals := 0 }
abbrev r_X6_say : Room := { frames := 5, cells := 0, slots := 0, locals := 109 }
abbrev r_X6_setChoice : Room := { frames := 6, cells := 0, slots := 0, locals := 132 }
abbrev r_X6_setNumber : Room := { frames := 6, cells := 0, slots := 0, locals := 132 }
abbrev r_X6_setQuota : Room := { frames := 2, cells := 0, slots := 0, locals := 42 }
abbrev r_X6_setWords : Room := { frames := 6, cells := 0, slots := 0, locals := 132 }
abbrev r_X6_sheets : Room := { frames := 0, cells := 0, slots := 0, locals := 0 }
abbrev r_X6_taken : Room := { frames := 0, cells := 0, slots := 0, locals := 0 }
abbrev r_X6_thrown : Room := { frames := 0, cells := 0, slots := 0, locals := 0 }
abbrev r_X6_told : Room := { frames := 4, cells := 0, slots := 0, locals := 87 }
abbrev r_X6_toldIn : Room := { frames := 4, cells := 0, slots := 0, locals := 88 }
abbrev r_X6_used : Room := { frames := 4, cells := 0, slots := 0, locals := 87 }
abbrev r_X6_usedAnew : Room := { frames := 5, cells := 0, slots := 0, locals := 108 }
abbrev r_X6_usedBy : Room := { frames := 3, cells := 0, slots := 0, locals := 64 }
abbrev r_X6_versions : Room := { frames := 3, cells := 0, slots := 0, locals := 64 }
abbrev r_X6_withPrint : Room := { frames := 4, cells := 0, slots := 0, locals := 91 }
abbrev r_X6_wordAt : Room := { frames := 0, cells := 0, slots := 0, locals := 0 }
end
section
/-! pure words of the reference's and the system's small functions -/
def hm_bI (b : Bool) : Int32 := if b then 1 else 0
theorem hm_bI_t : hm_bI true = 1 := rfl
theorem hm_bI_f : hm_bI false = 0 := rfl
theorem hm_bIz (b : Bool) : narrow .boolean (.int (hm_bI b)) = .int (hm_bI b) := by cases b <;> rfl
theorem hm_bI_1 {b : Bool} (h : b = true) : (1 : Int32) = hm_bI b := by rw [h]; rfl
theorem hm_bI_0 {b : Bool} (h : ¬ b = true) : (0 : Int32) = hm_bI b := by cases b with | true => exact absurd rfl h | false => rfl
theorem hm_bI_ne {b : Bool} : ¬ hm_bI b = 0 ↔ b = true := by cases b <;> simp [hm_bI]
theorem hm_bI_eq {b : Bool} : hm_bI b = 0 ↔ b = false := by cases b <;> simp [hm_bI]
/-- the word at a place, as the reference takes it -/
def sp_wa (row place : Int32) : Int32 := (row >>> ((5 * place) &&& 31)) &&& 31
def sp_lenF : Nat → Int32 → Nat → Nat
  | 0, _, n => n
  | f + 1, row, n => if sp_wa row (nI n) = 0 then n else sp_lenF f row (n + 1)
def sp_len (row : Int32) : Nat := sp_lenF 6 row 0
def sp_in (v lo hi : Int32) : Bool := decide (lo ≤ v) && decide (v ≤ hi)
def sp_row (row : Int32) : Bool := decide (0 < row) && decide (row < 1073741824) && decide (row >>> ((5 * nI (sp_len row)) &&& 31) = 0)
def sp_pr (a b c : Int32) : Int32 := 1024 * a + 32 * b + c
theorem sp_in_t {v lo hi : Int32} (h1 : ¬ v < lo) (h2 : ¬ hi < v) : sp_in v lo hi = true := by simp [sp_in, Int32.not_lt.mp h1, Int32.not_lt.mp h2]
theorem sp_in_f {v lo hi : Int32} (h : v < lo ∨ hi < v) : ¬ sp_in v lo hi = true := by
  intro q
  simp only [sp_in, Bool.and_eq_true, decide_eq_true_eq] at q
  rcases h with h | h
  · exact Int32.not_le.mpr h q.1
  · exact Int32.not_le.mpr h q.2
def sp_pop (m : Nat) : Nat := m % 2 + m / 2 % 2 + m / 4 % 2 + m / 8 % 2 + m / 16 % 2 + m / 32 % 2
theorem sp_pop_step : ∀ m, m < 64 → m ≠ 0 → nI m &&& (nI m - 1) = nI (m &&& (m - 1)) ∧ m &&& (m - 1) < m ∧ sp_pop m = sp_pop (m &&& (m - 1)) + 1 := by decide +kernel
theorem sp_lenF_le : ∀ (f : Nat) (row : Int32) (n : Nat), sp_lenF f row n ≤ n + f
  | 0, _, n => Nat.le_refl n
  | f + 1, row, n => by
    unfold sp_lenF
    split
    · omega
    · have := sp_lenF_le f row (n + 1)
      omega
theorem sp_len_le (row : Int32) : sp_len row ≤ 6 := sp_lenF_le 6 row 0
end
section
set_option maxHeartbeats 4000000 in
set_option maxRecDepth 100000 in
theorem c_X6_wordAt (cA : Nat → ClassId) {M : hm_M} (row place : Int32) : hm_Met cA yX6_wordAt cX6_wordAt 2 (some .int) r_X6_wordAt [.int row, .int place] M (hm_pu (some (.int (sp_wa row place))) M) := by
  refine hm_met 0 (by decide +kernel) (fun w h => by simp only [List.mem_cons, List.not_mem_nil, or_false] at h; rcases h with rfl | rfl <;> rfl) rfl (fun C X => ?_)
  show hm_W C 0 0 _ M 0 [some (.int row), some (.int place)] []
  refine hr_iload_n X dX6_wordAt_0 rfl ?_
  refine hr_iconst (5) X dX6_wordAt_1 (by decide) ?_
  refine hr_iload_n X dX6_wordAt_2 rfl ?_
  refine hr_imul X dX6_wordAt_3 ?_
  refine hr_ishr X dX6_wordAt_4 ?_
  refine hr_bipush (31) X dX6_wordAt_5 (by decide) ?_
  refine hr_iand X dX6_wordAt_7 ?_
  exact hr_iret X dX6_wordAt_8 (Nat.le_of_ble_eq_true rfl) (Nat.le_of_ble_eq_true rfl) ⟨rfl, rfl⟩
set_option maxHeartbeats 4000000 in
set_option maxRecDepth 100000 in
theorem c_X6_lengthOf (cA : Nat → ClassId) {M : hm_M} (row : Int32) : hm_Met cA yX6_lengthOf cX6_lengthOf 2 (some .int) r_X6_lengthOf [.int row] M (hm_pu (some (.int (nI (sp_len row)))) M) := by
  refine hm_met 1 (by decide +kernel) (fun w h => by simp only [List.mem_cons, List.not_mem_nil, or_false] at h; rcases h with rfl <;> rfl) rfl (fun C X => ?_)
  show hm_W C 0 0 _ M 0 [some (.int row), none] []
  refine hr_iconst (0) X dX6_lengthOf_0 (by decide) ?_
  refine hr_istore_n X dX6_lengthOf_1 (Nat.le_of_ble_eq_true rfl) ?_
  have lp2 : ∀ (f : Nat) (n : Nat), 6 < n + f → n ≤ 6 → sp_lenF (6 - n) row n = sp_len row → hm_W C 0 0 (hm_T C (hm_pu (some (.int (nI (sp_len row)))) M) r_X6_lengthOf.cells r_X6_lengthOf.slots) M 2 [some (.int row), some (.int (nI n))] [] := by
    intro f
    induction f with
    | zero => intro n h1 h2 h3; exact absurd h1 (by omega)
    | succ f ih =>
      intro n h1 h2 h3
      refine hr_iload_n X dX6_lengthOf_2 rfl ?_
      refine hr_bipush (6) X dX6_lengthOf_3 (by decide) ?_
      refine hr_icmp_ge 22 X dX6_lengthOf_5 (by decide) (fun c5 => ?_) (fun c5 => ?_)
      · have hz : n = sp_len row := by
          have q : 6 ≤ n := (nI_leI (a := 6) (by decide) (by omega)).mp c5
          rw [← h3, show n = 6 by omega]
          rfl
        refine hr_iload_n X dX6_lengthOf_22 rfl ?_
        exact hr_iret X dX6_lengthOf_23 (Nat.le_of_ble_eq_true rfl) (Nat.le_of_ble_eq_true rfl) ⟨by rw [hz], rfl⟩
      · have hn : n < 6 := Nat.lt_of_not_le (fun q => c5 ((nI_leI (by decide) (by omega)).mpr q))
        refine hr_iload_n X dX6_lengthOf_8 rfl ?_
        refine hr_iload_n X dX6_lengthOf_9 rfl ?_
        refine hr_callS X kC6_98 dX6_lengthOf_10 (c_X6_wordAt cA (M := M) row (nI n)) rfl rfl rfl (Nat.le_of_ble_eq_true rfl) ⟨⟨(Nat.le_of_ble_eq_true rfl), (Nat.le_of_ble_eq_true rfl)⟩, (Nat.le_of_ble_eq_true rfl), (Nat.le_of_ble_eq_true rfl)⟩ (fun v M10 hp => ?_)
        obtain ⟨rfl, rfl⟩ := hp
        refine hr_if_eq 22 X dX6_lengthOf_13 (by decide) (fun c13 => ?_) (fun c13 => ?_)
        · have hz : n = sp_len row := by
            rw [← h3, show 6 - n = (6 - (n + 1)) + 1 by omega, sp_lenF, if_pos c13]
          refine hr_iload_n X dX6_lengthOf_22 rfl ?_
          exact hr_iret X dX6_lengthOf_23 (Nat.le_of_ble_eq_true rfl) (Nat.le_of_ble_eq_true rfl) ⟨by rw [hz], rfl⟩
        · refine hr_iinc (1) X dX6_lengthOf_16 rfl (by decide) ?_
          refine hr_goto 2 X dX6_lengthOf_19 (by decide) ?_
          rw [nI_1]
          exact ih (n + 1) (by omega) (by omega) (by rw [← h3, show 6 - n = (6 - (n + 1)) + 1 by omega, sp_lenF, if_neg c13])
  exact lp2 7 0 (by decide) (by decide) rfl
set_option maxHeartbeats 4000000 in
set_option maxRecDepth 100000 in
theorem c_X6_in (cA : Nat → ClassId) {M : hm_M} (v lo hi : Int32) : hm_Met cA yX6_in cX6_in 3 (some .boolean) r_X6_in [.int v, .int lo, .int hi] M (hm_pu (some (.int (hm_bI (sp_in v lo hi)))) M) := by
  refine hm_met 0 (by decide +kernel) (fun w h => by simp only [List.mem_cons, List.not_mem_nil, or_false] at h; rcases h with rfl | rfl | rfl <;> rfl) rfl (fun C X => ?_)
  show hm_W C 0 0 _ M 0 [some (.int v), some (.int lo), some (.int hi)] []
  refine hr_iload_n X dX6_in_0 rfl ?_
  refine hr_iload_n X dX6_in_1 rfl ?_
  refine hr_icmp_lt 14 X dX6_in_2 (by decide) (fun c2 => ?_) (fun c2 => ?_)
  · have hz : sp_in v lo hi = false := Bool.eq_false_iff.mpr (sp_in_f (Or.inl c2))
    refine hr_iconst (0) X dX6_in_14 (by decide) ?_
    exact hr_zret X dX6_in_15 (by rfl) (Nat.le_of_ble_eq_true rfl) (Nat.le_of_ble_eq_true rfl) ⟨by rw [hz]; rfl, rfl⟩
  · refine hr_iload_n X dX6_in_5 rfl ?_
    refine hr_iload_n X dX6_in_6 rfl ?_
    refine hr_icmp_gt 14 X dX6_in_7 (by decide) (fun c7 => ?_) (fun c7 => ?_)
    · have hz : sp_in v lo hi = false := Bool.eq_false_iff.mpr (sp_in_f (Or.inr c7))
      refine hr_iconst (0) X dX6_in_14 (by decide) ?_
      exact hr_zret X dX6_in_15 (by rfl) (Nat.le_of_ble_eq_true rfl) (Nat.le_of_ble_eq_true rfl) ⟨by rw [hz]; rfl, rfl⟩
    · have hz : sp_in v lo hi = true := sp_in_t c2 c7
      refine hr_iconst (1) X dX6_in_10 (by decide) ?_
      refine hr_goto 15 X dX6_in_11 (by decide) ?_
      exact hr_zret X dX6_in_15 (by rfl) (Nat.le_of_ble_eq_true rfl) (Nat.le_of_ble_eq_true rfl) ⟨by rw [hz]; rfl, rfl⟩
set_option maxHeartbeats 4000000 in
set_option maxRecDepth 100000 in
theorem c_X6_isClass (cA : Nat → ClassId) {M : hm_M} (v : Int32) : hm_Met cA yX6_isClass cX6_isClass 1 (some .boolean) r_X6_isClass [.int v] M (hm_pu (some (.int (hm_bI (sp_in v 0 3)))) M) := by
  refine hm_met 0 (by decide +kernel) (fun w h => by simp only [List.mem_cons, List.not_mem_nil, or_false] at h; rcases h with rfl <;> rfl) rfl (fun C X => ?_)
  show hm_W C 0 0 _ M 0 [some (.int v)] []
  refine hr_iload_n X dX6_isClass_0 rfl ?_
  refine hr_iconst (0) X dX6_isClass_1 (by decide) ?_
  refine hr_iconst (3) X dX6_isClass_2 (by decide) ?_
  refine hr_callS X kC6_87 dX6_isClass_3 (c_X6_in cA (M := M) v 0 3) rfl rfl rfl (Nat.le_of_ble_eq_true rfl) ⟨⟨(Nat.le_of_ble_eq_true rfl), (Nat.le_of_ble_eq_true rfl)⟩, (Nat.le_of_ble_eq_true rfl), (Nat.le_of_ble_eq_true rfl)⟩ (fun v M3 hp => ?_)
  obtain ⟨rfl, rfl⟩ := hp
  exact hr_zret X dX6_isClass_6 (hm_bIz _) (Nat.le_of_ble_eq_true rfl) (Nat.le_of_ble_eq_true rfl) ⟨rfl, rfl⟩
set_option maxHeartbeats 4000000 in
set_option maxRecDepth 100000 in
theorem c_X6_isPupil (cA : Nat → ClassId) {M : hm_M} (v : Int32) : hm_Met cA yX6_isPupil cX6_isPupil 1 (some .boolean) r_X6_isPupil [.int v] M (hm_pu (some (.int (hm_bI (sp_in v 0 11)))) M) := by
  refine hm_met 0 (by decide +kernel) (fun w h => by simp only [List.mem_cons, List.not_mem_nil, or_false] at h; rcases h with rfl <;> rfl) rfl (fun C X => ?_)
  show hm_W C 0 0 _ M 0 [some (.int v)] []
  refine hr_iload_n X dX6_isPupil_0 rfl ?_
  refine hr_iconst (0) X dX6_isPupil_1 (by decide) ?_
  refine hr_bipush (11) X dX6_isPupil_2 (by decide) ?_
  refine hr_callS X kC6_87 dX6_isPupil_4 (c_X6_in cA (M := M) v 0 11) rfl rfl rfl (Nat.le_of_ble_eq_true rfl) ⟨⟨(Nat.le_of_ble_eq_true rfl), (Nat.le_of_ble_eq_true rfl)⟩, (Nat.le_of_ble_eq_true rfl), (Nat.le_of_ble_eq_true rfl)⟩ (fun v M4 hp => ?_)
  obtain ⟨rfl, rfl⟩ := hp
  exact hr_zret X dX6_isPupil_7 (hm_bIz _) (Nat.le_of_ble_eq_true rfl) (Nat.le_of_ble_eq_true rfl) ⟨rfl, rfl⟩
set_option maxHeartbeats 4000000 in
set_option maxRecDepth 100000 in
theorem c_X6_isTask (cA : Nat → ClassId) {M : hm_M} (v : Int32) : hm_Met cA yX6_isTask cX6_isTask 1 (some .boolean) r_X6_isTask [.int v] M (hm_pu (some (.int (hm_bI (sp_in v 0 4)))) M) := by
  refine hm_met 0 (by decide +kernel) (fun w h => by simp only [List.mem_cons, List.not_mem_nil, or_false] at h; rcases h with rfl <;> rfl) rfl (fun C X => ?_)
  show hm_W C 0 0 _ M 0 [some (.int v)] []
  refine hr_iload_n X dX6_isTask_0 rfl ?_
  refine hr_iconst (0) X dX6_isTask_1 (by decide) ?_
  refine hr_iconst (4) X dX6_isTask_2 (by decide) ?_
  refine hr_callS X kC6_87 dX6_isTask_3 (c_X6_in cA (M := M) v 0 4) rfl rfl rfl (Nat.le_of_ble_eq_true rfl) ⟨⟨(Nat.le_of_ble_eq_true rfl), (Nat.le_of_ble_eq_true rfl)⟩, (Nat.le_of_ble_eq_true rfl), (Nat.le_of_ble_eq_true rfl)⟩ (fun v M3 hp => ?_)
  obtain ⟨rfl, rfl⟩ := hp
  exact hr_zret X dX6_isTask_6 (hm_bIz _) (Nat.le_of_ble_eq_true rfl) (Nat.le_of_ble_eq_true rfl) ⟨rfl, rfl⟩
set_option maxHeartbeats 4000000 in
set_option maxRecDepth 100000 in
theorem c_X6_print (cA : Nat → ClassId) {M : hm_M} (a b c : Int32) : hm_Met cA yX6_print cX6_print 3 (some .int) r_X6_print [.int a, .int b, .int c] M (hm_pu (some (.int (sp_pr a b c))) M) := by
  refine hm_met 0 (by decide +kernel) (fun w h => by simp only [List.mem_cons, List.not_mem_nil, or_false] at h; rcases h with rfl | rfl | rfl <;> rfl) rfl (fun C X => ?_)
  show hm_W C 0 0 _ M 0 [some (.int a), some (.int b), some (.int c)] []
  refine hr_sipush (1024) X dX6_print_0 (by decide) ?_
  refine hr_iload_n X dX6_print_3 rfl ?_
  refine hr_imul X dX6_print_4 ?_
  refine hr_bipush (32) X dX6_print_5 (by decide) ?_
  refine hr_iload_n X dX6_print_7 rfl ?_
  refine hr_imul X dX6_print_8 ?_
  refine hr_iadd X dX6_print_9 ?_
  refine hr_iload_n X dX6_print_10 rfl ?_
  refine hr_iadd X dX6_print_11 ?_
  exact hr_iret X dX6_print_12 (Nat.le_of_ble_eq_true rfl) (Nat.le_of_ble_eq_true rfl) ⟨rfl, rfl⟩
set_option maxHeartbeats 4000000 in
set_option maxRecDepth 100000 in
theorem c_X6_isRow (cA : Nat → ClassId) {M : hm_M} (row : Int32) : hm_Met cA yX6_isRow cX6_isRow 1 (some .boolean) r_X6_isRow [.int row] M (hm_pu (some (.int (hm_bI (sp_row row)))) M) := by
  refine hm_met 0 (by decide +kernel) (fun w h => by simp only [List.mem_cons, List.not_mem_nil, or_false] at h; rcases h with rfl <;> rfl) rfl (fun C X => ?_)
  show hm_W C 0 0 _ M 0 [some (.int row)] []
  refine hr_iload_n X dX6_isRow_0 rfl ?_
  refine hr_if_le 25 X dX6_isRow_1 (by decide) (fun c1 => ?_) (fun c1 => ?_)
  · have hz : sp_row row = false := by simp [sp_row, Int32.not_lt.mpr c1]
    refine hr_iconst (0) X dX6_isRow_25 (by decide) ?_
    exact hr_zret X dX6_isRow_26 (by rfl) (Nat.le_of_ble_eq_true rfl) (Nat.le_of_ble_eq_true rfl) ⟨by rw [hz]; rfl, rfl⟩
  · refine hr_iload_n X dX6_isRow_4 rfl ?_
    refine hr_ldc (1073741824) X dX6_isRow_5 kK6_102 ?_
    refine hr_icmp_ge 25 X dX6_isRow_7 (by decide) (fun c7 => ?_) (fun c7 => ?_)
    · have hz : sp_row row = false := by simp [sp_row, Int32.not_lt.mpr c7]
      refine hr_iconst (0) X dX6_isRow_25 (by decide) ?_
      exact hr_zret X dX6_isRow_26 (by rfl) (Nat.le_of_ble_eq_true rfl) (Nat.le_of_ble_eq_true rfl) ⟨by rw [hz]; rfl, rfl⟩
    · refine hr_iload_n X dX6_isRow_10 rfl ?_
      refine hr_iconst (5) X dX6_isRow_11 (by decide) ?_
      refine hr_iload_n X dX6_isRow_12 rfl ?_
      refine hr_callS X kC6_103 dX6_isRow_13 (c_X6_lengthOf cA (M := M) row) rfl rfl rfl (Nat.le_of_ble_eq_true rfl) ⟨⟨(Nat.le_of_ble_eq_true rfl), (Nat.le_of_ble_eq_true rfl)⟩, (Nat.le_of_ble_eq_true rfl), (Nat.le_of_ble_eq_true rfl)⟩ (fun v M13 hp => ?_)
      obtain ⟨rfl, rfl⟩ := hp
      refine hr_imul X dX6_isRow_16 ?_
      refine hr_ishr X dX6_isRow_17 ?_
      refine hr_if_ne 25 X dX6_isRow_18 (by decide) (fun c18 => ?_) (fun c18 => ?_)
      · have hz : sp_row row = false := by simp [sp_row, c18]
        refine hr_iconst (0) X dX6_isRow_25 (by decide) ?_
        exact hr_zret X dX6_isRow_26 (by rfl) (Nat.le_of_ble_eq_true rfl) (Nat.le_of_ble_eq_true rfl) ⟨by rw [hz]; rfl, rfl⟩
      · have hz : sp_row row = true := by simp [sp_row, c18, Int32.not_le.mp c1, Int32.not_le.mp c7]
        refine hr_iconst (1) X dX6_isRow_21 (by decide) ?_
        refine hr_goto 26 X dX6_isRow_22 (by decide) ?_
        exact hr_zret X dX6_isRow_26 (by rfl) (Nat.le_of_ble_eq_true rfl) (Nat.le_of_ble_eq_true rfl) ⟨by rw [hz]; rfl, rfl⟩
set_option maxHeartbeats 4000000 in
set_option maxRecDepth 100000 in
theorem c_X6_bits (cA : Nat → ClassId) {M : hm_M} (m : Nat) (hm : m < 64) : hm_Met cA yX6_bits cX6_bits 3 (some .int) r_X6_bits [.int (nI m)] M (hm_pu (some (.int (nI (sp_pop m)))) M) := by
  refine hm_met 2 (by decide +kernel) (fun w h => by simp only [List.mem_cons, List.not_mem_nil, or_false] at h; rcases h with rfl <;> rfl) rfl (fun C X => ?_)
  show hm_W C 0 0 _ M 0 [some (.int (nI m)), none, none] []
  refine hr_iconst (0) X dX6_bits_0 (by decide) ?_
  refine hr_istore_n X dX6_bits_1 (Nat.le_of_ble_eq_true rfl) ?_
  refine hr_iload_n X dX6_bits_2 rfl ?_
  refine hr_istore_n X dX6_bits_3 (Nat.le_of_ble_eq_true rfl) ?_
  have lp4 : ∀ (f : Nat) (r n : Nat), r < f → r ≤ m → n + sp_pop r = sp_pop m → hm_W C 0 0 (hm_T C (hm_pu (some (.int (nI (sp_pop m)))) M) r_X6_bits.cells r_X6_bits.slots) M 4 [some (.int (nI m)), some (.int (nI n)), some (.int (nI r))] [] := by
    intro f
    induction f with
    | zero => intro r n h1 h2 h3; exact absurd h1 (by omega)
    | succ f ih =>
      intro r n h1 h2 h3
      refine hr_iload_n X dX6_bits_4 rfl ?_
      refine hr_if_eq 20 X dX6_bits_5 (by decide) (fun c5 => ?_) (fun c5 => ?_)
      · have hz : n = sp_pop m := by
          have q : r = 0 := (nI_eq (b := 0) (by omega) (by decide)).mp c5
          subst q
          exact h3
        refine hr_iload_n X dX6_bits_20 rfl ?_
        exact hr_iret X dX6_bits_21 (Nat.le_of_ble_eq_true rfl) (Nat.le_of_ble_eq_true rfl) ⟨by rw [hz], rfl⟩
      · have hr : r ≠ 0 := fun q => c5 (by rw [q]; rfl)
        refine hr_iinc (1) X dX6_bits_8 rfl (by decide) ?_
        refine hr_iload_n X dX6_bits_11 rfl ?_
        refine hr_iload_n X dX6_bits_12 rfl ?_
        refine hr_iconst (1) X dX6_bits_13 (by decide) ?_
        refine hr_isub X dX6_bits_14 ?_
        refine hr_iand X dX6_bits_15 ?_
        refine hr_istore_n X dX6_bits_16 (Nat.le_of_ble_eq_true rfl) ?_
        refine hr_goto 4 X dX6_bits_17 (by decide) ?_
        rw [(sp_pop_step r (by omega) hr).1, nI_1]
        exact ih (r &&& (r - 1)) (n + 1) (by have := (sp_pop_step r (by omega) hr).2.1; omega) (by have := (sp_pop_step r (by omega) hr).2.1; omega) (by have := (sp_pop_step r (by omega) hr).2.2; omega)
  exact lp4 (m + 1) m 0 (Nat.lt_succ_self m) (Nat.le_refl m) (Nat.zero_add _)
end
section
/-! THE REFERENCE'S STATE: sg j x is the number at the place x of the row in the field j (a field's own number: x = 0); ta the same for the rows to work in (0 and 22 to 26) -/
abbrev mm_S : Type := Nat → Nat → Int32
def mm_len : Nat → Nat
  | 2 => 64 | 3 => 64 | 4 => 64 | 5 => 4 | 6 => 320 | 7 => 320 | 8 => 320 | 9 => 320 | 10 => 16 | 11 => 16 | 12 => 4 | 13 => 48 | 14 => 48 | 15 => 48 | 16 => 48 | 17 => 240 | 18 => 240 | 19 => 240 | 20 => 240 | 21 => 2880 | 22 => 13 | 23 => 48 | 24 => 50 | _ => 50
def mm_t : Nat → Nat
  | 2 => 1 | 11 => 1 | 17 => 1 | _ => 0
def mm_ar (j : Nat) : Bool := decide (2 ≤ j) && decide (j < 27) && !(j == 25)
def mm_scr (j : Nat) : Bool := j == 0 || decide (22 ≤ j)
def mm_c (sg ta : mm_S) (j : Nat) : Nat → Int32 := if mm_scr j = true then ta j else sg j
def mm_up (sg : mm_S) (j x : Nat) (v : Int32) : mm_S := fun j' x' => if j' = j ∧ x' = x then v else sg j' x'
theorem mm_up_s {sg : mm_S} {j x : Nat} {v : Int32} : mm_up sg j x v j x = v := if_pos ⟨rfl, rfl⟩
theorem mm_up_j {sg : mm_S} {j x j' : Nat} {v : Int32} (h : j' ≠ j) : mm_up sg j x v j' = sg j' := funext fun _ => if_neg (fun q => h q.1)
theorem mm_up_x {sg : mm_S} {j x x' : Nat} {v : Int32} (h : x' ≠ x) : mm_up sg j x v j x' = sg j x' := if_neg (fun q => h q.2)
theorem mm_up_row {sg : mm_S} {j x : Nat} {v : Int32} : mm_up sg j x v j = upd (sg j) x v := funext fun x' => by
  unfold mm_up upd
  by_cases h : x' = x <;> simp [h]
def mm_fs (sg ta : mm_S) (ad : Nat → Nat) : List Value := [.int (ta 0 0), .int (sg 1 0), .ref (ad 2), .ref (ad 3), .ref (ad 4), .ref (ad 5), .ref (ad 6), .ref (ad 7), .ref (ad 8), .ref (ad 9), .ref (ad 10), .ref (ad 11), .ref (ad 12), .ref (ad 13), .ref (ad 14), .ref (ad 15), .ref (ad 16), .ref (ad 17), .ref (ad 18), .ref (ad 19), .ref (ad 20), .ref (ad 21), .ref (ad 22), .ref (ad 23), .ref (ad 24), .int (ta 25 0), .ref (ad 26)]
/-- the memory M holds the reference's object mo in this state; all else is as in M0 -/
def mm_R (cA : Nat → ClassId) (sg ta : mm_S) (ad : Nat → Nat) (mo : Nat) (M0 M : hm_M) : Prop :=
  M mo = some (.inr (6, mm_fs sg ta ad)) ∧ (∀ j, mm_ar j = true → M (ad j) = some (.inl (cA (mm_t j), mm_len j, .inl (mm_c sg ta j)))) ∧ (∀ i j, mm_ar i = true → mm_ar j = true → ad i = ad j → i = j) ∧ ∀ a, a ≠ mo → (∀ j, mm_ar j = true → a ≠ ad j) → M a = M0 a
theorem mm_R.ne {cA : Nat → ClassId} {sg ta : mm_S} {ad : Nat → Nat} {mo : Nat} {M0 M : hm_M} (h : mm_R cA sg ta ad mo M0 M) {j : Nat} (hj : mm_ar j = true) : mo ≠ ad j := fun e => by
  have h1 := h.2.1 j hj
  rw [← e, h.1] at h1
  cases h1
theorem mm_c_up {sg ta : mm_S} {j x : Nat} {v : Int32} (hs : mm_scr j = false) (i : Nat) : mm_c (mm_up sg j x v) ta i = if i = j then upd (mm_c sg ta j) x v else mm_c sg ta i := by
  unfold mm_c
  by_cases h : i = j
  · subst h
    rw [if_neg (by rw [hs]; decide), if_pos rfl, if_neg (by rw [hs]; decide), mm_up_row]
  · rw [if_neg h, mm_up_j h]
theorem mm_c_upT {sg ta : mm_S} {j x : Nat} {v : Int32} (hs : mm_scr j = true) (i : Nat) : mm_c sg (mm_up ta j x v) i = if i = j then upd (mm_c sg ta j) x v else mm_c sg ta i := by
  unfold mm_c
  by_cases h : i = j
  · subst h
    rw [if_pos hs, if_pos rfl, if_pos hs, mm_up_row]
  · rw [if_neg h, mm_up_j h]
/-- one row of the reference's written -/
theorem mm_R.row {cA : Nat → ClassId} {sg ta sg' ta' : mm_S} {ad : Nat → Nat} {mo : Nat} {M0 M : hm_M} (h : mm_R cA sg ta ad mo M0 M) {j x : Nat} {v : Int32} (hj : mm_ar j = true) (hf : mm_fs sg' ta' ad = mm_fs sg ta ad) (hc : ∀ i, mm_c sg' ta' i = if i = j then upd (mm_c sg ta j) x v else mm_c sg ta i) : mm_R cA sg' ta' ad mo M0 (hm_up M (ad j) (.inl (cA (mm_t j), mm_len j, .inl (upd (mm_c sg ta j) x v)))) := by
  refine ⟨?_, fun i hi => ?_, h.2.2.1, fun a h1 h2 => ?_⟩
  · rw [hm_up_n (h.ne hj), hf]
    exact h.1
  · rw [hc i]
    by_cases e : i = j
    · subst e
      rw [hm_up_s, if_pos rfl]
    · rw [hm_up_n (fun q => e (h.2.2.1 i j hi hj q)), if_neg e]
      exact h.2.1 i hi
  · rw [hm_up_n (h2 j hj)]
    exact h.2.2.2 a h1 h2
theorem mm_R.obj {cA : Nat → ClassId} {sg ta sg' ta' : mm_S} {ad : Nat → Nat} {mo : Nat} {M0 M : hm_M} (h : mm_R cA sg ta ad mo M0 M) (hc : ∀ i, mm_ar i = true → mm_c sg' ta' i = mm_c sg ta i) : mm_R cA sg' ta' ad mo M0 (hm_up M mo (.inr (6, mm_fs sg' ta' ad))) := by
  refine ⟨hm_up_s, fun i hi => ?_, h.2.2.1, fun a h1 h2 => ?_⟩
  · rw [hm_up_n (Ne.symm (h.ne hi)), hc i hi]
    exact h.2.1 i hi
  · rw [hm_up_n h1]
    exact h.2.2.2 a h1 h2
theorem nI_mul (a b : Nat) : nI a * nI b = nI (a * b) := (Int32.ofNat_mul a b).symm
theorem mm_m2 (a : Nat) : 2 * nI a = nI (2 * a) := nI_mul 2 a
theorem mm_m3 (a : Nat) : 3 * nI a = nI (3 * a) := nI_mul 3 a
theorem mm_m4 (a : Nat) : 4 * nI a = nI (4 * a) := nI_mul 4 a
theorem mm_m5 (a : Nat) : 5 * nI a = nI (5 * a) := nI_mul 5 a
theorem mm_m12 (a : Nat) : 12 * nI a = nI (12 * a) := nI_mul 12 a
theorem mm_m16 (a : Nat) : 16 * nI a = nI (16 * a) := nI_mul 16 a
theorem mm_a1 (a : Nat) : nI a + 1 = nI (a + 1) := nI_add a 1
theorem mm_a2 (a : Nat) : nI a + 2 = nI (a + 2) := nI_add a 2
theorem mm_a3 (a : Nat) : nI a + 3 = nI (a + 3) := nI_add a 3
theorem mm_a5 (a : Nat) : nI a + 5 = nI (a + 5) := nI_add a 5
theorem mm_a12 (a : Nat) : nI a + 12 = nI (a + 12) := nI_add a 12
theorem nI_divN {a b : Nat} (ha : a < 2 ^ 31) (hb : b < 2 ^ 31) (h0 : b ≠ 0) : nI a / nI b = nI (a / b) := by
  apply Int32.toInt_inj.mp
  have h1 : nI b ≠ -1 := fun q => by
    have := congrArg Int32.toInt q
    rw [nI_toInt hb] at this
    have h2 : (-1 : Int32).toInt = -1 := by decide
    omega
  rw [Int32.toInt_div_of_ne_right _ _ h1, nI_toInt ha, nI_toInt hb, nI_toInt (Nat.lt_of_le_of_lt (Nat.div_le_self a b) ha)]
  exact (Int.ofNat_tdiv a b).symm
theorem mm_d3 {a : Nat} (h : a < 2 ^ 31) : nI a / 3 = nI (a / 3) := nI_divN (b := 3) h (by decide) (by decide)
theorem mm_d5 {a : Nat} (h : a < 2 ^ 31) : nI a / 5 = nI (a / 5) := nI_divN (b := 5) h (by decide) (by decide)
theorem mm_d12 {a : Nat} (h : a < 2 ^ 31) : nI a / 12 = nI (a / 12) := nI_divN (b := 12) h (by decide) (by decide)
theorem mm_d1000 {a : Nat} (h : a < 2 ^ 31) : nI a / 1000 = nI (a / 1000) := nI_divN (b := 1000) h (by decide) (by decide)
theorem nI_sub {a b : Nat} (h : b ≤ a) : nI a - nI b = nI (a - b) := by
  obtain ⟨c, rfl⟩ := Nat.exists_eq_add_of_le h
  rw [← nI_add, Nat.add_sub_cancel_left, Int32.add_comm, Int32.add_sub_cancel]
theorem mm_remN {a b : Nat} (ha : a < 2 ^ 31) (hb : b < 2 ^ 31) (h0 : b ≠ 0) : nI a - nI a / nI b * nI b = nI (a % b) := by
  rw [nI_divN ha hb h0, nI_mul, nI_sub (Nat.div_mul_le_self a b)]
  congr 1
  have := Nat.div_add_mod a b
  rw [Nat.mul_comm] at this
  omega
theorem mm_r12 {a : Nat} (h : a < 2 ^ 31) : nI a - nI a / 12 * 12 = nI (a % 12) := mm_remN (b := 12) h (by decide) (by decide)
theorem mm_r16 {a : Nat} (h : a < 2 ^ 31) : nI a - nI a / 16 * 16 = nI (a % 16) := mm_remN (b := 16) h (by decide) (by decide)
theorem mm_r1000 {a : Nat} (h : a < 2 ^ 31) : nI a - nI a / 1000 * 1000 = nI (a % 1000) := mm_remN (b := 1000) h (by decide) (by decide)
theorem mm_in {i : Int32} {x N : Nat} (hx : i = nI x) (h : x < N) (hN : N < 2 ^ 31) : vp_in i N ∧ i.toNatClampNeg = x := by
  subst hx
  exact ⟨nI_in h hN, nI_clamp (by omega)⟩
theorem mm_len_lt (j : Nat) : mm_len j < 2 ^ 31 := by
  unfold mm_len
  split <;> decide
section MR
variable {C : hm_C} {own : String} {cc : ByteArray} {nL : Nat} {ret : Option FieldType} {nm : String} {rm : Room} {cA : Nat → ClassId} {k n : Nat} {Q : State → Prop} {M M0 : hm_M} {pc : Nat} {L : List (Option Value)} {st : List Value} {sg ta : mm_S} {ad : Nat → Nat} {mo : Nat}
theorem mm_getS {idx : Nat} {rt : FieldType} {fin ini : Bool} (X : hm_X C own cc nL ret nm rm cA) {j : Nat} (lF : hm_lF own idx 6 j rt fin ini) (d : decode cc pc = .ok (.getfield idx, 3)) (hR : mm_R cA sg ta ad mo M0 M) (j' : Nat) {v : Int32} (hj : (mm_fs sg ta ad)[j]? = some (.int v)) (kk : hm_W C k n Q M (pc + 3) L (.int v :: st)) : hm_W C k n Q M pc L (.ref mo :: st) := hr_get X lF d hR.1 hj kk
theorem mm_getA {idx : Nat} {rt : FieldType} {fin ini : Bool} (X : hm_X C own cc nL ret nm rm cA) {j : Nat} (lF : hm_lF own idx 6 j rt fin ini) (d : decode cc pc = .ok (.getfield idx, 3)) (hR : mm_R cA sg ta ad mo M0 M) (j' : Nat) (hj : (mm_fs sg ta ad)[j]? = some (.ref (ad j))) (kk : hm_W C k n Q M (pc + 3) L (.ref (ad j) :: st)) : hm_W C k n Q M pc L (.ref mo :: st) := hr_get X lF d hR.1 hj kk
theorem mm_iald {j : Nat} {i : Int32} (x : Nat) (X : hm_X C own cc nL ret nm rm cA) (d : decode cc pc = .ok (.iaload, 1)) (hR : mm_R cA sg ta ad mo M0 M) (hj : (mm_ar j && (mm_t j == 0) && !mm_scr j) = true) (hx : i = nI x) (hl : x < mm_len j) (kk : hm_W C k n Q M (pc + 1) L (.int (sg j x) :: st)) : hm_W C k n Q M pc L (.int i :: .ref (ad j) :: st) := by
  simp only [Bool.and_eq_true, beq_iff_eq, Bool.not_eq_true'] at hj
  obtain ⟨h1, h2⟩ := mm_in hx hl (mm_len_lt j)
  have hM := hR.2.1 j hj.1.1
  rw [hj.1.2] at hM
  refine hr_iald X d hM h1 ?_
  rw [h2, mm_c, if_neg (by rw [hj.2]; decide)]
  exact kk
theorem mm_ialdT {j : Nat} {i : Int32} (x : Nat) (X : hm_X C own cc nL ret nm rm cA) (d : decode cc pc = .ok (.iaload, 1)) (hR : mm_R cA sg ta ad mo M0 M) (hj : (mm_ar j && (mm_t j == 0) && mm_scr j) = true) (hx : i = nI x) (hl : x < mm_len j) (kk : hm_W C k n Q M (pc + 1) L (.int (ta j x) :: st)) : hm_W C k n Q M pc L (.int i :: .ref (ad j) :: st) := by
  simp only [Bool.and_eq_true, beq_iff_eq] at hj
  obtain ⟨h1, h2⟩ := mm_in hx hl (mm_len_lt j)
  have hM := hR.2.1 j hj.1.1
  rw [hj.1.2] at hM
  refine hr_iald X d hM h1 ?_
  rw [h2, mm_c, if_pos hj.2]
  exact kk
theorem mm_zald {j : Nat} {i : Int32} (x : Nat) (X : hm_X C own cc nL ret nm rm cA) (d : decode cc pc = .ok (.baload, 1)) (hR : mm_R cA sg ta ad mo M0 M) (hj : (mm_ar j && (mm_t j == 1) && !mm_scr j) = true) (hx : i = nI x) (hl : x < mm_len j) (kk : hm_W C k n Q M (pc + 1) L (.int (sg j x) :: st)) : hm_W C k n Q M pc L (.int i :: .ref (ad j) :: st) := by
  simp only [Bool.and_eq_true, beq_iff_eq, Bool.not_eq_true'] at hj
  obtain ⟨h1, h2⟩ := mm_in hx hl (mm_len_lt j)
  have hM := hR.2.1 j hj.1.1
  rw [hj.1.2] at hM
  refine hr_zald X d hM h1 ?_
  rw [h2, mm_c, if_neg (by rw [hj.2]; decide)]
  exact kk
theorem mm_fs_up {j x : Nat} {v : Int32} (h : mm_ar j = true) : mm_fs (mm_up sg j x v) ta ad = mm_fs sg ta ad := by
  unfold mm_fs
  rw [mm_up_j (j' := 1) (fun q => by subst q; revert h; decide)]
theorem mm_fs_upT {j x : Nat} {v : Int32} (h : mm_ar j = true) : mm_fs sg (mm_up ta j x v) ad = mm_fs sg ta ad := by
  unfold mm_fs
  rw [mm_up_j (j' := 0) (fun q => by subst q; revert h; decide), mm_up_j (j' := 25) (fun q => by subst q; revert h; decide)]
theorem mm_iast {j : Nat} {i v : Int32} (x : Nat) (X : hm_X C own cc nL ret nm rm cA) (d : decode cc pc = .ok (.iastore, 1)) (hR : mm_R cA sg ta ad mo M0 M) (hj : (mm_ar j && (mm_t j == 0) && !mm_scr j) = true) (hx : i = nI x) (hl : x < mm_len j) (kk : ∀ M' : hm_M, mm_R cA (mm_up sg j x v) ta ad mo M0 M' → hm_W C k n Q M' (pc + 1) L st) : hm_W C k n Q M pc L (.int v :: .int i :: .ref (ad j) :: st) := by
  simp only [Bool.and_eq_true, beq_iff_eq, Bool.not_eq_true'] at hj
  obtain ⟨h1, h2⟩ := mm_in hx hl (mm_len_lt j)
  have hM := hR.2.1 j hj.1.1
  have hk := hR.row (sg' := mm_up sg j x v) (ta' := ta) (v := v) (x := x) hj.1.1 (mm_fs_up hj.1.1) (mm_c_up hj.2)
  rw [hj.1.2] at hM hk
  refine hr_iast X d hM h1 ?_
  rw [h2]
  exact kk _ hk
theorem mm_iastT {j : Nat} {i v : Int32} (x : Nat) (X : hm_X C own cc nL ret nm rm cA) (d : decode cc pc = .ok (.iastore, 1)) (hR : mm_R cA sg ta ad mo M0 M) (hj : (mm_ar j && (mm_t j == 0) && mm_scr j) = true) (hx : i = nI x) (hl : x < mm_len j) (kk : ∀ M' : hm_M, mm_R cA sg (mm_up ta j x v) ad mo M0 M' → hm_W C k n Q M' (pc + 1) L st) : hm_W C k n Q M pc L (.int v :: .int i :: .ref (ad j) :: st) := by
  simp only [Bool.and_eq_true, beq_iff_eq] at hj
  obtain ⟨h1, h2⟩ := mm_in hx hl (mm_len_lt j)
  have hM := hR.2.1 j hj.1.1
  have hk := hR.row (sg' := sg) (ta' := mm_up ta j x v) (v := v) (x := x) hj.1.1 (mm_fs_upT hj.1.1) (mm_c_upT hj.2)
  rw [hj.1.2] at hM hk
  refine hr_iast X d hM h1 ?_
  rw [h2]
  exact kk _ hk
theorem mm_zast {j : Nat} {i v : Int32} (x : Nat) (X : hm_X C own cc nL ret nm rm cA) (d : decode cc pc = .ok (.bastore, 1)) (hR : mm_R cA sg ta ad mo M0 M) (hj : (mm_ar j && (mm_t j == 1) && !mm_scr j) = true) (hx : i = nI x) (hl : x < mm_len j) (hz : vp_nar .boolean v = v) (kk : ∀ M' : hm_M, mm_R cA (mm_up sg j x v) ta ad mo M0 M' → hm_W C k n Q M' (pc + 1) L st) : hm_W C k n Q M pc L (.int v :: .int i :: .ref (ad j) :: st) := by
  simp only [Bool.and_eq_true, beq_iff_eq, Bool.not_eq_true'] at hj
  obtain ⟨h1, h2⟩ := mm_in hx hl (mm_len_lt j)
  have hM := hR.2.1 j hj.1.1
  have hk := hR.row (sg' := mm_up sg j x v) (ta' := ta) (v := v) (x := x) hj.1.1 (mm_fs_up hj.1.1) (mm_c_up hj.2)
  rw [hj.1.2] at hM hk
  refine hr_zast X d hM h1 ?_
  rw [h2, hz]
  exact kk _ hk
theorem mm_putS0 {idx : Nat} {ini : Bool} (X : hm_X C own cc nL ret nm rm cA) {v : Int32} (lF : hm_lF own idx 6 0 .int false ini) (d : decode cc pc = .ok (.putfield idx, 3)) (hR : mm_R cA sg ta ad mo M0 M)
    (kk : ∀ M' : hm_M, mm_R cA sg (mm_up ta 0 0 v) ad mo M0 M' → hm_W C k n Q M' (pc + 3) L st) : hm_W C k n Q M pc L (.int v :: .ref mo :: st) := by
  refine hr_put X lF d hR.1 rfl rfl (by show 0 < 27; decide) (kk _ ?_)
  have h1 : mm_R cA sg (mm_up ta 0 0 v) ad mo M0 (hm_up M mo (.inr (6, mm_fs sg (mm_up ta 0 0 v) ad))) := hR.obj (fun i hi => by
    unfold mm_c
    have h2 : i ≠ 0 := fun q => by subst q; revert hi; decide
    rw [mm_up_j h2])
  exact h1
theorem mm_putS1 {idx : Nat} {ini : Bool} (X : hm_X C own cc nL ret nm rm cA) {v : Int32} (lF : hm_lF own idx 6 1 .int false ini) (d : decode cc pc = .ok (.putfield idx, 3)) (hR : mm_R cA sg ta ad mo M0 M)
    (kk : ∀ M' : hm_M, mm_R cA (mm_up sg 1 0 v) ta ad mo M0 M' → hm_W C k n Q M' (pc + 3) L st) : hm_W C k n Q M pc L (.int v :: .ref mo :: st) := by
  refine hr_put X lF d hR.1 rfl rfl (by show 1 < 27; decide) (kk _ ?_)
  have h1 : mm_R cA (mm_up sg 1 0 v) ta ad mo M0 (hm_up M mo (.inr (6, mm_fs (mm_up sg 1 0 v) ta ad))) := hR.obj (fun i hi => by
    unfold mm_c
    have h2 : i ≠ 1 := fun q => by subst q; revert hi; decide
    rw [mm_up_j h2])
  exact h1
theorem mm_putS25 {idx : Nat} {ini : Bool} (X : hm_X C own cc nL ret nm rm cA) {v : Int32} (lF : hm_lF own idx 6 25 .int false ini) (d : decode cc pc = .ok (.putfield idx, 3)) (hR : mm_R cA sg ta ad mo M0 M)
    (kk : ∀ M' : hm_M, mm_R cA sg (mm_up ta 25 0 v) ad mo M0 M' → hm_W C k n Q M' (pc + 3) L st) : hm_W C k n Q M pc L (.int v :: .ref mo :: st) := by
  refine hr_put X lF d hR.1 rfl rfl (by show 25 < 27; decide) (kk _ ?_)
  have h1 : mm_R cA sg (mm_up ta 25 0 v) ad mo M0 (hm_up M mo (.inr (6, mm_fs sg (mm_up ta 25 0 v) ad))) := hR.obj (fun i hi => by
    unfold mm_c
    have h2 : i ≠ 25 := fun q => by subst q; revert hi; decide
    rw [mm_up_j h2])
  exact h1
end MR
end
