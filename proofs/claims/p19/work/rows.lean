section
-- ===== PART A: goes FIRST, ahead of the names: the tables' words, and 'selects' of the private methods out of them =====
/-- a private method of a class that the tables say can be made, by its rows of tables_1 -/
def lw_okq (q : MethodName × Nat) : Prop := (q.1.cls ≠ "java/lang/invoke/MethodHandle" ∧ q.1.cls ≠ "java/lang/invoke/VarHandle") ∧ Cond.instantiable q.1.cls q.2 ∈ tables_1 ∧ Cond.privateMethod q.1 ∈ tables_1 ∧ Cond.instanceMethod q.1 ∈ tables_1
theorem lw_p0 : lw_okq (⟨"StepEditor$Step", "markTokens", "(LStepEditor$Tokens;LStepEditor$Tokens;)V"⟩, 11) := ⟨⟨by decide +kernel, by decide +kernel⟩, List.mem_of_getElem? (i := 75) (by decide +kernel), List.mem_of_getElem? (i := 304) (by decide +kernel), List.mem_of_getElem? (i := 305) (by decide +kernel)⟩
theorem lw_p1 : lw_okq (⟨"StepEditor$Step", "markedToken", "(I)I"⟩, 11) := ⟨⟨by decide +kernel, by decide +kernel⟩, List.mem_of_getElem? (i := 75) (by decide +kernel), List.mem_of_getElem? (i := 310) (by decide +kernel), List.mem_of_getElem? (i := 311) (by decide +kernel)⟩
theorem lw_p2 : lw_okq (⟨"StepEditor$Step", "isWithin", "(LStepEditor$Tokens;)Z"⟩, 11) := ⟨⟨by decide +kernel, by decide +kernel⟩, List.mem_of_getElem? (i := 75) (by decide +kernel), List.mem_of_getElem? (i := 315) (by decide +kernel), List.mem_of_getElem? (i := 316) (by decide +kernel)⟩
theorem lw_p3 : lw_okq (⟨"java/lang/Throwable", "fillInStackTrace", "(I)Ljava/lang/Throwable;"⟩, 6) := ⟨⟨by decide +kernel, by decide +kernel⟩, List.mem_of_getElem? (i := 373) (by decide +kernel), List.mem_of_getElem? (i := 371) (by decide +kernel), List.mem_of_getElem? (i := 372) (by decide +kernel)⟩
theorem lw_p4 : lw_okq (⟨"StepEditor", "isAnyPending", "()Z"⟩, 15) := ⟨⟨by decide +kernel, by decide +kernel⟩, List.mem_of_getElem? (i := 17) (by decide +kernel), List.mem_of_getElem? (i := 421) (by decide +kernel), List.mem_of_getElem? (i := 422) (by decide +kernel)⟩
theorem lw_p5 : lw_okq (⟨"StepEditor", "isFirstValidWith", "(IIII)Z"⟩, 15) := ⟨⟨by decide +kernel, by decide +kernel⟩, List.mem_of_getElem? (i := 17) (by decide +kernel), List.mem_of_getElem? (i := 441) (by decide +kernel), List.mem_of_getElem? (i := 442) (by decide +kernel)⟩
theorem lw_p6 : lw_okq (⟨"StepEditor$Grammar", "skip", "(II)I"⟩, 4) := ⟨⟨by decide +kernel, by decide +kernel⟩, List.mem_of_getElem? (i := 25) (by decide +kernel), List.mem_of_getElem? (i := 461) (by decide +kernel), List.mem_of_getElem? (i := 462) (by decide +kernel)⟩
theorem lw_p7 : lw_okq (⟨"StepEditor$Grammar", "advance", "(III)I"⟩, 4) := ⟨⟨by decide +kernel, by decide +kernel⟩, List.mem_of_getElem? (i := 25) (by decide +kernel), List.mem_of_getElem? (i := 472) (by decide +kernel), List.mem_of_getElem? (i := 473) (by decide +kernel)⟩
theorem lw_p8 : lw_okq (⟨"StepEditor", "clientOf", "(I)LStepEditor$Client;"⟩, 15) := ⟨⟨by decide +kernel, by decide +kernel⟩, List.mem_of_getElem? (i := 17) (by decide +kernel), List.mem_of_getElem? (i := 484) (by decide +kernel), List.mem_of_getElem? (i := 485) (by decide +kernel)⟩
theorem lw_p9 : lw_okq (⟨"StepEditor", "addPending", "(LStepEditor$Client;)V"⟩, 15) := ⟨⟨by decide +kernel, by decide +kernel⟩, List.mem_of_getElem? (i := 17) (by decide +kernel), List.mem_of_getElem? (i := 506) (by decide +kernel), List.mem_of_getElem? (i := 507) (by decide +kernel)⟩
theorem lw_p10 : lw_okq (⟨"StepEditor", "isPossible", "(LStepEditor$Step;LStepEditor$Tokens;)Z"⟩, 15) := ⟨⟨by decide +kernel, by decide +kernel⟩, List.mem_of_getElem? (i := 17) (by decide +kernel), List.mem_of_getElem? (i := 511) (by decide +kernel), List.mem_of_getElem? (i := 512) (by decide +kernel)⟩
theorem lw_p11 : lw_okq (⟨"StepEditor", "innermost", "(I)I"⟩, 15) := ⟨⟨by decide +kernel, by decide +kernel⟩, List.mem_of_getElem? (i := 17) (by decide +kernel), List.mem_of_getElem? (i := 539) (by decide +kernel), List.mem_of_getElem? (i := 540) (by decide +kernel)⟩
theorem lw_p12 : lw_okq (⟨"StepEditor", "draftsBare", "(LStepEditor$Client;I)Z"⟩, 15) := ⟨⟨by decide +kernel, by decide +kernel⟩, List.mem_of_getElem? (i := 17) (by decide +kernel), List.mem_of_getElem? (i := 635) (by decide +kernel), List.mem_of_getElem? (i := 636) (by decide +kernel)⟩
theorem lw_p13 : lw_okq (⟨"StepEditor", "draftsSlice", "(LStepEditor$Client;III)Z"⟩, 15) := ⟨⟨by decide +kernel, by decide +kernel⟩, List.mem_of_getElem? (i := 17) (by decide +kernel), List.mem_of_getElem? (i := 639) (by decide +kernel), List.mem_of_getElem? (i := 640) (by decide +kernel)⟩
theorem lw_p14 : lw_okq (⟨"StepEditor", "draftsWrapped", "(LStepEditor$Client;I)Z"⟩, 15) := ⟨⟨by decide +kernel, by decide +kernel⟩, List.mem_of_getElem? (i := 17) (by decide +kernel), List.mem_of_getElem? (i := 643) (by decide +kernel), List.mem_of_getElem? (i := 644) (by decide +kernel)⟩
theorem lw_p15 : lw_okq (⟨"StepEditor", "addConfirmedMaps", "(II)V"⟩, 15) := ⟨⟨by decide +kernel, by decide +kernel⟩, List.mem_of_getElem? (i := 17) (by decide +kernel), List.mem_of_getElem? (i := 679) (by decide +kernel), List.mem_of_getElem? (i := 680) (by decide +kernel)⟩
def lw_privs_1 : List (MethodName × Nat) := [(⟨"StepEditor$Step", "markTokens", "(LStepEditor$Tokens;LStepEditor$Tokens;)V"⟩, 11), (⟨"StepEditor$Step", "markedToken", "(I)I"⟩, 11), (⟨"StepEditor$Step", "isWithin", "(LStepEditor$Tokens;)Z"⟩, 11), (⟨"java/lang/Throwable", "fillInStackTrace", "(I)Ljava/lang/Throwable;"⟩, 6), (⟨"StepEditor", "isAnyPending", "()Z"⟩, 15), (⟨"StepEditor", "isFirstValidWith", "(IIII)Z"⟩, 15), (⟨"StepEditor$Grammar", "skip", "(II)I"⟩, 4), (⟨"StepEditor$Grammar", "advance", "(III)I"⟩, 4), (⟨"StepEditor", "clientOf", "(I)LStepEditor$Client;"⟩, 15), (⟨"StepEditor", "addPending", "(LStepEditor$Client;)V"⟩, 15), (⟨"StepEditor", "isPossible", "(LStepEditor$Step;LStepEditor$Tokens;)Z"⟩, 15), (⟨"StepEditor", "innermost", "(I)I"⟩, 15), (⟨"StepEditor", "draftsBare", "(LStepEditor$Client;I)Z"⟩, 15), (⟨"StepEditor", "draftsSlice", "(LStepEditor$Client;III)Z"⟩, 15), (⟨"StepEditor", "draftsWrapped", "(LStepEditor$Client;I)Z"⟩, 15), (⟨"StepEditor", "addConfirmedMaps", "(II)V"⟩, 15)]
theorem lw_r1 : ∀ q ∈ lw_privs_1, lw_okq q := List.forall_mem_cons.mpr ⟨lw_p0, List.forall_mem_cons.mpr ⟨lw_p1, List.forall_mem_cons.mpr ⟨lw_p2, List.forall_mem_cons.mpr ⟨lw_p3, List.forall_mem_cons.mpr ⟨lw_p4, List.forall_mem_cons.mpr ⟨lw_p5, List.forall_mem_cons.mpr ⟨lw_p6, List.forall_mem_cons.mpr ⟨lw_p7, List.forall_mem_cons.mpr ⟨lw_p8, List.forall_mem_cons.mpr ⟨lw_p9, List.forall_mem_cons.mpr ⟨lw_p10, List.forall_mem_cons.mpr ⟨lw_p11, List.forall_mem_cons.mpr ⟨lw_p12, List.forall_mem_cons.mpr ⟨lw_p13, List.forall_mem_cons.mpr ⟨lw_p14, List.forall_mem_cons.mpr ⟨lw_p15, fun _ h => absurd h List.not_mem_nil⟩⟩⟩⟩⟩⟩⟩⟩⟩⟩⟩⟩⟩⟩⟩⟩
theorem lw_p16 : lw_okq (⟨"StepEditor$MapRow", "carryMarking", "(LStepEditor$Step;I)Z"⟩, 5) := ⟨⟨by decide +kernel, by decide +kernel⟩, List.mem_of_getElem? (i := 124) (by decide +kernel), List.mem_of_getElem? (i := 691) (by decide +kernel), List.mem_of_getElem? (i := 692) (by decide +kernel)⟩
theorem lw_p17 : lw_okq (⟨"StepEditor$MapRow", "carryPosition", "(IZI)I"⟩, 5) := ⟨⟨by decide +kernel, by decide +kernel⟩, List.mem_of_getElem? (i := 124) (by decide +kernel), List.mem_of_getElem? (i := 695) (by decide +kernel), List.mem_of_getElem? (i := 696) (by decide +kernel)⟩
theorem lw_p18 : lw_okq (⟨"StepEditor$MapRow", "carryChange", "(LStepEditor$Step;I)Z"⟩, 5) := ⟨⟨by decide +kernel, by decide +kernel⟩, List.mem_of_getElem? (i := 124) (by decide +kernel), List.mem_of_getElem? (i := 718) (by decide +kernel), List.mem_of_getElem? (i := 719) (by decide +kernel)⟩
theorem lw_p19 : lw_okq (⟨"StepEditor", "confirm", "(LStepEditor$Step;)V"⟩, 15) := ⟨⟨by decide +kernel, by decide +kernel⟩, List.mem_of_getElem? (i := 17) (by decide +kernel), List.mem_of_getElem? (i := 732) (by decide +kernel), List.mem_of_getElem? (i := 733) (by decide +kernel)⟩
theorem lw_p20 : lw_okq (⟨"StepEditor", "mapComments", "(LStepEditor$Step;)V"⟩, 15) := ⟨⟨by decide +kernel, by decide +kernel⟩, List.mem_of_getElem? (i := 17) (by decide +kernel), List.mem_of_getElem? (i := 736) (by decide +kernel), List.mem_of_getElem? (i := 737) (by decide +kernel)⟩
theorem lw_p21 : lw_okq (⟨"StepEditor", "mapOver", "(LStepEditor$Step;IZ)I"⟩, 15) := ⟨⟨by decide +kernel, by decide +kernel⟩, List.mem_of_getElem? (i := 17) (by decide +kernel), List.mem_of_getElem? (i := 740) (by decide +kernel), List.mem_of_getElem? (i := 741) (by decide +kernel)⟩
theorem lw_p22 : lw_okq (⟨"StepEditor", "mapPending", "(LStepEditor$Client;)V"⟩, 15) := ⟨⟨by decide +kernel, by decide +kernel⟩, List.mem_of_getElem? (i := 17) (by decide +kernel), List.mem_of_getElem? (i := 753) (by decide +kernel), List.mem_of_getElem? (i := 754) (by decide +kernel)⟩
theorem lw_p23 : lw_okq (⟨"StepEditor", "documentOf", "(I)LStepEditor$Tokens;"⟩, 15) := ⟨⟨by decide +kernel, by decide +kernel⟩, List.mem_of_getElem? (i := 17) (by decide +kernel), List.mem_of_getElem? (i := 783) (by decide +kernel), List.mem_of_getElem? (i := 784) (by decide +kernel)⟩
theorem lw_p24 : lw_okq (⟨"StepEditorModel", "sets", "(IIII)V"⟩, 32) := ⟨⟨by decide +kernel, by decide +kernel⟩, List.mem_of_getElem? (i := 818) (by decide +kernel), List.mem_of_getElem? (i := 824) (by decide +kernel), List.mem_of_getElem? (i := 825) (by decide +kernel)⟩
theorem lw_p25 : lw_okq (⟨"StepEditorModel", "begins", "()V"⟩, 32) := ⟨⟨by decide +kernel, by decide +kernel⟩, List.mem_of_getElem? (i := 818) (by decide +kernel), List.mem_of_getElem? (i := 932) (by decide +kernel), List.mem_of_getElem? (i := 933) (by decide +kernel)⟩
theorem lw_p26 : lw_okq (⟨"StepEditorModel", "isValid", "()Z"⟩, 32) := ⟨⟨by decide +kernel, by decide +kernel⟩, List.mem_of_getElem? (i := 818) (by decide +kernel), List.mem_of_getElem? (i := 936) (by decide +kernel), List.mem_of_getElem? (i := 937) (by decide +kernel)⟩
theorem lw_p27 : lw_okq (⟨"StepEditorModel", "spreads", "(II)I"⟩, 32) := ⟨⟨by decide +kernel, by decide +kernel⟩, List.mem_of_getElem? (i := 818) (by decide +kernel), List.mem_of_getElem? (i := 940) (by decide +kernel), List.mem_of_getElem? (i := 941) (by decide +kernel)⟩
theorem lw_p28 : lw_okq (⟨"StepEditorModel", "isDone", "(IZ)Z"⟩, 32) := ⟨⟨by decide +kernel, by decide +kernel⟩, List.mem_of_getElem? (i := 818) (by decide +kernel), List.mem_of_getElem? (i := 944) (by decide +kernel), List.mem_of_getElem? (i := 945) (by decide +kernel)⟩
theorem lw_p29 : lw_okq (⟨"StepEditorModel", "follows", "(III)I"⟩, 32) := ⟨⟨by decide +kernel, by decide +kernel⟩, List.mem_of_getElem? (i := 818) (by decide +kernel), List.mem_of_getElem? (i := 951) (by decide +kernel), List.mem_of_getElem? (i := 952) (by decide +kernel)⟩
theorem lw_p30 : lw_okq (⟨"StepEditorModel", "fails", "(I)Z"⟩, 32) := ⟨⟨by decide +kernel, by decide +kernel⟩, List.mem_of_getElem? (i := 818) (by decide +kernel), List.mem_of_getElem? (i := 955) (by decide +kernel), List.mem_of_getElem? (i := 956) (by decide +kernel)⟩
theorem lw_p31 : lw_okq (⟨"StepEditorModel", "isPlace", "(II)Z"⟩, 32) := ⟨⟨by decide +kernel, by decide +kernel⟩, List.mem_of_getElem? (i := 818) (by decide +kernel), List.mem_of_getElem? (i := 966) (by decide +kernel), List.mem_of_getElem? (i := 967) (by decide +kernel)⟩
def lw_privs_2 : List (MethodName × Nat) := [(⟨"StepEditor$MapRow", "carryMarking", "(LStepEditor$Step;I)Z"⟩, 5), (⟨"StepEditor$MapRow", "carryPosition", "(IZI)I"⟩, 5), (⟨"StepEditor$MapRow", "carryChange", "(LStepEditor$Step;I)Z"⟩, 5), (⟨"StepEditor", "confirm", "(LStepEditor$Step;)V"⟩, 15), (⟨"StepEditor", "mapComments", "(LStepEditor$Step;)V"⟩, 15), (⟨"StepEditor", "mapOver", "(LStepEditor$Step;IZ)I"⟩, 15), (⟨"StepEditor", "mapPending", "(LStepEditor$Client;)V"⟩, 15), (⟨"StepEditor", "documentOf", "(I)LStepEditor$Tokens;"⟩, 15), (⟨"StepEditorModel", "sets", "(IIII)V"⟩, 32), (⟨"StepEditorModel", "begins", "()V"⟩, 32), (⟨"StepEditorModel", "isValid", "()Z"⟩, 32), (⟨"StepEditorModel", "spreads", "(II)I"⟩, 32), (⟨"StepEditorModel", "isDone", "(IZ)Z"⟩, 32), (⟨"StepEditorModel", "follows", "(III)I"⟩, 32), (⟨"StepEditorModel", "fails", "(I)Z"⟩, 32), (⟨"StepEditorModel", "isPlace", "(II)Z"⟩, 32)]
theorem lw_r2 : ∀ q ∈ lw_privs_2, lw_okq q := List.forall_mem_cons.mpr ⟨lw_p16, List.forall_mem_cons.mpr ⟨lw_p17, List.forall_mem_cons.mpr ⟨lw_p18, List.forall_mem_cons.mpr ⟨lw_p19, List.forall_mem_cons.mpr ⟨lw_p20, List.forall_mem_cons.mpr ⟨lw_p21, List.forall_mem_cons.mpr ⟨lw_p22, List.forall_mem_cons.mpr ⟨lw_p23, List.forall_mem_cons.mpr ⟨lw_p24, List.forall_mem_cons.mpr ⟨lw_p25, List.forall_mem_cons.mpr ⟨lw_p26, List.forall_mem_cons.mpr ⟨lw_p27, List.forall_mem_cons.mpr ⟨lw_p28, List.forall_mem_cons.mpr ⟨lw_p29, List.forall_mem_cons.mpr ⟨lw_p30, List.forall_mem_cons.mpr ⟨lw_p31, fun _ h => absurd h List.not_mem_nil⟩⟩⟩⟩⟩⟩⟩⟩⟩⟩⟩⟩⟩⟩⟩⟩
theorem lw_p32 : lw_okq (⟨"StepEditorModel", "tries", "(II)V"⟩, 32) := ⟨⟨by decide +kernel, by decide +kernel⟩, List.mem_of_getElem? (i := 818) (by decide +kernel), List.mem_of_getElem? (i := 970) (by decide +kernel), List.mem_of_getElem? (i := 971) (by decide +kernel)⟩
theorem lw_p33 : lw_okq (⟨"StepEditorModel", "empties", "(II)V"⟩, 32) := ⟨⟨by decide +kernel, by decide +kernel⟩, List.mem_of_getElem? (i := 818) (by decide +kernel), List.mem_of_getElem? (i := 974) (by decide +kernel), List.mem_of_getElem? (i := 975) (by decide +kernel)⟩
theorem lw_p34 : lw_okq (⟨"StepEditorModel", "adds", "(III)V"⟩, 32) := ⟨⟨by decide +kernel, by decide +kernel⟩, List.mem_of_getElem? (i := 818) (by decide +kernel), List.mem_of_getElem? (i := 978) (by decide +kernel), List.mem_of_getElem? (i := 979) (by decide +kernel)⟩
theorem lw_p35 : lw_okq (⟨"StepEditorModel", "canEdit", "(I)Z"⟩, 32) := ⟨⟨by decide +kernel, by decide +kernel⟩, List.mem_of_getElem? (i := 818) (by decide +kernel), List.mem_of_getElem? (i := 982) (by decide +kernel), List.mem_of_getElem? (i := 983) (by decide +kernel)⟩
theorem lw_p36 : lw_okq (⟨"StepEditorModel", "looksAt", "(I)V"⟩, 32) := ⟨⟨by decide +kernel, by decide +kernel⟩, List.mem_of_getElem? (i := 818) (by decide +kernel), List.mem_of_getElem? (i := 986) (by decide +kernel), List.mem_of_getElem? (i := 987) (by decide +kernel)⟩
theorem lw_p37 : lw_okq (⟨"StepEditorModel", "goes", "(I)Z"⟩, 32) := ⟨⟨by decide +kernel, by decide +kernel⟩, List.mem_of_getElem? (i := 818) (by decide +kernel), List.mem_of_getElem? (i := 990) (by decide +kernel), List.mem_of_getElem? (i := 991) (by decide +kernel)⟩
theorem lw_p38 : lw_okq (⟨"StepEditorModel", "isTooLong", "(I)Z"⟩, 32) := ⟨⟨by decide +kernel, by decide +kernel⟩, List.mem_of_getElem? (i := 818) (by decide +kernel), List.mem_of_getElem? (i := 994) (by decide +kernel), List.mem_of_getElem? (i := 995) (by decide +kernel)⟩
theorem lw_p39 : lw_okq (⟨"StepEditorModel", "does", "(I)V"⟩, 32) := ⟨⟨by decide +kernel, by decide +kernel⟩, List.mem_of_getElem? (i := 818) (by decide +kernel), List.mem_of_getElem? (i := 998) (by decide +kernel), List.mem_of_getElem? (i := 999) (by decide +kernel)⟩
theorem lw_p40 : lw_okq (⟨"StepEditorModel", "marks", "(I)V"⟩, 32) := ⟨⟨by decide +kernel, by decide +kernel⟩, List.mem_of_getElem? (i := 818) (by decide +kernel), List.mem_of_getElem? (i := 1002) (by decide +kernel), List.mem_of_getElem? (i := 1003) (by decide +kernel)⟩
theorem lw_p41 : lw_okq (⟨"StepEditorModel", "changes", "(IIII)V"⟩, 32) := ⟨⟨by decide +kernel, by decide +kernel⟩, List.mem_of_getElem? (i := 818) (by decide +kernel), List.mem_of_getElem? (i := 1006) (by decide +kernel), List.mem_of_getElem? (i := 1007) (by decide +kernel)⟩
theorem lw_p42 : lw_okq (⟨"StepEditorModel", "edits", "(I)V"⟩, 32) := ⟨⟨by decide +kernel, by decide +kernel⟩, List.mem_of_getElem? (i := 818) (by decide +kernel), List.mem_of_getElem? (i := 1010) (by decide +kernel), List.mem_of_getElem? (i := 1011) (by decide +kernel)⟩
theorem lw_p43 : lw_okq (⟨"StepEditorModel", "copies", "(II)V"⟩, 32) := ⟨⟨by decide +kernel, by decide +kernel⟩, List.mem_of_getElem? (i := 818) (by decide +kernel), List.mem_of_getElem? (i := 1017) (by decide +kernel), List.mem_of_getElem? (i := 1018) (by decide +kernel)⟩
theorem lw_p44 : lw_okq (⟨"StepEditorModel", "keeps", "(I)V"⟩, 32) := ⟨⟨by decide +kernel, by decide +kernel⟩, List.mem_of_getElem? (i := 818) (by decide +kernel), List.mem_of_getElem? (i := 1021) (by decide +kernel), List.mem_of_getElem? (i := 1022) (by decide +kernel)⟩
theorem lw_p45 : lw_okq (⟨"StepEditorModel", "depthAt", "(II)I"⟩, 32) := ⟨⟨by decide +kernel, by decide +kernel⟩, List.mem_of_getElem? (i := 818) (by decide +kernel), List.mem_of_getElem? (i := 1033) (by decide +kernel), List.mem_of_getElem? (i := 1034) (by decide +kernel)⟩
theorem lw_p46 : lw_okq (⟨"StepEditorModel", "opensAt", "(II)Z"⟩, 32) := ⟨⟨by decide +kernel, by decide +kernel⟩, List.mem_of_getElem? (i := 818) (by decide +kernel), List.mem_of_getElem? (i := 1041) (by decide +kernel), List.mem_of_getElem? (i := 1042) (by decide +kernel)⟩
theorem lw_p47 : lw_okq (⟨"StepEditorModel", "tokenOf", "(II)I"⟩, 32) := ⟨⟨by decide +kernel, by decide +kernel⟩, List.mem_of_getElem? (i := 818) (by decide +kernel), List.mem_of_getElem? (i := 1045) (by decide +kernel), List.mem_of_getElem? (i := 1046) (by decide +kernel)⟩
def lw_privs_3 : List (MethodName × Nat) := [(⟨"StepEditorModel", "tries", "(II)V"⟩, 32), (⟨"StepEditorModel", "empties", "(II)V"⟩, 32), (⟨"StepEditorModel", "adds", "(III)V"⟩, 32), (⟨"StepEditorModel", "canEdit", "(I)Z"⟩, 32), (⟨"StepEditorModel", "looksAt", "(I)V"⟩, 32), (⟨"StepEditorModel", "goes", "(I)Z"⟩, 32), (⟨"StepEditorModel", "isTooLong", "(I)Z"⟩, 32), (⟨"StepEditorModel", "does", "(I)V"⟩, 32), (⟨"StepEditorModel", "marks", "(I)V"⟩, 32), (⟨"StepEditorModel", "changes", "(IIII)V"⟩, 32), (⟨"StepEditorModel", "edits", "(I)V"⟩, 32), (⟨"StepEditorModel", "copies", "(II)V"⟩, 32), (⟨"StepEditorModel", "keeps", "(I)V"⟩, 32), (⟨"StepEditorModel", "depthAt", "(II)I"⟩, 32), (⟨"StepEditorModel", "opensAt", "(II)Z"⟩, 32), (⟨"StepEditorModel", "tokenOf", "(II)I"⟩, 32)]
theorem lw_r3 : ∀ q ∈ lw_privs_3, lw_okq q := List.forall_mem_cons.mpr ⟨lw_p32, List.forall_mem_cons.mpr ⟨lw_p33, List.forall_mem_cons.mpr ⟨lw_p34, List.forall_mem_cons.mpr ⟨lw_p35, List.forall_mem_cons.mpr ⟨lw_p36, List.forall_mem_cons.mpr ⟨lw_p37, List.forall_mem_cons.mpr ⟨lw_p38, List.forall_mem_cons.mpr ⟨lw_p39, List.forall_mem_cons.mpr ⟨lw_p40, List.forall_mem_cons.mpr ⟨lw_p41, List.forall_mem_cons.mpr ⟨lw_p42, List.forall_mem_cons.mpr ⟨lw_p43, List.forall_mem_cons.mpr ⟨lw_p44, List.forall_mem_cons.mpr ⟨lw_p45, List.forall_mem_cons.mpr ⟨lw_p46, List.forall_mem_cons.mpr ⟨lw_p47, fun _ h => absurd h List.not_mem_nil⟩⟩⟩⟩⟩⟩⟩⟩⟩⟩⟩⟩⟩⟩⟩⟩
theorem lw_p48 : lw_okq (⟨"StepEditorModel", "closing", "(II)I"⟩, 32) := ⟨⟨by decide +kernel, by decide +kernel⟩, List.mem_of_getElem? (i := 818) (by decide +kernel), List.mem_of_getElem? (i := 1057) (by decide +kernel), List.mem_of_getElem? (i := 1058) (by decide +kernel)⟩
theorem lw_p49 : lw_okq (⟨"StepEditorModel", "pastes", "(II)Z"⟩, 32) := ⟨⟨by decide +kernel, by decide +kernel⟩, List.mem_of_getElem? (i := 818) (by decide +kernel), List.mem_of_getElem? (i := 1077) (by decide +kernel), List.mem_of_getElem? (i := 1078) (by decide +kernel)⟩
theorem lw_p50 : lw_okq (⟨"StepEditorModel", "canPaste", "(IIIII)Z"⟩, 32) := ⟨⟨by decide +kernel, by decide +kernel⟩, List.mem_of_getElem? (i := 818) (by decide +kernel), List.mem_of_getElem? (i := 1081) (by decide +kernel), List.mem_of_getElem? (i := 1082) (by decide +kernel)⟩
theorem lw_p51 : lw_okq (⟨"StepEditorModel", "isNode", "(III)Z"⟩, 32) := ⟨⟨by decide +kernel, by decide +kernel⟩, List.mem_of_getElem? (i := 818) (by decide +kernel), List.mem_of_getElem? (i := 1085) (by decide +kernel), List.mem_of_getElem? (i := 1086) (by decide +kernel)⟩
theorem lw_p52 : lw_okq (⟨"StepEditorModel", "builds", "(I)V"⟩, 32) := ⟨⟨by decide +kernel, by decide +kernel⟩, List.mem_of_getElem? (i := 818) (by decide +kernel), List.mem_of_getElem? (i := 1093) (by decide +kernel), List.mem_of_getElem? (i := 1094) (by decide +kernel)⟩
theorem lw_p53 : lw_okq (⟨"StepEditorModel", "canRevert", "(II)Z"⟩, 32) := ⟨⟨by decide +kernel, by decide +kernel⟩, List.mem_of_getElem? (i := 818) (by decide +kernel), List.mem_of_getElem? (i := 1101) (by decide +kernel), List.mem_of_getElem? (i := 1102) (by decide +kernel)⟩
theorem lw_p54 : lw_okq (⟨"StepEditorModel", "enters", "(IZ)V"⟩, 32) := ⟨⟨by decide +kernel, by decide +kernel⟩, List.mem_of_getElem? (i := 818) (by decide +kernel), List.mem_of_getElem? (i := 1105) (by decide +kernel), List.mem_of_getElem? (i := 1106) (by decide +kernel)⟩
theorem lw_p55 : lw_okq (⟨"StepEditorModel", "inverts", "(I)V"⟩, 32) := ⟨⟨by decide +kernel, by decide +kernel⟩, List.mem_of_getElem? (i := 818) (by decide +kernel), List.mem_of_getElem? (i := 1109) (by decide +kernel), List.mem_of_getElem? (i := 1110) (by decide +kernel)⟩
theorem lw_p56 : lw_okq (⟨"StepEditorModel", "startOf", "(IZI)I"⟩, 32) := ⟨⟨by decide +kernel, by decide +kernel⟩, List.mem_of_getElem? (i := 818) (by decide +kernel), List.mem_of_getElem? (i := 1113) (by decide +kernel), List.mem_of_getElem? (i := 1114) (by decide +kernel)⟩
theorem lw_p57 : lw_okq (⟨"StepEditorModel", "mapsStep", "(II)Z"⟩, 32) := ⟨⟨by decide +kernel, by decide +kernel⟩, List.mem_of_getElem? (i := 818) (by decide +kernel), List.mem_of_getElem? (i := 1117) (by decide +kernel), List.mem_of_getElem? (i := 1118) (by decide +kernel)⟩
theorem lw_p58 : lw_okq (⟨"StepEditorModel", "mapsThrough", "(IIZ)I"⟩, 32) := ⟨⟨by decide +kernel, by decide +kernel⟩, List.mem_of_getElem? (i := 818) (by decide +kernel), List.mem_of_getElem? (i := 1121) (by decide +kernel), List.mem_of_getElem? (i := 1122) (by decide +kernel)⟩
theorem lw_p59 : lw_okq (⟨"StepEditorModel", "rangeAt", "(IZI)I"⟩, 32) := ⟨⟨by decide +kernel, by decide +kernel⟩, List.mem_of_getElem? (i := 818) (by decide +kernel), List.mem_of_getElem? (i := 1125) (by decide +kernel), List.mem_of_getElem? (i := 1126) (by decide +kernel)⟩
theorem lw_p60 : lw_okq (⟨"StepEditorModel", "takesOf", "(IZI)I"⟩, 32) := ⟨⟨by decide +kernel, by decide +kernel⟩, List.mem_of_getElem? (i := 818) (by decide +kernel), List.mem_of_getElem? (i := 1129) (by decide +kernel), List.mem_of_getElem? (i := 1130) (by decide +kernel)⟩
theorem lw_p61 : lw_okq (⟨"StepEditorModel", "maps", "(IZIZ)I"⟩, 32) := ⟨⟨by decide +kernel, by decide +kernel⟩, List.mem_of_getElem? (i := 818) (by decide +kernel), List.mem_of_getElem? (i := 1133) (by decide +kernel), List.mem_of_getElem? (i := 1134) (by decide +kernel)⟩
theorem lw_p62 : lw_okq (⟨"StepEditorModel", "mapsComments", "(I)V"⟩, 32) := ⟨⟨by decide +kernel, by decide +kernel⟩, List.mem_of_getElem? (i := 818) (by decide +kernel), List.mem_of_getElem? (i := 1141) (by decide +kernel), List.mem_of_getElem? (i := 1142) (by decide +kernel)⟩
theorem lw_p63 : lw_okq (⟨"StepEditorModel", "rebases", "(I)V"⟩, 32) := ⟨⟨by decide +kernel, by decide +kernel⟩, List.mem_of_getElem? (i := 818) (by decide +kernel), List.mem_of_getElem? (i := 1149) (by decide +kernel), List.mem_of_getElem? (i := 1150) (by decide +kernel)⟩
def lw_privs_4 : List (MethodName × Nat) := [(⟨"StepEditorModel", "closing", "(II)I"⟩, 32), (⟨"StepEditorModel", "pastes", "(II)Z"⟩, 32), (⟨"StepEditorModel", "canPaste", "(IIIII)Z"⟩, 32), (⟨"StepEditorModel", "isNode", "(III)Z"⟩, 32), (⟨"StepEditorModel", "builds", "(I)V"⟩, 32), (⟨"StepEditorModel", "canRevert", "(II)Z"⟩, 32), (⟨"StepEditorModel", "enters", "(IZ)V"⟩, 32), (⟨"StepEditorModel", "inverts", "(I)V"⟩, 32), (⟨"StepEditorModel", "startOf", "(IZI)I"⟩, 32), (⟨"StepEditorModel", "mapsStep", "(II)Z"⟩, 32), (⟨"StepEditorModel", "mapsThrough", "(IIZ)I"⟩, 32), (⟨"StepEditorModel", "rangeAt", "(IZI)I"⟩, 32), (⟨"StepEditorModel", "takesOf", "(IZI)I"⟩, 32), (⟨"StepEditorModel", "maps", "(IZIZ)I"⟩, 32), (⟨"StepEditorModel", "mapsComments", "(I)V"⟩, 32), (⟨"StepEditorModel", "rebases", "(I)V"⟩, 32)]
theorem lw_r4 : ∀ q ∈ lw_privs_4, lw_okq q := List.forall_mem_cons.mpr ⟨lw_p48, List.forall_mem_cons.mpr ⟨lw_p49, List.forall_mem_cons.mpr ⟨lw_p50, List.forall_mem_cons.mpr ⟨lw_p51, List.forall_mem_cons.mpr ⟨lw_p52, List.forall_mem_cons.mpr ⟨lw_p53, List.forall_mem_cons.mpr ⟨lw_p54, List.forall_mem_cons.mpr ⟨lw_p55, List.forall_mem_cons.mpr ⟨lw_p56, List.forall_mem_cons.mpr ⟨lw_p57, List.forall_mem_cons.mpr ⟨lw_p58, List.forall_mem_cons.mpr ⟨lw_p59, List.forall_mem_cons.mpr ⟨lw_p60, List.forall_mem_cons.mpr ⟨lw_p61, List.forall_mem_cons.mpr ⟨lw_p62, List.forall_mem_cons.mpr ⟨lw_p63, fun _ h => absurd h List.not_mem_nil⟩⟩⟩⟩⟩⟩⟩⟩⟩⟩⟩⟩⟩⟩⟩⟩
theorem lw_p64 : lw_okq (⟨"StepEditorModel", "of", "([II)I"⟩, 32) := ⟨⟨by decide +kernel, by decide +kernel⟩, List.mem_of_getElem? (i := 818) (by decide +kernel), List.mem_of_getElem? (i := 1157) (by decide +kernel), List.mem_of_getElem? (i := 1158) (by decide +kernel)⟩
def lw_privs_5 : List (MethodName × Nat) := [(⟨"StepEditorModel", "of", "([II)I"⟩, 32)]
theorem lw_r5 : ∀ q ∈ lw_privs_5, lw_okq q := List.forall_mem_cons.mpr ⟨lw_p64, fun _ h => absurd h List.not_mem_nil⟩
def lw_privs : List (MethodName × Nat) := lw_privs_1 ++ (lw_privs_2 ++ (lw_privs_3 ++ (lw_privs_4 ++ (lw_privs_5))))
def lw_tbl : List Cond := k2_sels lw_privs ++ tables_1
theorem lw_privs_ok : ∀ q ∈ lw_privs, lw_okq q := by
  show ∀ q ∈ lw_privs_1 ++ (lw_privs_2 ++ (lw_privs_3 ++ (lw_privs_4 ++ (lw_privs_5)))), lw_okq q
  exact List.forall_mem_append.mpr ⟨lw_r1, List.forall_mem_append.mpr ⟨lw_r2, List.forall_mem_append.mpr ⟨lw_r3, List.forall_mem_append.mpr ⟨lw_r4, lw_r5⟩⟩⟩⟩
end
section
/-! ===== BEGIN words of one list among another's, by their places ===== -/
theorem goodIn_r {big : List Cond} (ws : List Cond) (ps : List Nat) (hp : ws = ps.filterMap (fun i => big[i]?)) (h : ws.all goodWord = true) : GoodIn big ws := by
  intro w hw
  have h1 := List.all_eq_true.mp h w hw
  rw [hp] at hw
  obtain ⟨i, -, hi⟩ := List.mem_filterMap.mp hw
  have hm : w ∈ big := by first | exact List.mem_of_getElem? hi | exact List.getElem?_mem hi
  exact ⟨hm, good_of_word h1⟩
theorem goodIn_app {big a b : List Cond} (ha : GoodIn big a) (hb : GoodIn big b) : GoodIn big (a ++ b) := fun w h => (List.mem_append.mp h).elim (ha w) (hb w)
theorem goodIn_ca {big a b : List Cond} {c : Cond} (ha : GoodIn big (c :: a)) (hb : GoodIn big b) : GoodIn big (c :: (a ++ b)) := fun w h => (List.mem_cons.mp h).elim (fun e => ha w (List.mem_cons.mpr (Or.inl e))) (fun h => (List.mem_append.mp h).elim (fun h => ha w (List.mem_cons.mpr (Or.inr h))) (hb w))
theorem goodIn_sub {big ws : List Cond} (hm : ∀ w ∈ ws, w ∈ big) (h : ws.all goodWord = true) : GoodIn big ws := fun w hw => ⟨hm w hw, good_of_word (List.all_eq_true.mp h w hw)⟩
/-! ===== END ===== -/

/-! ===== BEGIN exceptions that leave a method, and their catching by the caller (launches without stack traces) ===== -/
section VXA
/-! The laws vx_back, vx_callV, vx_callS, vx_callSW, vx_throw0, vx_throwS follow proofs of the library, with one case more: JvmDerived/Free/Laws.lean (Back.of_free), Shelf42/LK1.lean (callV, callS), Shelf/KitTraced.lean (throwNew0V, throwNewS). -/
/-- where a method has thrown q: the class by its name, the cell, what was written, the world -/
def vx_T (XC : String → State → State → Prop) (st : State) (q : Addr) (t : State) (mc ms : Nat) (free : Addr → Prop) : Prop :=
  ∃ (E : String) (ce : Cell) (L : List Loc), XC E st t ∧ t.heap[q]? = some ce ∧ ce.vm = .none ∧ st.vm.findClass E = some ce.cls ∧ st.WarmedH t.vm ∧ st.sameButNew ({ t with vm := st.vm } : State) L mc ms ∧ ∀ z ∈ L, free z.base
def vx_Q (Qc : Array Value → State → Outcome → State → Prop) (XC : String → State → State → Prop) (mc ms : Nat) (free : Addr → Prop) : Array Value → State → Outcome → State → Prop := fun a st o t =>
  (Qc a st o t ∧ ∃ L, FrameEnd st o t L mc ms ∧ ∀ q ∈ L, free q.base) ∨ ∃ q, o = .threw q ∧ vx_T XC st q t mc ms free
/-- a callee that returns or throws -/
def vx_Met (l : Launch) (y : MethodName) (ws : List Cond) (rm : Room) (Pc : Array Value → State → Prop) (Qc : Array Value → State → Outcome → State → Prop) (XC : String → State → State → Prop) (mc ms : Nat) (free : Addr → Prop) : Prop :=
  MetFree l y (headSpec ws rm) Pc (fun _ _ _ _ _ => True) (vx_Q Qc XC mc ms free)
def vx_Post (XC : String → State → State → Prop) (mc ms : Nat) (free : Addr → Prop) : Pt → Array Value → Addr → Pt → Prop := fun A a q B =>
  ∃ (g : JFrame) (mk : MethodId) (t : State) (L : List Loc) (E : String) (ce : Cell), B.U.heap = t.heap ∧ B.U.vm = t.vm ∧ XC E (A.U.calling g mk a) t ∧ t.heap[q]? = some ce ∧ ce.vm = .none ∧ A.U.vm.findClass E = some ce.cls ∧ B.locs = A.locs ++ L ∧ (∀ z ∈ L, free z.base) ∧ B.cells = A.cells + mc ∧ B.slots = A.slots + ms
def vx_Back (l : Launch) (R : Room) (p : Program) (e : Env) (below : List Frame) (s : State) (sargs : Array Value) (y : MethodName) (len W9 : Nat)
    (Pre : Pt → Array Value → Prop) (Post : Pt → Array Value → Option Value → Pt → Prop) (PostX : Pt → Array Value → Addr → Pt → Prop) : Prop :=
  ∀ (m : MethodId) (meth : Method) (c : Code) (A : Pt) (g : JFrame) (ig : Instr) (mk : MethodId) (a : Array Value),
    Stand p l e R s m sargs below meth c A.U A.locs A.cells A.slots → g.method = m → g.locals.size = c.maxLocals → decode c.code g.pc = .ok (ig, len) →
    2 * g.monitorRoom + (g.stack.map fun v => v.category).sum ≤ W9 → A.U.methodNamed? y = some mk → Pre A a →
    (∃ (v : Option Value) (B : Pt), Stand p l e R s m sargs below meth c B.U B.locs B.cells B.slots ∧ Post A a v B ∧
      Steps p.tables e below (doInvoke e (A.U.setTop g) [] mk a).1 (B.U.setTop { g with pc := g.pc + len, stack := v.toList ++ g.stack })) ∨
    (∃ (q : Addr) (B : Pt), Stand p l e R s m sargs below meth c B.U B.locs B.cells B.slots ∧ PostX A a q B ∧
      Steps p.tables e below (doInvoke e (A.U.setTop g) [] mk a).1 ((B.U.setTop g).pushFrame (.throwing q)))
section Payer
variable {l : Launch} {R : Room} {p : Program} {e : Env} {below : List Frame} {s : State} {sargs : Array Value} {y : MethodName} {len W9 : Nat}
theorem vx_back {ws : List Cond} {rm : Room} {Pc : Array Value → State → Prop} {Qc : Array Value → State → Outcome → State → Prop} {XC : String → State → State → Prop} {mc ms : Nat} {free : Addr → Prop} {bytes : ByteArray} {maxL : Nat} {ret : Option FieldType}
    (hM : vx_Met l y ws rm Pc Qc XC mc ms free) (hblind : FrameBlind Pc) (hrc : rm.cells = mc) (hrs : rm.slots = ms)
    (hframes : rm.frames + 1 ≤ R.frames) (hlocals : W9 + (maxL + 11) + rm.locals ≤ R.locals)
    (hws : ∀ w ∈ ws, ∀ a' U, s.WarmedH U.vm → w.before a' U = true) (hcode : Cond.code y bytes maxL ret ∈ ws) (hinit : ∀ a' U, s.WarmedH U.vm → (Cond.initialized y.cls).before a' U = true) :
    vx_Back l R p e below s sargs y len W9 (PreOf R mc ms Pc) (PostOf Qc mc ms free) (vx_Post XC mc ms free) := by
  intro m meth c A g ig mk a X hg hsize hdg hW hn hp
  have h1 : (headSpec ws rm).pre.before a A.U = true := atoms_intro fun w hw => hws w hw _ _ X.warmed
  have h2 : (Cond.code y bytes maxL ret).before a A.U = true := hws _ hcode _ _ X.warmed
  have h3 : (Cond.initialized y.cls).before a A.U = true := hinit _ _ X.warmed
  have h4 : A.cells + (headSpec ws rm).room.cells ≤ R.cells := by rw [show (headSpec ws rm).room.cells = mc from hrc]; exact hp.1
  have h5 : A.slots + (headSpec ws rm).room.slots ≤ R.slots := by rw [show (headSpec ws rm).room.slots = ms from hrs]; exact hp.2.1
  have hPc : Pc a (A.U.calling g mk a) := hblind _ _ _ _ hp.2.2
  obtain ⟨U, Ls, c0, s0⟩ := A
  dsimp only [Pt.U, Pt.locs, Pt.cells, Pt.slots] at h1 h2 h3 h4 h5 X hn hPc ⊢
  obtain ⟨methY, cY, hmY, hcY, -, hlY, -, -, -, -⟩ := Cond.code_spec hn h2
  obtain ⟨kY, hkY, -⟩ := className_of_methodNamed hn
  have hinitY : kY.init = .initialized := Cond.initialized_spec (findClass_of_methodNamed hn) hkY h3
  have h : At U g.method c below := by rw [hg]; exact X.here
  have hlocals9 : W9 + (maxL + 11) + (headSpec ws rm).room.locals ≤ R.locals := hlocals
  have happ : (headSpec ws rm).appliesLoose y e.platform (U.calling g mk a) = true :=
    Spec.appliesLoose_calling (g := g) h hdg hn hkY hinitY
      (X.room_calling (g := g) (R' := (headSpec ws rm).room) hsize hmY hcY hframes (by rw [hlY]; omega) h4 h5) h1
  obtain ⟨mid, hmid⟩ := h.above
  have hfr : (U.setTop g).frames = (.java g :: mid) ++ below := by rw [State.frames_setTop' g h.top, hmid]; rfl
  obtain ⟨o, s₂, hsteps, -, hend, hq⟩ := Steps.callFree hM p X.admits X.cas X.clock (acts := []) hfr happ hPc trivial
  have hq' : vx_Q Qc XC mc ms free a (U.calling g mk a) o s₂ := hq
  rw [State.frames_setTop' g h.top] at hend
  obtain ⟨g₀, hg0⟩ := Option.isSome_iff_exists.mp h.top
  obtain ⟨r, hr⟩ := State.topJava?_eq_some.mp hg0
  have hr' : (({ U with heap := s₂.heap, slotsUsed := s₂.slotsUsed } : State).setVm s₂.vm).frames = .java g₀ :: r := hr
  rcases hq' with ⟨hqc, L, hfe, hL⟩ | ⟨q, rfl, E, ce, L, hx, hce, hcv, hcl, hW₂, hsm, hL⟩
  · obtain ⟨⟨v, rfl⟩, hW₂, e2, q2, q3, q4, q5, q6⟩ := id hfe
    have e3 : s₂ = ({ (U.calling g mk a).setFrames s₂.frames with heap := s₂.heap, slotsUsed := s₂.slotsUsed } : State).setVm s₂.vm := by
      have : s₂ = ({ s₂ with vm := (U.calling g mk a).vm } : State).setVm s₂.vm := rfl
      rw [e2] at this
      exact this
    obtain ⟨c₂, i₂, len₂, hc₂, hd₂, hf₂⟩ := hend
    have hW' : U.WarmedH s₂.vm := hW₂
    have hcc : c₂ = c := by
      have h1 : s₂.code? g.method = U.code? g.method := by
        rw [State.code?_eq, State.code?_eq, hW'.alike.method?]
      exact Option.some.inj (hc₂.symm.trans (h1.trans h.code))
    subst hcc
    have hlen : len₂ = len := by rw [hdg] at hd₂; cases hd₂; rfl
    subst hlen
    have hs₂ : s₂ = (({ U with heap := s₂.heap, slotsUsed := s₂.slotsUsed } : State).setVm s₂.vm).setTop { g with pc := g.pc + len₂, stack := v.toList ++ g.stack } := by
      refine e3.trans ?_
      rw [hf₂, State.calling_eq h.top, State.setFrames_setFrames, State.setTop_of_frames _ hr', hr]
      rfl
    have hsame : U.sameButNew ({ U with heap := s₂.heap, slotsUsed := s₂.slotsUsed } : State) L mc ms := by
      refine ⟨?_, q2, q3, q4, q5, q6⟩
      obtain ⟨t, ht, -⟩ := State.frames_cons hr
      show ({ U with heap := s₂.heap, slotsUsed := s₂.slotsUsed } : State) = { U.setFrames U.frames with heap := s₂.heap, slotsUsed := s₂.slotsUsed }
      rw [State.setFrames_self ht]
    subst hg
    refine Or.inl ⟨v, ⟨(({ U with heap := s₂.heap, slotsUsed := s₂.slotsUsed } : State).setVm s₂.vm), Ls ++ L, c0 + mc, s0 + ms⟩,
      ⟨X.admits, X.cas, X.clock, X.frames, X.room, X.hears, X.method, X.code, (X.here.setHeapUsed s₂.heap s₂.slotsUsed).setVm hW'.alike, X.tail, State.WarmedH.trans X.warmed hW', X.limits, X.bytes, X.same.trans (hsame.setVm s.vm)⟩,
      ⟨g, mk, s₂, L, rfl, rfl, hqc, rfl, hL, rfl, rfl⟩, ?_⟩
    show Steps p.tables e below _ ((({ U with heap := s₂.heap, slotsUsed := s₂.slotsUsed } : State).setVm s₂.vm).setTop { g with pc := g.pc + len₂, stack := v.toList ++ g.stack })
    rw [← hs₂]
    exact hsteps
  · obtain ⟨e2, q2, q3, q4, q5, q6⟩ := id hsm
    have e3 : s₂ = ({ (U.calling g mk a).setFrames s₂.frames with heap := s₂.heap, slotsUsed := s₂.slotsUsed } : State).setVm s₂.vm := by
      have : s₂ = ({ s₂ with vm := (U.calling g mk a).vm } : State).setVm s₂.vm := rfl
      rw [e2] at this
      exact this
    have hf₂ : s₂.frames = .throwing q :: .java g :: U.frames.tail := hend
    have hW' : U.WarmedH s₂.vm := hW₂
    have hs₂ : s₂ = ((({ U with heap := s₂.heap, slotsUsed := s₂.slotsUsed } : State).setVm s₂.vm).setTop g).pushFrame (.throwing q) := by
      refine e3.trans ?_
      rw [hf₂, State.calling_eq h.top, State.setFrames_setFrames, State.pushFrame, State.frames_setTop _ hr', State.setTop_of_frames _ hr', State.setFrames_setFrames, hr]
      rfl
    have hsame : U.sameButNew ({ U with heap := s₂.heap, slotsUsed := s₂.slotsUsed } : State) L mc ms := by
      refine ⟨?_, q2, q3, q4, q5, q6⟩
      obtain ⟨t, ht, -⟩ := State.frames_cons hr
      show ({ U with heap := s₂.heap, slotsUsed := s₂.slotsUsed } : State) = { U.setFrames U.frames with heap := s₂.heap, slotsUsed := s₂.slotsUsed }
      rw [State.setFrames_self ht]
    subst hg
    refine Or.inr ⟨q, ⟨(({ U with heap := s₂.heap, slotsUsed := s₂.slotsUsed } : State).setVm s₂.vm), Ls ++ L, c0 + mc, s0 + ms⟩,
      ⟨X.admits, X.cas, X.clock, X.frames, X.room, X.hears, X.method, X.code, (X.here.setHeapUsed s₂.heap s₂.slotsUsed).setVm hW'.alike, X.tail, State.WarmedH.trans X.warmed hW', X.limits, X.bytes, X.same.trans (hsame.setVm s.vm)⟩,
      ⟨g, mk, s₂, L, E, ce, rfl, rfl, hx, hce, hcv, hcl, rfl, hL, rfl, rfl⟩, ?_⟩
    show Steps p.tables e below _ (((({ U with heap := s₂.heap, slotsUsed := s₂.slotsUsed } : State).setVm s₂.vm).setTop g).pushFrame (.throwing q))
    rw [← hs₂]
    exact hsteps
end Payer
section Calls
variable {p : Program} {l : Launch} {e : Env} {R : Room} {s : State} {m : MethodId} {args : Array Value} {below : List Frame} {meth : Method} {c : Code} {T : State} {locs : List Loc} {cells slots : Nat}
theorem vx_callV (X : Stand p l e R s m args below meth c T locs cells slots) (hexec : p.tables.exec = Jvm.exec) {own C : String} {index : Nat} {y : MethodName} {bytes : ByteArray} {maxL : Nat} {ret : Option FieldType}
    (hown : s.vm.findClass own = some m.cls) (hlink : (Cond.methodLink own index y).before args s = true) (hinst : (Cond.instanceMethod y).before args s = true) (hsel : (Cond.selects C y y).before args s = true)
    (hcode : (Cond.code y bytes maxL ret).before args s = true) (hy : y.cls ≠ "java/lang/invoke/MethodHandle" ∧ y.cls ≠ "java/lang/invoke/VarHandle")
    {W9 : Nat} {Pre : Pt → Array Value → Prop} {Post : Pt → Array Value → Option Value → Pt → Prop} {PostX : Pt → Array Value → Addr → Pt → Prop} (hK : vx_Back l R p e below s args y 3 W9 Pre Post PostX)
    {b : Addr} {cellB : Cell} (hcell : T.heap[b]? = some cellB) (hobj : cellB.vm.isStatics = false) (hcls : s.vm.findClass C = some cellB.cls)
    {g : JFrame} (hg : g.method = m) (hsize : g.locals.size = c.maxLocals) {argsL rest : List Value} (hlen : ∀ sig, parseMethodDescriptor y.desc = some sig → argsL.length = sig.parameters.length)
    (hstack : g.stack = argsL.reverse ++ .ref b :: rest) (hW : 2 * g.monitorRoom + (rest.map fun v => v.category).sum ≤ W9) (hdg : decode c.code g.pc = .ok (.invokevirtual index, 3))
    (hpre : ∀ vm₁, s.WarmedH vm₁ → Pre ⟨T.setVm vm₁, locs, cells, slots⟩ (Value.ref b :: argsL).toArray) :
    (∃ (v : Option Value) (vm₁ : Vm) (B : Pt), s.WarmedH vm₁ ∧ Stand p l e R s m args below meth c B.U B.locs B.cells B.slots ∧ Post ⟨T.setVm vm₁, locs, cells, slots⟩ (Value.ref b :: argsL).toArray v B ∧
      ∀ target, Steps p.tables e below (B.U.setTop { g with pc := g.pc + 3, stack := v.toList ++ rest }) target → Steps p.tables e below (T.setTop g) target) ∨
    (∃ (q : Addr) (vm₁ : Vm) (B : Pt), s.WarmedH vm₁ ∧ Stand p l e R s m args below meth c B.U B.locs B.cells B.slots ∧ PostX ⟨T.setVm vm₁, locs, cells, slots⟩ (Value.ref b :: argsL).toArray q B ∧
      Steps p.tables e below (T.setTop g) ((B.U.setTop { g with stack := rest }).pushFrame (.throwing q))) := by
  obtain ⟨mk, methM, hnamed, hmethM, hstM, habM⟩ := Cond.instanceMethod_spec hinst
  obtain ⟨methM', cM, hmethM', -, -, -, -, -, -, hsigM⟩ := Cond.code_spec hnamed hcode
  cases hmethM.symm.trans hmethM'
  obtain ⟨c2, r2, m2, q1, q2, q3, q4, kP, hkP, hkPi⟩ := Cond.selects_spec hsel
  cases hcls.symm.trans q1
  cases (State.methodFound?_of_named hnamed hy).symm.trans q2
  cases hnamed.symm.trans q3
  have hselP : selectMethod e.platform s.vm cellB.cls mk = .method mk := by rw [Launch.admits_selectMethod X.admits]; exact q4
  obtain ⟨vm₁, X₁, hstep₁⟩ := X.invokevirtual hexec hown hlink hnamed hmethM hstM hkP hkPi hy (a := b) (cell := cellB) hcell
    (fun z h => by rw [h] at hobj; cases hobj) hselP hmethM habM hkP hkPi (g := g) hg (argsL := argsL) (rest := rest) (hlen _ hsigM) hstack hdg
  rcases hK m meth c ⟨T.setVm vm₁, locs, cells, slots⟩ { g with stack := rest } (.invokevirtual index) mk (Value.ref b :: argsL).toArray X₁ hg hsize hdg hW (X₁.named hnamed) (hpre vm₁ X₁.warmed) with ⟨v, B, X', hpost, hsteps⟩ | ⟨q, B, X', hpost, hsteps⟩
  · exact Or.inl ⟨v, vm₁, B, X₁.warmed, X', hpost, fun target h => hstep₁ _ fun acts => by rw [doInvoke_state]; exact hsteps.trans h⟩
  · exact Or.inr ⟨q, vm₁, B, X₁.warmed, X', hpost, hstep₁ _ fun acts => by rw [doInvoke_state]; exact hsteps⟩
theorem vx_callS (X : Stand p l e R s m args below meth c T locs cells slots) (hexec : p.tables.exec = Jvm.exec) {own : String} {index : Nat} {y : MethodName} {bytes : ByteArray} {maxL : Nat} {ret : Option FieldType}
    (hown : s.vm.findClass own = some m.cls) (hlink : (Cond.methodLink own index y).before args s = true) (hstat : (Cond.static y).before args s = true) (hinit : (Cond.initialized y.cls).before args s = true)
    (hcode : (Cond.code y bytes maxL ret).before args s = true) (hy : y.cls ≠ "java/lang/invoke/MethodHandle" ∧ y.cls ≠ "java/lang/invoke/VarHandle")
    {W9 : Nat} {Pre : Pt → Array Value → Prop} {Post : Pt → Array Value → Option Value → Pt → Prop} {PostX : Pt → Array Value → Addr → Pt → Prop} (hK : vx_Back l R p e below s args y 3 W9 Pre Post PostX)
    {g : JFrame} (hg : g.method = m) (hsize : g.locals.size = c.maxLocals) {argsL rest : List Value} (hlen : ∀ sig, parseMethodDescriptor y.desc = some sig → argsL.length = sig.parameters.length)
    (hstack : g.stack = argsL.reverse ++ rest) (hW : 2 * g.monitorRoom + (rest.map fun v => v.category).sum ≤ W9) (hdg : decode c.code g.pc = .ok (.invokestatic index, 3))
    (hpre : ∀ vm₁, s.WarmedH vm₁ → Pre ⟨T.setVm vm₁, locs, cells, slots⟩ argsL.toArray) :
    (∃ (v : Option Value) (vm₁ : Vm) (B : Pt), s.WarmedH vm₁ ∧ Stand p l e R s m args below meth c B.U B.locs B.cells B.slots ∧ Post ⟨T.setVm vm₁, locs, cells, slots⟩ argsL.toArray v B ∧
      ∀ target, Steps p.tables e below (B.U.setTop { g with pc := g.pc + 3, stack := v.toList ++ rest }) target → Steps p.tables e below (T.setTop g) target) ∨
    (∃ (q : Addr) (vm₁ : Vm) (B : Pt), s.WarmedH vm₁ ∧ Stand p l e R s m args below meth c B.U B.locs B.cells B.slots ∧ PostX ⟨T.setVm vm₁, locs, cells, slots⟩ argsL.toArray q B ∧
      Steps p.tables e below (T.setTop g) ((B.U.setTop { g with stack := rest }).pushFrame (.throwing q))) := by
  obtain ⟨mk, hnamed⟩ := Cond.code_named hcode
  obtain ⟨methM, cM, hmethM, -, -, -, -, -, -, hsigM⟩ := Cond.code_spec hnamed hcode
  have hstatic : methM.isStatic = true := Cond.static_spec hnamed hmethM hstat
  obtain ⟨kP, hkP, -⟩ := className_of_methodNamed hnamed
  have hinitP : kP.init = .initialized := Cond.initialized_spec (findClass_of_methodNamed hnamed) hkP hinit
  obtain ⟨vm₁, X₁, hstep₁⟩ := X.invokestatic hexec hown hlink hnamed hmethM hstatic hkP hinitP hy (g := g) hg (argsL := argsL) (rest := rest) (hlen _ hsigM) hstack hdg
  rcases hK m meth c ⟨T.setVm vm₁, locs, cells, slots⟩ { g with stack := rest } (.invokestatic index) mk argsL.toArray X₁ hg hsize hdg hW (X₁.named hnamed) (hpre vm₁ X₁.warmed) with ⟨v, B, X', hpost, hsteps⟩ | ⟨q, B, X', hpost, hsteps⟩
  · exact Or.inl ⟨v, vm₁, B, X₁.warmed, X', hpost, fun target h => hstep₁ _ fun acts => by rw [doInvoke_state]; exact hsteps.trans h⟩
  · exact Or.inr ⟨q, vm₁, B, X₁.warmed, X', hpost, hstep₁ _ fun acts => by rw [doInvoke_state]; exact hsteps⟩
end Calls
theorem vx_cls {s : State} {T : State} {vm₁ : Vm} {E : String} {k : ClassId} (hW : s.WarmedH vm₁) (h : (T.setVm vm₁).vm.findClass E = some k) : s.vm.findClass E = some k := by
  have h1 : vm₁.findClass E = some k := h
  rw [hW.alike.findClass] at h1
  exact h1
/-- the method's frame g, with q thrown over it -/
def vx_W (p : Program) (l : Launch) (e : Env) (R : Room) (s : State) (m : MethodId) (args : Array Value) (below : List Frame) (meth : Method) (c : Code) (H : Heap) (locs : List Loc) (cells slots : Nat) (Q : State → Prop) (g : JFrame) (q : Addr) : Prop :=
  ∀ T : State, T.heap = H → Stand p l e R s m args below meth c T locs cells slots → ∃ t, Steps p.tables e below ((T.setTop g).pushFrame (.throwing q)) t ∧ Q t
def vx_Run (p : Program) (l : Launch) (e : Env) (R : Room) (s : State) (m : MethodId) (args : Array Value) (below : List Frame) (meth : Method) (c : Code) (H : Heap) (locs : List Loc) (cells slots mc ms : Nat) (g : JFrame) (rest : List Value) (Qa : State → Outcome → State → Prop) (XC : String → State → State → Prop) (free : Addr → Prop) : Prop :=
  ∀ T : State, T.heap = H → Stand p l e R s m args below meth c T locs cells slots →
    (∃ (v : Option Value) (st₀ t T' : State) (L : List Loc), st₀.heap = H ∧ Stand p l e R s m args below meth c T' (locs ++ L) (cells + mc) (slots + ms) ∧ (∀ q ∈ L, free q.base) ∧ T'.heap = t.heap ∧ T'.vm = t.vm ∧ Qa st₀ (.returned v) t ∧
      Goes p e below T g T' { g with pc := g.pc + 3, stack := v.toList ++ rest }) ∨
    (∃ (q : Addr) (st₀ t T' : State) (L : List Loc) (E : String) (ce : Cell), st₀.heap = H ∧ Stand p l e R s m args below meth c T' (locs ++ L) (cells + mc) (slots + ms) ∧ (∀ z ∈ L, free z.base) ∧ T'.heap = t.heap ∧ T'.vm = t.vm ∧ XC E st₀ t ∧ t.heap[q]? = some ce ∧ ce.vm = .none ∧ s.vm.findClass E = some ce.cls ∧
      Steps p.tables e below (T.setTop g) ((T'.setTop { g with stack := rest }).pushFrame (.throwing q)))
def vx_X {S : Type} (px : S → Prop) (B : String → S → State → Prop) (A : Nat → Prop) : String → State → State → Prop := fun E st t => ∃ u : S, px u ∧ B E u t ∧ va_F A st t
section Runs
variable {p : Program} {l : Launch} {e : Env} {R : Room} {s : State} {m : MethodId} {args : Array Value} {below : List Frame} {meth : Method} {c : Code} {H : Heap} {locs : List Loc} {cells slots : Nat}
variable {y : MethodName} {bytes cc : ByteArray} {maxL nL mc ms n index : Nat} {ret : Option FieldType} {ws : List Cond} {rm : Room} {Pc : Array Value → State → Prop} {Qc : Array Value → State → Outcome → State → Prop} {XC : String → State → State → Prop} {free : Addr → Prop} {Ts : List Cond} {own C : String} {b : Addr} {As rest : List Value} {g : JFrame}
theorem vx_callBack (cb : CallB R s args own index y bytes maxL ret ws rm mc ms n) (hM : vx_Met l y ws rm Pc Qc XC mc ms free) (hbl : FrameBlind Pc) : vx_Back l R p e below s args y 3 8 (PreOf R mc ms Pc) (PostOf Qc mc ms free) (vx_Post XC mc ms free) := by
  obtain ⟨hrc, hrs, hfr, hlo, hws, hcw, -, hini, -⟩ := cb
  exact vx_back (bytes := bytes) (maxL := maxL) (ret := ret) hM hbl hrc hrs hfr hlo hws hcw (fun a' U hW => word_at hW (Or.inl (by first | rfl | simp [Cond.onTables, Cond.keeps, Cond.steady])) hini)
theorem vx_runV (S : CallFix p m c cc nL s args Ts own) (hM : vx_Met l y ws rm Pc Qc XC mc ms free) (cw : CallW R s args own C index y bytes maxL ret ws rm mc ms n) (hp : PreV s H C b Pc As)
    (hg : g.method = m) (hn : As.length = n) (hsize : g.locals.size = nL) (hstack : g.stack = As.reverse ++ .ref b :: rest) (hW : 2 * g.monitorRoom + (rest.map fun v => v.category).sum ≤ 8) (hdg : decode cc g.pc = .ok (.invokevirtual index, 3)) (hf : cells + mc ≤ R.cells ∧ slots + ms ≤ R.slots) :
    vx_Run p l e R s m args below meth c H locs cells slots mc ms g rest (Qc (Value.ref b :: As).toArray) XC free := by
  have hK : vx_Back l R p e below s args y 3 8 (PreOf R mc ms Pc) (PostOf Qc mc ms free) (vx_Post XC mc ms free) := vx_callBack cw.1 hM hp.1
  obtain ⟨⟨-, -, -, -, -, -, hcode, -, hy, hlen, hl⟩, hin, hse⟩ := cw
  obtain ⟨hx, hb, hml, ho, -⟩ := S
  obtain ⟨-, ⟨cellB, hcB, hoB, hclB⟩, hPc⟩ := hp
  intro T hT X
  rcases vx_callV X hx (C := C) (bytes := bytes) (maxL := maxL) (ret := ret) ho hl hin hse hcode hy hK (by rw [hT]; exact hcB) hoB hclB hg (hsize.trans hml.symm) (argsL := As) (rest := rest) (fun sig h => hn.trans (hlen sig h)) hstack hW (by rw [hb]; exact hdg)
    (fun vm₁ hW₁ => ⟨hf.1, hf.2, hPc (T.setVm vm₁) hT hW₁⟩) with ⟨v, vm₁, ⟨U', l2, c2, s2⟩, hW₁, X', ⟨g', mk, t, L, e1, e2, hq, h1, hL, h2, h3⟩, st⟩ | ⟨q, vm₁, ⟨U', l2, c2, s2⟩, hW₁, X', ⟨g', mk, t, L, E, ce, e1, e2, hq, hce, hcv, hcl, h1, hL, h2, h3⟩, st⟩
  · dsimp only [Pt.U, Pt.locs, Pt.cells, Pt.slots] at X' e1 e2 h1 h2 h3 st
    subst h1; subst h2; subst h3
    exact Or.inl ⟨v, (T.setVm vm₁).calling g' mk (Value.ref b :: As).toArray, t, U', L, hT, X', hL, e1, e2, hq, st⟩
  · dsimp only [Pt.U, Pt.locs, Pt.cells, Pt.slots] at X' e1 e2 h1 h2 h3 st hcl
    subst h1; subst h2; subst h3
    exact Or.inr ⟨q, (T.setVm vm₁).calling g' mk (Value.ref b :: As).toArray, t, U', L, E, ce, hT, X', hL, e1, e2, hq, hce, hcv, vx_cls hW₁ hcl, st⟩
theorem vx_runS (S : CallFix p m c cc nL s args Ts own) (hM : vx_Met l y ws rm Pc Qc XC mc ms free) (cw : CallB R s args own index y bytes maxL ret ws rm mc ms n ∧ (Cond.static y).before args s = true) (hp : PreS s H Pc As)
    (hg : g.method = m) (hn : As.length = n) (hsize : g.locals.size = nL) (hstack : g.stack = As.reverse ++ rest) (hW : 2 * g.monitorRoom + (rest.map fun v => v.category).sum ≤ 8) (hdg : decode cc g.pc = .ok (.invokestatic index, 3)) (hf : cells + mc ≤ R.cells ∧ slots + ms ≤ R.slots) :
    vx_Run p l e R s m args below meth c H locs cells slots mc ms g rest (Qc As.toArray) XC free := by
  have hK : vx_Back l R p e below s args y 3 8 (PreOf R mc ms Pc) (PostOf Qc mc ms free) (vx_Post XC mc ms free) := vx_callBack cw.1 hM hp.1
  obtain ⟨⟨-, -, -, -, -, -, hcode, hini, hy, hlen, hl⟩, hstt⟩ := cw
  obtain ⟨hx, hb, hml, ho, -⟩ := S
  intro T hT X
  rcases vx_callS X hx (bytes := bytes) (maxL := maxL) (ret := ret) ho hl hstt hini hcode hy hK hg (hsize.trans hml.symm) (argsL := As) (rest := rest) (fun sig h => hn.trans (hlen sig h)) hstack hW (by rw [hb]; exact hdg)
    (fun vm₁ hW₁ => ⟨hf.1, hf.2, hp.2 (T.setVm vm₁) hT hW₁⟩) with ⟨v, vm₁, ⟨U', l2, c2, s2⟩, hW₁, X', ⟨g', mk, t, L, e1, e2, hq, h1, hL, h2, h3⟩, st⟩ | ⟨q, vm₁, ⟨U', l2, c2, s2⟩, hW₁, X', ⟨g', mk, t, L, E, ce, e1, e2, hq, hce, hcv, hcl, h1, hL, h2, h3⟩, st⟩
  · dsimp only [Pt.U, Pt.locs, Pt.cells, Pt.slots] at X' e1 e2 h1 h2 h3 st
    subst h1; subst h2; subst h3
    exact Or.inl ⟨v, (T.setVm vm₁).calling g' mk As.toArray, t, U', L, hT, X', hL, e1, e2, hq, st⟩
  · dsimp only [Pt.U, Pt.locs, Pt.cells, Pt.slots] at X' e1 e2 h1 h2 h3 st hcl
    subst h1; subst h2; subst h3
    exact Or.inr ⟨q, (T.setVm vm₁).calling g' mk As.toArray, t, U', L, E, ce, hT, X', hL, e1, e2, hq, hce, hcv, vx_cls hW₁ hcl, st⟩
end Runs
section Rows
variable {p : Program} {l : Launch} {e : Env} {R : Room} {s : State} {m : MethodId} {args : Array Value} {below : List Frame} {meth : Method} {c : Code} {H : Heap} {locs : List Loc} {cells slots : Nat} {Q : State → Prop}
variable {mc ms : Nat} {free : Addr → Prop} {A0 A1 : Nat → Prop} {H0 : Heap} {a : Array Value} {pc : Nat} {ls : Array Slot} {st0 rest : List Value}
theorem vx_keep {st₀ t T' : State} {L : List Loc} (h0 : st₀.heap = H) (e1 : T'.heap = t.heap) (hS : va_S A0 H0 H locs) (hA : ∀ q, q < H.size → A1 q → A0 q) (hf : ∀ q, free q → A0 q) (hL : ∀ q ∈ L, free q.base) (hF : va_F A1 st₀ t) :
    H.size ≤ T'.heap.size ∧ (∀ q : Nat, q < H.size → ¬ A1 q → T'.heap[q]? = H[q]?) ∧ va_S A0 H0 T'.heap (locs ++ L) := by
  obtain ⟨hz, hk⟩ := hF
  rw [h0] at hz hk
  exact ⟨by rw [e1]; exact hz, fun q h1 h2 => by rw [e1]; exact hk q h1 h2,
    ⟨Nat.le_trans hS.1 (by rw [e1]; exact hz), fun q h1 h2 => by rw [e1, hk q (Nat.lt_of_lt_of_le h1 hS.1) (fun z => h2 (hA q (Nat.lt_of_lt_of_le h1 hS.1) z))]; exact hS.2.1 q h1 h2, fun q hq => by
      rcases List.mem_append.mp hq with h | h
      · exact hS.2.2 q h
      · exact hf _ (hL q h)⟩⟩
theorem vx_calli {S SX : Type} {post : Int32 → S → Prop} {px : SX → Prop} {B : S → State → Prop} {BX : String → SX → State → Prop} {AX : Nat → Prop} (hr : vx_Run p l e R s m args below meth c H locs cells slots mc ms (F0 m pc ls st0) rest (va_Qi post B A1 a) (vx_X px BX AX) free) (hS : va_S A0 H0 H locs) (hA : ∀ q, q < H.size → A1 q → A0 q) (hf : ∀ q, free q → A0 q) (hAX : ∀ q, q < H.size → AX q → A0 q)
    (kx : ∀ (E : String) (ce : Cell) (q9 : Addr) (u : SX) (t : State) (H1 : Heap) (locs1 : List Loc), t.heap = H1 → s.vm.Alike t.vm → px u → BX E u t → H.size ≤ H1.size → (∀ q : Nat, q < H.size → ¬ AX q → H1[q]? = H[q]?) → va_S A0 H0 H1 locs1 → H1[q9]? = some ce → ce.vm = .none → s.vm.findClass E = some ce.cls → vx_W p l e R s m args below meth c H1 locs1 (cells + mc) (slots + ms) Q (F0 m pc ls rest) q9)
    (kk : ∀ (r : Int32) (u : S) (t : State) (H1 : Heap) (locs1 : List Loc), t.heap = H1 → s.vm.Alike t.vm → post r u → B u t → H.size ≤ H1.size → (∀ q : Nat, q < H.size → ¬ A1 q → H1[q]? = H[q]?) → va_S A0 H0 H1 locs1 → W p l e R s m args below meth c H1 locs1 (cells + mc) (slots + ms) Q (F0 m (pc + 3) ls (.int r :: rest))) : W p l e R s m args below meth c H locs cells slots Q (F0 m pc ls st0) := by
  intro T hT X
  rcases hr T hT X with ⟨v, st₀, t, T', L, h0, X', hL, e1, e2, ⟨⟨r, u, hv, hp, hb⟩, hF⟩, st⟩ | ⟨q, st₀, t, T', L, E, ce, h0, X', hL, e1, e2, ⟨u, hp, hb, hF⟩, hce, hcv, hcl, st⟩
  · cases hv
    obtain ⟨k1, k2, k3⟩ := vx_keep h0 e1 hS hA hf hL hF
    obtain ⟨t2, a1, b1⟩ := kk r u t T'.heap (locs ++ L) e1.symm (by rw [← e2]; exact X'.warmed.alike) hp hb k1 k2 k3 T' rfl X'
    exact ⟨t2, st t2 a1, b1⟩
  · obtain ⟨k1, k2, k3⟩ := vx_keep h0 e1 hS hAX hf hL hF
    obtain ⟨t2, a1, b1⟩ := kx E ce q u t T'.heap (locs ++ L) e1.symm (by rw [← e2]; exact X'.warmed.alike) hp hb k1 k2 k3 (by rw [e1]; exact hce) hcv hcl T' rfl X'
    exact ⟨t2, st.trans a1, b1⟩
theorem vx_calll {S SX : Type} {post : Int64 → S → Prop} {px : SX → Prop} {B : S → State → Prop} {BX : String → SX → State → Prop} {AX : Nat → Prop} (hr : vx_Run p l e R s m args below meth c H locs cells slots mc ms (F0 m pc ls st0) rest (va_Ql post B A1 a) (vx_X px BX AX) free) (hS : va_S A0 H0 H locs) (hA : ∀ q, q < H.size → A1 q → A0 q) (hf : ∀ q, free q → A0 q) (hAX : ∀ q, q < H.size → AX q → A0 q)
    (kx : ∀ (E : String) (ce : Cell) (q9 : Addr) (u : SX) (t : State) (H1 : Heap) (locs1 : List Loc), t.heap = H1 → s.vm.Alike t.vm → px u → BX E u t → H.size ≤ H1.size → (∀ q : Nat, q < H.size → ¬ AX q → H1[q]? = H[q]?) → va_S A0 H0 H1 locs1 → H1[q9]? = some ce → ce.vm = .none → s.vm.findClass E = some ce.cls → vx_W p l e R s m args below meth c H1 locs1 (cells + mc) (slots + ms) Q (F0 m pc ls rest) q9)
    (kk : ∀ (r : Int64) (u : S) (t : State) (H1 : Heap) (locs1 : List Loc), t.heap = H1 → s.vm.Alike t.vm → post r u → B u t → H.size ≤ H1.size → (∀ q : Nat, q < H.size → ¬ A1 q → H1[q]? = H[q]?) → va_S A0 H0 H1 locs1 → W p l e R s m args below meth c H1 locs1 (cells + mc) (slots + ms) Q (F0 m (pc + 3) ls (.long r :: rest))) : W p l e R s m args below meth c H locs cells slots Q (F0 m pc ls st0) := by
  intro T hT X
  rcases hr T hT X with ⟨v, st₀, t, T', L, h0, X', hL, e1, e2, ⟨⟨r, u, hv, hp, hb⟩, hF⟩, st⟩ | ⟨q, st₀, t, T', L, E, ce, h0, X', hL, e1, e2, ⟨u, hp, hb, hF⟩, hce, hcv, hcl, st⟩
  · cases hv
    obtain ⟨k1, k2, k3⟩ := vx_keep h0 e1 hS hA hf hL hF
    obtain ⟨t2, a1, b1⟩ := kk r u t T'.heap (locs ++ L) e1.symm (by rw [← e2]; exact X'.warmed.alike) hp hb k1 k2 k3 T' rfl X'
    exact ⟨t2, st t2 a1, b1⟩
  · obtain ⟨k1, k2, k3⟩ := vx_keep h0 e1 hS hAX hf hL hF
    obtain ⟨t2, a1, b1⟩ := kx E ce q u t T'.heap (locs ++ L) e1.symm (by rw [← e2]; exact X'.warmed.alike) hp hb k1 k2 k3 (by rw [e1]; exact hce) hcv hcl T' rfl X'
    exact ⟨t2, st.trans a1, b1⟩
theorem vx_callf {S SX : Type} {post : UInt32 → S → Prop} {px : SX → Prop} {B : S → State → Prop} {BX : String → SX → State → Prop} {AX : Nat → Prop} (hr : vx_Run p l e R s m args below meth c H locs cells slots mc ms (F0 m pc ls st0) rest (va_Qf post B A1 a) (vx_X px BX AX) free) (hS : va_S A0 H0 H locs) (hA : ∀ q, q < H.size → A1 q → A0 q) (hf : ∀ q, free q → A0 q) (hAX : ∀ q, q < H.size → AX q → A0 q)
    (kx : ∀ (E : String) (ce : Cell) (q9 : Addr) (u : SX) (t : State) (H1 : Heap) (locs1 : List Loc), t.heap = H1 → s.vm.Alike t.vm → px u → BX E u t → H.size ≤ H1.size → (∀ q : Nat, q < H.size → ¬ AX q → H1[q]? = H[q]?) → va_S A0 H0 H1 locs1 → H1[q9]? = some ce → ce.vm = .none → s.vm.findClass E = some ce.cls → vx_W p l e R s m args below meth c H1 locs1 (cells + mc) (slots + ms) Q (F0 m pc ls rest) q9)
    (kk : ∀ (r : UInt32) (u : S) (t : State) (H1 : Heap) (locs1 : List Loc), t.heap = H1 → s.vm.Alike t.vm → post r u → B u t → H.size ≤ H1.size → (∀ q : Nat, q < H.size → ¬ A1 q → H1[q]? = H[q]?) → va_S A0 H0 H1 locs1 → W p l e R s m args below meth c H1 locs1 (cells + mc) (slots + ms) Q (F0 m (pc + 3) ls (.float r :: rest))) : W p l e R s m args below meth c H locs cells slots Q (F0 m pc ls st0) := by
  intro T hT X
  rcases hr T hT X with ⟨v, st₀, t, T', L, h0, X', hL, e1, e2, ⟨⟨r, u, hv, hp, hb⟩, hF⟩, st⟩ | ⟨q, st₀, t, T', L, E, ce, h0, X', hL, e1, e2, ⟨u, hp, hb, hF⟩, hce, hcv, hcl, st⟩
  · cases hv
    obtain ⟨k1, k2, k3⟩ := vx_keep h0 e1 hS hA hf hL hF
    obtain ⟨t2, a1, b1⟩ := kk r u t T'.heap (locs ++ L) e1.symm (by rw [← e2]; exact X'.warmed.alike) hp hb k1 k2 k3 T' rfl X'
    exact ⟨t2, st t2 a1, b1⟩
  · obtain ⟨k1, k2, k3⟩ := vx_keep h0 e1 hS hAX hf hL hF
    obtain ⟨t2, a1, b1⟩ := kx E ce q u t T'.heap (locs ++ L) e1.symm (by rw [← e2]; exact X'.warmed.alike) hp hb k1 k2 k3 (by rw [e1]; exact hce) hcv hcl T' rfl X'
    exact ⟨t2, st.trans a1, b1⟩
theorem vx_calld {S SX : Type} {post : UInt64 → S → Prop} {px : SX → Prop} {B : S → State → Prop} {BX : String → SX → State → Prop} {AX : Nat → Prop} (hr : vx_Run p l e R s m args below meth c H locs cells slots mc ms (F0 m pc ls st0) rest (va_Qd post B A1 a) (vx_X px BX AX) free) (hS : va_S A0 H0 H locs) (hA : ∀ q, q < H.size → A1 q → A0 q) (hf : ∀ q, free q → A0 q) (hAX : ∀ q, q < H.size → AX q → A0 q)
    (kx : ∀ (E : String) (ce : Cell) (q9 : Addr) (u : SX) (t : State) (H1 : Heap) (locs1 : List Loc), t.heap = H1 → s.vm.Alike t.vm → px u → BX E u t → H.size ≤ H1.size → (∀ q : Nat, q < H.size → ¬ AX q → H1[q]? = H[q]?) → va_S A0 H0 H1 locs1 → H1[q9]? = some ce → ce.vm = .none → s.vm.findClass E = some ce.cls → vx_W p l e R s m args below meth c H1 locs1 (cells + mc) (slots + ms) Q (F0 m pc ls rest) q9)
    (kk : ∀ (r : UInt64) (u : S) (t : State) (H1 : Heap) (locs1 : List Loc), t.heap = H1 → s.vm.Alike t.vm → post r u → B u t → H.size ≤ H1.size → (∀ q : Nat, q < H.size → ¬ A1 q → H1[q]? = H[q]?) → va_S A0 H0 H1 locs1 → W p l e R s m args below meth c H1 locs1 (cells + mc) (slots + ms) Q (F0 m (pc + 3) ls (.double r :: rest))) : W p l e R s m args below meth c H locs cells slots Q (F0 m pc ls st0) := by
  intro T hT X
  rcases hr T hT X with ⟨v, st₀, t, T', L, h0, X', hL, e1, e2, ⟨⟨r, u, hv, hp, hb⟩, hF⟩, st⟩ | ⟨q, st₀, t, T', L, E, ce, h0, X', hL, e1, e2, ⟨u, hp, hb, hF⟩, hce, hcv, hcl, st⟩
  · cases hv
    obtain ⟨k1, k2, k3⟩ := vx_keep h0 e1 hS hA hf hL hF
    obtain ⟨t2, a1, b1⟩ := kk r u t T'.heap (locs ++ L) e1.symm (by rw [← e2]; exact X'.warmed.alike) hp hb k1 k2 k3 T' rfl X'
    exact ⟨t2, st t2 a1, b1⟩
  · obtain ⟨k1, k2, k3⟩ := vx_keep h0 e1 hS hAX hf hL hF
    obtain ⟨t2, a1, b1⟩ := kx E ce q u t T'.heap (locs ++ L) e1.symm (by rw [← e2]; exact X'.warmed.alike) hp hb k1 k2 k3 (by rw [e1]; exact hce) hcv hcl T' rfl X'
    exact ⟨t2, st.trans a1, b1⟩
theorem vx_callv {S SX : Type} {post : S → Prop} {px : SX → Prop} {B : S → State → Prop} {BX : String → SX → State → Prop} {AX : Nat → Prop} (hr : vx_Run p l e R s m args below meth c H locs cells slots mc ms (F0 m pc ls st0) rest (va_Qv post B A1 a) (vx_X px BX AX) free) (hS : va_S A0 H0 H locs) (hA : ∀ q, q < H.size → A1 q → A0 q) (hf : ∀ q, free q → A0 q) (hAX : ∀ q, q < H.size → AX q → A0 q)
    (kx : ∀ (E : String) (ce : Cell) (q9 : Addr) (u : SX) (t : State) (H1 : Heap) (locs1 : List Loc), t.heap = H1 → s.vm.Alike t.vm → px u → BX E u t → H.size ≤ H1.size → (∀ q : Nat, q < H.size → ¬ AX q → H1[q]? = H[q]?) → va_S A0 H0 H1 locs1 → H1[q9]? = some ce → ce.vm = .none → s.vm.findClass E = some ce.cls → vx_W p l e R s m args below meth c H1 locs1 (cells + mc) (slots + ms) Q (F0 m pc ls rest) q9)
    (kk : ∀ (u : S) (t : State) (H1 : Heap) (locs1 : List Loc), t.heap = H1 → s.vm.Alike t.vm → post u → B u t → H.size ≤ H1.size → (∀ q : Nat, q < H.size → ¬ A1 q → H1[q]? = H[q]?) → va_S A0 H0 H1 locs1 → W p l e R s m args below meth c H1 locs1 (cells + mc) (slots + ms) Q (F0 m (pc + 3) ls (rest))) : W p l e R s m args below meth c H locs cells slots Q (F0 m pc ls st0) := by
  intro T hT X
  rcases hr T hT X with ⟨v, st₀, t, T', L, h0, X', hL, e1, e2, ⟨⟨u, hv, hp, hb⟩, hF⟩, st⟩ | ⟨q, st₀, t, T', L, E, ce, h0, X', hL, e1, e2, ⟨u, hp, hb, hF⟩, hce, hcv, hcl, st⟩
  · cases hv
    obtain ⟨k1, k2, k3⟩ := vx_keep h0 e1 hS hA hf hL hF
    obtain ⟨t2, a1, b1⟩ := kk u t T'.heap (locs ++ L) e1.symm (by rw [← e2]; exact X'.warmed.alike) hp hb k1 k2 k3 T' rfl X'
    exact ⟨t2, st t2 a1, b1⟩
  · obtain ⟨k1, k2, k3⟩ := vx_keep h0 e1 hS hAX hf hL hF
    obtain ⟨t2, a1, b1⟩ := kx E ce q u t T'.heap (locs ++ L) e1.symm (by rw [← e2]; exact X'.warmed.alike) hp hb k1 k2 k3 (by rw [e1]; exact hce) hcv hcl T' rfl X'
    exact ⟨t2, st.trans a1, b1⟩
/-- caught by the row x of this method's table; the rows ahead don't take it -/
theorem vx_catch {own name : String} {E : String} {ce : Cell} {q : Addr} (hown : s.vm.findClass own = some m.cls) (pre : List ExceptionTableEntry) (x : ExceptionTableEntry) (suf : List ExceptionTableEntry) (hsplit : c.exceptionTable.toList = pre ++ x :: suf)
    (hpass : ∀ z ∈ pre, covers z pc = false ∨ (z.catchType ≠ 0 ∧ ∃ nm : String, (Cond.classLink own z.catchType nm).before args s = true ∧ va_Nc E nm s)) (hx : covers x pc = true) (h0 : x.catchType ≠ 0)
    (hlink : (Cond.classLink own x.catchType name).before args s = true) (hcast : (Cond.castable E name).before args s = true) (hcell : H[q]? = some ce) (hv : ce.vm = .none) (hcl : s.vm.findClass E = some ce.cls)
    (kk : W p l e R s m args below meth c H locs cells slots Q (F0 m x.handlerPc ls [.ref q])) : vx_W p l e R s m args below meth c H locs cells slots Q (F0 m pc ls rest) q := by
  intro T hT X
  have hpl : e.platform.magicAccessors = ({} : Platform).magicAccessors := by rw [X.admits.platform]
  obtain ⟨c3, c4, hc3, hc4, hasg⟩ := Cond.castable_spec hcast
  cases Option.some.inj (hc3.symm.trans hcl)
  obtain ⟨c5, hc5, hcl5⟩ := Cond.classLink_spec hown hlink e.platform hpl
  cases Option.some.inj (hc4.symm.trans hc5)
  obtain ⟨vm', X', st⟩ := X.thenCaughtThrough q (g := F0 m pc ls rest) rfl (Steps.refl _) (by rw [hT]; exact hcell) (by rw [hv]; rfl) (by obtain ⟨k9, h9, -⟩ := Vm.findClass_spec hcl; exact ⟨k9, h9⟩) pre x suf hsplit
    (fun z hz => by
      rcases hpass z hz with h | ⟨hz0, nm, hl1, hn1⟩
      · exact Or.inl h
      · obtain ⟨c6, hc6, hcl6⟩ := Cond.classLink_spec hown hl1 e.platform hpl
        obtain ⟨a8, b8, h1, h2, h3⟩ := hn1
        cases Option.some.inj (h1.symm.trans hcl)
        cases Option.some.inj (h2.symm.trans hc6)
        exact Or.inr ⟨hz0, _, hcl6, h3⟩) hx (Or.inr ⟨h0, c4, hcl5, hasg⟩)
  obtain ⟨t, a1, b1⟩ := kk (T.setVm vm') hT X'
  exact ⟨t, st.trans a1, b1⟩
end Rows
section Ends
variable {p : Program} {l : Launch} {e : Env} {R : Room} {s : State} {m : MethodId} {args : Array Value} {below : List Frame} {meth : Method} {c : Code} {H : Heap} {locs : List Loc} {cells slots : Nat} {Q : State → Prop}
variable {mc ms : Nat} {free : Addr → Prop} {A0 A1 : Nat → Prop} {H0 : Heap} {a : Array Value} {ls : Array Slot} {st0 rest : List Value}
variable {Qc : Array Value → State → Outcome → State → Prop} {XC : String → State → State → Prop}
/-- what a body that may throw owes at its end -/
def vx_MQ (below : List Frame) (Qc : Array Value → State → Outcome → State → Prop) (XC : String → State → State → Prop) (a : Array Value) (s : State) (mc ms : Nat) (free : Addr → Prop) : State → Prop := fun t =>
  ∃ o, t.status = .running ∧ Ended t below o ∧ vx_Q Qc XC mc ms free a s o t
theorem vx_ret {g : JFrame} {mc ms : Nat} (k : W p l e R s m args below meth c H locs cells slots (MQ below Qc args s mc ms free) g) : W p l e R s m args below meth c H locs cells slots (vx_MQ below Qc XC args s mc ms free) g := by
  intro T hT X
  obtain ⟨t, a1, o, b1, b2, b3, b4⟩ := k T hT X
  exact ⟨t, a1, o, b1, b2, Or.inl ⟨b3, b4⟩⟩
/-- not caught here: it goes on to the caller -/
theorem vx_widen {g : JFrame} {q : Addr} {k n : Nat} (h1 : cells ≤ k) (h2 : slots ≤ n) (kk : vx_W p l e R s m args below meth c H locs k n Q g q) : vx_W p l e R s m args below meth c H locs cells slots Q g q := fun T hT X => kk T hT (stand_widen X h1 h2)
theorem vx_out {pc : Nat} {E : String} {ce : Cell} {q : Addr} {mc ms : Nat} (hout : ∀ x ∈ c.exceptionTable.toList, covers x pc = false) (hlocks : meth.locks = false) (hcell : H[q]? = some ce) (hv : ce.vm = .none) (hcl : s.vm.findClass E = some ce.cls)
    (hx : ∀ t : State, t.heap = H → s.vm.Alike t.vm → XC E s t) (hf : ∀ z ∈ locs, free z.base) (hc : cells ≤ mc) (hs : slots ≤ ms) :
    vx_W p l e R s m args below meth c H locs cells slots (vx_MQ below Qc XC args s mc ms free) (F0 m pc ls rest) q := by
  intro T hT X
  obtain ⟨st1, hrun, hend, hW, hsm⟩ := X.leaveThrown q (g := F0 m pc ls rest) rfl rfl rfl hout hlocks
  have hcell9 : (T.setFrames (.throwing q :: below)).heap[q]? = some ce := by
    show T.heap[q]? = some ce
    rw [hT]; exact hcell
  exact ⟨_, st1, .threw q, hrun, hend, Or.inr ⟨q, rfl, E, ce, locs, hx _ hT hW.alike, hcell9, hv, hcl, hW, hsm.mono hc hs, hf⟩⟩
theorem vx_frame {U : State} {k n : Nat} (h : s.sameButNew ({ U with vm := s.vm } : State) locs k n) : s.heap.size ≤ U.heap.size ∧ ∀ q : Nat, q < s.heap.size → (∀ z ∈ locs, z.base ≠ q) → U.heap[q]? = s.heap[q]? := by
  obtain ⟨-, h2, -, -, -, h6⟩ := h
  refine ⟨h2, fun q hq hz => ?_⟩
  obtain ⟨c9, e1, e2, e3, e4⟩ := h6 q _ (Array.getElem?_eq_getElem hq)
  have hs : c9.slots = (s.heap[q]).slots := Array.ext_getElem? fun i => e4 i fun hm => hz _ hm rfl
  have h9 : c9 = s.heap[q] := by
    rw [hs] at e2
    exact e2
  have e5 : U.heap[q]? = some c9 := e1
  rw [e5, h9, Array.getElem?_eq_getElem hq]
/-- the words of a throw but the four that speak of the heap -/
def vx_no (w : Cond) : Bool := decide (w ≠ .isRef (.static Bundle.tN "UNASSIGNED_STACK" Bundle.steD)) && decide (w ≠ .isRef (.static Bundle.tN "SUPPRESSED_SENTINEL" Bundle.listD)) && decide (w ≠ .laysStatic Bundle.tN "UNASSIGNED_STACK" Bundle.steD) && decide (w ≠ .laysStatic Bundle.tN "SUPPRESSED_SENTINEL" Bundle.listD)
def vx_at0 (own : String) (ic : Nat) (X : String) (names : List String) : List Cond := (Bundle.ownAtoms0 own ic X names).filter vx_no
def vx_atS (own : String) (ic : Nat) (X : String) (names : List String) : List Cond := (Bundle.ownAtoms own ic X names).filter vx_no
/-- a word that the tables alone decide, or a good one -/
def vx_ot (w : Cond) : Bool := w.onTables || goodWord w
theorem vx_ot_at {args a' : Array Value} {s U : State} {w : Cond} (hW : s.WarmedH U.vm) (hvm : s.vm = U.vm) (hg : vx_ot w = true) (h : w.before args s = true) : w.before a' U = true := by
  simp only [vx_ot, Bool.or_eq_true] at hg
  rcases hg with hg | hg
  · exact va_tabs hg hvm h
  · exact word_at hW (good_of_word hg) h
/-- a list's words: the good ones out of the method's own list, the others by premises of their own -/
theorem vx_hat {args : Array Value} {s : State} {L B : List Cond} (h1 : ∀ w ∈ L.filter goodWord, w.before args s = true) (h2 : ∀ w ∈ L.filter (fun w => !goodWord w), w ∈ B) (h3 : ∀ w ∈ B, w.before args s = true) : ∀ w ∈ L, w.before args s = true := by
  intro w hw
  by_cases g : goodWord w = true
  · exact h1 w (List.mem_filter.mpr ⟨hw, g⟩)
  · refine h3 w (h2 w (List.mem_filter.mpr ⟨hw, ?_⟩))
    show (!goodWord w) = true
    cases hgw : goodWord w
    · rfl
    · exact absurd hgw g
theorem vx_c {args : Array Value} {s : State} {w : Cond} {B : List Cond} (h : w.before args s = true) (t : ∀ w ∈ B, w.before args s = true) : ∀ w' ∈ w :: B, w'.before args s = true := fun w' h' => (List.mem_cons.mp h').elim (fun e => by rw [e]; exact h) (t w')
theorem vx_n {args : Array Value} {s : State} : ∀ w ∈ ([] : List Cond), w.before args s = true := fun _ h => nomatch h
theorem vx_own {args : Array Value} {s : State} {L : List Cond} (h1 : ∀ w ∈ L.filter vx_no, w.before args s = true)
    (hU : (Cond.isRef (.static Bundle.tN "UNASSIGNED_STACK" Bundle.steD)).before args s = true) (hN : (Cond.isRef (.static Bundle.tN "SUPPRESSED_SENTINEL" Bundle.listD)).before args s = true)
    (lU : (Cond.laysStatic Bundle.tN "UNASSIGNED_STACK" Bundle.steD).before args s = true) (lN : (Cond.laysStatic Bundle.tN "SUPPRESSED_SENTINEL" Bundle.listD).before args s = true) : ∀ w ∈ L, w.before args s = true := by
  intro w hw
  by_cases e1 : w = .isRef (.static Bundle.tN "UNASSIGNED_STACK" Bundle.steD)
  · rw [e1]; exact hU
  · by_cases e2 : w = .isRef (.static Bundle.tN "SUPPRESSED_SENTINEL" Bundle.listD)
    · rw [e2]; exact hN
    · by_cases e3 : w = .laysStatic Bundle.tN "UNASSIGNED_STACK" Bundle.steD
      · rw [e3]; exact lU
      · by_cases e4 : w = .laysStatic Bundle.tN "SUPPRESSED_SENTINEL" Bundle.listD
        · rw [e4]; exact lN
        · exact h1 w (List.mem_filter.mpr ⟨hw, by unfold vx_no; rw [decide_eq_true e1, decide_eq_true e2, decide_eq_true e3, decide_eq_true e4]; rfl⟩)
/-- where a static field lies, its class's statics cell in H -/
def vx_L (C n d : String) (A : Nat → Prop) (U : State) (H : Heap) : Prop := ∃ (c : ClassId) (k : Class) (i : Nat) (f : Field) (a : Nat) (cell : Cell), U.vm.findClass C = some c ∧ U.fieldFound? C n d = some (c, k, i, f) ∧ f.isStatic = true ∧ k.statics = some a ∧ H[a]? = some cell ∧ cell.vm.isStatics = true ∧ cell.cls = c ∧ f.slot < cell.slots.size ∧ k.staticTypes[f.slot]? = some f.type ∧ ¬ A a
theorem vx_L.moved {C n d : String} {A : Nat → Prop} {u U : State} {H : Heap} (hvm : u.vm.Alike U.vm) (h : vx_L C n d A u H) : vx_L C n d A U H := by
  obtain ⟨c, k, i, f, a, cell, h1, h2, h3, h4, h5, h6, h7, h8, h9, h10⟩ := h
  obtain ⟨k', hi', he⟩ := State.fieldFound?_setVm hvm h2
  exact ⟨c, k', i, f, a, cell, by rw [hvm.findClass]; exact h1, hi', h3, by rw [he]; exact h4, h5, h6, h7, h8, by rw [he]; exact h9, h10⟩
theorem vx_L.kept {C n d : String} {A : Nat → Prop} {U : State} {H H1 : Heap} (h : vx_L C n d A U H) (hq : ∀ a : Nat, a < H.size → ¬ A a → H1[a]? = H[a]?) : vx_L C n d A U H1 := by
  obtain ⟨c, k, i, f, a, cell, h1, h2, h3, h4, h5, h6, h7, h8, h9, h10⟩ := h
  exact ⟨c, k, i, f, a, cell, h1, h2, h3, h4, by rw [hq a (Array.getElem?_eq_some_iff.mp h5).1 h10]; exact h5, h6, h7, h8, h9, h10⟩
theorem vx_L.narrow {C n d : String} {A B : Nat → Prop} {U : State} {H : Heap} (h : vx_L C n d A U H) (hAB : ∀ q, B q → A q) : vx_L C n d B U H := by
  obtain ⟨c, k, i, f, a, cell, h1, h2, h3, h4, h5, h6, h7, h8, h9, h10⟩ := h
  exact ⟨c, k, i, f, a, cell, h1, h2, h3, h4, h5, h6, h7, h8, h9, fun z => h10 (hAB _ z)⟩
theorem vx_L.word {C n d : String} {A : Nat → Prop} {s : State} {args : Array Value} (h : vx_L C n d A s s.heap) : (Cond.laysStatic C n d).before args s = true := by
  obtain ⟨c, k, i, f, a, cell, h1, h2, h3, h4, h5, h6, h7, h8, h9, -⟩ := h
  show (Cond.laysStatic C n d).holds args s none s [] = true
  exact Cond.laysStatic_of h1 h2 h3 h4 h5 h6 h7 h8 h9
/-- .. and what it holds: null or some reference -/
def vx_Zq (C n d : String) (A : Nat → Prop) (U : State) (H : Heap) : Prop := va_Zq C n d A U H ∧ vx_L C n d A U H
theorem vx_Zq.moved {C n d : String} {A : Nat → Prop} {u U : State} {H : Heap} (hvm : u.vm.Alike U.vm) (h : vx_Zq C n d A u H) : vx_Zq C n d A U H := ⟨va_Zq.moved hvm h.1, vx_L.moved hvm h.2⟩
theorem vx_Zq.kept {C n d : String} {A : Nat → Prop} {U : State} {H H1 : Heap} (h : vx_Zq C n d A U H) (hq : ∀ a : Nat, a < H.size → ¬ A a → H1[a]? = H[a]?) : vx_Zq C n d A U H1 := ⟨va_Zq.kept h.1 hq, vx_L.kept h.2 hq⟩
theorem vx_Zq.narrow {C n d : String} {A B : Nat → Prop} {U : State} {H : Heap} (h : vx_Zq C n d A U H) (hAB : ∀ q, B q → A q) : vx_Zq C n d B U H := ⟨va_Zq.narrow h.1 hAB, vx_L.narrow h.2 hAB⟩
theorem vx_Zqof {args : Array Value} {s : State} {C n d : String} {A : Nat → Prop} (hl : (Cond.laysStatic C n d).before args s = true) (hini : (Cond.initialized C).before args s = true) (h : (Cond.isRef (.static C n d)).before args s = true) (hA : ∀ a : Nat, a < s.heap.size → ¬ A a) : vx_Zq C n d A s s.heap := by
  refine ⟨va_Zqof hl hini h hA, ?_⟩
  obtain ⟨c, k, i, f, a, cell, h1, h2, h3, h4, h5, h6, h7, h8, h9⟩ := Cond.laysStatic_spec hl
  exact ⟨c, k, i, f, a, cell, h1, h2, h3, h4, h5, h6, h7, h8, h9, hA a (Array.getElem?_eq_some_iff.mp h5).1⟩
theorem vx_isRef {C n d : String} {v : Value} {A : Nat → Prop} {s : State} {args : Array Value} (h : va_Z C n d v A s s.heap) (hv : v.isRef = true) : (Cond.isRef (.static C n d)).before args s = true := by
  obtain ⟨cf, kf, fi, f, a, cell, h1, h2, h3, h4, h5, h6, h7, -⟩ := h
  have he : (Term.static C n d).eval args s none [] s = some v := by
    simp [Term.eval, State.fieldNamed?, h1, h2, h4, h5, h6, h7]
  simp only [Cond.before, Cond.holds, Cond.value, he]
  cases v <;> simp_all [Value.isRef]
theorem vx_isRefq {C n d : String} {A : Nat → Prop} {s : State} {args : Array Value} (h : va_Zq C n d A s s.heap) : (Cond.isRef (.static C n d)).before args s = true := by
  rcases h with h | ⟨t, h⟩
  · exact vx_isRef h rfl
  · exact vx_isRef h rfl
/-- the same frame, seen from here: as if the method were called anew in this heap -/
theorem vx_rebase {T : State} (X : Stand p l e R s m args below meth c T locs cells slots) {R' : Room} (hf : R'.frames ≤ R.frames) (hl : R'.locals ≤ R.locals) (hc : cells + R'.cells ≤ R.cells) (hs : slots + R'.slots ≤ R.slots) :
    Stand p l e R' ((T.setVm s.vm).setFrames (.invoking m args :: below)) m args below meth c T [] 0 0 := by
  have htop : (T.setVm s.vm).topJava?.isSome := X.here.top
  have hF : ((T.setVm s.vm).setFrames (.invoking m args :: below)).frames = .invoking m args :: below := State.frames_setFrames _ (State.cur_lt_of_top htop)
  obtain ⟨g₀, hg0⟩ := Option.isSome_iff_exists.mp htop
  obtain ⟨r, hr⟩ := State.topJava?_eq_some.mp hg0
  have hl9 : e.platform.stackLimits (T.setVm s.vm).me = e.platform.stackLimits s.me := X.limits
  have hb9 : (T.setVm s.vm).me.stackBytes = s.me.stackBytes := X.bytes
  refine ⟨X.admits, X.cas, X.clock, hF, ?_, X.hears, X.method, X.code, X.here, X.tail, X.warmed, ?_, ?_, ?_⟩
  · have h := X.room
    have hU : ((T.setVm s.vm).setFrames (.invoking m args :: below)).localsInUse = s.localsInUse := by
      rw [State.localsInUse_invoking hF (meth := meth) (c := c) X.method X.code, State.localsInUse_invoking X.frames X.method X.code]
    simp only [State.hasRoom, Bool.and_eq_true, decide_eq_true_eq] at h ⊢
    obtain ⟨⟨⟨⟨h1, h2, h3, h4, h5, h6⟩, h7⟩, h8⟩, h9⟩ := h
    rw [X.frames, List.length_cons] at h2 h3
    have q1 := X.heapSize
    have q2 := X.used
    simp only [hF, hU, List.length_cons, State.stackLimits_setFrames, State.stackBytes_setFrames, hl9, hb9]
    refine ⟨⟨⟨⟨by omega, by omega, by omega, by omega, by omega, h6⟩, ?_⟩, ?_⟩, X.book⟩
    · show T.heap.size + R'.cells ≤ e.platform.maxCells
      omega
    · show T.slotsUsed + R'.slots ≤ e.platform.maxSlots
      omega
  · rw [State.stackLimits_setFrames]; rfl
  · rw [State.stackBytes_setFrames]; rfl
  · refine ⟨?_, Nat.le_refl _, Nat.le_refl _, ?_, ?_, fun a c9 h9 => ⟨c9, h9, rfl, rfl, fun _ _ => rfl⟩⟩
    · obtain ⟨t, ht, -⟩ := State.frames_cons hr
      show T.setVm s.vm = { ((T.setVm s.vm).setFrames (.invoking m args :: below)).setFrames (T.setVm s.vm).frames with heap := T.heap, slotsUsed := T.slotsUsed }
      rw [State.setFrames_setFrames, State.setFrames_self ht]
      rfl
    · show T.slotsUsed = T.slotsUsed + ((T.heap.toList.drop T.heap.size).map (·.slots.size)).sum
      rw [List.drop_eq_nil_of_le (Nat.le_of_eq Array.length_toList)]
      rfl
    · show ((T.heap.toList.drop T.heap.size).map (·.slots.size)).sum ≤ 0
      rw [List.drop_eq_nil_of_le (Nat.le_of_eq Array.length_toList)]
      exact Nat.le_refl _
/-- 'throw new E()': new; dup; invokespecial; athrow -/
theorem vx_throw0 {cc : ByteArray} {pc : Nat} (hexec : p.tables.exec = Jvm.exec) (hb : c.code = cc) (hl : l.stackTraces = false) {own cls : String} {names : List String} {ik ic mc ms : Nat} {A : Nat → Prop}
    (hown : s.vm.findClass own = some m.cls) (hcls : Bundle.fit cls = true) (hnames : ∀ n ∈ names, Bundle.fit n = true)
    (hk : (Cond.classLink own ik cls).before args s = true) (hini : (Cond.initialized cls).before args s = true) (hat : ∀ w ∈ vx_at0 own ic cls names, w.before args s = true)
    (hgood : ∀ w ∈ Cond.classLink own ik cls :: Cond.initialized cls :: vx_at0 own ic cls names, vx_ot w = true)
    (hU : vx_Zq Bundle.tN "UNASSIGNED_STACK" Bundle.steD A s s.heap) (hN : vx_Zq Bundle.tN "SUPPRESSED_SENTINEL" Bundle.listD A s s.heap) (hS : va_S A s.heap H locs) (hsize : ls.size = c.maxLocals)
    (d0 : decode cc pc = .ok (.new ik, 3)) (d3 : decode cc (pc + 3) = .ok (.dup, 1)) (d4 : decode cc (pc + 4) = .ok (.invokespecial ic, 3)) (d7 : decode cc (pc + 7) = .ok (.athrow, 1))
    (hout : ∀ x ∈ c.exceptionTable.toList, covers x (pc + 7) = false)
    (hRframes : names.length + 3 < R.frames) (hRlocals : (rest.map fun v => v.category).sum + (13 * (names.length + 1) + 42) ≤ R.locals) (hRcells : cells + 1 ≤ R.cells) (hRslots : slots + 6 ≤ R.slots) (hlocks : meth.locks = false)
    (hx : ∀ t : State, s.vm.Alike t.vm → H.size ≤ t.heap.size → (∀ q : Nat, q < H.size → t.heap[q]? = H[q]?) → XC cls s t)
    (hf : ∀ z ∈ locs, free z.base) (hc : cells + 1 ≤ mc) (hs : slots + 6 ≤ ms) :
    W p l e R s m args below meth c H locs cells slots (vx_MQ below Qc XC args s mc ms free) (F0 m pc ls rest) := by
  intro T hT X
  have htr : e.platform.stackTraces = false := (show e.platform.stackTraces = l.stackTraces by rw [X.admits.platform]).trans hl
  have Y := vx_rebase X (R' := { frames := R.frames, locals := R.locals, cells := 1, slots := 6 }) (Nat.le_refl _) (Nat.le_refl _) hRcells hRslots
  obtain ⟨s', hA⟩ : ∃ z, z = (T.setVm s.vm).setFrames (.invoking m args :: below) := ⟨_, rfl⟩
  rw [← hA] at Y
  have hvm : s'.vm = s.vm := by rw [hA]; rfl
  have hhp : s'.heap = H := by rw [hA]; exact hT
  have hW0 : s.WarmedH s'.vm := by rw [hvm]; exact State.WarmedH.refl s
  have hat' : ∀ w ∈ vx_at0 own ic cls names, w.before args s' = true := fun w hw => vx_ot_at hW0 hvm.symm (hgood w (List.mem_cons_of_mem _ (List.mem_cons_of_mem _ hw))) (hat w hw)
  have hk' : (Cond.classLink own ik cls).before args s' = true := vx_ot_at hW0 hvm.symm (hgood _ List.mem_cons_self) hk
  have hini' : (Cond.initialized cls).before args s' = true := vx_ot_at hW0 hvm.symm (hgood _ (List.mem_cons_of_mem _ List.mem_cons_self)) hini
  have hU' : vx_Zq Bundle.tN "UNASSIGNED_STACK" Bundle.steD A s' s'.heap := by rw [hhp]; exact vx_Zq.moved hW0.alike (hU.kept hS.2.1)
  have hN' : vx_Zq Bundle.tN "SUPPRESSED_SENTINEL" Bundle.listD A s' s'.heap := by rw [hhp]; exact vx_Zq.moved hW0.alike (hN.kept hS.2.1)
  have h : ∀ w ∈ Bundle.ownAtoms0 own ic cls names, w.before args s' = true := vx_own hat' (vx_isRefq hU'.1) (vx_isRefq hN'.1) hU'.2.word hN'.2.word
  have hown' : s'.vm.findClass own = some m.cls := by rw [hvm]; exact hown
  have hins : (Cond.instantiable cls 6).before args s' = true := h _ (by simp [Bundle.ownAtoms0])
  obtain ⟨vm₁, cX, kX, hfX, hkX, -, -, X₁, st1⟩ := Y.newCold hexec (own := own) (C := cls) (index := ik) (n := 6) hown' hk' hins hini'
    (g := F0 m pc ls rest) rfl (by rw [hb]; exact d0) (Nat.le_refl _) (Nat.le_refl _)
  generalize hT1 : (T.setVm vm₁).pushCell { cls := cX, slots := kX.instanceTypes.map defaultValue, vm := .none } = T1 at X₁ st1
  have hcat : (Value.ref T.heap.size).category = 1 := rfl
  have hcellA : T1.heap[T.heap.size]? = some (freshCell cX kX) := by rw [← hT1]; exact State.heap_pushCell_size _ _
  have d3' : decode c.code (pc + 3) = .ok (.dup, 1) := by rw [hb]; exact d3
  obtain ⟨U, hsteps, hrun, hend, hW, hsame, ce, hce, hO⟩ := X₁.ctorThrow0 hexec htr (own := own) (cls := cls) (names := names) (ic := ic) hown' hcls hnames h (fun x hx => nomatch hx) hfX hkX hcellA (by rw [hhp, hT]; exact Nat.le_refl _)
    (g := { method := m, pc := pc + 4, locals := ls, stack := .ref T.heap.size :: .ref T.heap.size :: rest, locked := none }) rfl hsize rfl rfl (rest := rest) rfl
    (by rw [hb]; exact d4) (by rw [hb]; exact d7) hout hRframes (by simp only [List.map_cons, List.sum_cons, hcat]; omega) hlocks
  obtain ⟨f1, f2⟩ := vx_frame hsame
  rw [hhp] at f1 f2
  have hWs : s.WarmedH U.vm := State.WarmedH.trans hW0 hW
  have hcl : s.vm.findClass cls = some ce.cls := by
    have h9 := hO.cls
    rw [hvm] at h9
    exact h9
  have hall : s.sameButNew ({ U with vm := s.vm } : State) locs mc ms := by
    subst hA
    obtain ⟨e1, e2⟩ := hsame
    rw [State.setFrames_setFrames] at e1
    have h2 : (T.setVm s.vm).sameButNew ({ U with vm := s.vm } : State) [] (0 + 1) (0 + 6) := ⟨e1, e2⟩
    have h3 := X.same.trans h2
    rw [List.append_nil] at h3
    exact h3.mono hc hs
  refine ⟨U, ?_, .threw T.heap.size, hrun, hend, Or.inr ⟨T.heap.size, rfl, cls, ce, locs, hx U hWs.alike f1 (fun q hq => f2 q hq (fun z hz => nomatch hz)), hce, hO.vm, hcl, hWs, hall, hf⟩⟩
  refine st1 _ ?_
  show Steps p.tables e below (T1.setTop { method := m, pc := pc + 3, locals := ls, stack := .ref T.heap.size :: rest, locked := none }) _
  jvm_step X₁.here [X₁.here.top, hexec, d3', Value.category]
  exact hsteps
/-- 'throw new E("text")': new; dup; ldc; invokespecial; athrow -/
theorem vx_throwS {cc : ByteArray} {pc : Nat} (hexec : p.tables.exec = Jvm.exec) (hb : c.code = cc) (hl : l.stackTraces = false) {own cls text : String} {names : List String} {ik is ic mc ms sa : Nat} {A : Nat → Prop}
    (hown : s.vm.findClass own = some m.cls) (hcls : Bundle.fit cls = true) (hnames : ∀ n ∈ names, Bundle.fit n = true)
    (hk : (Cond.classLink own ik cls).before args s = true) (hini : (Cond.initialized cls).before args s = true) (hstr : vk_R own is text sa s) (hat : ∀ w ∈ vx_atS own ic cls names, w.before args s = true)
    (hgood : ∀ w ∈ Cond.classLink own ik cls :: Cond.initialized cls :: vx_atS own ic cls names, vx_ot w = true)
    (hU : vx_Zq Bundle.tN "UNASSIGNED_STACK" Bundle.steD A s s.heap) (hN : vx_Zq Bundle.tN "SUPPRESSED_SENTINEL" Bundle.listD A s s.heap) (hS : va_S A s.heap H locs) (hsize : ls.size = c.maxLocals)
    (d0 : decode cc pc = .ok (.new ik, 3)) (d3 : decode cc (pc + 3) = .ok (.dup, 1)) (d4 : decode cc (pc + 4) = .ok (.ldc is, 2)) (d6 : decode cc (pc + 6) = .ok (.invokespecial ic, 3)) (d9 : decode cc (pc + 9) = .ok (.athrow, 1))
    (hout : ∀ x ∈ c.exceptionTable.toList, covers x (pc + 9) = false)
    (hRframes : names.length + 3 < R.frames) (hRlocals : (rest.map fun v => v.category).sum + (13 * (names.length + 1) + 43) ≤ R.locals) (hRcells : cells + 1 ≤ R.cells) (hRslots : slots + 6 ≤ R.slots) (hlocks : meth.locks = false)
    (hx : ∀ t : State, s.vm.Alike t.vm → H.size ≤ t.heap.size → (∀ q : Nat, q < H.size → t.heap[q]? = H[q]?) → XC cls s t)
    (hf : ∀ z ∈ locs, free z.base) (hc : cells + 1 ≤ mc) (hs : slots + 6 ≤ ms) :
    W p l e R s m args below meth c H locs cells slots (vx_MQ below Qc XC args s mc ms free) (F0 m pc ls rest) := by
  intro T hT X
  have htr : e.platform.stackTraces = false := (show e.platform.stackTraces = l.stackTraces by rw [X.admits.platform]).trans hl
  have Y := vx_rebase X (R' := { frames := R.frames, locals := R.locals, cells := 1, slots := 6 }) (Nat.le_refl _) (Nat.le_refl _) hRcells hRslots
  obtain ⟨s', hA⟩ : ∃ z, z = (T.setVm s.vm).setFrames (.invoking m args :: below) := ⟨_, rfl⟩
  rw [← hA] at Y
  have hvm : s'.vm = s.vm := by rw [hA]; rfl
  have hhp : s'.heap = H := by rw [hA]; exact hT
  have hW0 : s.WarmedH s'.vm := by rw [hvm]; exact State.WarmedH.refl s
  have hat' : ∀ w ∈ vx_atS own ic cls names, w.before args s' = true := fun w hw => vx_ot_at hW0 hvm.symm (hgood w (List.mem_cons_of_mem _ (List.mem_cons_of_mem _ hw))) (hat w hw)
  have hk' : (Cond.classLink own ik cls).before args s' = true := vx_ot_at hW0 hvm.symm (hgood _ List.mem_cons_self) hk
  have hini' : (Cond.initialized cls).before args s' = true := vx_ot_at hW0 hvm.symm (hgood _ (List.mem_cons_of_mem _ List.mem_cons_self)) hini
  have hU' : vx_Zq Bundle.tN "UNASSIGNED_STACK" Bundle.steD A s' s'.heap := by rw [hhp]; exact vx_Zq.moved hW0.alike (hU.kept hS.2.1)
  have hN' : vx_Zq Bundle.tN "SUPPRESSED_SENTINEL" Bundle.listD A s' s'.heap := by rw [hhp]; exact vx_Zq.moved hW0.alike (hN.kept hS.2.1)
  have h : ∀ w ∈ Bundle.ownAtoms own ic cls names, w.before args s' = true := vx_own hat' (vx_isRefq hU'.1) (vx_isRefq hN'.1) hU'.2.word hN'.2.word
  have hown' : s'.vm.findClass own = some m.cls := by rw [hvm]; exact hown
  have hins : (Cond.instantiable cls 6).before args s' = true := h _ (by simp [Bundle.ownAtoms])
  obtain ⟨vm₁, cX, kX, hfX, hkX, -, -, X₁, st1⟩ := Y.newCold hexec (own := own) (C := cls) (index := ik) (n := 6) hown' hk' hins hini'
    (g := F0 m pc ls rest) rfl (by rw [hb]; exact d0) (Nat.le_refl _) (Nat.le_refl _)
  generalize hT1 : (T.setVm vm₁).pushCell { cls := cX, slots := kX.instanceTypes.map defaultValue, vm := .none } = T1 at X₁ st1
  have hcat : (Value.ref T.heap.size).category = 1 := rfl
  have hcellA : T1.heap[T.heap.size]? = some (freshCell cX kX) := by rw [← hT1]; exact State.heap_pushCell_size _ _
  have d3' : decode c.code (pc + 3) = .ok (.dup, 1) := by rw [hb]; exact d3
  have d4' : decode c.code (pc + 4) = .ok (.ldc is, 2) := by rw [hb]; exact d4
  have hstr' : vk_R own is text sa s' := vk_R.warm hW0 hstr
  obtain ⟨U, hsteps, hrun, hend, hW, hsame, ce, hce, hO⟩ := X₁.ctorThrowS hexec htr (own := own) (cls := cls) (names := names) (ic := ic) hown' hcls hnames h (fun x hx => nomatch hx) hfX hkX hcellA (by rw [hhp, hT]; exact Nat.le_refl _) (msg := .ref sa) rfl
    (g := { method := m, pc := pc + 6, locals := ls, stack := .ref sa :: .ref T.heap.size :: .ref T.heap.size :: rest, locked := none }) rfl hsize rfl rfl (rest := rest) rfl
    (by rw [hb]; exact d6) (by rw [hb]; exact d9) hout hRframes (by simp only [List.map_cons, List.sum_cons, hcat]; omega) hlocks
  obtain ⟨f1, f2⟩ := vx_frame hsame
  rw [hhp] at f1 f2
  have hWs : s.WarmedH U.vm := State.WarmedH.trans hW0 hW
  have hcl : s.vm.findClass cls = some ce.cls := by
    have h9 := hO.cls
    rw [hvm] at h9
    exact h9
  have hall : s.sameButNew ({ U with vm := s.vm } : State) locs mc ms := by
    subst hA
    obtain ⟨e1, e2⟩ := hsame
    rw [State.setFrames_setFrames] at e1
    have h2 : (T.setVm s.vm).sameButNew ({ U with vm := s.vm } : State) [] (0 + 1) (0 + 6) := ⟨e1, e2⟩
    have h3 := X.same.trans h2
    rw [List.append_nil] at h3
    exact h3.mono hc hs
  refine ⟨U, ?_, .threw T.heap.size, hrun, hend, Or.inr ⟨T.heap.size, rfl, cls, ce, locs, hx U hWs.alike f1 (fun q hq => f2 q hq (fun z hz => nomatch hz)), hce, hO.vm, hcl, hWs, hall, hf⟩⟩
  refine st1 _ ?_
  show Steps p.tables e below (T1.setTop { method := m, pc := pc + 3, locals := ls, stack := .ref T.heap.size :: rest, locked := none }) _
  jvm_step X₁.here [X₁.here.top, hexec, d3', Value.category]
  exact X₁.ldcString hexec (own := own) (text := text) (index := is) (a := sa) hown' hstr'.1 hstr'.2
    (g := { method := m, pc := pc + 4, locals := ls, stack := .ref T.heap.size :: .ref T.heap.size :: rest, locked := none }) rfl d4' _ hsteps
/-- 'throw new E("text")', the text by a wide index -/
theorem vx_throwSW {cc : ByteArray} {pc : Nat} (hexec : p.tables.exec = Jvm.exec) (hb : c.code = cc) (hl : l.stackTraces = false) {own cls text : String} {names : List String} {ik is ic mc ms sa : Nat} {A : Nat → Prop}
    (hown : s.vm.findClass own = some m.cls) (hcls : Bundle.fit cls = true) (hnames : ∀ n ∈ names, Bundle.fit n = true)
    (hk : (Cond.classLink own ik cls).before args s = true) (hini : (Cond.initialized cls).before args s = true) (hstr : vk_R own is text sa s) (hat : ∀ w ∈ vx_atS own ic cls names, w.before args s = true)
    (hgood : ∀ w ∈ Cond.classLink own ik cls :: Cond.initialized cls :: vx_atS own ic cls names, vx_ot w = true)
    (hU : vx_Zq Bundle.tN "UNASSIGNED_STACK" Bundle.steD A s s.heap) (hN : vx_Zq Bundle.tN "SUPPRESSED_SENTINEL" Bundle.listD A s s.heap) (hS : va_S A s.heap H locs) (hsize : ls.size = c.maxLocals)
    (d0 : decode cc pc = .ok (.new ik, 3)) (d3 : decode cc (pc + 3) = .ok (.dup, 1)) (d4 : decode cc (pc + 4) = .ok (.ldc_w is, 3)) (d7 : decode cc (pc + 7) = .ok (.invokespecial ic, 3)) (d10 : decode cc (pc + 10) = .ok (.athrow, 1))
    (hout : ∀ x ∈ c.exceptionTable.toList, covers x (pc + 10) = false)
    (hRframes : names.length + 3 < R.frames) (hRlocals : (rest.map fun v => v.category).sum + (13 * (names.length + 1) + 43) ≤ R.locals) (hRcells : cells + 1 ≤ R.cells) (hRslots : slots + 6 ≤ R.slots) (hlocks : meth.locks = false)
    (hx : ∀ t : State, s.vm.Alike t.vm → H.size ≤ t.heap.size → (∀ q : Nat, q < H.size → t.heap[q]? = H[q]?) → XC cls s t)
    (hf : ∀ z ∈ locs, free z.base) (hc : cells + 1 ≤ mc) (hs : slots + 6 ≤ ms) :
    W p l e R s m args below meth c H locs cells slots (vx_MQ below Qc XC args s mc ms free) (F0 m pc ls rest) := by
  intro T hT X
  have htr : e.platform.stackTraces = false := (show e.platform.stackTraces = l.stackTraces by rw [X.admits.platform]).trans hl
  have Y := vx_rebase X (R' := { frames := R.frames, locals := R.locals, cells := 1, slots := 6 }) (Nat.le_refl _) (Nat.le_refl _) hRcells hRslots
  obtain ⟨s', hA⟩ : ∃ z, z = (T.setVm s.vm).setFrames (.invoking m args :: below) := ⟨_, rfl⟩
  rw [← hA] at Y
  have hvm : s'.vm = s.vm := by rw [hA]; rfl
  have hhp : s'.heap = H := by rw [hA]; exact hT
  have hW0 : s.WarmedH s'.vm := by rw [hvm]; exact State.WarmedH.refl s
  have hat' : ∀ w ∈ vx_atS own ic cls names, w.before args s' = true := fun w hw => vx_ot_at hW0 hvm.symm (hgood w (List.mem_cons_of_mem _ (List.mem_cons_of_mem _ hw))) (hat w hw)
  have hk' : (Cond.classLink own ik cls).before args s' = true := vx_ot_at hW0 hvm.symm (hgood _ List.mem_cons_self) hk
  have hini' : (Cond.initialized cls).before args s' = true := vx_ot_at hW0 hvm.symm (hgood _ (List.mem_cons_of_mem _ List.mem_cons_self)) hini
  have hU' : vx_Zq Bundle.tN "UNASSIGNED_STACK" Bundle.steD A s' s'.heap := by rw [hhp]; exact vx_Zq.moved hW0.alike (hU.kept hS.2.1)
  have hN' : vx_Zq Bundle.tN "SUPPRESSED_SENTINEL" Bundle.listD A s' s'.heap := by rw [hhp]; exact vx_Zq.moved hW0.alike (hN.kept hS.2.1)
  have h : ∀ w ∈ Bundle.ownAtoms own ic cls names, w.before args s' = true := vx_own hat' (vx_isRefq hU'.1) (vx_isRefq hN'.1) hU'.2.word hN'.2.word
  have hown' : s'.vm.findClass own = some m.cls := by rw [hvm]; exact hown
  have hins : (Cond.instantiable cls 6).before args s' = true := h _ (by simp [Bundle.ownAtoms])
  obtain ⟨vm₁, cX, kX, hfX, hkX, -, -, X₁, st1⟩ := Y.newCold hexec (own := own) (C := cls) (index := ik) (n := 6) hown' hk' hins hini'
    (g := F0 m pc ls rest) rfl (by rw [hb]; exact d0) (Nat.le_refl _) (Nat.le_refl _)
  generalize hT1 : (T.setVm vm₁).pushCell { cls := cX, slots := kX.instanceTypes.map defaultValue, vm := .none } = T1 at X₁ st1
  have hcat : (Value.ref T.heap.size).category = 1 := rfl
  have hcellA : T1.heap[T.heap.size]? = some (freshCell cX kX) := by rw [← hT1]; exact State.heap_pushCell_size _ _
  have d3' : decode c.code (pc + 3) = .ok (.dup, 1) := by rw [hb]; exact d3
  have d4' : decode c.code (pc + 4) = .ok (.ldc_w is, 3) := by rw [hb]; exact d4
  have hstr' : vk_R own is text sa s' := vk_R.warm hW0 hstr
  obtain ⟨U, hsteps, hrun, hend, hW, hsame, ce, hce, hO⟩ := X₁.ctorThrowS hexec htr (own := own) (cls := cls) (names := names) (ic := ic) hown' hcls hnames h (fun x hx => nomatch hx) hfX hkX hcellA (by rw [hhp, hT]; exact Nat.le_refl _) (msg := .ref sa) rfl
    (g := { method := m, pc := pc + 7, locals := ls, stack := .ref sa :: .ref T.heap.size :: .ref T.heap.size :: rest, locked := none }) rfl hsize rfl rfl (rest := rest) rfl
    (by rw [hb]; exact d7) (by rw [hb]; exact d10) hout hRframes (by simp only [List.map_cons, List.sum_cons, hcat]; omega) hlocks
  obtain ⟨f1, f2⟩ := vx_frame hsame
  rw [hhp] at f1 f2
  have hWs : s.WarmedH U.vm := State.WarmedH.trans hW0 hW
  have hcl : s.vm.findClass cls = some ce.cls := by
    have h9 := hO.cls
    rw [hvm] at h9
    exact h9
  have hall : s.sameButNew ({ U with vm := s.vm } : State) locs mc ms := by
    subst hA
    obtain ⟨e1, e2⟩ := hsame
    rw [State.setFrames_setFrames] at e1
    have h2 : (T.setVm s.vm).sameButNew ({ U with vm := s.vm } : State) [] (0 + 1) (0 + 6) := ⟨e1, e2⟩
    have h3 := X.same.trans h2
    rw [List.append_nil] at h3
    exact h3.mono hc hs
  refine ⟨U, ?_, .threw T.heap.size, hrun, hend, Or.inr ⟨T.heap.size, rfl, cls, ce, locs, hx U hWs.alike f1 (fun q hq => f2 q hq (fun z hz => nomatch hz)), hce, hO.vm, hcl, hWs, hall, hf⟩⟩
  refine st1 _ ?_
  show Steps p.tables e below (T1.setTop { method := m, pc := pc + 3, locals := ls, stack := .ref T.heap.size :: rest, locked := none }) _
  jvm_step X₁.here [X₁.here.top, hexec, d3', Value.category]
  exact X₁.ldcStringW hexec (own := own) (text := text) (index := is) (a := sa) hown' hstr'.1 hstr'.2
    (g := { method := m, pc := pc + 4, locals := ls, stack := .ref T.heap.size :: .ref T.heap.size :: rest, locked := none }) rfl d4' _ hsteps
end Ends
section Bodies
variable {l : Launch}
theorem vx_ofW {y : MethodName} {ws ws' : List Cond} {rm : Room} {Pc : Array Value → State → Prop} {Qc : Array Value → State → Outcome → State → Prop} {XC : String → State → State → Prop} {mc ms : Nat} {free : Addr → Prop} {cc : ByteArray} {maxL : Nat} {ret : Option FieldType}
    (hy : plainName y.cls = true) (hw : ws = Cond.code y cc maxL ret :: ws')
    (body : ∀ p e s m args below meth c s₁, BodyLoose p l y (headSpec ws rm) cc maxL ret e s m args below meth c s₁ → c.maxLocals = maxL → (∀ x ∈ c.exceptionTable.toList, False) → Pc args s →
      W p l e (headSpec ws rm).room s m args below meth c s.heap [] 0 0 (vx_MQ below Qc XC args s mc ms free) (entryFrame m args maxL)) : vx_Met l y ws rm Pc Qc XC mc ms free := by
  refine MetFree.of_bodyS (code := cc) (maxLocals := maxL) (ret := ret) hy ?_ ?_
  · intro args s m h hn
    obtain ⟨meth, c, h1, h2, h3, h4, h5, h6, -, -⟩ := Cond.code_spec hn (atoms_spec (ws := ws) h _ (by rw [hw]; exact List.mem_cons_self))
    exact ⟨meth, c, h1, h2, h3, h4, h5, h6⟩
  · intro p e s m args below meth c s₁ B hml hP _
    have hh0 : s₁.heap = s.heap := by rw [B.state]; rfl
    have ht : ∀ x ∈ c.exceptionTable.toList, False := by
      obtain ⟨meth9, c9, h1, h2, -, -, -, -, h7, -⟩ := Cond.code_spec B.named (atoms_spec (ws := ws) B.pre _ (by rw [hw]; exact List.mem_cons_self))
      cases Option.some.inj (h1.symm.trans B.method)
      cases Option.some.inj (h2.symm.trans (Stand.of_body B).code)
      intro x hx
      rw [Array.isEmpty_iff.mp h7] at hx
      cases hx
    obtain ⟨t, a1, o, b1, b2, b3⟩ := body p e s m args below meth c s₁ B hml ht hP s₁ hh0 (Stand.of_body B)
    exact ⟨t, o, a1, b1, b2, b3⟩
/-- the table of a body with handlers -/
theorem vx_table {p : Program} {x y : MethodName} {S : Spec} {cc bytes : ByteArray} {maxL maxL' : Nat} {ret ret' : Option FieldType} {e : Env} {s s₁ : State} {m : MethodId} {args : Array Value} {below : List Frame} {meth : Method} {c : Code} {hh : List (Nat × Nat × Nat × Nat)}
    (B : BodyLoose p l y S cc maxL ret e s m args below meth c s₁) (h : (Cond.codeWith y bytes maxL' ret' hh).before args s = true) : c.exceptionTable.toList = tableOf hh := by
  obtain ⟨m9, meth9, c9, hn9, h1, h2, -, -, h6, -⟩ := Cond.codeWith_spec h
  cases Option.some.inj (hn9.symm.trans B.named)
  cases Option.some.inj (h1.symm.trans B.method)
  cases Option.some.inj (h2.symm.trans (Stand.of_body B).code)
  rw [← h6, table_eq]
end Bodies
end VXA
/-! ===== END ===== -/
/-! ===== BEGIN a static call of a method with an exception table ===== -/
section VXS
variable {p : Program} {l : Launch} {e : Env} {R : Room} {s : State} {m : MethodId} {args : Array Value} {below : List Frame} {meth : Method} {c : Code} {T : State} {H : Heap} {locs : List Loc} {cells slots : Nat}
abbrev vx_CSW (R : Room) (s : State) (args : Array Value) (own : String) (index : Nat) (y : MethodName) (bytes : ByteArray) (maxL : Nat) (ret : Option FieldType) (hh : List (Nat × Nat × Nat × Nat)) (ws : List Cond) (rm : Room) (mc ms n : Nat) : Prop :=
  (rm.cells = mc ∧ rm.slots = ms ∧ rm.frames + 1 ≤ R.frames ∧ 8 + (maxL + 11) + rm.locals ≤ R.locals ∧ (∀ w ∈ ws, ∀ (a' : Array Value) (U : State), s.WarmedH U.vm → w.before a' U = true) ∧ Cond.codeWith y bytes maxL ret hh ∈ ws) ∧
  (Cond.codeWith y bytes maxL ret hh).before args s = true ∧ (Cond.initialized y.cls).before args s = true ∧ (y.cls ≠ "java/lang/invoke/MethodHandle" ∧ y.cls ≠ "java/lang/invoke/VarHandle") ∧
  (∀ sig, parseMethodDescriptor y.desc = some sig → n = sig.parameters.length) ∧ (Cond.methodLink own index y).before args s = true ∧ (Cond.static y).before args s = true
theorem vx_cwSW {own : String} {index maxL mc ms : Nat} {y : MethodName} {bytes : ByteArray} {ret : Option FieldType} {hh : List (Nat × Nat × Nat × Nat)} {Ts ws ws' : List Cond} {rm : Room} (n : Nat) (ht : ∀ w ∈ Ts, w.before args s = true) (hT : GoodIn Ts (va_wsS own index y ws)) (hw : ws = Cond.codeWith y bytes maxL ret hh :: ws') (hrc : rm.cells = mc) (hrs : rm.slots = ms)
    (hd : y.cls ≠ "java/lang/invoke/MethodHandle" ∧ y.cls ≠ "java/lang/invoke/VarHandle" ∧ (parseMethodDescriptor y.desc).map (fun d => d.parameters.length) = some n) (hR : rm.frames + 1 ≤ R.frames ∧ 8 + (maxL + 11) + rm.locals ≤ R.locals) :
    vx_CSW R s args own index y bytes maxL ret hh ws rm mc ms n := by
  have ok : ∀ w ∈ va_wsS own index y ws, w.before args s = true := fun w h => ht w (hT w h).1
  have hG : GoodIn Ts ws := fun w h => hT w (by unfold va_wsS; exact List.mem_append_right _ h)
  have hc : Cond.codeWith y bytes maxL ret hh ∈ ws := by rw [hw]; exact List.mem_cons_self
  refine ⟨⟨hrc, hrs, hR.1, hR.2, pay_in ht hG, hc⟩, ht _ (hG _ hc).1, ok _ (by simp [va_wsS]), ⟨hd.1, hd.2.1⟩, fun sig h => ?_, ok _ (by simp [va_wsS]), ok _ (by simp [va_wsS])⟩
  have h2 := hd.2.2
  rw [h] at h2
  exact (Option.some.inj h2).symm
theorem vx_callSW (X : Stand p l e R s m args below meth c T locs cells slots) (hexec : p.tables.exec = Jvm.exec) {own : String} {index : Nat} {y : MethodName} {bytes : ByteArray} {maxL : Nat} {ret : Option FieldType} {hh : List (Nat × Nat × Nat × Nat)}
    (hown : s.vm.findClass own = some m.cls) (hlink : (Cond.methodLink own index y).before args s = true) (hstat : (Cond.static y).before args s = true) (hinit : (Cond.initialized y.cls).before args s = true)
    (hcode : (Cond.codeWith y bytes maxL ret hh).before args s = true) (hy : y.cls ≠ "java/lang/invoke/MethodHandle" ∧ y.cls ≠ "java/lang/invoke/VarHandle")
    {W9 : Nat} {Pre : Pt → Array Value → Prop} {Post : Pt → Array Value → Option Value → Pt → Prop} (hK : Back l R p e below s args y 3 W9 Pre Post)
    {g : JFrame} (hg : g.method = m) (hsize : g.locals.size = c.maxLocals) {argsL rest : List Value} (hlen : ∀ sig, parseMethodDescriptor y.desc = some sig → argsL.length = sig.parameters.length)
    (hstack : g.stack = argsL.reverse ++ rest) (hW : 2 * g.monitorRoom + (rest.map fun v => v.category).sum ≤ W9) (hdg : decode c.code g.pc = .ok (.invokestatic index, 3))
    (hpre : ∀ vm₁, s.WarmedH vm₁ → Pre ⟨T.setVm vm₁, locs, cells, slots⟩ argsL.toArray) :
    ∃ (v : Option Value) (vm₁ : Vm) (B : Pt), s.WarmedH vm₁ ∧ Stand p l e R s m args below meth c B.U B.locs B.cells B.slots ∧ Post ⟨T.setVm vm₁, locs, cells, slots⟩ argsL.toArray v B ∧
      ∀ target, Steps p.tables e below (B.U.setTop { g with pc := g.pc + 3, stack := v.toList ++ rest }) target → Steps p.tables e below (T.setTop g) target := by
  obtain ⟨mk, methM, cM, hnamed, hmethM, -, -, -, -, -, -, hsigM⟩ := Cond.codeWith_spec hcode
  have hstatic : methM.isStatic = true := Cond.static_spec hnamed hmethM hstat
  obtain ⟨kP, hkP, -⟩ := className_of_methodNamed hnamed
  have hinitP : kP.init = .initialized := Cond.initialized_spec (findClass_of_methodNamed hnamed) hkP hinit
  obtain ⟨vm₁, X₁, hstep₁⟩ := X.invokestatic hexec hown hlink hnamed hmethM hstatic hkP hinitP hy (g := g) hg (argsL := argsL) (rest := rest) (hlen _ hsigM) hstack hdg
  obtain ⟨v, B, X', hpost, hsteps⟩ := hK m meth c ⟨T.setVm vm₁, locs, cells, slots⟩ { g with stack := rest } (.invokestatic index) mk argsL.toArray X₁ hg hsize hdg hW (X₁.named hnamed) (hpre vm₁ X₁.warmed)
  exact ⟨v, vm₁, B, X₁.warmed, X', hpost, fun target h => hstep₁ _ fun acts => by rw [doInvoke_state]; exact hsteps.trans h⟩
theorem vx_runSW {y : MethodName} {bytes cc : ByteArray} {maxL nL mc ms n index : Nat} {ret : Option FieldType} {hh : List (Nat × Nat × Nat × Nat)} {ws : List Cond} {rm : Room} {Pc : Array Value → State → Prop} {Qc : Array Value → State → Outcome → State → Prop} {free : Addr → Prop} {Ts : List Cond} {own : String} {As rest : List Value} {g : JFrame}
    (S : CallFix p m c cc nL s args Ts own) (hM : Met l y ws rm Pc Qc mc ms free) (cw : vx_CSW R s args own index y bytes maxL ret hh ws rm mc ms n) (hp : PreS s H Pc As)
    (hg : g.method = m) (hn : As.length = n) (hsize : g.locals.size = nL) (hstack : g.stack = As.reverse ++ rest) (hW : 2 * g.monitorRoom + (rest.map fun v => v.category).sum ≤ 8) (hdg : decode cc g.pc = .ok (.invokestatic index, 3)) (hf : cells + mc ≤ R.cells ∧ slots + ms ≤ R.slots) :
    va_Run p l e R s m args below meth c H locs cells slots mc ms g rest (Qc As.toArray) (free) := by
  obtain ⟨⟨hrc, hrs, hfr, hlo, hws, hcw⟩, hcode, hini, hy, hlen, hl, hstt⟩ := cw
  have hK : Back l R p e below s args y 3 8 (PreOf R mc ms Pc) (PostOf Qc mc ms free) := va_backW (hh := hh) (bytes := bytes) (maxL := maxL) (ret := ret) hM hp.1 hrc hrs hfr hlo hws hcw (fun a' U hW => word_at hW (Or.inl (by first | rfl | simp [Cond.onTables, Cond.keeps, Cond.steady])) hini)
  obtain ⟨hx, hb, hml, ho, -⟩ := S
  intro T hT X
  obtain ⟨v, vm₁, ⟨U', l2, c2, s2⟩, hW₁, X', ⟨g', mk, t, L, e1, e2, hq, h1, hL, h2, h3⟩, st⟩ := vx_callSW X hx (hh := hh) (bytes := bytes) (maxL := maxL) (ret := ret) ho hl hstt hini hcode hy hK hg (hsize.trans hml.symm) (argsL := As) (rest := rest) (fun sig h => hn.trans (hlen sig h)) hstack hW (by rw [hb]; exact hdg)
    (fun vm₁ hW₁ => ⟨hf.1, hf.2, hp.2 (T.setVm vm₁) hT hW₁⟩)
  dsimp only [Pt.U, Pt.locs, Pt.cells, Pt.slots] at X' e1 e2 h1 h2 h3 st
  subst h1; subst h2; subst h3
  exact ⟨v, (T.setVm vm₁).calling g' mk As.toArray, t, U', L, hT, X', hL, e1, e2, hq, st⟩
/-- not caught here, past rows that name other classes: it goes on to the caller -/
theorem vx_outP {p : Program} {l : Launch} {e : Env} {R : Room} {s : State} {m : MethodId} {args : Array Value} {below : List Frame} {meth : Method} {c : Code} {H : Heap} {locs : List Loc} {cells slots : Nat} {free : Addr → Prop} {ls : Array Slot} {rest : List Value} {Qc : Array Value → State → Outcome → State → Prop} {XC : String → State → State → Prop}
    {pc : Nat} {own E : String} {ce : Cell} {q : Addr} {mc ms : Nat} (hown : s.vm.findClass own = some m.cls) (hlocks : meth.locks = false)
    (hpass : ∀ z ∈ c.exceptionTable.toList, covers z pc = false ∨ (z.catchType ≠ 0 ∧ ∃ nm : String, (Cond.classLink own z.catchType nm).before args s = true ∧ va_Nc E nm s)) (hcell : H[q]? = some ce) (hv : ce.vm = .none) (hcl : s.vm.findClass E = some ce.cls)
    (hx : ∀ t : State, t.heap = H → s.vm.Alike t.vm → XC E s t) (hf : ∀ z ∈ locs, free z.base) (hc : cells ≤ mc) (hs : slots ≤ ms) :
    vx_W p l e R s m args below meth c H locs cells slots (vx_MQ below Qc XC args s mc ms free) (F0 m pc ls rest) q := by
  intro T hT X
  have hpl : e.platform.magicAccessors = ({} : Platform).magicAccessors := by rw [X.admits.platform]
  obtain ⟨vm', hW', X', st⟩ := X.outThrough hlocks q (g := F0 m pc ls rest) rfl rfl rfl (cell := ce) (by rw [hT]; exact hcell) (by rw [hv]; rfl)
    (by obtain ⟨k9, h9, -⟩ := Vm.findClass_spec hcl; exact ⟨k9, h9⟩) (fun z hz => by
      rcases hpass z hz with h | ⟨hz0, nm, hl1, hn1⟩
      · exact Or.inl h
      · obtain ⟨c6, hc6, hcl6⟩ := Cond.classLink_spec hown hl1 e.platform hpl
        obtain ⟨a8, b8, h1, h2, h3⟩ := hn1
        cases Option.some.inj (h1.symm.trans hcl)
        cases Option.some.inj (h2.symm.trans hc6)
        exact Or.inr ⟨hz0, _, hcl6, h3⟩)
  obtain ⟨g₀, hfr⟩ := X'.frames_eq
  have hcell9 : ((T.setVm vm').setFrames (.throwing q :: below)).heap[q]? = some ce := by
    show T.heap[q]? = some ce
    rw [hT]; exact hcell
  have hend : Ended ((T.setVm vm').setFrames (.throwing q :: below)) below (.threw q) := State.frames_setFrames _ (State.cur_lt_of_frames hfr)
  refine ⟨(T.setVm vm').setFrames (.throwing q :: below), ?_, .threw q, X'.here.running, hend, Or.inr ⟨q, rfl, E, ce, locs, hx _ hT (X'.ends _).1.alike, hcell9, hv, hcl, (X'.ends _).1, (X'.ends _).2.mono hc hs, hf⟩⟩
  rw [X.pushThrowing_eq]
  exact st
/-- a thing of a world lies in the heap -/
theorem vx_lt {D : va_G} {cl : List vw_C} {ws : va_W} {H1 : Heap} (h : va_P D cl ws H1) {k : Nat} {q : Nat × va_E} (hk : ws[k]? = some q) : q.1 < H1.size := (h k q hk).lt
end VXS
/-! ===== END ===== -/
/-! ===== BEGIN methods with a table of their own: called by a name, returning or throwing ===== -/
section VXH
/-! vx_backW, vx_callVX, vx_callSX, vx_callVW, vx_runVW, vx_runVX, vx_runSX, vx_ofWH follow the same proofs as their sisters above (Free/Laws.lean, Shelf42/LK1.lean); vx_outP calls Shelf42/NT130.lean (outThrough). -/
section
variable {l : Launch} {R : Room} {p : Program} {e : Env} {below : List Frame} {s : State} {sargs : Array Value} {y : MethodName} {len W9 : Nat}
theorem vx_backW {ws : List Cond} {rm : Room} {Pc : Array Value → State → Prop} {Qc : Array Value → State → Outcome → State → Prop} {XC : String → State → State → Prop} {mc ms : Nat} {free : Addr → Prop} {bytes : ByteArray} {maxL : Nat} {ret : Option FieldType} {hh : List (Nat × Nat × Nat × Nat)}
    (hM : vx_Met l y ws rm Pc Qc XC mc ms free) (hblind : FrameBlind Pc) (hrc : rm.cells = mc) (hrs : rm.slots = ms)
    (hframes : rm.frames + 1 ≤ R.frames) (hlocals : W9 + (maxL + 11) + rm.locals ≤ R.locals)
    (hws : ∀ w ∈ ws, ∀ a' U, s.WarmedH U.vm → w.before a' U = true) (hcode : Cond.codeWith y bytes maxL ret hh ∈ ws) (hinit : ∀ a' U, s.WarmedH U.vm → (Cond.initialized y.cls).before a' U = true) :
    vx_Back l R p e below s sargs y len W9 (PreOf R mc ms Pc) (PostOf Qc mc ms free) (vx_Post XC mc ms free) := by
  intro m meth c A g ig mk a X hg hsize hdg hW hn hp
  have h1 : (headSpec ws rm).pre.before a A.U = true := atoms_intro fun w hw => hws w hw _ _ X.warmed
  have h2 : (Cond.codeWith y bytes maxL ret hh).before a A.U = true := hws _ hcode _ _ X.warmed
  have h3 : (Cond.initialized y.cls).before a A.U = true := hinit _ _ X.warmed
  have h4 : A.cells + (headSpec ws rm).room.cells ≤ R.cells := by rw [show (headSpec ws rm).room.cells = mc from hrc]; exact hp.1
  have h5 : A.slots + (headSpec ws rm).room.slots ≤ R.slots := by rw [show (headSpec ws rm).room.slots = ms from hrs]; exact hp.2.1
  have hPc : Pc a (A.U.calling g mk a) := hblind _ _ _ _ hp.2.2
  obtain ⟨U, Ls, c0, s0⟩ := A
  dsimp only [Pt.U, Pt.locs, Pt.cells, Pt.slots] at h1 h2 h3 h4 h5 X hn hPc ⊢
  obtain ⟨m9, methY, cY, hn9, hmY, hcY, -, hlY, -⟩ := Cond.codeWith_spec h2
  cases Option.some.inj (hn9.symm.trans hn)
  obtain ⟨kY, hkY, -⟩ := className_of_methodNamed hn
  have hinitY : kY.init = .initialized := Cond.initialized_spec (findClass_of_methodNamed hn) hkY h3
  have h : At U g.method c below := by rw [hg]; exact X.here
  have hlocals9 : W9 + (maxL + 11) + (headSpec ws rm).room.locals ≤ R.locals := hlocals
  have happ : (headSpec ws rm).appliesLoose y e.platform (U.calling g mk a) = true :=
    Spec.appliesLoose_calling (g := g) h hdg hn hkY hinitY
      (X.room_calling (g := g) (R' := (headSpec ws rm).room) hsize hmY hcY hframes (by rw [hlY]; omega) h4 h5) h1
  obtain ⟨mid, hmid⟩ := h.above
  have hfr : (U.setTop g).frames = (.java g :: mid) ++ below := by rw [State.frames_setTop' g h.top, hmid]; rfl
  obtain ⟨o, s₂, hsteps, -, hend, hq⟩ := Steps.callFree hM p X.admits X.cas X.clock (acts := []) hfr happ hPc trivial
  have hq' : vx_Q Qc XC mc ms free a (U.calling g mk a) o s₂ := hq
  rw [State.frames_setTop' g h.top] at hend
  obtain ⟨g₀, hg0⟩ := Option.isSome_iff_exists.mp h.top
  obtain ⟨r, hr⟩ := State.topJava?_eq_some.mp hg0
  have hr' : (({ U with heap := s₂.heap, slotsUsed := s₂.slotsUsed } : State).setVm s₂.vm).frames = .java g₀ :: r := hr
  rcases hq' with ⟨hqc, L, hfe, hL⟩ | ⟨q, rfl, E, ce, L, hx, hce, hcv, hcl, hW₂, hsm, hL⟩
  · obtain ⟨⟨v, rfl⟩, hW₂, e2, q2, q3, q4, q5, q6⟩ := id hfe
    have e3 : s₂ = ({ (U.calling g mk a).setFrames s₂.frames with heap := s₂.heap, slotsUsed := s₂.slotsUsed } : State).setVm s₂.vm := by
      have : s₂ = ({ s₂ with vm := (U.calling g mk a).vm } : State).setVm s₂.vm := rfl
      rw [e2] at this
      exact this
    obtain ⟨c₂, i₂, len₂, hc₂, hd₂, hf₂⟩ := hend
    have hW' : U.WarmedH s₂.vm := hW₂
    have hcc : c₂ = c := by
      have h1 : s₂.code? g.method = U.code? g.method := by
        rw [State.code?_eq, State.code?_eq, hW'.alike.method?]
      exact Option.some.inj (hc₂.symm.trans (h1.trans h.code))
    subst hcc
    have hlen : len₂ = len := by rw [hdg] at hd₂; cases hd₂; rfl
    subst hlen
    have hs₂ : s₂ = (({ U with heap := s₂.heap, slotsUsed := s₂.slotsUsed } : State).setVm s₂.vm).setTop { g with pc := g.pc + len₂, stack := v.toList ++ g.stack } := by
      refine e3.trans ?_
      rw [hf₂, State.calling_eq h.top, State.setFrames_setFrames, State.setTop_of_frames _ hr', hr]
      rfl
    have hsame : U.sameButNew ({ U with heap := s₂.heap, slotsUsed := s₂.slotsUsed } : State) L mc ms := by
      refine ⟨?_, q2, q3, q4, q5, q6⟩
      obtain ⟨t, ht, -⟩ := State.frames_cons hr
      show ({ U with heap := s₂.heap, slotsUsed := s₂.slotsUsed } : State) = { U.setFrames U.frames with heap := s₂.heap, slotsUsed := s₂.slotsUsed }
      rw [State.setFrames_self ht]
    subst hg
    refine Or.inl ⟨v, ⟨(({ U with heap := s₂.heap, slotsUsed := s₂.slotsUsed } : State).setVm s₂.vm), Ls ++ L, c0 + mc, s0 + ms⟩,
      ⟨X.admits, X.cas, X.clock, X.frames, X.room, X.hears, X.method, X.code, (X.here.setHeapUsed s₂.heap s₂.slotsUsed).setVm hW'.alike, X.tail, State.WarmedH.trans X.warmed hW', X.limits, X.bytes, X.same.trans (hsame.setVm s.vm)⟩,
      ⟨g, mk, s₂, L, rfl, rfl, hqc, rfl, hL, rfl, rfl⟩, ?_⟩
    show Steps p.tables e below _ ((({ U with heap := s₂.heap, slotsUsed := s₂.slotsUsed } : State).setVm s₂.vm).setTop { g with pc := g.pc + len₂, stack := v.toList ++ g.stack })
    rw [← hs₂]
    exact hsteps
  · obtain ⟨e2, q2, q3, q4, q5, q6⟩ := id hsm
    have e3 : s₂ = ({ (U.calling g mk a).setFrames s₂.frames with heap := s₂.heap, slotsUsed := s₂.slotsUsed } : State).setVm s₂.vm := by
      have : s₂ = ({ s₂ with vm := (U.calling g mk a).vm } : State).setVm s₂.vm := rfl
      rw [e2] at this
      exact this
    have hf₂ : s₂.frames = .throwing q :: .java g :: U.frames.tail := hend
    have hW' : U.WarmedH s₂.vm := hW₂
    have hs₂ : s₂ = ((({ U with heap := s₂.heap, slotsUsed := s₂.slotsUsed } : State).setVm s₂.vm).setTop g).pushFrame (.throwing q) := by
      refine e3.trans ?_
      rw [hf₂, State.calling_eq h.top, State.setFrames_setFrames, State.pushFrame, State.frames_setTop _ hr', State.setTop_of_frames _ hr', State.setFrames_setFrames, hr]
      rfl
    have hsame : U.sameButNew ({ U with heap := s₂.heap, slotsUsed := s₂.slotsUsed } : State) L mc ms := by
      refine ⟨?_, q2, q3, q4, q5, q6⟩
      obtain ⟨t, ht, -⟩ := State.frames_cons hr
      show ({ U with heap := s₂.heap, slotsUsed := s₂.slotsUsed } : State) = { U.setFrames U.frames with heap := s₂.heap, slotsUsed := s₂.slotsUsed }
      rw [State.setFrames_self ht]
    subst hg
    refine Or.inr ⟨q, ⟨(({ U with heap := s₂.heap, slotsUsed := s₂.slotsUsed } : State).setVm s₂.vm), Ls ++ L, c0 + mc, s0 + ms⟩,
      ⟨X.admits, X.cas, X.clock, X.frames, X.room, X.hears, X.method, X.code, (X.here.setHeapUsed s₂.heap s₂.slotsUsed).setVm hW'.alike, X.tail, State.WarmedH.trans X.warmed hW', X.limits, X.bytes, X.same.trans (hsame.setVm s.vm)⟩,
      ⟨g, mk, s₂, L, E, ce, rfl, rfl, hx, hce, hcv, hcl, rfl, hL, rfl, rfl⟩, ?_⟩
    show Steps p.tables e below _ (((({ U with heap := s₂.heap, slotsUsed := s₂.slotsUsed } : State).setVm s₂.vm).setTop g).pushFrame (.throwing q))
    rw [← hs₂]
    exact hsteps
end
variable {p : Program} {l : Launch} {e : Env} {R : Room} {s : State} {m : MethodId} {args : Array Value} {below : List Frame} {meth : Method} {c : Code} {T : State} {H : Heap} {locs : List Loc} {cells slots : Nat}
theorem vx_callVX (X : Stand p l e R s m args below meth c T locs cells slots) (hexec : p.tables.exec = Jvm.exec) {own C : String} {index : Nat} {y : MethodName} {bytes : ByteArray} {maxL : Nat} {ret : Option FieldType} {hh : List (Nat × Nat × Nat × Nat)}
    (hown : s.vm.findClass own = some m.cls) (hlink : (Cond.methodLink own index y).before args s = true) (hinst : (Cond.instanceMethod y).before args s = true) (hsel : (Cond.selects C y y).before args s = true)
    (hcode : (Cond.codeWith y bytes maxL ret hh).before args s = true) (hy : y.cls ≠ "java/lang/invoke/MethodHandle" ∧ y.cls ≠ "java/lang/invoke/VarHandle")
    {W9 : Nat} {Pre : Pt → Array Value → Prop} {Post : Pt → Array Value → Option Value → Pt → Prop} {PostX : Pt → Array Value → Addr → Pt → Prop} (hK : vx_Back l R p e below s args y 3 W9 Pre Post PostX)
    {b : Addr} {cellB : Cell} (hcell : T.heap[b]? = some cellB) (hobj : cellB.vm.isStatics = false) (hcls : s.vm.findClass C = some cellB.cls)
    {g : JFrame} (hg : g.method = m) (hsize : g.locals.size = c.maxLocals) {argsL rest : List Value} (hlen : ∀ sig, parseMethodDescriptor y.desc = some sig → argsL.length = sig.parameters.length)
    (hstack : g.stack = argsL.reverse ++ .ref b :: rest) (hW : 2 * g.monitorRoom + (rest.map fun v => v.category).sum ≤ W9) (hdg : decode c.code g.pc = .ok (.invokevirtual index, 3))
    (hpre : ∀ vm₁, s.WarmedH vm₁ → Pre ⟨T.setVm vm₁, locs, cells, slots⟩ (Value.ref b :: argsL).toArray) :
    (∃ (v : Option Value) (vm₁ : Vm) (B : Pt), s.WarmedH vm₁ ∧ Stand p l e R s m args below meth c B.U B.locs B.cells B.slots ∧ Post ⟨T.setVm vm₁, locs, cells, slots⟩ (Value.ref b :: argsL).toArray v B ∧
      ∀ target, Steps p.tables e below (B.U.setTop { g with pc := g.pc + 3, stack := v.toList ++ rest }) target → Steps p.tables e below (T.setTop g) target) ∨
    (∃ (q : Addr) (vm₁ : Vm) (B : Pt), s.WarmedH vm₁ ∧ Stand p l e R s m args below meth c B.U B.locs B.cells B.slots ∧ PostX ⟨T.setVm vm₁, locs, cells, slots⟩ (Value.ref b :: argsL).toArray q B ∧
      Steps p.tables e below (T.setTop g) ((B.U.setTop { g with stack := rest }).pushFrame (.throwing q))) := by
  obtain ⟨mk, methM, hnamed, hmethM, hstM, habM⟩ := Cond.instanceMethod_spec hinst
  obtain ⟨m8, methM', cM, hn8, hmethM', -, -, -, -, -, -, hsigM⟩ := Cond.codeWith_spec hcode
  cases Option.some.inj (hn8.symm.trans hnamed)
  cases hmethM.symm.trans hmethM'
  obtain ⟨c2, r2, m2, q1, q2, q3, q4, kP, hkP, hkPi⟩ := Cond.selects_spec hsel
  cases hcls.symm.trans q1
  cases (State.methodFound?_of_named hnamed hy).symm.trans q2
  cases hnamed.symm.trans q3
  have hselP : selectMethod e.platform s.vm cellB.cls mk = .method mk := by rw [Launch.admits_selectMethod X.admits]; exact q4
  obtain ⟨vm₁, X₁, hstep₁⟩ := X.invokevirtual hexec hown hlink hnamed hmethM hstM hkP hkPi hy (a := b) (cell := cellB) hcell
    (fun z h => by rw [h] at hobj; cases hobj) hselP hmethM habM hkP hkPi (g := g) hg (argsL := argsL) (rest := rest) (hlen _ hsigM) hstack hdg
  rcases hK m meth c ⟨T.setVm vm₁, locs, cells, slots⟩ { g with stack := rest } (.invokevirtual index) mk (Value.ref b :: argsL).toArray X₁ hg hsize hdg hW (X₁.named hnamed) (hpre vm₁ X₁.warmed) with ⟨v, B, X', hpost, hsteps⟩ | ⟨q, B, X', hpost, hsteps⟩
  · exact Or.inl ⟨v, vm₁, B, X₁.warmed, X', hpost, fun target h => hstep₁ _ fun acts => by rw [doInvoke_state]; exact hsteps.trans h⟩
  · exact Or.inr ⟨q, vm₁, B, X₁.warmed, X', hpost, hstep₁ _ fun acts => by rw [doInvoke_state]; exact hsteps⟩
theorem vx_callSX (X : Stand p l e R s m args below meth c T locs cells slots) (hexec : p.tables.exec = Jvm.exec) {own : String} {index : Nat} {y : MethodName} {bytes : ByteArray} {maxL : Nat} {ret : Option FieldType} {hh : List (Nat × Nat × Nat × Nat)}
    (hown : s.vm.findClass own = some m.cls) (hlink : (Cond.methodLink own index y).before args s = true) (hstat : (Cond.static y).before args s = true) (hinit : (Cond.initialized y.cls).before args s = true)
    (hcode : (Cond.codeWith y bytes maxL ret hh).before args s = true) (hy : y.cls ≠ "java/lang/invoke/MethodHandle" ∧ y.cls ≠ "java/lang/invoke/VarHandle")
    {W9 : Nat} {Pre : Pt → Array Value → Prop} {Post : Pt → Array Value → Option Value → Pt → Prop} {PostX : Pt → Array Value → Addr → Pt → Prop} (hK : vx_Back l R p e below s args y 3 W9 Pre Post PostX)
    {g : JFrame} (hg : g.method = m) (hsize : g.locals.size = c.maxLocals) {argsL rest : List Value} (hlen : ∀ sig, parseMethodDescriptor y.desc = some sig → argsL.length = sig.parameters.length)
    (hstack : g.stack = argsL.reverse ++ rest) (hW : 2 * g.monitorRoom + (rest.map fun v => v.category).sum ≤ W9) (hdg : decode c.code g.pc = .ok (.invokestatic index, 3))
    (hpre : ∀ vm₁, s.WarmedH vm₁ → Pre ⟨T.setVm vm₁, locs, cells, slots⟩ argsL.toArray) :
    (∃ (v : Option Value) (vm₁ : Vm) (B : Pt), s.WarmedH vm₁ ∧ Stand p l e R s m args below meth c B.U B.locs B.cells B.slots ∧ Post ⟨T.setVm vm₁, locs, cells, slots⟩ argsL.toArray v B ∧
      ∀ target, Steps p.tables e below (B.U.setTop { g with pc := g.pc + 3, stack := v.toList ++ rest }) target → Steps p.tables e below (T.setTop g) target) ∨
    (∃ (q : Addr) (vm₁ : Vm) (B : Pt), s.WarmedH vm₁ ∧ Stand p l e R s m args below meth c B.U B.locs B.cells B.slots ∧ PostX ⟨T.setVm vm₁, locs, cells, slots⟩ argsL.toArray q B ∧
      Steps p.tables e below (T.setTop g) ((B.U.setTop { g with stack := rest }).pushFrame (.throwing q))) := by
  obtain ⟨mk, methM, cM, hnamed, hmethM, -, -, -, -, -, -, hsigM⟩ := Cond.codeWith_spec hcode
  have hstatic : methM.isStatic = true := Cond.static_spec hnamed hmethM hstat
  obtain ⟨kP, hkP, -⟩ := className_of_methodNamed hnamed
  have hinitP : kP.init = .initialized := Cond.initialized_spec (findClass_of_methodNamed hnamed) hkP hinit
  obtain ⟨vm₁, X₁, hstep₁⟩ := X.invokestatic hexec hown hlink hnamed hmethM hstatic hkP hinitP hy (g := g) hg (argsL := argsL) (rest := rest) (hlen _ hsigM) hstack hdg
  rcases hK m meth c ⟨T.setVm vm₁, locs, cells, slots⟩ { g with stack := rest } (.invokestatic index) mk argsL.toArray X₁ hg hsize hdg hW (X₁.named hnamed) (hpre vm₁ X₁.warmed) with ⟨v, B, X', hpost, hsteps⟩ | ⟨q, B, X', hpost, hsteps⟩
  · exact Or.inl ⟨v, vm₁, B, X₁.warmed, X', hpost, fun target h => hstep₁ _ fun acts => by rw [doInvoke_state]; exact hsteps.trans h⟩
  · exact Or.inr ⟨q, vm₁, B, X₁.warmed, X', hpost, hstep₁ _ fun acts => by rw [doInvoke_state]; exact hsteps⟩
theorem vx_callVW (X : Stand p l e R s m args below meth c T locs cells slots) (hexec : p.tables.exec = Jvm.exec) {own C : String} {index : Nat} {y : MethodName} {bytes : ByteArray} {maxL : Nat} {ret : Option FieldType} {hh : List (Nat × Nat × Nat × Nat)}
    (hown : s.vm.findClass own = some m.cls) (hlink : (Cond.methodLink own index y).before args s = true) (hinst : (Cond.instanceMethod y).before args s = true) (hsel : (Cond.selects C y y).before args s = true)
    (hcode : (Cond.codeWith y bytes maxL ret hh).before args s = true) (hy : y.cls ≠ "java/lang/invoke/MethodHandle" ∧ y.cls ≠ "java/lang/invoke/VarHandle")
    {W9 : Nat} {Pre : Pt → Array Value → Prop} {Post : Pt → Array Value → Option Value → Pt → Prop} (hK : Back l R p e below s args y 3 W9 Pre Post)
    {b : Addr} {cellB : Cell} (hcell : T.heap[b]? = some cellB) (hobj : cellB.vm.isStatics = false) (hcls : s.vm.findClass C = some cellB.cls)
    {g : JFrame} (hg : g.method = m) (hsize : g.locals.size = c.maxLocals) {argsL rest : List Value} (hlen : ∀ sig, parseMethodDescriptor y.desc = some sig → argsL.length = sig.parameters.length)
    (hstack : g.stack = argsL.reverse ++ .ref b :: rest) (hW : 2 * g.monitorRoom + (rest.map fun v => v.category).sum ≤ W9) (hdg : decode c.code g.pc = .ok (.invokevirtual index, 3))
    (hpre : ∀ vm₁, s.WarmedH vm₁ → Pre ⟨T.setVm vm₁, locs, cells, slots⟩ (Value.ref b :: argsL).toArray) :
    ∃ (v : Option Value) (vm₁ : Vm) (B : Pt), s.WarmedH vm₁ ∧ Stand p l e R s m args below meth c B.U B.locs B.cells B.slots ∧ Post ⟨T.setVm vm₁, locs, cells, slots⟩ (Value.ref b :: argsL).toArray v B ∧
      ∀ target, Steps p.tables e below (B.U.setTop { g with pc := g.pc + 3, stack := v.toList ++ rest }) target → Steps p.tables e below (T.setTop g) target := by
  obtain ⟨mk, methM, hnamed, hmethM, hstM, habM⟩ := Cond.instanceMethod_spec hinst
  obtain ⟨m8, methM', cM, hn8, hmethM', -, -, -, -, -, -, hsigM⟩ := Cond.codeWith_spec hcode
  cases Option.some.inj (hn8.symm.trans hnamed)
  cases hmethM.symm.trans hmethM'
  obtain ⟨c2, r2, m2, q1, q2, q3, q4, kP, hkP, hkPi⟩ := Cond.selects_spec hsel
  cases hcls.symm.trans q1
  cases (State.methodFound?_of_named hnamed hy).symm.trans q2
  cases hnamed.symm.trans q3
  have hselP : selectMethod e.platform s.vm cellB.cls mk = .method mk := by rw [Launch.admits_selectMethod X.admits]; exact q4
  obtain ⟨vm₁, X₁, hstep₁⟩ := X.invokevirtual hexec hown hlink hnamed hmethM hstM hkP hkPi hy (a := b) (cell := cellB) hcell
    (fun z h => by rw [h] at hobj; cases hobj) hselP hmethM habM hkP hkPi (g := g) hg (argsL := argsL) (rest := rest) (hlen _ hsigM) hstack hdg
  obtain ⟨v, B, X', hpost, hsteps⟩ := hK m meth c ⟨T.setVm vm₁, locs, cells, slots⟩ { g with stack := rest } (.invokevirtual index) mk (Value.ref b :: argsL).toArray X₁ hg hsize hdg hW (X₁.named hnamed) (hpre vm₁ X₁.warmed)
  exact ⟨v, vm₁, B, X₁.warmed, X', hpost, fun target h => hstep₁ _ fun acts => by rw [doInvoke_state]; exact hsteps.trans h⟩
abbrev vx_CVW (R : Room) (s : State) (args : Array Value) (own C : String) (index : Nat) (y : MethodName) (bytes : ByteArray) (maxL : Nat) (ret : Option FieldType) (hh : List (Nat × Nat × Nat × Nat)) (ws : List Cond) (rm : Room) (mc ms n : Nat) : Prop :=
  (rm.cells = mc ∧ rm.slots = ms ∧ rm.frames + 1 ≤ R.frames ∧ 8 + (maxL + 11) + rm.locals ≤ R.locals ∧ (∀ w ∈ ws, ∀ (a' : Array Value) (U : State), s.WarmedH U.vm → w.before a' U = true) ∧ Cond.codeWith y bytes maxL ret hh ∈ ws) ∧
  (Cond.codeWith y bytes maxL ret hh).before args s = true ∧ (Cond.initialized y.cls).before args s = true ∧ (y.cls ≠ "java/lang/invoke/MethodHandle" ∧ y.cls ≠ "java/lang/invoke/VarHandle") ∧
  (∀ sig, parseMethodDescriptor y.desc = some sig → n = sig.parameters.length) ∧ (Cond.methodLink own index y).before args s = true ∧ (Cond.instanceMethod y).before args s = true ∧ (Cond.selects C y y).before args s = true
theorem vx_cwVW {own C : String} {index maxL mc ms : Nat} {y : MethodName} {bytes : ByteArray} {ret : Option FieldType} {hh : List (Nat × Nat × Nat × Nat)} {Ts ws ws' : List Cond} {rm : Room} (n : Nat) (ht : ∀ w ∈ Ts, w.before args s = true) (hT : GoodIn Ts (wsV own index C y ws)) (hw : ws = Cond.codeWith y bytes maxL ret hh :: ws') (hrc : rm.cells = mc) (hrs : rm.slots = ms)
    (hd : y.cls = C ∧ y.cls ≠ "java/lang/invoke/MethodHandle" ∧ y.cls ≠ "java/lang/invoke/VarHandle" ∧ (parseMethodDescriptor y.desc).map (fun d => d.parameters.length) = some n) (hR : rm.frames + 1 ≤ R.frames ∧ 8 + (maxL + 11) + rm.locals ≤ R.locals) :
    vx_CVW R s args own C index y bytes maxL ret hh ws rm mc ms n := by
  obtain ⟨hC, hd⟩ := hd
  subst hC
  have ok : ∀ w ∈ wsV own index y.cls y ws, w.before args s = true := fun w h => ht w (hT w h).1
  have hG : GoodIn Ts ws := fun w h => hT w (by unfold wsV; exact List.mem_append_right _ h)
  have hc : Cond.codeWith y bytes maxL ret hh ∈ ws := by rw [hw]; exact List.mem_cons_self
  refine ⟨⟨hrc, hrs, hR.1, hR.2, pay_in ht hG, hc⟩, ht _ (hG _ hc).1, ok _ (by simp [wsV]), ⟨hd.1, hd.2.1⟩, fun sig h => ?_, ok _ (by simp [wsV]), ok _ (by simp [wsV]), ok _ (by simp [wsV])⟩
  have h2 := hd.2.2
  rw [h] at h2
  exact (Option.some.inj h2).symm
theorem vx_runVW {y : MethodName} {bytes cc : ByteArray} {maxL nL mc ms n index : Nat} {ret : Option FieldType} {hh : List (Nat × Nat × Nat × Nat)} {ws : List Cond} {rm : Room} {Pc : Array Value → State → Prop} {Qc : Array Value → State → Outcome → State → Prop} {free : Addr → Prop} {Ts : List Cond} {own C : String} {b : Addr} {As rest : List Value} {g : JFrame}
    (S : CallFix p m c cc nL s args Ts own) (hM : Met l y ws rm Pc Qc mc ms free) (cw : vx_CVW R s args own C index y bytes maxL ret hh ws rm mc ms n) (hp : PreV s H C b Pc As)
    (hg : g.method = m) (hn : As.length = n) (hsize : g.locals.size = nL) (hstack : g.stack = As.reverse ++ .ref b :: rest) (hW : 2 * g.monitorRoom + (rest.map fun v => v.category).sum ≤ 8) (hdg : decode cc g.pc = .ok (.invokevirtual index, 3)) (hf : cells + mc ≤ R.cells ∧ slots + ms ≤ R.slots) :
    va_Run p l e R s m args below meth c H locs cells slots mc ms g rest (Qc (Value.ref b :: As).toArray) free := by
  obtain ⟨⟨hrc, hrs, hfr, hlo, hws, hcw⟩, hcode, hini, hy, hlen, hl, hin, hse⟩ := cw
  have hK : Back l R p e below s args y 3 8 (PreOf R mc ms Pc) (PostOf Qc mc ms free) := va_backW (hh := hh) (bytes := bytes) (maxL := maxL) (ret := ret) hM hp.1 hrc hrs hfr hlo hws hcw (fun a' U hW => word_at hW (Or.inl (by first | rfl | simp [Cond.onTables, Cond.keeps, Cond.steady])) hini)
  obtain ⟨hx, hb, hml, ho, -⟩ := S
  obtain ⟨-, ⟨cellB, hcB, hoB, hclB⟩, hPc⟩ := hp
  intro T hT X
  obtain ⟨v, vm₁, ⟨U', l2, c2, s2⟩, hW₁, X', ⟨g', mk, t, L, e1, e2, hq, h1, hL, h2, h3⟩, st⟩ := vx_callVW X hx (C := C) (hh := hh) (bytes := bytes) (maxL := maxL) (ret := ret) ho hl hin hse hcode hy hK (by rw [hT]; exact hcB) hoB hclB hg (hsize.trans hml.symm) (argsL := As) (rest := rest) (fun sig h => hn.trans (hlen sig h)) hstack hW (by rw [hb]; exact hdg)
    (fun vm₁ hW₁ => ⟨hf.1, hf.2, hPc (T.setVm vm₁) hT hW₁⟩)
  dsimp only [Pt.U, Pt.locs, Pt.cells, Pt.slots] at X' e1 e2 h1 h2 h3 st
  subst h1; subst h2; subst h3
  exact ⟨v, (T.setVm vm₁).calling g' mk (Value.ref b :: As).toArray, t, U', L, hT, X', hL, e1, e2, hq, st⟩
section
variable {y : MethodName} {bytes cc : ByteArray} {maxL nL mc ms n index : Nat} {ret : Option FieldType} {ws : List Cond} {rm : Room} {Pc : Array Value → State → Prop} {Qc : Array Value → State → Outcome → State → Prop} {XC : String → State → State → Prop} {free : Addr → Prop} {Ts : List Cond} {own C : String} {b : Addr} {As rest : List Value} {g : JFrame}
theorem vx_runVX {hh : List (Nat × Nat × Nat × Nat)} (S : CallFix p m c cc nL s args Ts own) (hM : vx_Met l y ws rm Pc Qc XC mc ms free) (cw : vx_CVW R s args own C index y bytes maxL ret hh ws rm mc ms n) (hp : PreV s H C b Pc As)
    (hg : g.method = m) (hn : As.length = n) (hsize : g.locals.size = nL) (hstack : g.stack = As.reverse ++ .ref b :: rest) (hW : 2 * g.monitorRoom + (rest.map fun v => v.category).sum ≤ 8) (hdg : decode cc g.pc = .ok (.invokevirtual index, 3)) (hf : cells + mc ≤ R.cells ∧ slots + ms ≤ R.slots) :
    vx_Run p l e R s m args below meth c H locs cells slots mc ms g rest (Qc (Value.ref b :: As).toArray) XC free := by
  obtain ⟨⟨hrc, hrs, hfr, hlo, hws, hcw⟩, hcode, hini, hy, hlen, hl, hin, hse⟩ := cw
  have hK : vx_Back l R p e below s args y 3 8 (PreOf R mc ms Pc) (PostOf Qc mc ms free) (vx_Post XC mc ms free) := vx_backW (hh := hh) (bytes := bytes) (maxL := maxL) (ret := ret) hM hp.1 hrc hrs hfr hlo hws hcw (fun a' U hW => word_at hW (Or.inl (by first | rfl | simp [Cond.onTables, Cond.keeps, Cond.steady])) hini)
  obtain ⟨hx, hb, hml, ho, -⟩ := S
  obtain ⟨-, ⟨cellB, hcB, hoB, hclB⟩, hPc⟩ := hp
  intro T hT X
  rcases vx_callVX X hx (C := C) (hh := hh) (bytes := bytes) (maxL := maxL) (ret := ret) ho hl hin hse hcode hy hK (by rw [hT]; exact hcB) hoB hclB hg (hsize.trans hml.symm) (argsL := As) (rest := rest) (fun sig h => hn.trans (hlen sig h)) hstack hW (by rw [hb]; exact hdg)
    (fun vm₁ hW₁ => ⟨hf.1, hf.2, hPc (T.setVm vm₁) hT hW₁⟩) with ⟨v, vm₁, ⟨U', l2, c2, s2⟩, hW₁, X', ⟨g', mk, t, L, e1, e2, hq, h1, hL, h2, h3⟩, st⟩ | ⟨q, vm₁, ⟨U', l2, c2, s2⟩, hW₁, X', ⟨g', mk, t, L, E, ce, e1, e2, hq, hce, hcv, hcl, h1, hL, h2, h3⟩, st⟩
  · dsimp only [Pt.U, Pt.locs, Pt.cells, Pt.slots] at X' e1 e2 h1 h2 h3 st
    subst h1; subst h2; subst h3
    exact Or.inl ⟨v, (T.setVm vm₁).calling g' mk (Value.ref b :: As).toArray, t, U', L, hT, X', hL, e1, e2, hq, st⟩
  · dsimp only [Pt.U, Pt.locs, Pt.cells, Pt.slots] at X' e1 e2 h1 h2 h3 st hcl
    subst h1; subst h2; subst h3
    exact Or.inr ⟨q, (T.setVm vm₁).calling g' mk (Value.ref b :: As).toArray, t, U', L, E, ce, hT, X', hL, e1, e2, hq, hce, hcv, vx_cls hW₁ hcl, st⟩
theorem vx_runSX {hh : List (Nat × Nat × Nat × Nat)} (S : CallFix p m c cc nL s args Ts own) (hM : vx_Met l y ws rm Pc Qc XC mc ms free) (cw : vx_CSW R s args own index y bytes maxL ret hh ws rm mc ms n) (hp : PreS s H Pc As)
    (hg : g.method = m) (hn : As.length = n) (hsize : g.locals.size = nL) (hstack : g.stack = As.reverse ++ rest) (hW : 2 * g.monitorRoom + (rest.map fun v => v.category).sum ≤ 8) (hdg : decode cc g.pc = .ok (.invokestatic index, 3)) (hf : cells + mc ≤ R.cells ∧ slots + ms ≤ R.slots) :
    vx_Run p l e R s m args below meth c H locs cells slots mc ms g rest (Qc As.toArray) XC free := by
  obtain ⟨⟨hrc, hrs, hfr, hlo, hws, hcw⟩, hcode, hini, hy, hlen, hl, hstt⟩ := cw
  have hK : vx_Back l R p e below s args y 3 8 (PreOf R mc ms Pc) (PostOf Qc mc ms free) (vx_Post XC mc ms free) := vx_backW (hh := hh) (bytes := bytes) (maxL := maxL) (ret := ret) hM hp.1 hrc hrs hfr hlo hws hcw (fun a' U hW => word_at hW (Or.inl (by first | rfl | simp [Cond.onTables, Cond.keeps, Cond.steady])) hini)
  obtain ⟨hx, hb, hml, ho, -⟩ := S
  intro T hT X
  rcases vx_callSX X hx (hh := hh) (bytes := bytes) (maxL := maxL) (ret := ret) ho hl hstt hini hcode hy hK hg (hsize.trans hml.symm) (argsL := As) (rest := rest) (fun sig h => hn.trans (hlen sig h)) hstack hW (by rw [hb]; exact hdg)
    (fun vm₁ hW₁ => ⟨hf.1, hf.2, hp.2 (T.setVm vm₁) hT hW₁⟩) with ⟨v, vm₁, ⟨U', l2, c2, s2⟩, hW₁, X', ⟨g', mk, t, L, e1, e2, hq, h1, hL, h2, h3⟩, st⟩ | ⟨q, vm₁, ⟨U', l2, c2, s2⟩, hW₁, X', ⟨g', mk, t, L, E, ce, e1, e2, hq, hce, hcv, hcl, h1, hL, h2, h3⟩, st⟩
  · dsimp only [Pt.U, Pt.locs, Pt.cells, Pt.slots] at X' e1 e2 h1 h2 h3 st
    subst h1; subst h2; subst h3
    exact Or.inl ⟨v, (T.setVm vm₁).calling g' mk As.toArray, t, U', L, hT, X', hL, e1, e2, hq, st⟩
  · dsimp only [Pt.U, Pt.locs, Pt.cells, Pt.slots] at X' e1 e2 h1 h2 h3 st hcl
    subst h1; subst h2; subst h3
    exact Or.inr ⟨q, (T.setVm vm₁).calling g' mk As.toArray, t, U', L, E, ce, hT, X', hL, e1, e2, hq, hce, hcv, vx_cls hW₁ hcl, st⟩
end
end VXH
theorem vx_ofWH {l : Launch} {y : MethodName} {ws ws' : List Cond} {rm : Room} {Pc : Array Value → State → Prop} {Qc : Array Value → State → Outcome → State → Prop} {XC : String → State → State → Prop} {mc ms : Nat} {free : Addr → Prop} {cc : ByteArray} {maxL : Nat} {ret : Option FieldType} {hh : List (Nat × Nat × Nat × Nat)}
    (hy : plainName y.cls = true) (hw : ws = Cond.codeWith y cc maxL ret hh :: ws')
    (body : ∀ p e s m args below meth c s₁, BodyLoose p l y (headSpec ws rm) cc maxL ret e s m args below meth c s₁ → c.maxLocals = maxL → Pc args s →
      W p l e (headSpec ws rm).room s m args below meth c s.heap [] 0 0 (vx_MQ below Qc XC args s mc ms free) (entryFrame m args maxL)) : vx_Met l y ws rm Pc Qc XC mc ms free := by
  refine MetFree.of_bodyS (code := cc) (maxLocals := maxL) (ret := ret) hy ?_ ?_
  · intro args s m h hn
    obtain ⟨m9, meth, c, hn9, h1, h2, h3, h4, -, h5, h6, -⟩ := Cond.codeWith_spec (atoms_spec (ws := ws) h _ (by rw [hw]; exact List.mem_cons_self))
    cases hn.symm.trans hn9
    exact ⟨meth, c, h1, h2, h3, h4, h5, h6⟩
  · intro p e s m args below meth c s₁ B hml hP _
    have hh0 : s₁.heap = s.heap := by rw [B.state]; rfl
    obtain ⟨t, a1, o, b1, b2, b3⟩ := body p e s m args below meth c s₁ B hml hP s₁ hh0 (Stand.of_body B)
    exact ⟨t, o, a1, b1, b2, b3⟩
/-! ===== END ===== -/
end
section
def RX0 : String := "StepEditor$Client"
def TX0 : u_T := fun k => match k with
  | 0 => ("StepEditor$Client", "versionCount", "I", false)
  | 1 => ("StepEditor$Client", "lostCount", "I", false)
  | 2 => ("StepEditor$Client", "pendingCount", "I", false)
  | 3 => ("StepEditor$Client", "pending", "[LStepEditor$Step;", true)
  | 4 => ("StepEditor$Client", "base", "LStepEditor$Tokens;", true)
  | 5 => ("StepEditor$Client", "document", "LStepEditor$Tokens;", true)
  | _ => ("StepEditor$Client", "copied", "LStepEditor$Tokens;", true)
def tyX0 : Nat → FieldType := fun k => match k with
  | 0 => .int
  | 1 => .int
  | 2 => .int
  | 3 => .array (.object "StepEditor$Step")
  | 4 => .object "StepEditor$Tokens"
  | 5 => .object "StepEditor$Tokens"
  | _ => .object "StepEditor$Tokens"
abbrev wsX00 : List Cond := u_ws RX0 TX0 7
theorem nmX0 : ∀ a, a < 7 → ∀ b, b < 7 → a ≠ b → (TX0 a).2.1 ≠ (TX0 b).2.1 := by decide +kernel
theorem tyX0_ok : ∀ k, k < 7 → parseFieldDescriptor (TX0 k).2.2.1 = some (tyX0 k) := by decide +kernel
abbrev cX0_init : ByteArray := prog_2_method_1_code
def yX0_init : MethodName := ⟨RX0, "<init>", "()V"⟩
def RX1 : String := "StepEditor$Grammar"
def TX1 : u_T := fun k => match k with
  | 0 => ("StepEditor$Grammar", "kinds", "[I", true)
  | 1 => ("StepEditor$Grammar", "quantities", "[I", true)
  | 2 => ("StepEditor$Grammar", "types", "[I", true)
  | _ => ("StepEditor$Grammar", "states", "[I", true)
def tyX1 : Nat → FieldType := fun k => match k with
  | 0 => .array .int
  | 1 => .array .int
  | 2 => .array .int
  | _ => .array .int
abbrev wsX10 : List Cond := u_ws RX1 TX1 4
theorem nmX1 : ∀ a, a < 4 → ∀ b, b < 4 → a ≠ b → (TX1 a).2.1 ≠ (TX1 b).2.1 := by decide +kernel
theorem tyX1_ok : ∀ k, k < 4 → parseFieldDescriptor (TX1 k).2.2.1 = some (tyX1 k) := by decide +kernel
abbrev cX1_init : ByteArray := prog_3_method_1_code
def yX1_init : MethodName := ⟨RX1, "<init>", "()V"⟩
abbrev cX1_kindsOf : ByteArray := prog_3_method_2_code
def yX1_kindsOf : MethodName := ⟨RX1, "kindsOf", "(II)I"⟩
abbrev cX1_quantityOf : ByteArray := prog_3_method_3_code
def yX1_quantityOf : MethodName := ⟨RX1, "quantityOf", "(II)I"⟩
abbrev cX1_setElement : ByteArray := prog_3_method_4_code
def yX1_setElement : MethodName := ⟨RX1, "setElement", "(IIII)V"⟩
abbrev cX1_accepts : ByteArray := prog_3_method_5_code
def yX1_accepts : MethodName := ⟨RX1, "accepts", "(LStepEditor$Tokens;)Z"⟩
abbrev cX1_isEnd : ByteArray := prog_3_method_6_code
def yX1_isEnd : MethodName := ⟨RX1, "isEnd", "(I)Z"⟩
abbrev cX1_advance : ByteArray := prog_3_method_7_code
def yX1_advance : MethodName := ⟨RX1, "advance", "(III)I"⟩
abbrev cX1_skip : ByteArray := prog_3_method_8_code
def yX1_skip : MethodName := ⟨RX1, "skip", "(II)I"⟩
def RX2 : String := "StepEditor$MapRow"
def TX2 : u_T := fun k => match k with
  | 0 => ("StepEditor$MapRow", "steps", "[LStepEditor$Step;", true)
  | 1 => ("StepEditor$MapRow", "areInverse", "[Z", true)
  | 2 => ("StepEditor$MapRow", "partners", "[I", true)
  | 3 => ("StepEditor$MapRow", "count", "I", false)
  | _ => ("StepEditor$MapRow", "place", "LStepEditor$Place;", true)
def tyX2 : Nat → FieldType := fun k => match k with
  | 0 => .array (.object "StepEditor$Step")
  | 1 => .array .boolean
  | 2 => .array .int
  | 3 => .int
  | _ => .object "StepEditor$Place"
abbrev wsX20 : List Cond := u_ws RX2 TX2 5
theorem nmX2 : ∀ a, a < 5 → ∀ b, b < 5 → a ≠ b → (TX2 a).2.1 ≠ (TX2 b).2.1 := by decide +kernel
theorem tyX2_ok : ∀ k, k < 5 → parseFieldDescriptor (TX2 k).2.2.1 = some (tyX2 k) := by decide +kernel
abbrev cX2_init : ByteArray := prog_4_method_1_code
def yX2_init : MethodName := ⟨RX2, "<init>", "()V"⟩
abbrev cX2_clear : ByteArray := prog_4_method_2_code
def yX2_clear : MethodName := ⟨RX2, "clear", "()V"⟩
abbrev cX2_addMap : ByteArray := prog_4_method_3_code
def yX2_addMap : MethodName := ⟨RX2, "addMap", "(LStepEditor$Step;Z)V"⟩
abbrev cX2_addPartner : ByteArray := prog_4_method_4_code
def yX2_addPartner : MethodName := ⟨RX2, "addPartner", "(LStepEditor$Step;I)V"⟩
abbrev cX2_carryStep : ByteArray := prog_4_method_5_code
def yX2_carryStep : MethodName := ⟨RX2, "carryStep", "(LStepEditor$Step;I)Z"⟩
abbrev cX2_carryMarking : ByteArray := prog_4_method_6_code
def yX2_carryMarking : MethodName := ⟨RX2, "carryMarking", "(LStepEditor$Step;I)Z"⟩
abbrev cX2_carryChange : ByteArray := prog_4_method_7_code
def yX2_carryChange : MethodName := ⟨RX2, "carryChange", "(LStepEditor$Step;I)Z"⟩
abbrev cX2_carryPosition : ByteArray := prog_4_method_8_code
def yX2_carryPosition : MethodName := ⟨RX2, "carryPosition", "(IZI)I"⟩
def RX3 : String := "StepEditor$Place"
def TX3 : u_T := fun k => match k with
  | 0 => ("StepEditor$Place", "position", "I", false)
  | 1 => ("StepEditor$Place", "isRight", "Z", false)
  | 2 => ("StepEditor$Place", "isLost", "Z", false)
  | 3 => ("StepEditor$Place", "range", "I", false)
  | 4 => ("StepEditor$Place", "offset", "I", false)
  | 5 => ("StepEditor$Place", "isBetween", "Z", false)
  | _ => ("StepEditor$Place", "isHeld", "Z", false)
def tyX3 : Nat → FieldType := fun k => match k with
  | 0 => .int
  | 1 => .boolean
  | 2 => .boolean
  | 3 => .int
  | 4 => .int
  | 5 => .boolean
  | _ => .boolean
abbrev wsX30 : List Cond := u_ws RX3 TX3 7
theorem nmX3 : ∀ a, a < 7 → ∀ b, b < 7 → a ≠ b → (TX3 a).2.1 ≠ (TX3 b).2.1 := by decide +kernel
theorem tyX3_ok : ∀ k, k < 7 → parseFieldDescriptor (TX3 k).2.2.1 = some (tyX3 k) := by decide +kernel
abbrev cX3_init : ByteArray := prog_5_method_1_code
def yX3_init : MethodName := ⟨RX3, "<init>", "()V"⟩
abbrev cX3_begin : ByteArray := prog_5_method_2_code
def yX3_begin : MethodName := ⟨RX3, "begin", "(IZ)V"⟩
abbrev cX3_leaveRange : ByteArray := prog_5_method_3_code
def yX3_leaveRange : MethodName := ⟨RX3, "leaveRange", "()V"⟩
abbrev cX3_enterRange : ByteArray := prog_5_method_4_code
def yX3_enterRange : MethodName := ⟨RX3, "enterRange", "(IIIII)V"⟩
def RX4 : String := "StepEditor$Step"
def TX4 : u_T := fun k => match k with
  | 0 => ("StepEditor$Step", "isMarking", "Z", false)
  | 1 => ("StepEditor$Step", "markStart", "I", false)
  | 2 => ("StepEditor$Step", "markEnd", "I", false)
  | 3 => ("StepEditor$Step", "markBit", "I", false)
  | 4 => ("StepEditor$Step", "isSetting", "Z", false)
  | 5 => ("StepEditor$Step", "rangeCount", "I", false)
  | 6 => ("StepEditor$Step", "starts", "[I", true)
  | 7 => ("StepEditor$Step", "takenCounts", "[I", true)
  | 8 => ("StepEditor$Step", "putCounts", "[I", true)
  | 9 => ("StepEditor$Step", "takenTokens", "LStepEditor$Tokens;", true)
  | _ => ("StepEditor$Step", "putTokens", "LStepEditor$Tokens;", true)
def tyX4 : Nat → FieldType := fun k => match k with
  | 0 => .boolean
  | 1 => .int
  | 2 => .int
  | 3 => .int
  | 4 => .boolean
  | 5 => .int
  | 6 => .array .int
  | 7 => .array .int
  | 8 => .array .int
  | 9 => .object "StepEditor$Tokens"
  | _ => .object "StepEditor$Tokens"
abbrev wsX40 : List Cond := u_ws RX4 TX4 11
theorem nmX4 : ∀ a, a < 11 → ∀ b, b < 11 → a ≠ b → (TX4 a).2.1 ≠ (TX4 b).2.1 := by decide +kernel
theorem tyX4_ok : ∀ k, k < 11 → parseFieldDescriptor (TX4 k).2.2.1 = some (tyX4 k) := by decide +kernel
abbrev cX4_init : ByteArray := prog_6_method_1_code
def yX4_init : MethodName := ⟨RX4, "<init>", "()V"⟩
abbrev cX4_becomeChange : ByteArray := prog_6_method_2_code
def yX4_becomeChange : MethodName := ⟨RX4, "becomeChange", "()V"⟩
abbrev cX4_addRange : ByteArray := prog_6_method_3_code
def yX4_addRange : MethodName := ⟨RX4, "addRange", "(II)V"⟩
abbrev cX4_addPut : ByteArray := prog_6_method_4_code
def yX4_addPut : MethodName := ⟨RX4, "addPut", "(I)V"⟩
abbrev cX4_becomeMarking : ByteArray := prog_6_method_5_code
def yX4_becomeMarking : MethodName := ⟨RX4, "becomeMarking", "(IIIZ)V"⟩
abbrev cX4_become : ByteArray := prog_6_method_6_code
def yX4_become : MethodName := ⟨RX4, "become", "(LStepEditor$Step;)V"⟩
abbrev cX4_becomeInverse : ByteArray := prog_6_method_7_code
def yX4_becomeInverse : MethodName := ⟨RX4, "becomeInverse", "(LStepEditor$Step;)V"⟩
abbrev cX4_putStart : ByteArray := prog_6_method_8_code
def yX4_putStart : MethodName := ⟨RX4, "putStart", "(I)I"⟩
abbrev cX4_carry : ByteArray := prog_6_method_9_code
def yX4_carry : MethodName := ⟨RX4, "carry", "(LStepEditor$Place;Z)V"⟩
abbrev cX4_applyTo : ByteArray := prog_6_method_10_code
def yX4_applyTo : MethodName := ⟨RX4, "applyTo", "(LStepEditor$Tokens;LStepEditor$Tokens;)Z"⟩
abbrev cX4_isWithin : ByteArray := prog_6_method_11_code
def yX4_isWithin : MethodName := ⟨RX4, "isWithin", "(LStepEditor$Tokens;)Z"⟩
abbrev cX4_markTokens : ByteArray := prog_6_method_12_code
def yX4_markTokens : MethodName := ⟨RX4, "markTokens", "(LStepEditor$Tokens;LStepEditor$Tokens;)V"⟩
abbrev cX4_markedToken : ByteArray := prog_6_method_13_code
def yX4_markedToken : MethodName := ⟨RX4, "markedToken", "(I)I"⟩
abbrev cX4_changesMarks : ByteArray := prog_6_method_14_code
def yX4_changesMarks : MethodName := ⟨RX4, "changesMarks", "(LStepEditor$Tokens;)Z"⟩
def RX5 : String := "StepEditor$Tokens"
def TX5 : u_T := fun k => match k with
  | 0 => ("StepEditor$Tokens", "cells", "[I", true)
  | _ => ("StepEditor$Tokens", "count", "I", false)
def tyX5 : Nat → FieldType := fun k => match k with
  | 0 => .array .int
  | _ => .int
abbrev wsX50 : List Cond := u_ws RX5 TX5 2
theorem nmX5 : ∀ a, a < 2 → ∀ b, b < 2 → a ≠ b → (TX5 a).2.1 ≠ (TX5 b).2.1 := by decide +kernel
theorem tyX5_ok : ∀ k, k < 2 → parseFieldDescriptor (TX5 k).2.2.1 = some (tyX5 k) := by decide +kernel
abbrev cX5_init : ByteArray := prog_7_method_1_code
def yX5_init : MethodName := ⟨RX5, "<init>", "()V"⟩
abbrev cX5_clear : ByteArray := prog_7_method_2_code
def yX5_clear : MethodName := ⟨RX5, "clear", "()V"⟩
abbrev cX5_at : ByteArray := prog_7_method_3_code
def yX5_at : MethodName := ⟨RX5, "at", "(I)I"⟩
abbrev cX5_add : ByteArray := prog_7_method_4_code
def yX5_add : MethodName := ⟨RX5, "add", "(I)V"⟩
abbrev cX5_addSlice : ByteArray := prog_7_method_5_code
def yX5_addSlice : MethodName := ⟨RX5, "addSlice", "(LStepEditor$Tokens;II)V"⟩
abbrev cX5_become : ByteArray := prog_7_method_6_code
def yX5_become : MethodName := ⟨RX5, "become", "(LStepEditor$Tokens;)V"⟩
abbrev cX5_becomeFirst : ByteArray := prog_7_method_7_code
def yX5_becomeFirst : MethodName := ⟨RX5, "becomeFirst", "()V"⟩
abbrev cX5_isLike : ByteArray := prog_7_method_8_code
def yX5_isLike : MethodName := ⟨RX5, "isLike", "(LStepEditor$Tokens;)Z"⟩
abbrev cX5_findOpen : ByteArray := prog_7_method_9_code
def yX5_findOpen : MethodName := ⟨RX5, "findOpen", "(I[I)I"⟩
abbrev cX5_findClosing : ByteArray := prog_7_method_10_code
def yX5_findClosing : MethodName := ⟨RX5, "findClosing", "(I)I"⟩
abbrev cX5_countCharacters : ByteArray := prog_7_method_11_code
def yX5_countCharacters : MethodName := ⟨RX5, "countCharacters", "(II)I"⟩
def RX6 : String := "StepEditor"
def TX6 : u_T := fun k => match k with
  | 0 => ("StepEditor", "grammar", "LStepEditor$Grammar;", true)
  | 1 => ("StepEditor", "confirmed", "LStepEditor$Tokens;", true)
  | 2 => ("StepEditor", "log", "[LStepEditor$Step;", true)
  | 3 => ("StepEditor", "confirmedCount", "I", false)
  | 4 => ("StepEditor", "clients", "[LStepEditor$Client;", true)
  | 5 => ("StepEditor", "commentStarts", "[I", true)
  | 6 => ("StepEditor", "commentEnds", "[I", true)
  | 7 => ("StepEditor", "commentCount", "I", false)
  | 8 => ("StepEditor", "draft", "LStepEditor$Step;", true)
  | 9 => ("StepEditor", "trial", "LStepEditor$Tokens;", true)
  | 10 => ("StepEditor", "built", "LStepEditor$Tokens;", true)
  | 11 => ("StepEditor", "mapped", "[LStepEditor$Step;", true)
  | 12 => ("StepEditor", "row", "LStepEditor$MapRow;", true)
  | 13 => ("StepEditor", "place", "LStepEditor$Place;", true)
  | _ => ("StepEditor", "openTypes", "[I", true)
def tyX6 : Nat → FieldType := fun k => match k with
  | 0 => .object "StepEditor$Grammar"
  | 1 => .object "StepEditor$Tokens"
  | 2 => .array (.object "StepEditor$Step")
  | 3 => .int
  | 4 => .array (.object "StepEditor$Client")
  | 5 => .array .int
  | 6 => .array .int
  | 7 => .int
  | 8 => .object "StepEditor$Step"
  | 9 => .object "StepEditor$Tokens"
  | 10 => .object "StepEditor$Tokens"
  | 11 => .array (.object "StepEditor$Step")
  | 12 => .object "StepEditor$MapRow"
  | 13 => .object "StepEditor$Place"
  | _ => .array .int
abbrev wsX60 : List Cond := u_ws RX6 TX6 15
theorem nmX6 : ∀ a, a < 15 → ∀ b, b < 15 → a ≠ b → (TX6 a).2.1 ≠ (TX6 b).2.1 := by decide +kernel
theorem tyX6_ok : ∀ k, k < 15 → parseFieldDescriptor (TX6 k).2.2.1 = some (tyX6 k) := by decide +kernel
abbrev cX6_init : ByteArray := prog_1_method_1_code
def yX6_init : MethodName := ⟨RX6, "<init>", "()V"⟩
abbrev cX6_rule : ByteArray := prog_1_method_2_code
def yX6_rule : MethodName := ⟨RX6, "rule", "(IIII)V"⟩
abbrev cX6_type : ByteArray := prog_1_method_3_code
def yX6_type : MethodName := ⟨RX6, "type", "(III)I"⟩
abbrev cX6_erase : ByteArray := prog_1_method_4_code
def yX6_erase : MethodName := ⟨RX6, "erase", "(III)I"⟩
abbrev cX6_split : ByteArray := prog_1_method_5_code
def yX6_split : MethodName := ⟨RX6, "split", "(II)I"⟩
abbrev cX6_join : ByteArray := prog_1_method_6_code
def yX6_join : MethodName := ⟨RX6, "join", "(II)I"⟩
abbrev cX6_wrap : ByteArray := prog_1_method_7_code
def yX6_wrap : MethodName := ⟨RX6, "wrap", "(IIII)I"⟩
abbrev cX6_unwrap : ByteArray := prog_1_method_8_code
def yX6_unwrap : MethodName := ⟨RX6, "unwrap", "(II)I"⟩
abbrev cX6_setType : ByteArray := prog_1_method_9_code
def yX6_setType : MethodName := ⟨RX6, "setType", "(III)I"⟩
abbrev cX6_mark : ByteArray := prog_1_method_10_code
def yX6_mark : MethodName := ⟨RX6, "mark", "(IIIIZ)I"⟩
abbrev cX6_copy : ByteArray := prog_1_method_11_code
def yX6_copy : MethodName := ⟨RX6, "copy", "(III)I"⟩
abbrev cX6_paste : ByteArray := prog_1_method_12_code
def yX6_paste : MethodName := ⟨RX6, "paste", "(II)I"⟩
abbrev cX6_takeBack : ByteArray := prog_1_method_13_code
def yX6_takeBack : MethodName := ⟨RX6, "takeBack", "(I)I"⟩
abbrev cX6_revert : ByteArray := prog_1_method_14_code
def yX6_revert : MethodName := ⟨RX6, "revert", "(II)I"⟩
abbrev cX6_send : ByteArray := prog_1_method_15_code
def yX6_send : MethodName := ⟨RX6, "send", "(I)I"⟩
abbrev cX6_receive : ByteArray := prog_1_method_16_code
def yX6_receive : MethodName := ⟨RX6, "receive", "(I)I"⟩
abbrev cX6_lost : ByteArray := prog_1_method_17_code
def yX6_lost : MethodName := ⟨RX6, "lost", "(I)I"⟩
abbrev cX6_version : ByteArray := prog_1_method_18_code
def yX6_version : MethodName := ⟨RX6, "version", "(I)I"⟩
abbrev cX6_isBuilt : ByteArray := prog_1_method_19_code
def yX6_isBuilt : MethodName := ⟨RX6, "isBuilt", "()Z"⟩
abbrev cX6_size : ByteArray := prog_1_method_20_code
def yX6_size : MethodName := ⟨RX6, "size", "(I)I"⟩
abbrev cX6_token : ByteArray := prog_1_method_21_code
def yX6_token : MethodName := ⟨RX6, "token", "(II)I"⟩
abbrev cX6_around : ByteArray := prog_1_method_22_code
def yX6_around : MethodName := ⟨RX6, "around", "(II)I"⟩
abbrev cX6_comment : ByteArray := prog_1_method_23_code
def yX6_comment : MethodName := ⟨RX6, "comment", "(II)I"⟩
abbrev cX6_commentAt : ByteArray := prog_1_method_24_code
def yX6_commentAt : MethodName := ⟨RX6, "commentAt", "(I)I"⟩
abbrev cX6_isOpening : ByteArray := prog_1_method_25_code
def yX6_isOpening : MethodName := ⟨RX6, "isOpening", "(I)Z"⟩
abbrev cX6_depthChange : ByteArray := prog_1_method_26_code
def yX6_depthChange : MethodName := ⟨RX6, "depthChange", "(I)I"⟩
abbrev cX6_clientOf : ByteArray := prog_1_method_27_code
def yX6_clientOf : MethodName := ⟨RX6, "clientOf", "(I)LStepEditor$Client;"⟩
abbrev cX6_documentOf : ByteArray := prog_1_method_28_code
def yX6_documentOf : MethodName := ⟨RX6, "documentOf", "(I)LStepEditor$Tokens;"⟩
abbrev cX6_checkPosition : ByteArray := prog_1_method_29_code
def yX6_checkPosition : MethodName := ⟨RX6, "checkPosition", "(LStepEditor$Tokens;I)V"⟩
abbrev cX6_checkStretch : ByteArray := prog_1_method_30_code
def yX6_checkStretch : MethodName := ⟨RX6, "checkStretch", "(LStepEditor$Tokens;II)V"⟩
abbrev cX6_checkNodeType : ByteArray := prog_1_method_31_code
def yX6_checkNodeType : MethodName := ⟨RX6, "checkNodeType", "(I)V"⟩
abbrev cX6_isAnyPending : ByteArray := prog_1_method_32_code
def yX6_isAnyPending : MethodName := ⟨RX6, "isAnyPending", "()Z"⟩
abbrev cX6_isFirstValidWith : ByteArray := prog_1_method_33_code
def yX6_isFirstValidWith : MethodName := ⟨RX6, "isFirstValidWith", "(IIII)Z"⟩
abbrev cX6_innermost : ByteArray := prog_1_method_34_code
def yX6_innermost : MethodName := ⟨RX6, "innermost", "(I)I"⟩
abbrev cX6_isPossible : ByteArray := prog_1_method_35_code
def yX6_isPossible : MethodName := ⟨RX6, "isPossible", "(LStepEditor$Step;LStepEditor$Tokens;)Z"⟩
abbrev cX6_addPending : ByteArray := prog_1_method_36_code
def yX6_addPending : MethodName := ⟨RX6, "addPending", "(LStepEditor$Client;)V"⟩
abbrev cX6_draftsBare : ByteArray := prog_1_method_37_code
def yX6_draftsBare : MethodName := ⟨RX6, "draftsBare", "(LStepEditor$Client;I)Z"⟩
abbrev cX6_draftsSlice : ByteArray := prog_1_method_38_code
def yX6_draftsSlice : MethodName := ⟨RX6, "draftsSlice", "(LStepEditor$Client;III)Z"⟩
abbrev cX6_draftsWrapped : ByteArray := prog_1_method_39_code
def yX6_draftsWrapped : MethodName := ⟨RX6, "draftsWrapped", "(LStepEditor$Client;I)Z"⟩
abbrev cX6_addConfirmedMaps : ByteArray := prog_1_method_40_code
def yX6_addConfirmedMaps : MethodName := ⟨RX6, "addConfirmedMaps", "(II)V"⟩
abbrev cX6_mapPending : ByteArray := prog_1_method_41_code
def yX6_mapPending : MethodName := ⟨RX6, "mapPending", "(LStepEditor$Client;)V"⟩
abbrev cX6_confirm : ByteArray := prog_1_method_42_code
def yX6_confirm : MethodName := ⟨RX6, "confirm", "(LStepEditor$Step;)V"⟩
abbrev cX6_mapComments : ByteArray := prog_1_method_43_code
def yX6_mapComments : MethodName := ⟨RX6, "mapComments", "(LStepEditor$Step;)V"⟩
abbrev cX6_mapOver : ByteArray := prog_1_method_44_code
def yX6_mapOver : MethodName := ⟨RX6, "mapOver", "(LStepEditor$Step;IZ)I"⟩
def RX7 : String := "StepEditorModel"
def TX7 : u_T := fun k => match k with
  | 0 => ("StepEditorModel", "kinds", "[I", true)
  | 1 => ("StepEditorModel", "quantity", "[I", true)
  | 2 => ("StepEditorModel", "doc", "[I", true)
  | 3 => ("StepEditorModel", "size", "[I", true)
  | 4 => ("StepEditorModel", "isMark", "[Z", true)
  | 5 => ("StepEditorModel", "isSet", "[Z", true)
  | 6 => ("StepEditorModel", "mark", "[I", true)
  | 7 => ("StepEditorModel", "ranges", "[I", true)
  | 8 => ("StepEditorModel", "start", "[I", true)
  | 9 => ("StepEditorModel", "takes", "[I", true)
  | 10 => ("StepEditorModel", "puts", "[I", true)
  | 11 => ("StepEditorModel", "taken", "[I", true)
  | 12 => ("StepEditorModel", "put", "[I", true)
  | 13 => ("StepEditorModel", "confirmed", "I", false)
  | 14 => ("StepEditorModel", "version", "[I", true)
  | 15 => ("StepEditorModel", "pending", "[I", true)
  | 16 => ("StepEditorModel", "lost", "[I", true)
  | 17 => ("StepEditorModel", "copied", "[I", true)
  | 18 => ("StepEditorModel", "many", "[I", true)
  | 19 => ("StepEditorModel", "comments", "I", false)
  | 20 => ("StepEditorModel", "first", "[I", true)
  | 21 => ("StepEditorModel", "second", "[I", true)
  | 22 => ("StepEditorModel", "work", "[I", true)
  | 23 => ("StepEditorModel", "length", "I", false)
  | 24 => ("StepEditorModel", "row", "I", false)
  | 25 => ("StepEditorModel", "rowStep", "[I", true)
  | 26 => ("StepEditorModel", "isInverse", "[Z", true)
  | 27 => ("StepEditorModel", "partner", "[I", true)
  | 28 => ("StepEditorModel", "wasLost", "Z", false)
  | 29 => ("StepEditorModel", "open", "[I", true)
  | 30 => ("StepEditorModel", "state", "[I", true)
  | _ => ("StepEditorModel", "thrown", "I", false)
def tyX7 : Nat → FieldType := fun k => match k with
  | 0 => .array .int
  | 1 => .array .int
  | 2 => .array .int
  | 3 => .array .int
  | 4 => .array .boolean
  | 5 => .array .boolean
  | 6 => .array .int
  | 7 => .array .int
  | 8 => .array .int
  | 9 => .array .int
  | 10 => .array .int
  | 11 => .array .int
  | 12 => .array .int
  | 13 => .int
  | 14 => .array .int
  | 15 => .array .int
  | 16 => .array .int
  | 17 => .array .int
  | 18 => .array .int
  | 19 => .int
  | 20 => .array .int
  | 21 => .array .int
  | 22 => .array .int
  | 23 => .int
  | 24 => .int
  | 25 => .array .int
  | 26 => .array .boolean
  | 27 => .array .int
  | 28 => .boolean
  | 29 => .array .int
  | 30 => .array .int
  | _ => .int
abbrev wsX70 : List Cond := u_ws RX7 TX7 32
theorem nmX7 : ∀ a, a < 32 → ∀ b, b < 32 → a ≠ b → (TX7 a).2.1 ≠ (TX7 b).2.1 := by decide +kernel
theorem tyX7_ok : ∀ k, k < 32 → parseFieldDescriptor (TX7 k).2.2.1 = some (tyX7 k) := by decide +kernel
abbrev cX7_init : ByteArray := prog_9_method_1_code
def yX7_init : MethodName := ⟨RX7, "<init>", "()V"⟩
abbrev cX7_fails : ByteArray := prog_9_method_3_code
def yX7_fails : MethodName := ⟨RX7, "fails", "(I)Z"⟩
abbrev cX7_isIn : ByteArray := prog_9_method_4_code
def yX7_isIn : MethodName := ⟨RX7, "isIn", "(III)Z"⟩
abbrev cX7_isClient : ByteArray := prog_9_method_5_code
def yX7_isClient : MethodName := ⟨RX7, "isClient", "(I)Z"⟩
abbrev cX7_isPlace : ByteArray := prog_9_method_6_code
def yX7_isPlace : MethodName := ⟨RX7, "isPlace", "(II)Z"⟩
abbrev cX7_opens : ByteArray := prog_9_method_7_code
def yX7_opens : MethodName := ⟨RX7, "opens", "(I)Z"⟩
abbrev cX7_sets : ByteArray := prog_9_method_8_code
def yX7_sets : MethodName := ⟨RX7, "sets", "(IIII)V"⟩
abbrev cX7_isDone : ByteArray := prog_9_method_9_code
def yX7_isDone : MethodName := ⟨RX7, "isDone", "(IZ)Z"⟩
abbrev cX7_spreads : ByteArray := prog_9_method_10_code
def yX7_spreads : MethodName := ⟨RX7, "spreads", "(II)I"⟩
abbrev cX7_follows : ByteArray := prog_9_method_11_code
def yX7_follows : MethodName := ⟨RX7, "follows", "(III)I"⟩
abbrev cX7_isValid : ByteArray := prog_9_method_12_code
def yX7_isValid : MethodName := ⟨RX7, "isValid", "()Z"⟩
abbrev cX7_begins : ByteArray := prog_9_method_13_code
def yX7_begins : MethodName := ⟨RX7, "begins", "()V"⟩
abbrev cX7_rule : ByteArray := prog_9_method_14_code
def yX7_rule : MethodName := ⟨RX7, "rule", "(IIII)V"⟩
abbrev cX7_empties : ByteArray := prog_9_method_15_code
def yX7_empties : MethodName := ⟨RX7, "empties", "(II)V"⟩
abbrev cX7_copies : ByteArray := prog_9_method_16_code
def yX7_copies : MethodName := ⟨RX7, "copies", "(II)V"⟩
abbrev cX7_adds : ByteArray := prog_9_method_17_code
def yX7_adds : MethodName := ⟨RX7, "adds", "(III)V"⟩
abbrev cX7_looksAt : ByteArray := prog_9_method_18_code
def yX7_looksAt : MethodName := ⟨RX7, "looksAt", "(I)V"⟩
abbrev cX7_keeps : ByteArray := prog_9_method_19_code
def yX7_keeps : MethodName := ⟨RX7, "keeps", "(I)V"⟩
abbrev cX7_marks : ByteArray := prog_9_method_20_code
def yX7_marks : MethodName := ⟨RX7, "marks", "(I)V"⟩
abbrev cX7_changes : ByteArray := prog_9_method_21_code
def yX7_changes : MethodName := ⟨RX7, "changes", "(IIII)V"⟩
abbrev cX7_isTooLong : ByteArray := prog_9_method_22_code
def yX7_isTooLong : MethodName := ⟨RX7, "isTooLong", "(I)Z"⟩
abbrev cX7_does : ByteArray := prog_9_method_23_code
def yX7_does : MethodName := ⟨RX7, "does", "(I)V"⟩
abbrev cX7_goes : ByteArray := prog_9_method_24_code
def yX7_goes : MethodName := ⟨RX7, "goes", "(I)Z"⟩
abbrev cX7_startOf : ByteArray := prog_9_method_25_code
def yX7_startOf : MethodName := ⟨RX7, "startOf", "(IZI)I"⟩
abbrev cX7_takesOf : ByteArray := prog_9_method_26_code
def yX7_takesOf : MethodName := ⟨RX7, "takesOf", "(IZI)I"⟩
abbrev cX7_rangeAt : ByteArray := prog_9_method_27_code
def yX7_rangeAt : MethodName := ⟨RX7, "rangeAt", "(IZI)I"⟩
abbrev cX7_maps : ByteArray := prog_9_method_28_code
def yX7_maps : MethodName := ⟨RX7, "maps", "(IZIZ)I"⟩
abbrev cX7_mapsThrough : ByteArray := prog_9_method_29_code
def yX7_mapsThrough : MethodName := ⟨RX7, "mapsThrough", "(IIZ)I"⟩
abbrev cX7_mapsStep : ByteArray := prog_9_method_30_code
def yX7_mapsStep : MethodName := ⟨RX7, "mapsStep", "(II)Z"⟩
abbrev cX7_enters : ByteArray := prog_9_method_31_code
def yX7_enters : MethodName := ⟨RX7, "enters", "(IZ)V"⟩
abbrev cX7_place : ByteArray := prog_9_method_32_code
def yX7_place : MethodName := ⟨RX7, "place", "(II)I"⟩
abbrev cX7_canEdit : ByteArray := prog_9_method_33_code
def yX7_canEdit : MethodName := ⟨RX7, "canEdit", "(I)Z"⟩
abbrev cX7_edits : ByteArray := prog_9_method_34_code
def yX7_edits : MethodName := ⟨RX7, "edits", "(I)V"⟩
abbrev cX7_tries : ByteArray := prog_9_method_35_code
def yX7_tries : MethodName := ⟨RX7, "tries", "(II)V"⟩
abbrev cX7_type : ByteArray := prog_9_method_36_code
def yX7_type : MethodName := ⟨RX7, "type", "(III)I"⟩
abbrev cX7_erase : ByteArray := prog_9_method_37_code
def yX7_erase : MethodName := ⟨RX7, "erase", "(III)I"⟩
abbrev cX7_depthAt : ByteArray := prog_9_method_38_code
def yX7_depthAt : MethodName := ⟨RX7, "depthAt", "(II)I"⟩
abbrev cX7_split : ByteArray := prog_9_method_39_code
def yX7_split : MethodName := ⟨RX7, "split", "(II)I"⟩
abbrev cX7_tokenOf : ByteArray := prog_9_method_40_code
def yX7_tokenOf : MethodName := ⟨RX7, "tokenOf", "(II)I"⟩
abbrev cX7_opensAt : ByteArray := prog_9_method_41_code
def yX7_opensAt : MethodName := ⟨RX7, "opensAt", "(II)Z"⟩
abbrev cX7_join : ByteArray := prog_9_method_42_code
def yX7_join : MethodName := ⟨RX7, "join", "(II)I"⟩
abbrev cX7_wrap : ByteArray := prog_9_method_43_code
def yX7_wrap : MethodName := ⟨RX7, "wrap", "(IIII)I"⟩
abbrev cX7_closing : ByteArray := prog_9_method_44_code
def yX7_closing : MethodName := ⟨RX7, "closing", "(II)I"⟩
abbrev cX7_unwrap : ByteArray := prog_9_method_45_code
def yX7_unwrap : MethodName := ⟨RX7, "unwrap", "(II)I"⟩
abbrev cX7_setType : ByteArray := prog_9_method_46_code
def yX7_setType : MethodName := ⟨RX7, "setType", "(III)I"⟩
abbrev cX7_mark : ByteArray := prog_9_method_47_code
def yX7_mark : MethodName := ⟨RX7, "mark", "(IIIIZ)I"⟩
abbrev cX7_copy : ByteArray := prog_9_method_48_code
def yX7_copy : MethodName := ⟨RX7, "copy", "(III)I"⟩
abbrev cX7_canPaste : ByteArray := prog_9_method_49_code
def yX7_canPaste : MethodName := ⟨RX7, "canPaste", "(IIIII)Z"⟩
abbrev cX7_isNode : ByteArray := prog_9_method_50_code
def yX7_isNode : MethodName := ⟨RX7, "isNode", "(III)Z"⟩
abbrev cX7_pastes : ByteArray := prog_9_method_51_code
def yX7_pastes : MethodName := ⟨RX7, "pastes", "(II)Z"⟩
abbrev cX7_paste : ByteArray := prog_9_method_52_code
def yX7_paste : MethodName := ⟨RX7, "paste", "(II)I"⟩
abbrev cX7_builds : ByteArray := prog_9_method_53_code
def yX7_builds : MethodName := ⟨RX7, "builds", "(I)V"⟩
abbrev cX7_takeBack : ByteArray := prog_9_method_54_code
def yX7_takeBack : MethodName := ⟨RX7, "takeBack", "(I)I"⟩
abbrev cX7_inverts : ByteArray := prog_9_method_55_code
def yX7_inverts : MethodName := ⟨RX7, "inverts", "(I)V"⟩
abbrev cX7_canRevert : ByteArray := prog_9_method_56_code
def yX7_canRevert : MethodName := ⟨RX7, "canRevert", "(II)Z"⟩
abbrev cX7_revert : ByteArray := prog_9_method_57_code
def yX7_revert : MethodName := ⟨RX7, "revert", "(II)I"⟩
abbrev cX7_mapsComments : ByteArray := prog_9_method_58_code
def yX7_mapsComments : MethodName := ⟨RX7, "mapsComments", "(I)V"⟩
abbrev cX7_send : ByteArray := prog_9_method_59_code
def yX7_send : MethodName := ⟨RX7, "send", "(I)I"⟩
abbrev cX7_rebases : ByteArray := prog_9_method_60_code
def yX7_rebases : MethodName := ⟨RX7, "rebases", "(I)V"⟩
abbrev cX7_receive : ByteArray := prog_9_method_61_code
def yX7_receive : MethodName := ⟨RX7, "receive", "(I)I"⟩
abbrev cX7_of : ByteArray := prog_9_method_62_code
def yX7_of : MethodName := ⟨RX7, "of", "([II)I"⟩
abbrev cX7_lost : ByteArray := prog_9_method_63_code
def yX7_lost : MethodName := ⟨RX7, "lost", "(I)I"⟩
abbrev cX7_version : ByteArray := prog_9_method_64_code
def yX7_version : MethodName := ⟨RX7, "version", "(I)I"⟩
abbrev cX7_isBuilt : ByteArray := prog_9_method_65_code
def yX7_isBuilt : MethodName := ⟨RX7, "isBuilt", "()Z"⟩
abbrev cX7_size : ByteArray := prog_9_method_66_code
def yX7_size : MethodName := ⟨RX7, "size", "(I)I"⟩
abbrev cX7_token : ByteArray := prog_9_method_67_code
def yX7_token : MethodName := ⟨RX7, "token", "(II)I"⟩
abbrev cX7_around : ByteArray := prog_9_method_68_code
def yX7_around : MethodName := ⟨RX7, "around", "(II)I"⟩
abbrev cX7_comment : ByteArray := prog_9_method_69_code
def yX7_comment : MethodName := ⟨RX7, "comment", "(II)I"⟩
abbrev cX7_commentAt : ByteArray := prog_9_method_70_code
def yX7_commentAt : MethodName := ⟨RX7, "commentAt", "(I)I"⟩
def RL : String := "StepEditorLaw"
abbrev cL_rule : ByteArray := method_3_code
def yL_rule : MethodName := ⟨RL, "rule", "(LStepEditor;IIII)I"⟩
abbrev cL_type : ByteArray := method_4_code
def yL_type : MethodName := ⟨RL, "type", "(LStepEditor;III[J)I"⟩
abbrev cL_erase : ByteArray := method_5_code
def yL_erase : MethodName := ⟨RL, "erase", "(LStepEditor;III[J)I"⟩
abbrev cL_split : ByteArray := method_6_code
def yL_split : MethodName := ⟨RL, "split", "(LStepEditor;II[J)I"⟩
abbrev cL_join : ByteArray := method_7_code
def yL_join : MethodName := ⟨RL, "join", "(LStepEditor;II[J)I"⟩
abbrev cL_wrap : ByteArray := method_8_code
def yL_wrap : MethodName := ⟨RL, "wrap", "(LStepEditor;IIII[J)I"⟩
abbrev cL_unwrap : ByteArray := method_9_code
def yL_unwrap : MethodName := ⟨RL, "unwrap", "(LStepEditor;II[J)I"⟩
abbrev cL_setType : ByteArray := method_10_code
def yL_setType : MethodName := ⟨RL, "setType", "(LStepEditor;III[J)I"⟩
abbrev cL_mark : ByteArray := method_11_code
def yL_mark : MethodName := ⟨RL, "mark", "(LStepEditor;IIIIZ[J)I"⟩
abbrev cL_copy : ByteArray := method_12_code
def yL_copy : MethodName := ⟨RL, "copy", "(LStepEditor;III[J)I"⟩
abbrev cL_paste : ByteArray := method_13_code
def yL_paste : MethodName := ⟨RL, "paste", "(LStepEditor;II[J)I"⟩
abbrev cL_takeBack : ByteArray := method_14_code
def yL_takeBack : MethodName := ⟨RL, "takeBack", "(LStepEditor;I[J)I"⟩
abbrev cL_revert : ByteArray := method_15_code
def yL_revert : MethodName := ⟨RL, "revert", "(LStepEditor;II[J)I"⟩
abbrev cL_send : ByteArray := method_16_code
def yL_send : MethodName := ⟨RL, "send", "(LStepEditor;I[J)I"⟩
abbrev cL_receive : ByteArray := method_17_code
def yL_receive : MethodName := ⟨RL, "receive", "(LStepEditor;I[J)I"⟩
abbrev cL_lost : ByteArray := method_18_code
def yL_lost : MethodName := ⟨RL, "lost", "(LStepEditor;I[J)I"⟩
abbrev cL_version : ByteArray := method_19_code
def yL_version : MethodName := ⟨RL, "version", "(LStepEditor;I[J)I"⟩
abbrev cL_size : ByteArray := method_20_code
def yL_size : MethodName := ⟨RL, "size", "(LStepEditor;I[J)I"⟩
abbrev cL_token : ByteArray := method_21_code
def yL_token : MethodName := ⟨RL, "token", "(LStepEditor;II[J)I"⟩
abbrev cL_around : ByteArray := method_22_code
def yL_around : MethodName := ⟨RL, "around", "(LStepEditor;II[J)I"⟩
abbrev cL_comment : ByteArray := method_23_code
def yL_comment : MethodName := ⟨RL, "comment", "(LStepEditor;II[J)I"⟩
abbrev cL_commentAt : ByteArray := method_24_code
def yL_commentAt : MethodName := ⟨RL, "commentAt", "(LStepEditor;I[J)I"⟩
abbrev cL_law : ByteArray := code
def yL_law : MethodName := ⟨RL, "law", "([I)Z"⟩
abbrev vwCl : List vw_C := [(RX0, TX0, 7), (RX1, TX1, 4), (RX2, TX2, 5), (RX3, TX3, 7), (RX4, TX4, 11), (RX5, TX5, 2), (RX6, TX6, 15), (RX7, TX7, 32)]
end
section
/-! ===== the abstract machine: values, heaps, a step function, a run ===== -/
abbrev sx_V (I : Type) : Type := Option (I ⊕ (Nat ⊕ (I ⊕ Unit)))
abbrev sx_L (I : Type) : Type := List (Nat × sx_V I)
noncomputable def sx_T (A : Type) (n : Nat) : Type := Nat.rec (motive := fun _ => Type) A (fun _ T => T × T) n
noncomputable def sx_tr {A : Type} (n : Nat) (v : A) : sx_T A n := Nat.rec (motive := fun n => sx_T A n) v (fun _ t => (t, t)) n
noncomputable def sx_tg {A : Type} (n : Nat) : sx_T A n → Nat → Option A :=
  Nat.rec (motive := fun n => sx_T A n → Nat → Option A) (fun t i => cond (Nat.beq i 0) (some t) none)
    (fun _ ih t i => cond (Nat.beq (Nat.mod i 2) 0) (ih (Prod.fst t) (Nat.div i 2)) (ih (Prod.snd t) (Nat.div i 2))) n
noncomputable def sx_ts {A : Type} (n : Nat) : sx_T A n → Nat → A → sx_T A n :=
  Nat.rec (motive := fun n => sx_T A n → Nat → A → sx_T A n) (fun t i v => cond (Nat.beq i 0) v t)
    (fun _ ih t i v => cond (Nat.beq (Nat.mod i 2) 0) (ih (Prod.fst t) (Nat.div i 2) v, Prod.snd t) (Prod.fst t, ih (Prod.snd t) (Nat.div i 2) v)) n
noncomputable def sx_fs {A : Type} {n : Nat} (t : sx_T A (n + 1)) : sx_T A n := Prod.fst (α := sx_T A n) (β := sx_T A n) t
noncomputable def sx_sn {A : Type} {n : Nat} (t : sx_T A (n + 1)) : sx_T A n := Prod.snd (α := sx_T A n) (β := sx_T A n) t
noncomputable def sx_lf {A : Type} (t : sx_T A 0) : A := t
noncomputable def sx_mk {A : Type} {n : Nat} (t u : sx_T A n) : sx_T A (n + 1) := ((t, u) : sx_T A n × sx_T A n)
theorem sx_tg_zero {A : Type} (t : sx_T A 0) (i : Nat) : sx_tg (A := A) 0 t i = cond (Nat.beq i 0) (some (sx_lf t)) none := rfl
theorem sx_tg_succ {A : Type} (n : Nat) (t : sx_T A (n + 1)) (i : Nat) : sx_tg (A := A) (n + 1) t i = cond (Nat.beq (Nat.mod i 2) 0) (sx_tg n (sx_fs t) (Nat.div i 2)) (sx_tg n (sx_sn t) (Nat.div i 2)) := rfl
theorem sx_ts_zero {A : Type} (t : sx_T A 0) (i : Nat) (v : A) : sx_ts (A := A) 0 t i v = (cond (Nat.beq i 0) v (sx_lf t) : A) := rfl
theorem sx_fs_mk {A : Type} {n : Nat} (t u : sx_T A n) : sx_fs (sx_mk t u) = t := rfl
theorem sx_sn_mk {A : Type} {n : Nat} (t u : sx_T A n) : sx_sn (sx_mk t u) = u := rfl
theorem sx_ts_succ {A : Type} (n : Nat) (t : sx_T A (n + 1)) (i : Nat) (v : A) : sx_ts (A := A) (n + 1) t i v = cond (Nat.beq (Nat.mod i 2) 0) (sx_mk (sx_ts n (sx_fs t) (Nat.div i 2) v) (sx_sn t)) (sx_mk (sx_fs t) (sx_ts n (sx_sn t) (Nat.div i 2) v)) := rfl
theorem sx_tr_succ {A : Type} (n : Nat) (v : A) : sx_tr (n + 1) v = sx_mk (sx_tr n v) (sx_tr n v) := rfl
theorem sx_beq0 (i : Nat) : (Nat.beq i 0 = true ∧ i = 0) ∨ (Nat.beq i 0 = false ∧ i ≠ 0) := by
  cases i with
  | zero => exact Or.inl ⟨rfl, rfl⟩
  | succ i => exact Or.inr ⟨rfl, by omega⟩
theorem sx_half {i j : Nat} (h : i ≠ j) (h1 : Nat.mod i 2 = Nat.mod j 2) : Nat.div i 2 ≠ Nat.div j 2 := by
  have a1 : i % 2 = j % 2 := h1
  intro h2
  have a2 : i / 2 = j / 2 := h2
  omega
theorem sx_tg_same {A : Type} (n : Nat) : ∀ (t : sx_T A n) (i : Nat) (w v : A), sx_tg n t i = some w → sx_tg n (sx_ts n t i v) i = some v := by
  induction n with
  | zero =>
    intro t i w v h
    rw [sx_tg_zero] at h
    rw [sx_tg_zero]
    rcases sx_beq0 i with ⟨e, -⟩ | ⟨e, -⟩
    · rw [e]
      show some (sx_lf (sx_ts 0 t i v)) = some v
      rw [sx_ts_zero, e]; rfl
    · rw [e] at h; cases h
  | succ n ih =>
    intro t i w v h
    rw [sx_tg_succ] at h
    rw [sx_ts_succ, sx_tg_succ]
    rcases sx_beq0 (Nat.mod i 2) with ⟨e, -⟩ | ⟨e, -⟩
    · rw [e] at h ⊢
      exact ih _ _ w v h
    · rw [e] at h ⊢
      exact ih _ _ w v h
theorem sx_tg_ne {A : Type} (n : Nat) : ∀ (t : sx_T A n) (i j : Nat) (v : A), j ≠ i → sx_tg n (sx_ts n t i v) j = sx_tg n t j := by
  induction n with
  | zero =>
    intro t i j v h
    rw [sx_tg_zero, sx_tg_zero]
    rcases sx_beq0 j with ⟨e, e0⟩ | ⟨e, e0⟩
    · rcases sx_beq0 i with ⟨f, f0⟩ | ⟨f, f0⟩
      · exact absurd (e0.trans f0.symm) h
      · rw [e]
        show some (sx_lf (sx_ts 0 t i v)) = some (sx_lf t)
        rw [sx_ts_zero, f]; rfl
    · rw [e]; rfl
  | succ n ih =>
    intro t i j v h
    rw [sx_ts_succ, sx_tg_succ, sx_tg_succ]
    have hm : ∀ k : Nat, Nat.mod k 2 = 0 ∨ Nat.mod k 2 = 1 := fun k => (by omega : k % 2 = 0 ∨ k % 2 = 1)
    rcases hm i with hi | hi <;> rcases hm j with hj | hj <;> rw [hi, hj]
    · exact ih _ _ _ v (sx_half h (hj.trans hi.symm))
    · rfl
    · rfl
    · exact ih _ _ _ v (sx_half h (hj.trans hi.symm))
theorem sx_tg_some {A : Type} (n : Nat) : ∀ (t : sx_T A n) (i : Nat), i < 2 ^ n → ∃ w, sx_tg n t i = some w := by
  induction n with
  | zero =>
    intro t i h
    have h0 : i = 0 := by simpa using h
    subst h0
    exact ⟨sx_lf t, rfl⟩
  | succ n ih =>
    intro t i h
    have h1 : Nat.div i 2 < 2 ^ n := by
      have h2 : i / 2 < 2 ^ n := by rw [Nat.pow_succ] at h; omega
      exact h2
    rw [sx_tg_succ]
    rcases sx_beq0 (Nat.mod i 2) with ⟨e, -⟩ | ⟨e, -⟩
    · rw [e]; exact ih _ _ h1
    · rw [e]; exact ih _ _ h1
theorem sx_tg_tr {A : Type} (n : Nat) : ∀ (i : Nat) (v : A), i < 2 ^ n → sx_tg n (sx_tr n v) i = some v := by
  induction n with
  | zero =>
    intro i v h
    have h0 : i = 0 := by simpa using h
    subst h0
    rfl
  | succ n ih =>
    intro i v h
    rw [sx_tr_succ, sx_tg_succ]
    have h1 : Nat.div i 2 < 2 ^ n := by
      have h2 : i / 2 < 2 ^ n := by rw [Nat.pow_succ] at h; omega
      exact h2
    rcases sx_beq0 (Nat.mod i 2) with ⟨e, -⟩ | ⟨e, -⟩
    · rw [e]; exact ih _ v h1
    · rw [e]; exact ih _ v h1
/-- an object: its class's number, its fields; an array: its type's number, its length, its contents -/
abbrev sx_E (I : Type) : Type := (Nat × List (sx_V I)) ⊕ (Nat × (Nat × sx_T (sx_V I) 13))
/-- the cells; how many; how many cells and slots were made; whether the next address is known -/
abbrev sx_H (I : Type) : Type := sx_T (Option (sx_E I)) 10 × (Nat × (Nat × (Nat × Bool)))
noncomputable def sx_hg {I : Type} (h : sx_H I) (k : Nat) : Option (sx_E I) := match sx_tg 10 h.1 k with
  | some (some e) => some e
  | _ => none
noncomputable def sx_hs {I : Type} (h : sx_H I) (k : Nat) (e : sx_E I) : sx_H I := (sx_ts 10 h.1 k (some e), h.2)
noncomputable def sx_hn {I : Type} (h : sx_H I) (e : sx_E I) (sl : Nat) : sx_H I := (sx_ts 10 h.1 h.2.1 (some e), (Nat.add h.2.1 1, (Nat.add h.2.2.1 1, (Nat.add h.2.2.2.1 sl, h.2.2.2.2))))
/-- one cell of six slots, not of the picture -/
noncomputable def sx_hx {I : Type} (h : sx_H I) : sx_H I := (h.1, (h.2.1, (Nat.add h.2.2.1 1, (Nat.add h.2.2.2.1 6, false))))
/-- constants, binary operations, tests, known values, the script's length and ints -/
abbrev sx_O (I : Type) : Type := (Nat → I) × ((Nat → I → I → Option I) × ((Nat → I → I → Option Bool) × ((I → Option Nat) × (Nat × (Nat → I)))))
/-- pc, operation, three numbers, in one -/
abbrev sx_I : Type := Nat
noncomputable def sx_xp (x : Nat) : Nat := Nat.mod x 4096
noncomputable def sx_xq (x : Nat) : Nat := Nat.mod (Nat.div x 4096) 64
noncomputable def sx_xa (x : Nat) : Nat := Nat.mod (Nat.div x 262144) 8589934592
noncomputable def sx_xb (x : Nat) : Nat := Nat.mod (Nat.div x 2251799813685248) 8589934592
noncomputable def sx_xc (x : Nat) : Nat := Nat.div x 19342813113834066795298816
/-- 0: nothing, 1: a value, 2 + k: the exception k -/
abbrev sx_R (I : Type) : Type := (Nat × sx_V I) × sx_H I
abbrev sx_K (I : Type) : Type := Nat → List (sx_V I) → sx_H I → Option (sx_R I)
abbrev sx_G (I : Type) : Type := List sx_I → sx_L I → List (sx_V I) → sx_H I → Option (sx_R I)
noncomputable def sx_lk {I : Type} (ls : sx_L I) (i : Nat) : Option (sx_V I) := match ls with
  | [] => none
  | q :: r => cond (Nat.beq q.1 i) (some q.2) (sx_lk r i)
noncomputable def sx_is2 {I : Type} : sx_V I → Bool
  | some (.inr (.inr (.inl _))) => true
  | _ => false
noncomputable def sx_st {I : Type} (ls : sx_L I) (i : Nat) (v : sx_V I) : sx_L I := (i, v) :: ls.filter (fun q => !(q.1 == i) && !(q.1 + 1 == i && sx_is2 q.2))
noncomputable def sx_args {I : Type} : Nat → List (sx_V I) → sx_L I
  | _, [] => []
  | i, v :: vs => (i, v) :: sx_args (cond (sx_is2 v) (i + 2) (i + 1)) vs
abbrev sx_Hd (I : Type) : Type := sx_O I → sx_K I → sx_G I → List sx_I → Nat → Nat → Nat → List sx_I → sx_L I → List (sx_V I) → sx_H I → Option (sx_R I)
section
variable {I : Type} (o : sx_O I) (call : sx_K I) (go : sx_G I) (full : List sx_I) (a b c : Nat) (cs : List sx_I) (ls : sx_L I) (st : List (sx_V I)) (h : sx_H I)
noncomputable def sh_iload : Option (sx_R I) := match sx_lk ls a with
  | some (some (.inl i)) => go cs ls (some (.inl i) :: st) h
  | _ => none
noncomputable def sh_aload : Option (sx_R I) := match sx_lk ls a with
  | some (some (.inr (.inl k))) => go cs ls (some (.inr (.inl k)) :: st) h
  | some none => go cs ls (none :: st) h
  | some (some (.inr (.inr (.inr u)))) => go cs ls (some (.inr (.inr (.inr u))) :: st) h
  | _ => none
noncomputable def sh_const : Option (sx_R I) := go cs ls (some (.inl (o.1 a)) :: st) h
noncomputable def sh_istore : Option (sx_R I) := match st with
  | some (.inl i) :: r => go cs (sx_st ls a (some (.inl i))) r h
  | _ => none
noncomputable def sh_astore : Option (sx_R I) := match st with
  | some (.inr (.inl k)) :: r => go cs (sx_st ls a (some (.inr (.inl k)))) r h
  | none :: r => go cs (sx_st ls a none) r h
  | _ => none
noncomputable def sh_iinc : Option (sx_R I) := match sx_lk ls a with
  | some (some (.inl i)) => match o.2.1 0 i (o.1 b) with
    | some v => go cs (sx_st ls a (some (.inl v))) st h
    | none => none
  | _ => none
noncomputable def sh_bin : Option (sx_R I) := match st with
  | some (.inl j) :: some (.inl i) :: r => match o.2.1 a i j with
    | some v => go cs ls (some (.inl v) :: r) h
    | none => none
  | _ => none
noncomputable def sh_i2l : Option (sx_R I) := match st with
  | some (.inl i) :: r => go cs ls (some (.inr (.inr (.inl i))) :: r) h
  | _ => none
noncomputable def sh_lcmp : Option (sx_R I) := match st with
  | some (.inr (.inr (.inl j))) :: some (.inr (.inr (.inl i))) :: r => match o.2.2.1 0 i j with
    | some true => go cs ls (some (.inl (o.1 0)) :: r) h
    | some false => match o.2.2.1 2 i j with
      | some true => go cs ls (some (.inl (o.1 4294967295)) :: r) h
      | some false => go cs ls (some (.inl (o.1 1)) :: r) h
      | none => none
    | none => none
  | _ => none
noncomputable def sh_icmp : Option (sx_R I) := match st with
  | some (.inl j) :: some (.inl i) :: r => match o.2.2.1 a i j with
    | some true => go (full.drop b) ls r h
    | some false => go cs ls r h
    | none => none
  | _ => none
noncomputable def sh_if : Option (sx_R I) := match st with
  | some (.inl i) :: r => match o.2.2.1 a i (o.1 0) with
    | some true => go (full.drop b) ls r h
    | some false => go cs ls r h
    | none => none
  | _ => none
noncomputable def sh_goto : Option (sx_R I) := go (full.drop b) ls st h
noncomputable def sh_ifnull : Option (sx_R I) := match st with
  | some (.inr (.inl _)) :: r => go cs ls r h
  | none :: r => go (full.drop b) ls r h
  | _ => none
noncomputable def sh_get : Option (sx_R I) := match st with
  | some (.inr (.inl k)) :: r => match sx_hg h k with
    | some (.inl (ci, fs)) => cond (Nat.beq ci (Nat.mod a 16)) (match fs[b]? with
      | some v => go cs ls (v :: r) h
      | none => none) none
    | _ => none
  | _ => none
/-- a value that fits a field of the type t: 0 int, 1 boolean, 2 a reference -/
noncomputable def sx_fit (o : sx_O I) (t : Nat) : sx_V I → Bool
  | some (.inl i) => match t with
    | 0 => true
    | 1 => match o.2.2.2.1 i with
      | some n => Nat.beq n 0 || Nat.beq n 1
      | none => false
    | _ => false
  | some (.inr (.inl _)) => Nat.beq t 2
  | none => Nat.beq t 2
  | _ => false
noncomputable def sh_put : Option (sx_R I) := match st with
  | v :: some (.inr (.inl k)) :: r => match sx_hg h k with
    | some (.inl (ci, fs)) => cond (Nat.beq ci (Nat.mod a 16) && (Nat.ble (b + 1) fs.length && sx_fit o (Nat.div a 16) v)) (go cs ls r (sx_hs h k (.inl (ci, fs.set b v)))) none
    | _ => none
  | _ => none
/-- the index, if it lies within n -/
noncomputable def sx_ix (o : sx_O I) (i : I) (n : Nat) : Option Nat := match o.2.2.2.1 i with
  | some k => cond (Nat.ble (k + 1) n && Nat.ble (k + 1) 8192) (some k) none
  | none => none
noncomputable def sh_ald : Option (sx_R I) := match st with
  | some (.inl i) :: some (.inr (.inl k)) :: r => match sx_hg h k with
    | some (.inr (t, (n, tr))) => cond (Nat.beq t a) (match sx_ix o i n with
      | some j => match sx_tg 13 tr j with
        | some v => go cs ls (v :: r) h
        | none => none
      | none => none) none
    | _ => none
  | some (.inl i) :: some (.inr (.inr (.inr _))) :: r => cond (Nat.beq a 0) (match sx_ix o i o.2.2.2.2.1 with
      | some j => go cs ls (some (.inl (o.2.2.2.2.2 j)) :: r) h
      | none => none) none
  | _ => none
/-- a value that fits an element of the array type t: 0 int, 1 boolean, 2 long, 3 and more a reference -/
noncomputable def sx_afit (o : sx_O I) (h : sx_H I) (t : Nat) : sx_V I → Bool
  | some (.inl i) => match t with
    | 0 => true
    | 1 => match o.2.2.2.1 i with
      | some n => Nat.beq n 0 || Nat.beq n 1
      | none => false
    | _ => false
  | some (.inr (.inr (.inl _))) => Nat.beq t 2
  | some (.inr (.inl k)) => match sx_hg h k with
    | some (.inl (ci, _)) => (Nat.beq t 3 && Nat.beq ci 4) || (Nat.beq t 4 && Nat.beq ci 0)
    | _ => false
  | _ => false
noncomputable def sh_ast : Option (sx_R I) := match st with
  | v :: some (.inl i) :: some (.inr (.inl k)) :: r => match sx_hg h k with
    | some (.inr (t, (n, tr))) => cond (Nat.beq t a && sx_afit o h a v) (match sx_ix o i n with
      | some j => match sx_tg 13 tr j with
        | some _ => go cs ls r (sx_hs h k (.inr (t, (n, sx_ts 13 tr j v))))
        | none => none
      | none => none) none
    | _ => none
  | _ => none
noncomputable def sh_alen : Option (sx_R I) := match st with
  | some (.inr (.inl k)) :: r => match sx_hg h k with
    | some (.inr (_, (n, _))) => go cs ls (some (.inl (o.1 n)) :: r) h
    | _ => none
  | some (.inr (.inr (.inr _))) :: r => go cs ls (some (.inl (o.1 o.2.2.2.2.1)) :: r) h
  | _ => none
noncomputable def sx_dflt (o : sx_O I) (t : Nat) : sx_V I := match t with
  | 0 => some (.inl (o.1 0))
  | 1 => some (.inl (o.1 0))
  | 2 => some (.inr (.inr (.inl (o.1 0))))
  | _ => none
/-- a field's first value: 2 a reference -/
noncomputable def sx_fd (o : sx_O I) (t : Nat) : sx_V I := match t with
  | 2 => none
  | _ => some (.inl (o.1 0))
noncomputable def sh_newa : Option (sx_R I) := match st with
  | some (.inl i) :: r => cond h.2.2.2.2 (match o.2.2.2.1 i with
    | some n => cond (Nat.ble n 8192 && Nat.ble (h.2.1 + 1) 1024) (go cs ls (some (.inr (.inl h.2.1)) :: r) (sx_hn h (.inr (a, (n, sx_tr 13 (sx_dflt o a)))) n)) none
    | none => none) none
  | _ => none
noncomputable def sx_nf (ci : Nat) : List Nat := match ci with
  | 0 => [0, 0, 0, 2, 2, 2, 2]
  | 1 => [2, 2, 2, 2]
  | 2 => [2, 2, 2, 0, 2]
  | 3 => [0, 1, 1, 0, 0, 1, 1]
  | 4 => [1, 0, 0, 0, 1, 0, 2, 2, 2, 2, 2]
  | 5 => [2, 0]
  | 6 => [2, 2, 2, 0, 2, 2, 2, 0, 2, 2, 2, 2, 2, 2, 2]
  | _ => []
end
noncomputable def sx_nf7 : List Nat := [2, 2, 2, 2, 2, 2, 2, 2, 2, 2, 2, 2, 2, 0, 2, 2, 2, 2, 2, 0, 2, 2, 2, 0, 0, 2, 2, 2, 1, 2, 2, 0]
noncomputable def sx_nff (ci : Nat) : List Nat := cond (Nat.beq ci 7) sx_nf7 (sx_nf ci)
noncomputable def sx_sv (a : Nat) : List Nat := match a with
  | 0 => [54, 0, 0, 64, 0, 0, 8, 0, 0, 2, 6, 0, 6, 0, 0, 2, 22, 0]
  | _ => [3, 0, 0, 2, 0, 0, 3, 0, 0, 0, 2, 0, 3, 0, 0, 0, 2, 0]
noncomputable def sx_lay {A : Type} (n : Nat) : Nat → List A → sx_T A n → sx_T A n
  | _, [], t => t
  | i, v :: vs, t => sx_lay n (i + 1) vs (sx_ts n t i v)
noncomputable def sx_sw {I : Type} : List (sx_V I) → Nat
  | [] => 0
  | v :: r => cond (sx_is2 v) (Nat.add (sx_sw r) 2) (Nat.add (sx_sw r) 1)
noncomputable def sx_pop {A : Type} : Nat → List A → List A → Option (List A × List A)
  | 0, acc, st => some (acc, st)
  | _ + 1, _, [] => none
  | n + 1, acc, v :: st => sx_pop n (v :: acc) st
section
variable {I : Type} (o : sx_O I) (call : sx_K I) (go : sx_G I) (full : List sx_I) (a b c : Nat) (cs : List sx_I) (ls : sx_L I) (st : List (sx_V I)) (h : sx_H I)
noncomputable def sh_new : Option (sx_R I) := cond (h.2.2.2.2 && Nat.ble (h.2.1 + 1) 1024) (go cs ls (some (.inr (.inl h.2.1)) :: st) (sx_hn h (.inl (a, (sx_nff a).map (sx_fd o))) (sx_nff a).length)) none
noncomputable def sh_anew : Option (sx_R I) := match st with
  | some (.inl i) :: r => cond h.2.2.2.2 (match o.2.2.2.1 i with
    | some n => cond (Nat.ble n 8192 && (Nat.ble (h.2.1 + 1) 1024 && (Nat.beq a 3 || Nat.beq a 4))) (go cs ls (some (.inr (.inl h.2.1)) :: r) (sx_hn h (.inr (a, (n, sx_tr 13 none))) n)) none
    | none => none) none
  | _ => none
noncomputable def sh_clone : Option (sx_R I) := cond (h.2.2.2.2 && (Nat.ble (h.2.1 + 1) 1024 && Nat.ble (sx_sw st) 8)) (go cs ls (some (.inr (.inl h.2.1)) :: st) (sx_hn h (.inr (0, (18, sx_lay 13 0 ((sx_sv a).map (fun n => some (.inl (o.1 n)))) (sx_tr 13 (some (.inl (o.1 0))))))) 18)) none
noncomputable def sh_null : Option (sx_R I) := go cs ls (none :: st) h
noncomputable def sh_dup : Option (sx_R I) := match st with
  | v :: r => cond (sx_is2 v) none (go cs ls (v :: v :: r) h)
  | _ => none
noncomputable def sh_dup2 : Option (sx_R I) := match st with
  | v :: w :: r => cond (sx_is2 v || sx_is2 w) none (go cs ls (v :: w :: v :: w :: r) h)
  | _ => none
noncomputable def sh_pop : Option (sx_R I) := match st with
  | v :: r => cond (sx_is2 v) none (go cs ls r h)
  | _ => none
noncomputable def sx_n2 : List (sx_V I) → Bool
  | [] => true
  | v :: r => cond (sx_is2 v) false (sx_n2 r)
/-- behind a call -/
noncomputable def sx_bk (r : List (sx_V I)) : Option (sx_R I) → Option (sx_R I)
  | some ((0, _), h') => go cs ls r h'
  | some ((1, v), h') => go cs ls (v :: r) h'
  | some ((t + 2, _), h') => some ((t + 2, none), h')
  | none => none
noncomputable def sh_callV : Option (sx_R I) := match sx_pop (Nat.mod b 16) [] st with
  | some (as, some (.inr (.inl k)) :: r) => match sx_hg h k with
    | some (.inl (ci, _)) => cond (Nat.beq ci (Nat.div b 16) && (Nat.ble (sx_sw r) 8 && sx_n2 as)) (sx_bk go cs ls r (call a (some (.inr (.inl k)) :: as) h)) none
    | _ => none
  | _ => none
noncomputable def sh_callS : Option (sx_R I) := match sx_pop (Nat.mod b 16) [] st with
  | some (as, r) => cond (Nat.ble (sx_sw r) 8 && sx_n2 as) (sx_bk go cs ls r (call a as h)) none
  | _ => none
noncomputable def sx_bkN (r : List (sx_V I)) : Option (sx_R I) → Option (sx_R I)
  | some ((0, _), h') => go cs ls r h'
  | some ((1, v), h') => go cs ls (v :: r) h'
  | _ => none
noncomputable def sh_callN : Option (sx_R I) := match sx_pop (Nat.mod b 16) [] st with
  | some (as, r) => cond (Nat.ble (sx_sw r) 8 && sx_n2 as) (sx_bkN go cs ls r (call a as h)) none
  | _ => none
noncomputable def sx_bkI (r : List (sx_V I)) : Option (sx_R I) → Option (sx_R I)
  | some ((0, _), h') => go cs ls r h'
  | _ => none
noncomputable def sh_callI : Option (sx_R I) := match st with
  | some (.inr (.inl k)) :: r => cond (Nat.ble (sx_sw r) 8) (sx_bkI go cs ls r (call a [some (.inr (.inl k))] h)) none
  | _ => none
noncomputable def sh_obj : Option (sx_R I) := match st with
  | some (.inr (.inl _)) :: r => cond (Nat.ble (sx_sw r) 8) (go cs ls r h) none
  | _ => none
/-- a wrapper's call: an exception is caught, and a number is the answer -/
noncomputable def sx_bkW (r : List (sx_V I)) : Option (sx_R I) → Option (sx_R I)
  | some ((0, _), h') => go cs ls r h'
  | some ((1, v), h') => go cs ls (v :: r) h'
  | some ((t + 2, _), h') => cond (Nat.beq (Nat.mod (Nat.div (Nat.div b 256) (4 ^ t)) 4) 0 || Nat.ble 3 t) none (some ((1, some (.inl (o.1 (Nat.mod (Nat.div (Nat.div b 256) (4 ^ t)) 4)))), h'))
  | none => none
noncomputable def sh_callW : Option (sx_R I) := match sx_pop (Nat.mod b 16) [] st with
  | some (as, some (.inr (.inl k)) :: r) => match sx_hg h k with
    | some (.inl (ci, _)) => cond (Nat.beq ci (Nat.mod (Nat.div b 16) 16) && (Nat.ble (sx_sw r) 8 && sx_n2 as)) (sx_bkW o go b cs ls r (call a (some (.inr (.inl k)) :: as) h)) none
    | _ => none
  | _ => none
noncomputable def sh_max : Option (sx_R I) := match st with
  | some (.inl j) :: some (.inl i) :: r => cond (Nat.ble (sx_sw r) 8) (match o.2.2.1 2 i j with
    | some true => go cs ls (some (.inl j) :: r) h
    | some false => go cs ls (some (.inl i) :: r) h
    | none => none) none
  | _ => none
noncomputable def sh_min : Option (sx_R I) := match st with
  | some (.inl j) :: some (.inl i) :: r => cond (Nat.ble (sx_sw r) 8) (match o.2.2.1 2 i j with
    | some true => go cs ls (some (.inl i) :: r) h
    | some false => go cs ls (some (.inl j) :: r) h
    | none => none) none
  | _ => none
noncomputable def sh_iret : Option (sx_R I) := match st with
  | [some (.inl i)] => some ((1, some (.inl i)), h)
  | _ => none
noncomputable def sh_zret : Option (sx_R I) := match st with
  | [some (.inl i)] => cond (sx_fit o 1 (some (.inl i))) (some ((1, some (.inl i)), h)) none
  | _ => none
noncomputable def sh_vret : Option (sx_R I) := match st with
  | [] => some ((0, none), h)
  | _ => none
noncomputable def sh_aret : Option (sx_R I) := match st with
  | [some (.inr (.inl k))] => some ((1, some (.inr (.inl k))), h)
  | [none] => some ((1, none), h)
  | _ => none
noncomputable def sh_throw : Option (sx_R I) := cond (Nat.ble (sx_sw st) 8) (some ((a + 2, none), sx_hx h)) none
noncomputable def sh_switch : Option (sx_R I) := match st with
  | some (.inl i) :: r => match o.2.2.2.1 i with
    | some n => cond (Nat.ble (n + 1) a) (go (full.drop (Nat.mod (Nat.div c (2048 ^ n)) 2048)) ls r h) (cond (Nat.ble (n + 1) 2147483648) (go (full.drop b) ls r h) none)
    | none => none
  | _ => none
end
noncomputable def sx_hd {I : Type} : Nat → sx_Hd I := fun op => match op with
  | 0 => fun _ _ go _ a _ _ cs ls st h => sh_aload go a cs ls st h
  | 1 => fun _ _ go _ a b _ cs ls st h => sh_get go a b cs ls st h
  | 2 => fun _ _ go _ a _ _ cs ls st h => sh_iload go a cs ls st h
  | 3 => fun o _ go _ a _ _ cs ls st h => sh_const o go a cs ls st h
  | 4 => fun _ call go _ a b _ cs ls st h => sh_callV call go a b cs ls st h
  | 5 => fun _ _ go full _ b _ _ ls st h => sh_goto go full b ls st h
  | 6 => fun o _ go _ a _ _ cs ls st h => sh_ald o go a cs ls st h
  | 7 => fun _ _ _ _ _ _ _ _ _ st h => sh_iret st h
  | 8 => fun o _ go _ a _ _ cs ls st h => sh_bin o go a cs ls st h
  | 9 => fun _ _ go _ a _ _ cs ls st h => sh_istore go a cs ls st h
  | 10 => fun o _ go full a b _ cs ls st h => sh_if o go full a b cs ls st h
  | 11 => fun o _ go full a b _ cs ls st h => sh_icmp o go full a b cs ls st h
  | 12 => fun o _ go _ a b _ cs ls st h => sh_put o go a b cs ls st h
  | 13 => fun _ call go _ a b _ cs ls st h => sh_callS call go a b cs ls st h
  | 14 => fun o _ go _ a b _ cs ls st h => sh_iinc o go a b cs ls st h
  | 15 => fun o _ go _ a _ _ cs ls st h => sh_ast o go a cs ls st h
  | 16 => fun _ _ go _ _ _ _ cs ls st h => sh_dup go cs ls st h
  | 17 => fun _ _ _ _ _ _ _ _ _ st h => sh_vret st h
  | 18 => fun _ call go _ a _ _ cs ls st h => sh_callI call go a cs ls st h
  | 19 => fun o _ _ _ _ _ _ _ _ st h => sh_zret o st h
  | 20 => fun o _ go _ a _ _ cs ls st h => sh_new o go a cs ls st h
  | 21 => fun _ _ go _ _ _ _ cs ls st h => sh_i2l go cs ls st h
  | 22 => fun _ _ go _ a _ _ cs ls st h => sh_astore go a cs ls st h
  | 23 => fun o _ go _ a _ _ cs ls st h => sh_newa o go a cs ls st h
  | 24 => fun o _ go _ _ _ _ cs ls st h => sh_alen o go cs ls st h
  | 25 => fun _ _ _ _ a _ _ _ _ st h => sh_throw a st h
  | 26 => fun o _ go _ _ _ _ cs ls st h => sh_lcmp o go cs ls st h
  | 27 => fun _ _ go _ _ _ _ cs ls st h => sh_null go cs ls st h
  | 28 => fun _ _ go _ _ _ _ cs ls st h => sh_dup2 go cs ls st h
  | 29 => fun o _ go _ a _ _ cs ls st h => sh_anew o go a cs ls st h
  | 30 => fun o _ go _ a b _ cs ls st h => sh_put o go a b cs ls st h
  | 31 => fun _ _ go full _ b _ cs ls st h => sh_ifnull go full b cs ls st h
  | 32 => fun _ _ go _ _ _ _ cs ls st h => sh_pop go cs ls st h
  | 33 => fun _ _ _ _ _ _ _ _ _ st h => sh_aret st h
  | 34 => fun o _ go _ _ _ _ cs ls st h => sh_max o go cs ls st h
  | 35 => fun o _ go _ _ _ _ cs ls st h => sh_min o go cs ls st h
  | 36 => fun o _ go _ a _ _ cs ls st h => sh_clone o go a cs ls st h
  | 37 => fun o _ go full a b c _ ls st h => sh_switch o go full a b c ls st h
  | 38 => fun _ _ go _ _ _ _ cs ls st h => sh_obj go cs ls st h
  | 39 => fun o call go _ a b _ cs ls st h => sh_callW o call go a b cs ls st h
  | 40 => fun _ call go _ a _ _ cs ls st h => sh_callI call go a cs ls st h
  | 41 => fun _ call go _ a b _ cs ls st h => sh_callN call go a b cs ls st h
  | 42 => fun _ _ _ _ a _ _ _ _ st h => sh_throw a st h
  | 43 => fun _ call go _ a b _ cs ls st h => sh_callN call go a b cs ls st h
  | _ => fun _ _ _ _ _ _ _ _ _ _ _ => none
noncomputable def sx_b1 {I : Type} (cd : Nat → List sx_I) (o : sx_O I) (ih : List sx_I → sx_G I) : List sx_I → sx_G I := fun full cs ls st h => match cs with
  | [] => none
  | x :: r => sx_hd (sx_xq x) o (fun m as h' => ih (cd m) (cd m) (sx_args 0 as) [] h') (ih full) full (sx_xa x) (sx_xb x) (sx_xc x) r ls st h
/-- a run of a method's rest -/
noncomputable def sx_run {I : Type} (cd : Nat → List sx_I) (o : sx_O I) (n : Nat) : List sx_I → sx_G I :=
  Nat.rec (motive := fun _ => List sx_I → sx_G I) (fun _ _ _ _ _ => none) (fun _ ih => sx_b1 cd o ih) n
theorem sx_run_zero {I : Type} (cd : Nat → List sx_I) (o : sx_O I) : sx_run cd o 0 = fun _ _ _ _ _ => none := rfl
theorem sx_run_succ {I : Type} (cd : Nat → List sx_I) (o : sx_O I) (n : Nat) : sx_run cd o (n + 1) = sx_b1 cd o (sx_run cd o n) := rfl
/-- a whole method -/
noncomputable def sx_ca {I : Type} (cd : Nat → List sx_I) (ih : List sx_I → sx_G I) : sx_K I := fun m as h => ih (cd m) (cd m) (sx_args 0 as) [] h
theorem sx_b1_cons {I : Type} (cd : Nat → List sx_I) (o : sx_O I) (ih : List sx_I → sx_G I) (full : List sx_I) (x : sx_I) (r : List sx_I) (ls : sx_L I) (st : List (sx_V I)) (h : sx_H I) :
    sx_b1 cd o ih full (x :: r) ls st h = sx_hd (sx_xq x) o (sx_ca cd ih) (ih full) full (sx_xa x) (sx_xb x) (sx_xc x) r ls st h := by
  unfold sx_b1 sx_ca
  rfl
end
section
/-! ===== what a row of a method's table must be: decided, row by row ===== -/
noncomputable def sx_pc (cs : List Nat) : Option Nat := match cs with
  | [] => none
  | x :: _ => some (sx_xp x)
noncomputable def sx_nx (cs : List Nat) (q : Nat) : Bool := match cs with
  | [] => false
  | x :: _ => Nat.beq (sx_xp x) q
noncomputable def sx_dk (bs : ByteArray) (pc : Nat) (i : Instr) (k : Nat) : Bool := decide (decode bs pc = .ok (i, k))
noncomputable def sx_f4 : Nat → Fin 4 := fun a => match a with
  | 0 => 0
  | 1 => 1
  | 2 => 2
  | _ => 3
noncomputable def sx_z (c : Nat) : Int := (c : Int) - 32768
abbrev sx_ME : Type := MethodName × (ByteArray × (Nat × (Option FieldType × (Nat × Nat))))
noncomputable def sx_bi (a : Nat) : Instr := match a with
  | 0 => .iadd
  | 1 => .isub
  | 2 => .imul
  | 3 => .iand
  | 4 => .ior
  | 5 => .ixor
  | 6 => .ishl
  | 7 => .ishr
  | 8 => .irem
  | _ => .nop
noncomputable def sx_cc (a : Nat) : Jvm.ClassFile.Cond := match a with
  | 0 => .eq
  | 1 => .ne
  | 2 => .lt
  | 3 => .ge
  | 4 => .gt
  | _ => .le
noncomputable def sx_la (a : Nat) : Instr := match a with
  | 0 => .iaload
  | 1 => .baload
  | 2 => .laload
  | _ => .aaload
noncomputable def sx_sa (a : Nat) : Instr := match a with
  | 0 => .iastore
  | 1 => .bastore
  | 2 => .lastore
  | _ => .aastore
noncomputable def sx_at (a : Nat) : ArrayType := match a with
  | 0 => .int
  | 1 => .boolean
  | _ => .long
noncomputable def sx_ty (t : Nat) : FieldType := match t with
  | 0 => .int
  | 1 => .boolean
  | 2 => .long
  | 3 => .object RX4
  | _ => .object RX0
noncomputable def sx_en (t : Nat) : String := match t with
  | 0 => "java/lang/IndexOutOfBoundsException"
  | 1 => "java/lang/IllegalArgumentException"
  | _ => "java/lang/IllegalStateException"
noncomputable def sx_ek (t : Nat) : Nat := match t with
  | 0 => 77
  | 1 => 84
  | _ => 101
noncomputable def sx_ec (t : Nat) : Nat := match t with
  | 0 => 81
  | 1 => 88
  | _ => 105
/-- loads and stores of a local: the wide form or the short one -/
noncomputable def sx_loc (bs : ByteArray) (pc a : Nat) (cs : List Nat) (i j : Instr) : Bool := (sx_dk bs pc i 2 && sx_nx cs (pc + 2)) || (Nat.ble (a + 1) 4 && (sx_dk bs pc j 1 && sx_nx cs (pc + 1)))
noncomputable def sx_cok (bs : ByteArray) (pc a b c : Nat) (cs : List Nat) : Bool := match b with
  | 0 => sx_dk bs pc (.iconst (sx_z c)) 1 && (decide (Int32.ofInt (sx_z c) = nI a) && sx_nx cs (pc + 1))
  | 1 => sx_dk bs pc (.bipush (sx_z c)) 2 && (decide ((Int8.ofInt (sx_z c)).toInt32 = nI a) && sx_nx cs (pc + 2))
  | _ => sx_dk bs pc (.sipush (sx_z c)) 3 && (decide ((Int16.ofInt (sx_z c)).toInt32 = nI a) && sx_nx cs (pc + 3))
noncomputable def sx_jmp (bs : ByteArray) (pc : Nat) (full : List Nat) (b : Nat) (f : Int → Instr) : Bool := match sx_pc (full.drop b) with
  | some t => sx_dk bs pc (f ((t : Int) - (pc : Int))) 3
  | none => false
noncomputable def sx_fld (own : String) (bs : ByteArray) (pc ci k q : Nat) (f : Nat → Instr) (more : u_T → Nat → Bool) (cs : List Nat) : Bool := match lw_tbl[q]?, vwCl[ci]? with
  | some (Jvm.Cond.fieldLink own' idx ref name desc), some (_, T, N) => decide (own' = own) && (decide (ref = (T k).1) && (decide (name = (T k).2.1) && (decide (desc = (T k).2.2.1) && (Nat.ble (k + 1) N && (sx_dk bs pc (f idx) 3 && (more T k && sx_nx cs (pc + 3)))))))
  | _, _ => false
noncomputable def sx_tc (t : Nat) (desc : String) : Bool := match t with
  | 0 => decide (parseFieldDescriptor desc = some .int)
  | 1 => decide (parseFieldDescriptor desc = some .boolean)
  | _ => match parseFieldDescriptor desc with
    | some (.object _) => true
    | some (.array _) => true
    | _ => false
noncomputable def sx_mh (n : String) : Bool := decide (n ≠ "java/lang/invoke/MethodHandle") && decide (n ≠ "java/lang/invoke/VarHandle")
/-- a call: the callee's row, its room, its number of arguments -/
noncomputable def sx_cal (own : String) (bs : ByteArray) (pc fr lo n sl : Nat) (e : Option sx_ME) (w : Option Jvm.Cond) (nest : Bool) (f : Nat → Instr) (more : MethodName → Bool) (cs : List Nat) : Bool := match e, w with
  | some (y, (_, (mL, (_, (f9, l9))))), some (Jvm.Cond.methodLink own' idx y') => !nest && (decide (own' = own) && (decide (y' = y) && (decide ((parseMethodDescriptor y.desc).map (fun d => d.parameters.length) = some n) && (Nat.ble (f9 + 1) fr && (Nat.ble (8 + (mL + 11) + l9) lo && (Nat.ble (n + sl) mL && (sx_dk bs pc (f idx) 3 && (more y && sx_nx cs (pc + 3)))))))))
  | some (y, (_, (mL, (_, (f9, l9))))), some (Jvm.Cond.methodLinkNest own' idx y' _) => nest && (decide (own' = own) && (decide (y' = y) && (decide ((parseMethodDescriptor y.desc).map (fun d => d.parameters.length) = some n) && (Nat.ble (f9 + 1) fr && (Nat.ble (8 + (mL + 11) + l9) lo && (Nat.ble (n + sl) mL && (sx_dk bs pc (f idx) 3 && (more y && sx_nx cs (pc + 3)))))))))
  | _, _ => false
noncomputable def sx_cls1 (ci : Nat) (y : MethodName) : Bool := match vwCl[ci]? with
  | some (C, _, _) => decide (y.cls = C)
  | none => false
noncomputable def sx_jdk (own : String) (bs : ByteArray) (pc fr lo f9 l9 q : Nat) (y : MethodName) (f : Nat → Instr) (cs : List Nat) : Bool := match lw_tbl[q]? with
  | some (Jvm.Cond.methodLink own' idx y') => decide (own' = own) && (decide (y' = y) && (Nat.ble f9 fr && (Nat.ble l9 lo && (sx_dk bs pc (f idx) 3 && sx_nx cs (pc + 3)))))
  | _ => false
noncomputable def sx_cla (own : String) (bs : ByteArray) (pc q : Nat) (C : String) (f : Nat → Instr) (cs : List Nat) : Bool := match lw_tbl[q]? with
  | some (Jvm.Cond.classLink own' idx C') => decide (own' = own) && (decide (C' = C) && (sx_dk bs pc (f idx) 3 && sx_nx cs (pc + 3)))
  | _ => false
noncomputable def sx_cln (ci : Nat) : String := match vwCl[ci]? with
  | some (C, _, _) => C
  | none => ""
noncomputable def sx_thr (own : String) (bs : ByteArray) (pc fr lo a b q : Nat) (f : Nat → Instr) (k : Nat) : Bool := match lw_tbl[q]? with
  | some (Jvm.Cond.stringRef own' is _) => decide (own' = own) && (decide (own = RX6) && (Nat.beq is b && (Nat.ble 6 fr && (Nat.ble 90 lo && (Nat.ble a 2 && (sx_dk bs pc (.new (sx_ek a)) 3 && (sx_dk bs (pc + 3) .dup 1 && (sx_dk bs (pc + 4) (f is) k && (sx_dk bs (pc + 4 + k) (.invokespecial (sx_ec a)) 3 && sx_dk bs (pc + 4 + k + 3) .athrow 1)))))))))
  | _ => false
noncomputable def sx_swi (bs : ByteArray) (pc : Nat) (full : List Nat) (a b c : Nat) : Bool := match decode bs pc with
  | .ok (.tableswitch d l hh offs, _) => decide (l = 0) && (decide (hh = (a : Int) - 1) && ((match sx_pc (full.drop b) with
      | some t => decide ((pc : Int) + d = (t : Int))
      | none => false) && (List.range a).all (fun i => match sx_pc (full.drop (Nat.mod (Nat.div c (2048 ^ i)) 2048)) with
      | some t => decide (offs[i]? = some ((t : Int) - (pc : Int)))
      | none => false)))
  | _ => false
noncomputable def sx_fn (a : Nat) : String := match a with
  | 0 => "FIRST_KINDS"
  | _ => "FIRST_QUANTITIES"
noncomputable def sx_clo (own : String) (bs : ByteArray) (pc fr lo a b q : Nat) (cs : List Nat) : Bool := match lw_tbl[q]? with
  | some (Jvm.Cond.fieldLinkNest own' idx ref name desc host) => decide (own' = own) && (decide (own = RX1) && (decide (ref = RX6) && (decide (name = sx_fn a) && (decide (desc = "[I") && (decide (host = RX6) && (Nat.ble 1 fr && (Nat.ble 22 lo && (sx_dk bs pc (.getstatic idx) 3 && (sx_dk bs (pc + 3) (.invokevirtual 13) 3 && (sx_dk bs (pc + 6) (.checkcast 14) 3 && sx_nx cs (pc + 9)))))))))))
  | _ => false
/-! ===== the methods' tables, by program out of the printed decode rows and words ===== -/
noncomputable def sx_m : List sx_ME := [(yX0_init, (cX0_init, (2, ((Option.none : Option Jvm.ClassFile.FieldType), (3, 60))))), (yX1_init, (cX1_init, (1, ((Option.none : Option Jvm.ClassFile.FieldType), (1, 22))))), (yX1_kindsOf, (cX1_kindsOf, (4, ((some Jvm.ClassFile.FieldType.int), (0, 0))))), (yX1_quantityOf, (cX1_quantityOf, (4, ((some Jvm.ClassFile.FieldType.int), (0, 0))))), (yX1_setElement, (cX1_setElement, (6, ((Option.none : Option Jvm.ClassFile.FieldType), (0, 0))))), (yX1_accepts, (cX1_accepts, (6, ((some Jvm.ClassFile.FieldType.boolean), (2, 59))))), (yX1_isEnd, (cX1_isEnd, (1, ((some Jvm.ClassFile.FieldType.boolean), (0, 0))))), (yX1_advance, (cX1_advance, (11, ((some Jvm.ClassFile.FieldType.int), (1, 29))))), (yX1_skip, (cX1_skip, (10, ((some Jvm.ClassFile.FieldType.int), (0, 0))))), (yX2_init, (cX2_init, (1, ((Option.none : Option Jvm.ClassFile.FieldType), (2, 40))))), (yX2_clear, (cX2_clear, (1, ((Option.none : Option Jvm.ClassFile.FieldType), (0, 0))))), (yX2_addMap, (cX2_addMap, (3, ((Option.none : Option Jvm.ClassFile.FieldType), (0, 0))))), (yX2_addPartner, (cX2_addPartner, (3, ((Option.none : Option Jvm.ClassFile.FieldType), (1, 22))))), (yX2_carryStep, (cX2_carryStep, (3, ((some Jvm.ClassFile.FieldType.boolean), (4, 115))))), (yX2_carryMarking, (cX2_carryMarking, (3, ((some Jvm.ClassFile.FieldType.boolean), (3, 86))))), (yX2_carryChange, (cX2_carryChange, (10, ((some Jvm.ClassFile.FieldType.boolean), (3, 86))))), (yX2_carryPosition, (cX2_carryPosition, (10, ((some Jvm.ClassFile.FieldType.int), (2, 57))))), (yX3_init, (cX3_init, (1, ((Option.none : Option Jvm.ClassFile.FieldType), (1, 20))))), (yX3_begin, (cX3_begin, (3, ((Option.none : Option Jvm.ClassFile.FieldType), (1, 20))))), (yX3_leaveRange, (cX3_leaveRange, (1, ((Option.none : Option Jvm.ClassFile.FieldType), (0, 0))))), (yX3_enterRange, (cX3_enterRange, (8, ((Option.none : Option Jvm.ClassFile.FieldType), (0, 0))))), (yX4_init, (cX4_init, (1, ((Option.none : Option Jvm.ClassFile.FieldType), (2, 40))))), (yX4_becomeChange, (cX4_becomeChange, (1, ((Option.none : Option Jvm.ClassFile.FieldType), (1, 20))))), (yX4_addRange, (cX4_addRange, (3, ((Option.none : Option Jvm.ClassFile.FieldType), (0, 0))))), (yX4_addPut, (cX4_addPut, (2, ((Option.none : Option Jvm.ClassFile.FieldType), (1, 21))))), (yX4_becomeMarking, (cX4_becomeMarking, (5, ((Option.none : Option Jvm.ClassFile.FieldType), (2, 40))))), (yX4_become, (cX4_become, (3, ((Option.none : Option Jvm.ClassFile.FieldType), (3, 66))))), (yX4_becomeInverse, (cX4_becomeInverse, (6, ((Option.none : Option Jvm.ClassFile.FieldType), (3, 64))))), (yX4_putStart, (cX4_putStart, (2, ((some Jvm.ClassFile.FieldType.int), (0, 0))))), (yX4_carry, (cX4_carry, (11, ((Option.none : Option Jvm.ClassFile.FieldType), (1, 27))))), (yX4_applyTo, (cX4_applyTo, (7, ((some Jvm.ClassFile.FieldType.boolean), (2, 45))))), (yX4_isWithin, (cX4_isWithin, (5, ((some Jvm.ClassFile.FieldType.boolean), (0, 0))))), (yX4_markTokens, (cX4_markTokens, (5, ((Option.none : Option Jvm.ClassFile.FieldType), (1, 21))))), (yX4_markedToken, (cX4_markedToken, (2, ((some Jvm.ClassFile.FieldType.int), (0, 0))))), (yX4_changesMarks, (cX4_changesMarks, (4, ((some Jvm.ClassFile.FieldType.boolean), (1, 21))))), (yX5_init, (cX5_init, (1, ((Option.none : Option Jvm.ClassFile.FieldType), (1, 20))))), (yX5_clear, (cX5_clear, (1, ((Option.none : Option Jvm.ClassFile.FieldType), (0, 0))))), (yX5_at, (cX5_at, (2, ((some Jvm.ClassFile.FieldType.int), (0, 0))))), (yX5_add, (cX5_add, (2, ((Option.none : Option Jvm.ClassFile.FieldType), (0, 0))))), (yX5_addSlice, (cX5_addSlice, (5, ((Option.none : Option Jvm.ClassFile.FieldType), (1, 21))))), (yX5_become, (cX5_become, (2, ((Option.none : Option Jvm.ClassFile.FieldType), (2, 45))))), (yX5_becomeFirst, (cX5_becomeFirst, (1, ((Option.none : Option Jvm.ClassFile.FieldType), (1, 21))))), (yX5_isLike, (cX5_isLike, (3, ((some Jvm.ClassFile.FieldType.boolean), (1, 21))))), (yX5_findOpen, (cX5_findOpen, (6, ((some Jvm.ClassFile.FieldType.int), (1, 21))))), (yX5_findClosing, (cX5_findClosing, (4, ((some Jvm.ClassFile.FieldType.int), (2, 40))))), (yX5_countCharacters, (cX5_countCharacters, (5, ((some Jvm.ClassFile.FieldType.int), (1, 21))))), (yX6_init, (cX6_init, (2, ((Option.none : Option Jvm.ClassFile.FieldType), (4, 81))))), (yX6_rule, (cX6_rule, (5, ((Option.none : Option Jvm.ClassFile.FieldType), (6, 111))))), (yX6_type, (cX6_type, (5, ((some Jvm.ClassFile.FieldType.int), (7, 127))))), (yX6_erase, (cX6_erase, (5, ((some Jvm.ClassFile.FieldType.int), (8, 133))))), (yX6_split, (cX6_split, (6, ((some Jvm.ClassFile.FieldType.int), (7, 127))))), (yX6_join, (cX6_join, (5, ((some Jvm.ClassFile.FieldType.int), (7, 127))))), (yX6_wrap, (cX6_wrap, (6, ((some Jvm.ClassFile.FieldType.int), (8, 133))))), (yX6_unwrap, (cX6_unwrap, (6, ((some Jvm.ClassFile.FieldType.int), (7, 127))))), (yX6_setType, (cX6_setType, (6, ((some Jvm.ClassFile.FieldType.int), (7, 127))))), (yX6_mark, (cX6_mark, (7, ((some Jvm.ClassFile.FieldType.int), (8, 133))))), (yX6_copy, (cX6_copy, (9, ((some Jvm.ClassFile.FieldType.int), (8, 133))))), (yX6_paste, (cX6_paste, (4, ((some Jvm.ClassFile.FieldType.int), (7, 155))))), (yX6_takeBack, (cX6_takeBack, (4, ((some Jvm.ClassFile.FieldType.int), (7, 111))))), (yX6_revert, (cX6_revert, (5, ((some Jvm.ClassFile.FieldType.int), (7, 137))))), (yX6_send, (cX6_send, (5, ((some Jvm.ClassFile.FieldType.int), (7, 126))))), (yX6_receive, (cX6_receive, (5, ((some Jvm.ClassFile.FieldType.int), (7, 162))))), (yX6_lost, (cX6_lost, (2, ((some Jvm.ClassFile.FieldType.int), (7, 111))))), (yX6_version, (cX6_version, (3, ((some Jvm.ClassFile.FieldType.int), (7, 111))))), (yX6_isBuilt, (cX6_isBuilt, (2, ((some Jvm.ClassFile.FieldType.boolean), (4, 88))))), (yX6_size, (cX6_size, (2, ((some Jvm.ClassFile.FieldType.int), (8, 132))))), (yX6_token, (cX6_token, (4, ((some Jvm.ClassFile.FieldType.int), (8, 132))))), (yX6_around, (cX6_around, (5, ((some Jvm.ClassFile.FieldType.int), (8, 132))))), (yX6_comment, (cX6_comment, (4, ((some Jvm.ClassFile.FieldType.int), (8, 133))))), (yX6_commentAt, (cX6_commentAt, (2, ((some Jvm.ClassFile.FieldType.int), (6, 90))))), (yX6_isOpening, (cX6_isOpening, (1, ((some Jvm.ClassFile.FieldType.boolean), (0, 0))))), (yX6_depthChange, (cX6_depthChange, (1, ((some Jvm.ClassFile.FieldType.int), (1, 20))))), (yX6_clientOf, (cX6_clientOf, (2, ((some (Jvm.ClassFile.FieldType.object "StepEditor$Client")), (6, 90))))), (yX6_documentOf, (cX6_documentOf, (2, ((some (Jvm.ClassFile.FieldType.object "StepEditor$Tokens")), (7, 111))))), (yX6_checkPosition, (cX6_checkPosition, (2, ((Option.none : Option Jvm.ClassFile.FieldType), (6, 90))))), (yX6_checkStretch, (cX6_checkStretch, (3, ((Option.none : Option Jvm.ClassFile.FieldType), (7, 111))))), (yX6_checkNodeType, (cX6_checkNodeType, (1, ((Option.none : Option Jvm.ClassFile.FieldType), (6, 90))))), (yX6_isAnyPending, (cX6_isAnyPending, (2, ((some Jvm.ClassFile.FieldType.boolean), (0, 0))))), (yX6_isFirstValidWith, (cX6_isFirstValidWith, (8, ((some Jvm.ClassFile.FieldType.boolean), (3, 84))))), (yX6_innermost, (cX6_innermost, (2, ((some Jvm.ClassFile.FieldType.int), (0, 0))))), (yX6_isPossible, (cX6_isPossible, (3, ((some Jvm.ClassFile.FieldType.boolean), (3, 84))))), (yX6_addPending, (cX6_addPending, (2, ((Option.none : Option Jvm.ClassFile.FieldType), (6, 106))))), (yX6_draftsBare, (cX6_draftsBare, (5, ((some Jvm.ClassFile.FieldType.boolean), (5, 131))))), (yX6_draftsSlice, (cX6_draftsSlice, (6, ((some Jvm.ClassFile.FieldType.boolean), (4, 106))))), (yX6_draftsWrapped, (cX6_draftsWrapped, (5, ((some Jvm.ClassFile.FieldType.boolean), (4, 106))))), (yX6_addConfirmedMaps, (cX6_addConfirmedMaps, (4, ((Option.none : Option Jvm.ClassFile.FieldType), (1, 22))))), (yX6_mapPending, (cX6_mapPending, (6, ((Option.none : Option Jvm.ClassFile.FieldType), (5, 137))))), (yX6_confirm, (cX6_confirm, (3, ((Option.none : Option Jvm.ClassFile.FieldType), (4, 104))))), (yX6_mapComments, (cX6_mapComments, (5, ((Option.none : Option Jvm.ClassFile.FieldType), (3, 80))))), (yX6_mapOver, (cX6_mapOver, (4, ((some Jvm.ClassFile.FieldType.int), (2, 57))))), (yX7_init, (cX7_init, (2, ((Option.none : Option Jvm.ClassFile.FieldType), (1, 24))))), (yX7_fails, (cX7_fails, (2, ((some Jvm.ClassFile.FieldType.boolean), (0, 0))))), (yX7_isIn, (cX7_isIn, (3, ((some Jvm.ClassFile.FieldType.boolean), (0, 0))))), (yX7_isClient, (cX7_isClient, (1, ((some Jvm.ClassFile.FieldType.boolean), (1, 22))))), (yX7_isPlace, (cX7_isPlace, (3, ((some Jvm.ClassFile.FieldType.boolean), (1, 22))))), (yX7_opens, (cX7_opens, (1, ((some Jvm.ClassFile.FieldType.boolean), (1, 22))))), (yX7_sets, (cX7_sets, (5, ((Option.none : Option Jvm.ClassFile.FieldType), (0, 0))))), (yX7_isDone, (cX7_isDone, (4, ((some Jvm.ClassFile.FieldType.boolean), (0, 0))))), (yX7_spreads, (cX7_spreads, (6, ((some Jvm.ClassFile.FieldType.int), (1, 23))))), (yX7_follows, (cX7_follows, (9, ((some Jvm.ClassFile.FieldType.int), (2, 48))))), (yX7_isValid, (cX7_isValid, (5, ((some Jvm.ClassFile.FieldType.boolean), (3, 76))))), (yX7_begins, (cX7_begins, (1, ((Option.none : Option Jvm.ClassFile.FieldType), (0, 0))))), (yX7_rule, (cX7_rule, (11, ((Option.none : Option Jvm.ClassFile.FieldType), (4, 100))))), (yX7_empties, (cX7_empties, (4, ((Option.none : Option Jvm.ClassFile.FieldType), (0, 0))))), (yX7_copies, (cX7_copies, (4, ((Option.none : Option Jvm.ClassFile.FieldType), (0, 0))))), (yX7_adds, (cX7_adds, (5, ((Option.none : Option Jvm.ClassFile.FieldType), (0, 0))))), (yX7_looksAt, (cX7_looksAt, (3, ((Option.none : Option Jvm.ClassFile.FieldType), (0, 0))))), (yX7_keeps, (cX7_keeps, (3, ((Option.none : Option Jvm.ClassFile.FieldType), (0, 0))))), (yX7_marks, (cX7_marks, (5, ((Option.none : Option Jvm.ClassFile.FieldType), (0, 0))))), (yX7_changes, (cX7_changes, (9, ((Option.none : Option Jvm.ClassFile.FieldType), (0, 0))))), (yX7_isTooLong, (cX7_isTooLong, (2, ((some Jvm.ClassFile.FieldType.boolean), (0, 0))))), (yX7_does, (cX7_does, (2, ((Option.none : Option Jvm.ClassFile.FieldType), (1, 28))))), (yX7_goes, (cX7_goes, (2, ((some Jvm.ClassFile.FieldType.boolean), (4, 100))))), (yX7_startOf, (cX7_startOf, (4, ((some Jvm.ClassFile.FieldType.int), (0, 0))))), (yX7_takesOf, (cX7_takesOf, (4, ((some Jvm.ClassFile.FieldType.int), (0, 0))))), (yX7_rangeAt, (cX7_rangeAt, (7, ((some Jvm.ClassFile.FieldType.int), (1, 23))))), (yX7_maps, (cX7_maps, (12, ((some Jvm.ClassFile.FieldType.int), (1, 23))))), (yX7_mapsThrough, (cX7_mapsThrough, (12, ((some Jvm.ClassFile.FieldType.int), (2, 54))))), (yX7_mapsStep, (cX7_mapsStep, (9, ((some Jvm.ClassFile.FieldType.boolean), (3, 85))))), (yX7_enters, (cX7_enters, (3, ((Option.none : Option Jvm.ClassFile.FieldType), (0, 0))))), (yX7_place, (cX7_place, (2, ((some Jvm.ClassFile.FieldType.int), (0, 0))))), (yX7_canEdit, (cX7_canEdit, (2, ((some Jvm.ClassFile.FieldType.boolean), (5, 121))))), (yX7_edits, (cX7_edits, (2, ((Option.none : Option Jvm.ClassFile.FieldType), (1, 23))))), (yX7_tries, (cX7_tries, (3, ((Option.none : Option Jvm.ClassFile.FieldType), (1, 23))))), (yX7_type, (cX7_type, (5, ((some Jvm.ClassFile.FieldType.int), (6, 142))))), (yX7_erase, (cX7_erase, (5, ((some Jvm.ClassFile.FieldType.int), (6, 142))))), (yX7_depthAt, (cX7_depthAt, (6, ((some Jvm.ClassFile.FieldType.int), (2, 42))))), (yX7_split, (cX7_split, (6, ((some Jvm.ClassFile.FieldType.int), (6, 142))))), (yX7_tokenOf, (cX7_tokenOf, (3, ((some Jvm.ClassFile.FieldType.int), (0, 0))))), (yX7_opensAt, (cX7_opensAt, (3, ((some Jvm.ClassFile.FieldType.boolean), (2, 42))))), (yX7_join, (cX7_join, (6, ((some Jvm.ClassFile.FieldType.int), (6, 142))))), (yX7_wrap, (cX7_wrap, (6, ((some Jvm.ClassFile.FieldType.int), (6, 142))))), (yX7_closing, (cX7_closing, (6, ((some Jvm.ClassFile.FieldType.int), (2, 42))))), (yX7_unwrap, (cX7_unwrap, (6, ((some Jvm.ClassFile.FieldType.int), (6, 142))))), (yX7_setType, (cX7_setType, (7, ((some Jvm.ClassFile.FieldType.int), (6, 142))))), (yX7_mark, (cX7_mark, (11, ((some Jvm.ClassFile.FieldType.int), (2, 49))))), (yX7_copy, (cX7_copy, (11, ((some Jvm.ClassFile.FieldType.int), (3, 67))))), (yX7_canPaste, (cX7_canPaste, (7, ((some Jvm.ClassFile.FieldType.boolean), (6, 142))))), (yX7_isNode, (cX7_isNode, (8, ((some Jvm.ClassFile.FieldType.boolean), (2, 42))))), (yX7_pastes, (cX7_pastes, (7, ((some Jvm.ClassFile.FieldType.boolean), (7, 168))))), (yX7_paste, (cX7_paste, (4, ((some Jvm.ClassFile.FieldType.int), (8, 194))))), (yX7_builds, (cX7_builds, (3, ((Option.none : Option Jvm.ClassFile.FieldType), (2, 49))))), (yX7_takeBack, (cX7_takeBack, (4, ((some Jvm.ClassFile.FieldType.int), (3, 71))))), (yX7_inverts, (cX7_inverts, (3, ((Option.none : Option Jvm.ClassFile.FieldType), (1, 23))))), (yX7_canRevert, (cX7_canRevert, (4, ((some Jvm.ClassFile.FieldType.boolean), (6, 142))))), (yX7_revert, (cX7_revert, (4, ((some Jvm.ClassFile.FieldType.int), (7, 165))))), (yX7_mapsComments, (cX7_mapsComments, (5, ((Option.none : Option Jvm.ClassFile.FieldType), (2, 54))))), (yX7_send, (cX7_send, (5, ((some Jvm.ClassFile.FieldType.int), (3, 78))))), (yX7_rebases, (cX7_rebases, (6, ((Option.none : Option Jvm.ClassFile.FieldType), (5, 121))))), (yX7_receive, (cX7_receive, (3, ((some Jvm.ClassFile.FieldType.int), (6, 146))))), (yX7_of, (cX7_of, (3, ((some Jvm.ClassFile.FieldType.int), (2, 42))))), (yX7_lost, (cX7_lost, (2, ((some Jvm.ClassFile.FieldType.int), (3, 64))))), (yX7_version, (cX7_version, (2, ((some Jvm.ClassFile.FieldType.int), (2, 42))))), (yX7_isBuilt, (cX7_isBuilt, (3, ((some Jvm.ClassFile.FieldType.boolean), (3, 71))))), (yX7_size, (cX7_size, (2, ((some Jvm.ClassFile.FieldType.int), (1, 22))))), (yX7_token, (cX7_token, (4, ((some Jvm.ClassFile.FieldType.int), (2, 44))))), (yX7_around, (cX7_around, (4, ((some Jvm.ClassFile.FieldType.int), (3, 67))))), (yX7_comment, (cX7_comment, (4, ((some Jvm.ClassFile.FieldType.int), (2, 44))))), (yX7_commentAt, (cX7_commentAt, (3, ((some Jvm.ClassFile.FieldType.int), (1, 22))))), (yL_rule, (cL_rule, (6, ((some Jvm.ClassFile.FieldType.int), (7, 135))))), (yL_type, (cL_type, (6, ((some Jvm.ClassFile.FieldType.int), (8, 151))))), (yL_erase, (cL_erase, (6, ((some Jvm.ClassFile.FieldType.int), (9, 157))))), (yL_split, (cL_split, (5, ((some Jvm.ClassFile.FieldType.int), (8, 152))))), (yL_join, (cL_join, (5, ((some Jvm.ClassFile.FieldType.int), (8, 151))))), (yL_wrap, (cL_wrap, (7, ((some Jvm.ClassFile.FieldType.int), (9, 158))))), (yL_unwrap, (cL_unwrap, (5, ((some Jvm.ClassFile.FieldType.int), (8, 152))))), (yL_setType, (cL_setType, (6, ((some Jvm.ClassFile.FieldType.int), (8, 152))))), (yL_mark, (cL_mark, (8, ((some Jvm.ClassFile.FieldType.int), (9, 159))))), (yL_copy, (cL_copy, (6, ((some Jvm.ClassFile.FieldType.int), (9, 161))))), (yL_paste, (cL_paste, (5, ((some Jvm.ClassFile.FieldType.int), (8, 178))))), (yL_takeBack, (cL_takeBack, (4, ((some Jvm.ClassFile.FieldType.int), (8, 134))))), (yL_revert, (cL_revert, (5, ((some Jvm.ClassFile.FieldType.int), (8, 161))))), (yL_send, (cL_send, (4, ((some Jvm.ClassFile.FieldType.int), (8, 150))))), (yL_receive, (cL_receive, (4, ((some Jvm.ClassFile.FieldType.int), (8, 186))))), (yL_lost, (cL_lost, (4, ((some Jvm.ClassFile.FieldType.int), (8, 132))))), (yL_version, (cL_version, (4, ((some Jvm.ClassFile.FieldType.int), (8, 133))))), (yL_size, (cL_size, (4, ((some Jvm.ClassFile.FieldType.int), (9, 153))))), (yL_token, (cL_token, (5, ((some Jvm.ClassFile.FieldType.int), (9, 155))))), (yL_around, (cL_around, (5, ((some Jvm.ClassFile.FieldType.int), (9, 156))))), (yL_comment, (cL_comment, (5, ((some Jvm.ClassFile.FieldType.int), (9, 156))))), (yL_commentAt, (cL_commentAt, (4, ((some Jvm.ClassFile.FieldType.int), (7, 111))))), (yL_law, (cL_law, (7, (ret, (10, 217)))))]
noncomputable def sx_mq : List (Nat × (Nat × (Nat × (Nat × Nat)))) := [(2, (253, (252, (0, 72)))), (2, (93, (92, (0, 67)))), (0, (512, (510, (511, 67)))), (0, (516, (514, (515, 67)))), (0, (520, (518, (519, 67)))), (0, (524, (522, (523, 67)))), (1, (532, (531, (0, 67)))), (0, (539, (538, (7, 67)))), (0, (528, (527, (6, 67)))), (2, (192, (191, (0, 70)))), (0, (742, (740, (741, 70)))), (0, (750, (748, (749, 70)))), (0, (824, (822, (823, 70)))), (0, (754, (752, (753, 70)))), (0, (758, (757, (16, 70)))), (0, (785, (784, (18, 70)))), (0, (762, (761, (17, 70)))), (2, (199, (198, (0, 71)))), (0, (766, (764, (765, 71)))), (0, (770, (768, (769, 71)))), (0, (780, (778, (779, 71)))), (2, (143, (142, (0, 69)))), (0, (561, (559, (560, 69)))), (0, (565, (563, (564, 69)))), (0, (569, (567, (568, 69)))), (0, (663, (661, (662, 69)))), (0, (351, (349, (350, 69)))), (0, (731, (729, (730, 69)))), (0, (736, (734, (735, 69)))), (0, (775, (773, (774, 69)))), (0, (367, (365, (366, 69)))), (0, (382, (381, (2, 69)))), (0, (371, (370, (0, 69)))), (0, (377, (376, (1, 69)))), (0, (668, (666, (667, 69)))), (2, (124, (123, (0, 68)))), (0, (266, (264, (265, 68)))), (0, (363, (361, (362, 68)))), (0, (270, (268, (269, 68)))), (0, (359, (357, (358, 68)))), (0, (355, (353, (354, 68)))), (0, (262, (260, (261, 68)))), (0, (388, (386, (387, 68)))), (0, (601, (599, (600, 68)))), (0, (639, (637, (638, 68)))), (0, (673, (671, (672, 68)))), (2, (85, (84, (0, 66)))), (0, (398, (396, (397, 66)))), (0, (547, (545, (546, 66)))), (0, (586, (584, (585, 66)))), (0, (597, (595, (596, 66)))), (0, (614, (612, (613, 66)))), (0, (624, (622, (623, 66)))), (0, (635, (633, (634, 66)))), (0, (650, (648, (649, 66)))), (0, (658, (656, (657, 66)))), (0, (680, (678, (679, 66)))), (0, (697, (695, (696, 66)))), (0, (718, (716, (717, 66)))), (0, (726, (724, (725, 66)))), (0, (793, (791, (792, 66)))), (0, (816, (814, (815, 66)))), (0, (832, (830, (831, 66)))), (0, (839, (837, (838, 66)))), (0, (347, (345, (346, 66)))), (0, (846, (844, (845, 66)))), (0, (857, (855, (856, 66)))), (0, (865, (863, (864, 66)))), (0, (872, (870, (871, 66)))), (0, (880, (878, (879, 66)))), (1, (535, (534, (0, 66)))), (1, (642, (641, (0, 66)))), (0, (551, (550, (8, 66)))), (0, (850, (849, (23, 66)))), (1, (555, (554, (0, 66)))), (1, (589, (588, (0, 66)))), (1, (627, (626, (0, 66)))), (0, (488, (487, (4, 66)))), (0, (508, (507, (5, 66)))), (0, (606, (605, (11, 66)))), (0, (578, (577, (10, 66)))), (0, (573, (572, (9, 66)))), (0, (702, (701, (12, 66)))), (0, (706, (705, (13, 66)))), (0, (710, (709, (14, 66)))), (0, (746, (745, (15, 66)))), (0, (820, (819, (22, 66)))), (0, (799, (798, (19, 66)))), (0, (803, (802, (20, 66)))), (0, (807, (806, (21, 66)))), (2, (886, (885, (0, 73)))), (0, (1022, (1021, (30, 73)))), (1, (995, (994, (0, 73)))), (1, (1029, (1028, (0, 73)))), (0, (1033, (1032, (31, 73)))), (1, (1014, (1013, (0, 73)))), (0, (891, (890, (24, 73)))), (0, (1011, (1010, (28, 73)))), (0, (1007, (1006, (27, 73)))), (0, (1018, (1017, (29, 73)))), (0, (1003, (1002, (26, 73)))), (0, (999, (998, (25, 73)))), (0, (992, (990, (991, 73)))), (0, (1041, (1040, (33, 73)))), (0, (1084, (1083, (43, 73)))), (0, (1045, (1044, (34, 73)))), (0, (1053, (1052, (36, 73)))), (0, (1088, (1087, (44, 73)))), (0, (1069, (1068, (40, 73)))), (0, (1073, (1072, (41, 73)))), (0, (1061, (1060, (38, 73)))), (0, (1065, (1064, (39, 73)))), (0, (1057, (1056, (37, 73)))), (0, (1180, (1179, (56, 73)))), (0, (1196, (1195, (60, 73)))), (0, (1192, (1191, (59, 73)))), (0, (1200, (1199, (61, 73)))), (0, (1188, (1187, (58, 73)))), (0, (1184, (1183, (57, 73)))), (0, (1172, (1171, (54, 73)))), (1, (1080, (1079, (0, 73)))), (0, (1049, (1048, (35, 73)))), (0, (1077, (1076, (42, 73)))), (0, (1037, (1036, (32, 73)))), (0, (1026, (1024, (1025, 73)))), (0, (1092, (1090, (1091, 73)))), (0, (1100, (1099, (45, 73)))), (0, (1096, (1094, (1095, 73)))), (0, (1112, (1111, (47, 73)))), (0, (1108, (1107, (46, 73)))), (0, (1104, (1102, (1103, 73)))), (0, (1116, (1114, (1115, 73)))), (0, (1124, (1123, (48, 73)))), (0, (1120, (1118, (1119, 73)))), (0, (1128, (1126, (1127, 73)))), (0, (1132, (1130, (1131, 73)))), (0, (1136, (1134, (1135, 73)))), (0, (1148, (1147, (50, 73)))), (0, (1152, (1151, (51, 73)))), (0, (1144, (1143, (49, 73)))), (0, (1140, (1138, (1139, 73)))), (0, (1160, (1159, (52, 73)))), (0, (1156, (1154, (1155, 73)))), (0, (1176, (1175, (55, 73)))), (0, (1168, (1167, (53, 73)))), (0, (1164, (1162, (1163, 73)))), (0, (1208, (1207, (62, 73)))), (0, (1204, (1202, (1203, 73)))), (0, (1216, (1215, (63, 73)))), (0, (1212, (1210, (1211, 73)))), (0, (1224, (1223, (64, 73)))), (0, (1220, (1218, (1219, 73)))), (0, (1228, (1226, (1227, 73)))), (0, (1232, (1230, (1231, 73)))), (0, (1236, (1234, (1235, 73)))), (0, (1240, (1238, (1239, 73)))), (0, (1244, (1242, (1243, 73)))), (0, (1248, (1246, (1247, 73)))), (0, (1252, (1250, (1251, 73)))), (3, (391, (390, (0, 65)))), (3, (543, (542, (0, 65)))), (3, (582, (581, (0, 65)))), (3, (593, (592, (0, 65)))), (3, (610, (609, (0, 65)))), (3, (620, (619, (0, 65)))), (3, (631, (630, (0, 65)))), (3, (646, (645, (0, 65)))), (3, (654, (653, (0, 65)))), (3, (676, (675, (0, 65)))), (3, (693, (692, (0, 65)))), (3, (714, (713, (0, 65)))), (3, (722, (721, (0, 65)))), (3, (789, (788, (0, 65)))), (3, (812, (811, (0, 65)))), (3, (828, (827, (0, 65)))), (3, (835, (834, (0, 65)))), (3, (842, (841, (0, 65)))), (3, (853, (852, (0, 65)))), (3, (861, (860, (0, 65)))), (3, (868, (867, (0, 65)))), (3, (876, (875, (0, 65)))), (4, (0, (0, (0, 0))))]
noncomputable def cd_X0_init : List Nat := [nat_lit 0, nat_lit 4913074530913852966006054913, nat_lit 4, nat_lit 634018728245255293216120909829, nat_lit 4932417344027687032802103303, nat_lit 5299930793197289701361442826, nat_lit 13, nat_lit 4951760157141521099597889550, nat_lit 65553, nat_lit 4971102970255355166401134610, nat_lit 5338616419427209634765725717, nat_lit 24, nat_lit 4951760157141521099597889561, nat_lit 65564, nat_lit 4971102970255355166401134621, nat_lit 5377302045657129568170008608, nat_lit 35, nat_lit 4951760157141521099597889572, nat_lit 65575, nat_lit 4971102970255355166401134632, nat_lit 5415987671887049501574291499, nat_lit 633825300114114700748351615022, nat_lit 299055, nat_lit 270384, nat_lit 49, nat_lit 5299930793197289701352935474, nat_lit 98357, nat_lit 83316593107185718, nat_lit 57, nat_lit 5299930793197289701352935482, nat_lit 270397, nat_lit 4932417344027687032802328638, nat_lit 65601, nat_lit 4990445783369189233192763458, nat_lit 847941, nat_lit 633844642927230786614960906310, nat_lit 51791395714781257, nat_lit 76, nat_lit 5338616419427209634757218381, nat_lit 5009788596663167285087977552, nat_lit 83, nat_lit 5377302045657129568161501268, nat_lit 5009788596663167285087977559, nat_lit 69722]
noncomputable def cd_X1_init : List Nat := [nat_lit 0, nat_lit 1818224432700402278758244353, nat_lit 4, nat_lit 1837567245834502543876702213, nat_lit 2050338190066411080310448142, nat_lit 17, nat_lit 2011652563890534342426247186, nat_lit 2069681003182496946919432219, nat_lit 30, nat_lit 635005211714060830622694518815, nat_lit 2301794760546253948640653345, nat_lit 2089023816298582813528416291, nat_lit 38, nat_lit 635005211714060830622694518823, nat_lit 2301794760546253948640653353, nat_lit 2108366629414668680137400363, nat_lit 69678]
noncomputable def cd_X1_kindsOf : List Nat := [nat_lit 633883328553456202948738297856, nat_lit 270337, nat_lit 557058, nat_lit 532483, nat_lit 32772, nat_lit 823301, nat_lit 794630, nat_lit 40532396646899719, nat_lit 794634, nat_lit 11, nat_lit 2050338190066411080301940748, nat_lit 98319, nat_lit 40532396647165968, nat_lit 19, nat_lit 2050338190066411080301940756, nat_lit 794647, nat_lit 24600, nat_lit 42784196460040217, nat_lit 633825300114114700748351615004, nat_lit 28701]
noncomputable def cd_X1_quantityOf : List Nat := [nat_lit 633883328553456202948738297856, nat_lit 270337, nat_lit 557058, nat_lit 532483, nat_lit 32772, nat_lit 823301, nat_lit 794630, nat_lit 40532396646899719, nat_lit 794634, nat_lit 11, nat_lit 2069681003182496946910924812, nat_lit 98319, nat_lit 40532396647165968, nat_lit 19, nat_lit 2069681003182496946910924820, nat_lit 794647, nat_lit 24600, nat_lit 42784196460040217, nat_lit 633825300114114700748351615004, nat_lit 28701]
noncomputable def cd_X1_setElement : List Nat := [nat_lit 633883328553456202948738297856, nat_lit 270337, nat_lit 557058, nat_lit 532483, nat_lit 32772, nat_lit 1347589, nat_lit 1318919, nat_lit 63050394783752201, nat_lit 1318924, nat_lit 14, nat_lit 2050338190066411080301940751, nat_lit 98322, nat_lit 63050394784018451, nat_lit 1318934, nat_lit 24, nat_lit 2069681003182496946910924825, nat_lit 98332, nat_lit 63050394784018461, nat_lit 32, nat_lit 2050338190066411080301940769, nat_lit 1318948, nat_lit 794662, nat_lit 61479, nat_lit 40, nat_lit 2069681003182496946910924841, nat_lit 1318956, nat_lit 1056814, nat_lit 61488, nat_lit 69681]
noncomputable def cd_X1_accepts : List Nat := [nat_lit 633825300114114700748351614976, nat_lit 561153, nat_lit 2, nat_lit 2089023816298582813519908867, nat_lit 633825300114114700748351614982, nat_lit 633825300114114700748351614983, nat_lit 61448, nat_lit 9, nat_lit 2108366629414668680128892938, nat_lit 633825300114114700748351614989, nat_lit 14, nat_lit 633825300114114700748351614991, nat_lit 633844642927228534815147175952, nat_lit 10154976884803417464180326417, nat_lit 61460, nat_lit 633825300114114700748351614997, nat_lit 823318, nat_lit 794647, nat_lit 262168, nat_lit 2495222891686846416408547353, nat_lit 216172782114615324, nat_lit 262175, nat_lit 794656, nat_lit 10232348137400617119631294497, nat_lit 1085476, nat_lit 1056806, nat_lit 87820192734027816, nat_lit 532523, nat_lit 78812993479024684, nat_lit 47, nat_lit 2108366629414668680128892976, nat_lit 532531, nat_lit 24628, nat_lit 10251690950334307201323683893, nat_lit 83316593106657336, nat_lit 633825300114114700748351615035, nat_lit 77884, nat_lit 633815628707555531915140849725, nat_lit 211669182486433856, nat_lit 1056835, nat_lit 10309719389675809401726472261, nat_lit 99079191802191944, nat_lit 1056843, nat_lit 101330991615856717, nat_lit 633941356992799956948938666064, nat_lit 1347666, nat_lit 84, nat_lit 2108366629414668680128893013, nat_lit 532568, nat_lit 89, nat_lit 90, nat_lit 2089023816298582813519908955, nat_lit 532574, nat_lit 24671, nat_lit 96, nat_lit 2108366629414668680128893025, nat_lit 532580, nat_lit 24677, nat_lit 1319014, nat_lit 10367747829057843998742036584, nat_lit 61547, nat_lit 108, nat_lit 2108366629414668680128893037, nat_lit 532592, nat_lit 24689, nat_lit 153122387330900082, nat_lit 633825300114114700748351615093, nat_lit 77942, nat_lit 1319031, nat_lit 633941356992799956948938666105, nat_lit 211669182486458491, nat_lit 532606, nat_lit 633844642927228534815147176063, nat_lit 32896, nat_lit 129, nat_lit 2089023816298582813519908994, nat_lit 98437, nat_lit 180143985095389318, nat_lit 633825300114114700748351615113, nat_lit 77962, nat_lit 633844642927230786614961168523, nat_lit 142, nat_lit 2089023816298582813519909007, nat_lit 532626, nat_lit 1319059, nat_lit 61589, nat_lit 150, nat_lit 2108366629414668680128893079, nat_lit 532634, nat_lit 155, nat_lit 1319068, nat_lit 633844642927228534815147176094, nat_lit 10154976884803417464180326559, nat_lit 61602, nat_lit 633844642927230786614961430691, nat_lit 38280596832669862, nat_lit 532649, nat_lit 238690780250939562, nat_lit 173, nat_lit 2108366629414668680128893102, nat_lit 633825300114114700748351615153, nat_lit 24754, nat_lit 10251690950334307201323684019, nat_lit 238690780250677430, nat_lit 633844642927228534815147176121, nat_lit 240942580064342202, nat_lit 633825300114114700748351615165, nat_lit 78014]
noncomputable def cd_X1_isEnd : List Nat := [nat_lit 8192, nat_lit 635063240153402332823081201665, nat_lit 819203, nat_lit 13510798882152452, nat_lit 633844642927228534815147175943, nat_lit 15762598695817224, nat_lit 633825300114114700748351614987, nat_lit 77836]
noncomputable def cd_X1_advance : List Nat := [nat_lit 633825300114114700748351614976, nat_lit 1085441, nat_lit 633825300114114700748351614979, nat_lit 1347588, nat_lit 1318918, nat_lit 633883328553456202948738297864, nat_lit 200410183418818569, nat_lit 633883328553456202948738297868, nat_lit 270349, nat_lit 557070, nat_lit 1318927, nat_lit 32785, nat_lit 1609746, nat_lit 532500, nat_lit 633863985740342368881942736917, nat_lit 1318934, nat_lit 557080, nat_lit 1867801, nat_lit 633883328553456202948738297882, nat_lit 819227, nat_lit 51791395714801692, nat_lit 633844642927228534815147175967, nat_lit 54043195528466464, nat_lit 633825300114114700748351615011, nat_lit 1871908, nat_lit 1843238, nat_lit 195906583790657576, nat_lit 1581099, nat_lit 195906583791181869, nat_lit 1581104, nat_lit 50, nat_lit 2050338190066411080301940787, nat_lit 98358, nat_lit 195906583791448119, nat_lit 1581114, nat_lit 60, nat_lit 2069681003182496946910924861, nat_lit 98368, nat_lit 195906583791448129, nat_lit 68, nat_lit 2050338190066411080301940805, nat_lit 1581128, nat_lit 24650, nat_lit 794699, nat_lit 1867852, nat_lit 633844642927228534815147176013, nat_lit 819278, nat_lit 112589990684303439, nat_lit 633844642927228534815147176018, nat_lit 114841790497968211, nat_lit 633825300114114700748351615062, nat_lit 2134103, nat_lit 89, nat_lit 2069681003182496946910924890, nat_lit 1581149, nat_lit 24671, nat_lit 2396256, nat_lit 2367586, nat_lit 633863985740342368881942736996, nat_lit 141863388262215781, nat_lit 2367592, nat_lit 633883328553456202948738297962, nat_lit 146366987889848427, nat_lit 633844642927228534815147176046, nat_lit 148618787703246959, nat_lit 633825300114114700748351615090, nat_lit 2658419, nat_lit 2105461, nat_lit 195906583790657655, nat_lit 1056890, nat_lit 633844642927228534815147176060, nat_lit 2629757, nat_lit 177892185281175679, nat_lit 633863985740342368881942737026, nat_lit 1319043, nat_lit 557189, nat_lit 633844642927228534815147176070, nat_lit 32903, nat_lit 189151184349581448, nat_lit 633863985740342368881942737035, nat_lit 1319052, nat_lit 557198, nat_lit 633863985740342368881942737039, nat_lit 32912, nat_lit 1605777, nat_lit 1081490, nat_lit 1085587, nat_lit 633844642927230786614961954965, nat_lit 9007199254761624, nat_lit 155, nat_lit 270492, nat_lit 1056925, nat_lit 10154976884803417464180326559, nat_lit 28834]
noncomputable def cd_X1_skip : List Nat := [nat_lit 532480, nat_lit 823297, nat_lit 633825300114114700748351614978, nat_lit 1085443, nat_lit 1056773, nat_lit 633883328553456202948738297863, nat_lit 213920982300930056, nat_lit 633883328553456202948738297867, nat_lit 270348, nat_lit 557069, nat_lit 1056782, nat_lit 32784, nat_lit 1347601, nat_lit 794643, nat_lit 633863985740342368881942736916, nat_lit 1056789, nat_lit 557079, nat_lit 1867800, nat_lit 633844642927228534815147175961, nat_lit 819226, nat_lit 51791395714801691, nat_lit 633844642927228534815147175966, nat_lit 54043195528466463, nat_lit 633825300114114700748351615010, nat_lit 1609763, nat_lit 794661, nat_lit 633863985740342368881942736934, nat_lit 1056807, nat_lit 557097, nat_lit 633844642927228534815147175978, nat_lit 32811, nat_lit 1867820, nat_lit 633844642927228534815147175981, nat_lit 819246, nat_lit 83316593106395183, nat_lit 633844642927228534815147175986, nat_lit 85568392920059955, nat_lit 633825300114114700748351615030, nat_lit 1871927, nat_lit 1581113, nat_lit 182395784908546107, nat_lit 1318974, nat_lit 182395784909070400, nat_lit 1318979, nat_lit 69, nat_lit 2050338190066411080301940806, nat_lit 98377, nat_lit 182395784909336650, nat_lit 1318989, nat_lit 79, nat_lit 2069681003182496946910924880, nat_lit 98387, nat_lit 182395784909336660, nat_lit 87, nat_lit 2069681003182496946910924888, nat_lit 1319003, nat_lit 24669, nat_lit 2134110, nat_lit 2105440, nat_lit 633844642927228534815147176034, nat_lit 144115188075901027, nat_lit 2105446, nat_lit 633863985740342368881942737000, nat_lit 148618787703533673, nat_lit 633844642927228534815147176044, nat_lit 150870587516932205, nat_lit 633825300114114700748351615088, nat_lit 2396273, nat_lit 1843315, nat_lit 173388585654067317, nat_lit 120, nat_lit 2050338190066411080301940857, nat_lit 1319036, nat_lit 24702, nat_lit 173388585653805183, nat_lit 2367618, nat_lit 177892185281175684, nat_lit 633844642927228534815147176071, nat_lit 180143985094840456, nat_lit 633825300114114700748351615115, nat_lit 1872012, nat_lit 1843342, nat_lit 209417382672769168, nat_lit 794771, nat_lit 633844642927228534815147176084, nat_lit 633863985740342368881942737045, nat_lit 1056918, nat_lit 557208, nat_lit 633863985740342368881942737049, nat_lit 32922, nat_lit 1605787, nat_lit 1081500, nat_lit 823453, nat_lit 633844642927230786614961692830, nat_lit 9007199254761633, nat_lit 794788, nat_lit 28837]
noncomputable def cd_X2_init : List Nat := [nat_lit 0, nat_lit 3733162930969974891492827137, nat_lit 4, nat_lit 635372725163223677891810177029, nat_lit 3752505744083808958288875527, nat_lit 4487532642409503496518361098, nat_lit 13, nat_lit 635372725163223677891810177038, nat_lit 4468189829295669429714382864, nat_lit 4506875455525589363127345170, nat_lit 21, nat_lit 635372725163223677891810177046, nat_lit 2301794760546253948640653336, nat_lit 4526218268641675229736329242, nat_lit 29, nat_lit 3771848557197643025084137502, nat_lit 65569, nat_lit 3810534183425311158678487074, nat_lit 4564903894873846962954297381, nat_lit 69672]
noncomputable def cd_X2_clear : List Nat := [nat_lit 0, nat_lit 633825300114114700748351614977, nat_lit 4545561081757761096336850946, nat_lit 69637]
noncomputable def cd_X2_addMap : List Nat := [nat_lit 0, nat_lit 4545561081757761096336805889, nat_lit 69805794224807940, nat_lit 7, nat_lit 4545561081757761096336805896, nat_lit 635372725163223677891810177035, nat_lit 69805794225074189, nat_lit 16, nat_lit 4487532642409503496509853713, nat_lit 20, nat_lit 4545561081757761096336805909, nat_lit 262168, nat_lit 847897, nat_lit 26, nat_lit 4506875455525589363118837787, nat_lit 30, nat_lit 4545561081757761096336805919, nat_lit 532514, nat_lit 323619, nat_lit 36, nat_lit 4526218268641675229727821861, nat_lit 40, nat_lit 4545561081757761096336805929, nat_lit 633805957301001992581462896684, nat_lit 61485, nat_lit 46, nat_lit 65583, nat_lit 4545561081757761096336805936, nat_lit 633844642927228534815147175987, nat_lit 32820, nat_lit 4545561081757761096336850997, nat_lit 69688]
noncomputable def cd_X2_addPartner : List Nat := [nat_lit 532480, nat_lit 42784196460584961, nat_lit 532484, nat_lit 5, nat_lit 4545561081757761096336805894, nat_lit 42784196460851209, nat_lit 532492, nat_lit 635372725163223677891810177037, nat_lit 42784196460851215, nat_lit 18, nat_lit 4526218268641675229727821843, nat_lit 532502, nat_lit 23, nat_lit 4545561081757761096336805912, nat_lit 61467, nat_lit 28, nat_lit 262173, nat_lit 633825300114114700748351615006, nat_lit 15957820818989666299789721631, nat_lit 69666]
noncomputable def cd_X2_carryStep : List Nat := [nat_lit 262144, nat_lit 2862736340847441885705277441, nat_lit 18014398509522948, nat_lit 7, nat_lit 262152, nat_lit 532489, nat_lit 14603823901021281624119590922, nat_lit 27021597764243469, nat_lit 16, nat_lit 262161, nat_lit 532498, nat_lit 15126079855094801427592921107, nat_lit 77846]
noncomputable def cd_X2_carryMarking : List Nat := [nat_lit 262144, nat_lit 1, nat_lit 262146, nat_lit 2901421967077361819109560323, nat_lit 633844642927228534815147175942, nat_lit 532487, nat_lit 14681195153478869691114995720, nat_lit 2901421967077361819109605387, nat_lit 262158, nat_lit 15, nat_lit 262160, nat_lit 2940107593307281752513843217, nat_lit 633825300114114700748351614996, nat_lit 532501, nat_lit 14681195153478869691114995734, nat_lit 2940107593307281752513888281, nat_lit 262172, nat_lit 2940107593307281752513843229, nat_lit 262176, nat_lit 2901421967077361819109560353, nat_lit 51791395716116516, nat_lit 633844642927228534815147175975, nat_lit 54043195528466472, nat_lit 633825300114114700748351615019, nat_lit 77868]
noncomputable def cd_X2_carryChange : List Nat := [nat_lit 633825300114114700748351614976, nat_lit 823297, nat_lit 633825300114114700748351614978, nat_lit 1085443, nat_lit 1056773, nat_lit 262151, nat_lit 3017478845769373419136094216, nat_lit 164381386399854603, nat_lit 1056782, nat_lit 633863985740342368881942736912, nat_lit 164381386399854609, nat_lit 262164, nat_lit 3056164471999293352540377109, nat_lit 1056792, nat_lit 24602, nat_lit 262171, nat_lit 3094850098229213285944659996, nat_lit 1056799, nat_lit 24609, nat_lit 32802, nat_lit 1347619, nat_lit 37, nat_lit 262182, nat_lit 3056164471999293352540377127, nat_lit 1056810, nat_lit 24620, nat_lit 633844642927228534815147175981, nat_lit 532526, nat_lit 14681195153478869691114995759, nat_lit 1609778, nat_lit 52, nat_lit 4564903894873846962945790005, nat_lit 4003962314568155426255015992, nat_lit 1871931, nat_lit 1581117, nat_lit 63, nat_lit 1318976, nat_lit 633825300114114700748351615042, nat_lit 532547, nat_lit 14681195153478869691114995780, nat_lit 14913308910766065499175526471, nat_lit 2134090, nat_lit 76, nat_lit 4564903894873846962945790029, nat_lit 4003962314568155426255016016, nat_lit 2396243, nat_lit 1843285, nat_lit 112589990684303447, nat_lit 2367578, nat_lit 123848989752991836, nat_lit 1056863, nat_lit 128352589381410913, nat_lit 1581156, nat_lit 794726, nat_lit 128352589380890727, nat_lit 633825300114114700748351615082, nat_lit 77931, nat_lit 262252, nat_lit 3056164471999293352540377197, nat_lit 1056880, nat_lit 1581170, nat_lit 61556, nat_lit 262261, nat_lit 3094850098229213285944660086, nat_lit 1056889, nat_lit 2105467, nat_lit 1581181, nat_lit 295039, nat_lit 61568, nat_lit 2105473, nat_lit 823427, nat_lit 633844642927230786614961692804, nat_lit 9007199254761607, nat_lit 633844642927228534815147176074, nat_lit 77963]
noncomputable def cd_X2_carryPosition : List Nat := [nat_lit 0, nat_lit 4564903894873846962945789953, nat_lit 270340, nat_lit 532485, nat_lit 14758566405967982955501993990, nat_lit 794633, nat_lit 633825300114114700748351614986, nat_lit 14913308910766065499175526411, nat_lit 1085454, nat_lit 633825300114114700748351614992, nat_lit 1347601, nat_lit 1318931, nat_lit 635372725163223677891810177045, nat_lit 207165582859874327, nat_lit 1056794, nat_lit 28, nat_lit 4545561081757761096336805917, nat_lit 207165582859874336, nat_lit 1056803, nat_lit 635372725163223677891810177061, nat_lit 207165582859874343, nat_lit 1056810, nat_lit 633844642927228534815147175980, nat_lit 32813, nat_lit 1609774, nat_lit 48, nat_lit 4487532642409503496509853745, nat_lit 1056820, nat_lit 811062, nat_lit 1925175, nat_lit 1835065, nat_lit 198158383604428859, nat_lit 1835070, nat_lit 64, nat_lit 4564903894873846962945790017, nat_lit 68, nat_lit 4506875455525589363118837829, nat_lit 1056840, nat_lit 286794, nat_lit 14932651724028518353681530955, nat_lit 78, nat_lit 4526218268641675229727821903, nat_lit 1056850, nat_lit 24660, nat_lit 2134101, nat_lit 2105431, nat_lit 123848989753253977, nat_lit 2105436, nat_lit 635372725163223677891810177118, nat_lit 123848989753520224, nat_lit 99, nat_lit 4487532642409503496509853796, nat_lit 2105447, nat_lit 811113, nat_lit 126100789566394474, nat_lit 110701, nat_lit 2449518, nat_lit 112, nat_lit 4564903894873846962945790065, nat_lit 4158704819487835159872147572, nat_lit 180143985094860919, nat_lit 2359418, nat_lit 180143985094946940, nat_lit 127, nat_lit 4564903894873846962945790080, nat_lit 2359427, nat_lit 133, nat_lit 4564903894873846962945790086, nat_lit 4042647940798075359659298953, nat_lit 15106737042050773155025272972, nat_lit 143, nat_lit 4564903894873846962945790096, nat_lit 4081333567027995293063581843, nat_lit 32918, nat_lit 3907248248994481492651196567, nat_lit 2105498, nat_lit 633844642927228534815147176092, nat_lit 32925, nat_lit 1609886, nat_lit 198158383604322464, nat_lit 163, nat_lit 4564903894873846962945790116, nat_lit 4120019193257915226467864743, nat_lit 198158383604342954, nat_lit 173, nat_lit 4564903894873846962945790126, nat_lit 633844642927228534815147176113, nat_lit 4003962314568155426259255474, nat_lit 1581237, nat_lit 1085623, nat_lit 633844642927230786614961955001, nat_lit 24769797950558396, nat_lit 191, nat_lit 4564903894873846962945790144, nat_lit 3907248248994481492651151555, nat_lit 28870]
noncomputable def cd_X3_init : List Nat := [nat_lit 0, nat_lit 3868562622766813359059918849, nat_lit 69636]
noncomputable def cd_X3_begin : List Nat := [nat_lit 0, nat_lit 270337, nat_lit 3887905435880647425855897602, nat_lit 5, nat_lit 532486, nat_lit 3965276688338235492854972423, nat_lit 10, nat_lit 633825300114114700748351614987, nat_lit 3984619501454321359463956492, nat_lit 15, nat_lit 14835937658418815623056080912, nat_lit 69651]
noncomputable def cd_X3_leaveRange : List Nat := [nat_lit 0, nat_lit 633805957301001992581462896641, nat_lit 4023305127684241292864045058, nat_lit 5, nat_lit 633825300114114700748351614982, nat_lit 4061990753914161226268327943, nat_lit 10, nat_lit 633825300114114700748351614987, nat_lit 4100676380144081159676805132, nat_lit 15, nat_lit 633825300114114700748351614992, nat_lit 4139362006374001093081088017, nat_lit 69652]
noncomputable def cd_X3_enterRange : List Nat := [nat_lit 0, nat_lit 3887905435880647425855852545, nat_lit 532484, nat_lit 13510798882418693, nat_lit 633844642927228534815147175944, nat_lit 15762598695817225, nat_lit 633825300114114700748351614988, nat_lit 1609741, nat_lit 15, nat_lit 3887905435880647425855852560, nat_lit 794643, nat_lit 31525197391900692, nat_lit 633844642927228534815147175959, nat_lit 33776997205299224, nat_lit 633825300114114700748351615003, nat_lit 1871900, nat_lit 30, nat_lit 270367, nat_lit 4023305127684241292864045088, nat_lit 35, nat_lit 36, nat_lit 3887905435880647425855852581, nat_lit 532520, nat_lit 294953, nat_lit 4061990753914161226268327978, nat_lit 45, nat_lit 1581102, nat_lit 72057594038231088, nat_lit 1843251, nat_lit 72057594038231093, nat_lit 633844642927228534815147175992, nat_lit 74309393851633721, nat_lit 633825300114114700748351615036, nat_lit 4100676380144081159676805181, nat_lit 64, nat_lit 65, nat_lit 3965276688338235492850733122, nat_lit 99079191802191941, nat_lit 1843272, nat_lit 94575592175083594, nat_lit 633844642927228534815147176013, nat_lit 110338190870597710, nat_lit 633825300114114700748351615057, nat_lit 110338190870597714, nat_lit 1581141, nat_lit 108086391057195095, nat_lit 633844642927228534815147176026, nat_lit 110338190870597723, nat_lit 633825300114114700748351615070, nat_lit 4139362006374001093081088095, nat_lit 1581154, nat_lit 130604389193785444, nat_lit 1843303, nat_lit 130604389194047593, nat_lit 108, nat_lit 1056877, nat_lit 3887905435880647425855897711, nat_lit 166633186212728946, nat_lit 1843317, nat_lit 148618787703267447, nat_lit 1581178, nat_lit 148618787703529596, nat_lit 127, nat_lit 1319040, nat_lit 3887905435880647425855897730, nat_lit 166633186212728965, nat_lit 136, nat_lit 137, nat_lit 3965276688338235492850733194, nat_lit 162129586585378957, nat_lit 1319056, nat_lit 164381386399043730, nat_lit 1056917, nat_lit 3887905435880647425855897751, nat_lit 69786]
noncomputable def cd_X4_init : List Nat := [nat_lit 0, nat_lit 2785365088392105618523185153, nat_lit 4, nat_lit 633863985740342368881942736901, nat_lit 2301794760546253948640653318, nat_lit 3036821658885459285753585672, nat_lit 11, nat_lit 633863985740342368881942736908, nat_lit 2301794760546253948640653325, nat_lit 3075507285115379219157868559, nat_lit 18, nat_lit 633863985740342368881942736915, nat_lit 2301794760546253948640653332, nat_lit 3114192911345299152562151446, nat_lit 25, nat_lit 2804707901505939685319720986, nat_lit 65565, nat_lit 2824050714619773752122966046, nat_lit 3133535724461385019171135521, nat_lit 36, nat_lit 2804707901505939685319720997, nat_lit 65576, nat_lit 2824050714619773752122966057, nat_lit 3152878537577470885780119596, nat_lit 69679]
noncomputable def cd_X4_becomeChange : List Nat := [nat_lit 0, nat_lit 633825300114114700748351614977, nat_lit 2843393527733607818914217986, nat_lit 5, nat_lit 633825300114114700748351614982, nat_lit 2998136032655539352340840455, nat_lit 10, nat_lit 3133535724461385019162628107, nat_lit 7195526478526416832955432974, nat_lit 17, nat_lit 3152878537577470885771612178, nat_lit 7195526478526416832955432981, nat_lit 69656]
noncomputable def cd_X4_addRange : List Nat := [nat_lit 0, nat_lit 2998136032655539352340795393, nat_lit 69805794224807940, nat_lit 7, nat_lit 2998136032655539352340795400, nat_lit 633863985740342368881942736907, nat_lit 69805794225074188, nat_lit 15, nat_lit 3036821658885459285745078288, nat_lit 19, nat_lit 2998136032655539352340795412, nat_lit 270359, nat_lit 61464, nat_lit 25, nat_lit 3075507285115379219149361178, nat_lit 29, nat_lit 2998136032655539352340795422, nat_lit 532513, nat_lit 61474, nat_lit 35, nat_lit 3114192911345299152553644068, nat_lit 39, nat_lit 2998136032655539352340795432, nat_lit 633825300114114700748351615019, nat_lit 61484, nat_lit 45, nat_lit 65582, nat_lit 2998136032655539352340795439, nat_lit 633844642927228534815147175986, nat_lit 32819, nat_lit 2998136032655539352340840500, nat_lit 69687]
noncomputable def cd_X4_addPut : List Nat := [nat_lit 0, nat_lit 2998136032655539352340795393, nat_lit 49539595902427140, nat_lit 7, nat_lit 2998136032655539352340795400, nat_lit 633863985740342368881942736907, nat_lit 49539595902169100, nat_lit 15, nat_lit 3152878537577470885771612176, nat_lit 270355, nat_lit 7311583357211673033541435412, nat_lit 23, nat_lit 3114192911345299152553644056, nat_lit 27, nat_lit 2998136032655539352340795420, nat_lit 633844642927228534815147175967, nat_lit 294944, nat_lit 114721, nat_lit 24610, nat_lit 633844642927228534815147175971, nat_lit 32804, nat_lit 61477, nat_lit 69670]
noncomputable def cd_X4_becomeMarking : List Nat := [nat_lit 0, nat_lit 12843627907729935540160053249, nat_lit 4, nat_lit 633844642927228534815147175941, nat_lit 2843393527733607818914217990, nat_lit 9, nat_lit 270346, nat_lit 2882079153963527752314306571, nat_lit 14, nat_lit 532495, nat_lit 2920764780193447685718589456, nat_lit 19, nat_lit 794644, nat_lit 2959450406423367619122872341, nat_lit 24, nat_lit 1056793, nat_lit 2978793219539453485736050715, nat_lit 69662]
noncomputable def cd_X4_become : List Nat := [nat_lit 0, nat_lit 262145, nat_lit 2843393527733607818909978626, nat_lit 2843393527733607818914217989, nat_lit 8, nat_lit 262153, nat_lit 2882079153963527752314261514, nat_lit 2882079153963527752314306573, nat_lit 16, nat_lit 262161, nat_lit 2920764780193447685718544402, nat_lit 2920764780193447685718589461, nat_lit 24, nat_lit 262169, nat_lit 2959450406423367619122827290, nat_lit 2959450406423367619122872349, nat_lit 32, nat_lit 262177, nat_lit 2978793219539453485731811362, nat_lit 2978793219539453485736050725, nat_lit 40, nat_lit 262185, nat_lit 2998136032655539352340795434, nat_lit 2998136032655539352340840493, nat_lit 633825300114114700748351615024, nat_lit 561201, nat_lit 532530, nat_lit 633863985740342368881942736947, nat_lit 123848989753520180, nat_lit 55, nat_lit 3036821658885459285745078328, nat_lit 532539, nat_lit 262204, nat_lit 3036821658885459285745078333, nat_lit 532544, nat_lit 24641, nat_lit 61506, nat_lit 67, nat_lit 3075507285115379219149361220, nat_lit 532551, nat_lit 262216, nat_lit 3075507285115379219149361225, nat_lit 532556, nat_lit 24653, nat_lit 61518, nat_lit 79, nat_lit 3114192911345299152553644112, nat_lit 532563, nat_lit 262228, nat_lit 3114192911345299152553644117, nat_lit 532568, nat_lit 24665, nat_lit 61530, nat_lit 633844642927230786614961168475, nat_lit 58546795155837022, nat_lit 97, nat_lit 3133535724461385019162628194, nat_lit 262245, nat_lit 3133535724461385019162628198, nat_lit 6808670216251987296864190569, nat_lit 108, nat_lit 3152878537577470885771612269, nat_lit 262256, nat_lit 3152878537577470885771612273, nat_lit 6808670216251987296864190580, nat_lit 69751]
noncomputable def cd_X4_becomeInverse : List Nat := [nat_lit 262144, nat_lit 2843393527733607818909978625, nat_lit 40532396646375428, nat_lit 7, nat_lit 262152, nat_lit 2882079153963527752314261513, nat_lit 262156, nat_lit 2920764780193447685718544397, nat_lit 262160, nat_lit 2959450406423367619122827281, nat_lit 262164, nat_lit 2978793219539453485731811349, nat_lit 33776997205581848, nat_lit 633844642927228534815147175963, nat_lit 36028797018984476, nat_lit 633825300114114700748351615007, nat_lit 14158939199479659281495900192, nat_lit 69667, nat_lit 36, nat_lit 12843627907729935540160053285, nat_lit 633825300114114700748351615016, nat_lit 561193, nat_lit 633825300114114700748351615018, nat_lit 823339, nat_lit 794668, nat_lit 262189, nat_lit 2998136032655539352340795438, nat_lit 144115188076687409, nat_lit 794676, nat_lit 633863985740342368881942736949, nat_lit 144115188076687414, nat_lit 57, nat_lit 262202, nat_lit 794683, nat_lit 14178282012586737948850929724, nat_lit 262207, nat_lit 3114192911345299152553644096, nat_lit 794691, nat_lit 24644, nat_lit 14255653265044326015844499525, nat_lit 532552, nat_lit 262217, nat_lit 3075507285115379219149361226, nat_lit 794701, nat_lit 24654, nat_lit 32847, nat_lit 1085520, nat_lit 532562, nat_lit 1347667, nat_lit 1318997, nat_lit 1056855, nat_lit 135107988821946457, nat_lit 92, nat_lit 262237, nat_lit 3133535724461385019162628190, nat_lit 1319009, nat_lit 7214869291642502699564679267, nat_lit 14274996078155908282826375270, nat_lit 633844642927230786614961954921, nat_lit 110338190870597740, nat_lit 1056879, nat_lit 561265, nat_lit 633844642927230786614961430642, nat_lit 54043195528466549, nat_lit 69752]
noncomputable def cd_X4_putStart : List Nat := [nat_lit 270336, nat_lit 15762598696099841, nat_lit 4, nat_lit 3036821658885459285745078277, nat_lit 633825300114114700748351614984, nat_lit 24585, nat_lit 47287796087410698, nat_lit 13, nat_lit 3036821658885459285745078286, nat_lit 633844642927228534815147175953, nat_lit 24594, nat_lit 19, nat_lit 3114192911345299152553644052, nat_lit 633825300114114700748351614999, nat_lit 24600, nat_lit 32793, nat_lit 26, nat_lit 3075507285115379219149361179, nat_lit 633825300114114700748351615006, nat_lit 24607, nat_lit 294944, nat_lit 28705]
noncomputable def cd_X4_carry : List Nat := [nat_lit 633825300114114700748351614976, nat_lit 823297, nat_lit 262146, nat_lit 15010022976443322224213770243, nat_lit 633825300114114700748351614982, nat_lit 1085447, nat_lit 1056777, nat_lit 11, nat_lit 2998136032655539352340795404, nat_lit 200410183418818575, nat_lit 1056786, nat_lit 633863985740342368881942736916, nat_lit 200410183418818581, nat_lit 24, nat_lit 3036821658885459285745078297, nat_lit 1056796, nat_lit 24606, nat_lit 1347615, nat_lit 33, nat_lit 1056802, nat_lit 14178282012586737948850929700, nat_lit 1609767, nat_lit 532521, nat_lit 58546795155857450, nat_lit 1581101, nat_lit 60798594969522223, nat_lit 1318962, nat_lit 1871924, nat_lit 532534, nat_lit 83316593106395191, nat_lit 1581114, nat_lit 60, nat_lit 3114192911345299152553644093, nat_lit 1056832, nat_lit 24642, nat_lit 32835, nat_lit 96827391988486212, nat_lit 1318983, nat_lit 73, nat_lit 3075507285115379219149361226, nat_lit 1056845, nat_lit 24655, nat_lit 32848, nat_lit 2134097, nat_lit 532563, nat_lit 108086391056932948, nat_lit 1318999, nat_lit 110338190870597721, nat_lit 1581148, nat_lit 2396254, nat_lit 532576, nat_lit 132856189007470689, nat_lit 1319012, nat_lit 102, nat_lit 3075507285115379219149361255, nat_lit 1056874, nat_lit 24684, nat_lit 32877, nat_lit 146366987889561710, nat_lit 1581169, nat_lit 115, nat_lit 3114192911345299152553644148, nat_lit 1056887, nat_lit 24697, nat_lit 32890, nat_lit 2658427, nat_lit 262269, nat_lit 3926591062108315559446450302, nat_lit 1843329, nat_lit 159877786772484227, nat_lit 200410183418007686, nat_lit 262281, nat_lit 3926591062108315559446450314, nat_lit 2105485, nat_lit 186899384536969359, nat_lit 262290, nat_lit 1056915, nat_lit 1843349, nat_lit 2105495, nat_lit 2367641, nat_lit 2629787, nat_lit 15029365789568415290077757597, nat_lit 69792, nat_lit 2629793, nat_lit 2105507, nat_lit 295077, nat_lit 823462, nat_lit 633844642927230786614961692839, nat_lit 13510798882132138, nat_lit 262317, nat_lit 65710, nat_lit 3926591062108315559446450351, nat_lit 794802, nat_lit 32947, nat_lit 3926591062108315559446495412, nat_lit 69815]
noncomputable def cd_X4_applyTo : List Nat := [nat_lit 0, nat_lit 2843393527733607818909978625, nat_lit 20266198323208196, nat_lit 7, nat_lit 262152, nat_lit 524297, nat_lit 7118155226039555368381595658, nat_lit 633844642927228534815147175949, nat_lit 77838, nat_lit 15, nat_lit 262160, nat_lit 7330926170289478303315935249, nat_lit 33776997205581844, nat_lit 633825300114114700748351614999, nat_lit 77848, nat_lit 524313, nat_lit 7195526478526416832955432986, nat_lit 29, nat_lit 3133535724461385019162628126, nat_lit 7195526478526416832955432993, nat_lit 633825300114114700748351615012, nat_lit 823333, nat_lit 633825300114114700748351615014, nat_lit 1085479, nat_lit 633825300114114700748351615017, nat_lit 1347626, nat_lit 1318956, nat_lit 46, nat_lit 2998136032655539352340795439, nat_lit 184647584723021874, nat_lit 1318965, nat_lit 633863985740342368881942736951, nat_lit 184647584723021880, nat_lit 59, nat_lit 3036821658885459285745078332, nat_lit 1318975, nat_lit 24641, nat_lit 66, nat_lit 3075507285115379219149361219, nat_lit 1318982, nat_lit 24648, nat_lit 32841, nat_lit 1609802, nat_lit 524364, nat_lit 262221, nat_lit 794702, nat_lit 79, nat_lit 3036821658885459285745078352, nat_lit 1318995, nat_lit 24661, nat_lit 7408297422785346967145562198, nat_lit 524377, nat_lit 90, nat_lit 3152878537577470885771612251, nat_lit 1056862, nat_lit 1056864, nat_lit 98, nat_lit 3114192911345299152553644131, nat_lit 1319014, nat_lit 24680, nat_lit 32873, nat_lit 7408297422785346967145562218, nat_lit 109, nat_lit 3133535724461385019162628206, nat_lit 262257, nat_lit 114, nat_lit 3036821658885459285745078387, nat_lit 1319030, nat_lit 24696, nat_lit 1581177, nat_lit 7408297422785346967145562235, nat_lit 1581182, nat_lit 823424, nat_lit 1056897, nat_lit 131, nat_lit 3114192911345299152553644164, nat_lit 1319047, nat_lit 24713, nat_lit 32906, nat_lit 1085579, nat_lit 633844642927230786614961954957, nat_lit 58546795155837072, nat_lit 524435, nat_lit 262292, nat_lit 794773, nat_lit 262294, nat_lit 2514565704800680483203846295, nat_lit 7408297422785346967145562266, nat_lit 633844642927228534815147176093, nat_lit 77982]
noncomputable def cd_X4_isWithin : List Nat := [nat_lit 633825300114114700748351614976, nat_lit 561153, nat_lit 262146, nat_lit 2514565704800680483203846147, nat_lit 823302, nat_lit 633825300114114700748351614983, nat_lit 1085448, nat_lit 1056778, nat_lit 12, nat_lit 2998136032655539352340795405, nat_lit 114841790498779152, nat_lit 1056787, nat_lit 633863985740342368881942736917, nat_lit 114841790498779158, nat_lit 25, nat_lit 3036821658885459285745078298, nat_lit 1056797, nat_lit 24607, nat_lit 532512, nat_lit 56294995342700577, nat_lit 36, nat_lit 3075507285115379219149361189, nat_lit 1056808, nat_lit 24618, nat_lit 60798594970329131, nat_lit 633825300114114700748351615022, nat_lit 77871, nat_lit 48, nat_lit 3036821658885459285745078321, nat_lit 1056820, nat_lit 24630, nat_lit 55, nat_lit 3075507285115379219149361208, nat_lit 1056827, nat_lit 24637, nat_lit 32830, nat_lit 561215, nat_lit 794688, nat_lit 65, nat_lit 3114192911345299152553644098, nat_lit 1056837, nat_lit 24647, nat_lit 72, nat_lit 3075507285115379219149361225, nat_lit 1056844, nat_lit 24654, nat_lit 294991, nat_lit 32848, nat_lit 823377, nat_lit 633844642927230786614961692754, nat_lit 15762598695817301, nat_lit 532568, nat_lit 262233, nat_lit 2514565704800680483203846234, nat_lit 135107988822208605, nat_lit 794720, nat_lit 634985868900946996555898957921, nat_lit 135107988822208611, nat_lit 633844642927228534815147176038, nat_lit 137359788634820711, nat_lit 633825300114114700748351615082, nat_lit 77931]
noncomputable def cd_X4_markTokens : List Nat := [nat_lit 524288, nat_lit 7195526478526416832955432961, nat_lit 633825300114114700748351614980, nat_lit 823301, nat_lit 794630, nat_lit 262151, nat_lit 2514565704800680483203846152, nat_lit 65302194597703691, nat_lit 262158, nat_lit 794639, nat_lit 7214869291642502699564679184, nat_lit 1085459, nat_lit 524309, nat_lit 794646, nat_lit 23, nat_lit 2882079153963527752314261528, nat_lit 56294995342700571, nat_lit 794654, nat_lit 31, nat_lit 2920764780193447685718544416, nat_lit 56294995342962723, nat_lit 38, nat_lit 1056807, nat_lit 7234212104720307969339965481, nat_lit 58546795155836972, nat_lit 1056815, nat_lit 7311583357211673033541435441, nat_lit 633844642927230786614961430580, nat_lit 9007199254761527, nat_lit 69690]
noncomputable def cd_X4_markedToken : List Nat := [nat_lit 270336, nat_lit 635759581425500359227721396225, nat_lit 11258999069257731, nat_lit 270342, nat_lit 28679, nat_lit 8, nat_lit 2978793219539453485731811337, nat_lit 29273397577949196, nat_lit 270351, nat_lit 16, nat_lit 2959450406423367619122827281, nat_lit 1081364, nat_lit 42784196460040213, nat_lit 270360, nat_lit 25, nat_lit 2959450406423367619122827290, nat_lit 633805957301001992581462896669, nat_lit 1343518, nat_lit 819231, nat_lit 28704]
noncomputable def cd_X4_changesMarks : List Nat := [nat_lit 0, nat_lit 2882079153963527752314261505, nat_lit 561156, nat_lit 532485, nat_lit 6, nat_lit 2920764780193447685718544391, nat_lit 45035996274536458, nat_lit 262157, nat_lit 532494, nat_lit 7214869291642502699564679183, nat_lit 823314, nat_lit 19, nat_lit 794644, nat_lit 7234212104720307969339965461, nat_lit 794648, nat_lit 40532396646379545, nat_lit 633844642927228534815147175964, nat_lit 77853, nat_lit 633844642927230786614961168414, nat_lit 6755399441076257, nat_lit 633825300114114700748351615012, nat_lit 77861]
noncomputable def cd_X5_init : List Nat := [nat_lit 0, nat_lit 2417851639229258349412507649, nat_lit 4, nat_lit 634985868900946996555898957829, nat_lit 2301794760546253948640653319, nat_lit 2437194452343092416217473033, nat_lit 69644]
noncomputable def cd_X5_clear : List Nat := [nat_lit 0, nat_lit 633825300114114700748351614977, nat_lit 2456537265459178282817994754, nat_lit 69637]
noncomputable def cd_X5_at : List Nat := [nat_lit 270336, nat_lit 24769797951102977, nat_lit 270340, nat_lit 5, nat_lit 2456537265459178282817949702, nat_lit 24769797951369225, nat_lit 270348, nat_lit 13, nat_lit 2437194452343092416208965646, nat_lit 98321, nat_lit 29273397578477586, nat_lit 633805957301001992581462896661, nat_lit 28694, nat_lit 23, nat_lit 2437194452343092416208965656, nat_lit 270363, nat_lit 24604, nat_lit 28701]
noncomputable def cd_X5_add : List Nat := [nat_lit 0, nat_lit 2456537265459178282817949697, nat_lit 47287796087955460, nat_lit 7, nat_lit 2456537265459178282817949704, nat_lit 11, nat_lit 2437194452343092416208965644, nat_lit 98319, nat_lit 47287796088221712, nat_lit 19, nat_lit 2437194452343092416208965652, nat_lit 23, nat_lit 2456537265459178282817949720, nat_lit 270363, nat_lit 61468, nat_lit 29, nat_lit 65566, nat_lit 2456537265459178282817949727, nat_lit 633844642927228534815147175970, nat_lit 32803, nat_lit 2456537265459178282817994788, nat_lit 69671]
noncomputable def cd_X5_addSlice : List Nat := [nat_lit 532480, nat_lit 1085441, nat_lit 1056771, nat_lit 794629, nat_lit 27021597765054470, nat_lit 9, nat_lit 262154, nat_lit 1056779, nat_lit 6963412721162659831225794573, nat_lit 5164531101576091619263266832, nat_lit 633844642927230786614961692691, nat_lit 4503599627390998, nat_lit 69657]
noncomputable def cd_X5_become : List Nat := [nat_lit 0, nat_lit 5087159849118503552267862017, nat_lit 4, nat_lit 262149, nat_lit 633825300114114700748351614982, nat_lit 262151, nat_lit 2456537265459178282817949704, nat_lit 6886041468711827163672494091, nat_lit 69646]
noncomputable def cd_X5_becomeFirst : List Nat := [nat_lit 0, nat_lit 5087159849118503552267862017, nat_lit 4, nat_lit 633844642927228534815147175941, nat_lit 5164531101576091619263266822, nat_lit 9, nat_lit 633825300114114700748351614986, nat_lit 5164531101576091619263266827, nat_lit 69646]
noncomputable def cd_X5_isLike : List Nat := [nat_lit 0, nat_lit 2456537265459178282817949697, nat_lit 262148, nat_lit 2456537265459178282817949701, nat_lit 15762598695841800, nat_lit 633825300114114700748351614987, nat_lit 77836, nat_lit 633825300114114700748351614989, nat_lit 561166, nat_lit 532495, nat_lit 16, nat_lit 2456537265459178282817949713, nat_lit 54043195529277460, nat_lit 23, nat_lit 532504, nat_lit 6963412721162659831225794585, nat_lit 262172, nat_lit 532509, nat_lit 6963412721162659831225794590, nat_lit 49539595901120545, nat_lit 633825300114114700748351615012, nat_lit 77861, nat_lit 633844642927230786614961168422, nat_lit 20266198323187753, nat_lit 633844642927228534815147175980, nat_lit 77869]
noncomputable def cd_X5_findOpen : List Nat := [nat_lit 633825300114114700748351614976, nat_lit 823297, nat_lit 633825300114114700748351614978, nat_lit 1085443, nat_lit 1056773, nat_lit 270343, nat_lit 69805794225074184, nat_lit 11, nat_lit 1056780, nat_lit 6963412721162659831225794574, nat_lit 1347601, nat_lit 1318931, nat_lit 11644373494530360010602090517, nat_lit 54043195528486936, nat_lit 794651, nat_lit 524316, nat_lit 98333, nat_lit 54043195529277470, nat_lit 524321, nat_lit 794658, nat_lit 1318947, nat_lit 61477, nat_lit 633844642927230786614961430566, nat_lit 65302194596892713, nat_lit 1318956, nat_lit 65302194597175342, nat_lit 794673, nat_lit 65302194598223922, nat_lit 633815628707555531915141111861, nat_lit 633844642927230786614961692728, nat_lit 9007199254761531, nat_lit 794686, nat_lit 28735]
noncomputable def cd_X5_findClosing : List Nat := [nat_lit 0, nat_lit 270337, nat_lit 6963412721162659831225794562, nat_lit 11644373494530360010602090501, nat_lit 15762598696099848, nat_lit 633805957301001992581462896651, nat_lit 28684, nat_lit 633825300114114700748351614989, nat_lit 561166, nat_lit 270351, nat_lit 823312, nat_lit 794641, nat_lit 18, nat_lit 2456537265459178282817949715, nat_lit 63050394784018454, nat_lit 532505, nat_lit 26, nat_lit 794651, nat_lit 6963412721162659831225794588, nat_lit 12379400392856054548823707679, nat_lit 32802, nat_lit 561187, nat_lit 532516, nat_lit 58546795156119589, nat_lit 794664, nat_lit 28713, nat_lit 633844642927230786614961430570, nat_lit 24769797950558253, nat_lit 633805957301001992581462896688, nat_lit 28721]
noncomputable def cd_X5_countCharacters : List Nat := [nat_lit 633825300114114700748351614976, nat_lit 823297, nat_lit 270338, nat_lit 1085443, nat_lit 1056773, nat_lit 532487, nat_lit 33776997206110216, nat_lit 11, nat_lit 1056780, nat_lit 6963412721162659831225794574, nat_lit 635759581425500359227721396241, nat_lit 29273397578477587, nat_lit 633844642927230786614961430550, nat_lit 633844642927230786614961692697, nat_lit 9007199254761500, nat_lit 794655, nat_lit 28704]
noncomputable def cd_X6_init : List Nat := [nat_lit 0, nat_lit 1663481927789729744395853825, nat_lit 4, nat_lit 1721510367131231944781938693, nat_lit 65544, nat_lit 1760195993358900078372618249, nat_lit 5764158307922551905009131532, nat_lit 15, nat_lit 2321137573660088015437250576, nat_lit 65555, nat_lit 2359823199887756149035794452, nat_lit 5783501121038637771618115607, nat_lit 26, nat_lit 634985868900946996555898957851, nat_lit 2630622583481433084161544221, nat_lit 5802843934154723638227099680, nat_lit 35, nat_lit 633883328553456202948738297892, nat_lit 2669308209709101217752404005, nat_lit 5841529560386895371445067816, nat_lit 43, nat_lit 634018728245255293216120909868, nat_lit 2301794760546253948640653358, nat_lit 5860872373502981238054051888, nat_lit 51, nat_lit 634018728245255293216120909876, nat_lit 2301794760546253948640653366, nat_lit 5880215186619067104663035960, nat_lit 59, nat_lit 2630622583481433084161769532, nat_lit 65599, nat_lit 2727336649050603418142801984, nat_lit 5918900812851238837881004099, nat_lit 70, nat_lit 2321137573660088015437250631, nat_lit 65610, nat_lit 2359823199887756149035794507, nat_lit 5938243625967324704489988174, nat_lit 81, nat_lit 2321137573660088015437250642, nat_lit 65621, nat_lit 2359823199887756149035794518, nat_lit 5957586439083410571098972249, nat_lit 92, nat_lit 634018728245255293216120909917, nat_lit 2630622583481433084161544287, nat_lit 5976929252199496437707956322, nat_lit 101, nat_lit 3636448865400804557516783718, nat_lit 65641, nat_lit 3675134491628472691109298282, nat_lit 5996272065315582304316940397, nat_lit 112, nat_lit 4797017652230848565234974833, nat_lit 65652, nat_lit 4816360465344682632034025589, nat_lit 6015614878431668170925924472, nat_lit 123, nat_lit 634985868900946996555898957948, nat_lit 2301794760546253948640653438, nat_lit 6034957691547754037534908544, nat_lit 633825300114114700748351615107, nat_lit 299140, nat_lit 270469, nat_lit 134, nat_lit 5802843934154723638218592391, nat_lit 98442, nat_lit 173388585654595723, nat_lit 142, nat_lit 5802843934154723638218592399, nat_lit 270482, nat_lit 2630622583481433084161769619, nat_lit 65686, nat_lit 2727336649050603418142802071, nat_lit 848026, nat_lit 633844642927230786614960906395, nat_lit 141863388262191262, nat_lit 633825300114114700748351615137, nat_lit 299170, nat_lit 270499, nat_lit 164, nat_lit 5976929252199496437699448997, nat_lit 98472, nat_lit 209417382673559721, nat_lit 172, nat_lit 5976929252199496437699449005, nat_lit 270512, nat_lit 2630622583481433084161769649, nat_lit 65716, nat_lit 2727336649050603418142802101, nat_lit 848056, nat_lit 633844642927230786614960906425, nat_lit 177892185281155260, nat_lit 633825300114114700748351615167, nat_lit 299200, nat_lit 270529, nat_lit 194, nat_lit 5841529560386895371436560579, nat_lit 98502, nat_lit 245446179692523719, nat_lit 202, nat_lit 5841529560386895371436560587, nat_lit 270542, nat_lit 2669308209709101217751318735, nat_lit 65746, nat_lit 4855046091572350765620076755, nat_lit 1110230, nat_lit 633844642927230786614960906455, nat_lit 213920982300119258, nat_lit 221, nat_lit 5783501121038637771609608414, nat_lit 5744815494988861823309332705, nat_lit 69860]
noncomputable def cd_X6_rule : List Nat := [nat_lit 270336, nat_lit 11258999068991489, nat_lit 270340, nat_lit 633941356992799956948938665989, nat_lit 13510798882680839, nat_lit 8510837770264881575212716042, nat_lit 532500, nat_lit 24769797951102997, nat_lit 532504, nat_lit 633883328553456202948738297881, nat_lit 27021597764792346, nat_lit 9207179042378670578539532317, nat_lit 794663, nat_lit 47287796087955496, nat_lit 794667, nat_lit 636262494566460044964405981228, nat_lit 47287796088483886, nat_lit 794673, nat_lit 633844642927228534815147175986, nat_lit 819251, nat_lit 49539595901116468, nat_lit 9342578734182264445547679799, nat_lit 1056833, nat_lit 60798594970067011, nat_lit 1056838, nat_lit 633883328553456202948738297928, nat_lit 63050394784542793, nat_lit 9361921547300602111970349132, nat_lit 86, nat_lit 5822186747270809504827576407, nat_lit 76561193666388058, nat_lit 93, nat_lit 9381264360425695177853911134, nat_lit 78812993479024737, nat_lit 9632720930921300644869017700, nat_lit 110, nat_lit 270447, nat_lit 532592, nat_lit 794737, nat_lit 1056882, nat_lit 9768120622711383713014890612, nat_lit 96827391988768887, nat_lit 10445119081718094048967364730, nat_lit 132, nat_lit 5764158307922551905000624261, nat_lit 270472, nat_lit 532617, nat_lit 794762, nat_lit 1056907, nat_lit 10000234379897248529444257933, nat_lit 69776]
noncomputable def cd_X6_type : List Nat := [nat_lit 0, nat_lit 270337, nat_lit 10599861586599493185770110978, nat_lit 1138693, nat_lit 1048583, nat_lit 5396644858770963634956800009, nat_lit 532492, nat_lit 10696575651954742537447067661, nat_lit 794640, nat_lit 29273397578473489, nat_lit 794644, nat_lit 634328213255076638284849885205, nat_lit 31525197392162839, nat_lit 10773946904691553781319569434, nat_lit 36, nat_lit 5918900812851238837872496677, nat_lit 10793289717663524459858378792, nat_lit 43, nat_lit 5918900812851238837872496684, nat_lit 532527, nat_lit 633825300114114700748351615024, nat_lit 10870660970123364326667206705, nat_lit 52, nat_lit 5918900812851238837872496693, nat_lit 635759581425500359227721396280, nat_lit 633902671366570037015533858874, nat_lit 794683, nat_lit 557116, nat_lit 32829, nat_lit 10948032222576448794034978878, nat_lit 65, nat_lit 1048642, nat_lit 11025403475103842655269044292, nat_lit 1048647, nat_lit 5396644858770963634956800073, nat_lit 2475880078573012349613248588, nat_lit 28751]
noncomputable def cd_X6_erase : List Nat := [nat_lit 0, nat_lit 270337, nat_lit 10599861586599493185770110978, nat_lit 1138693, nat_lit 1048583, nat_lit 5396644858770963634956800009, nat_lit 532492, nat_lit 794637, nat_lit 11354231297827352608301174798, nat_lit 17, nat_lit 5918900812851238837872496658, nat_lit 10793289717663524459858378773, nat_lit 24, nat_lit 5918900812851238837872496665, nat_lit 532508, nat_lit 794653, nat_lit 532510, nat_lit 294943, nat_lit 10870660970123364326667206688, nat_lit 35, nat_lit 1048612, nat_lit 11025403475103842655269044262, nat_lit 1048617, nat_lit 5396644858770963634956800043, nat_lit 2475880078573012349613248558, nat_lit 28721]
noncomputable def cd_X6_split : List Nat := [nat_lit 0, nat_lit 270337, nat_lit 10599861586599493185770110978, nat_lit 876549, nat_lit 786438, nat_lit 5396644858770963634956800007, nat_lit 532490, nat_lit 10696575651954742537447067659, nat_lit 786446, nat_lit 5396644858770963634956800015, nat_lit 532498, nat_lit 19, nat_lit 6034957691547754037526401044, nat_lit 11567002242257419528322170903, nat_lit 1085466, nat_lit 28, nat_lit 1056797, nat_lit 11663716307860366859513380895, nat_lit 1347618, nat_lit 1056804, nat_lit 49539595901378598, nat_lit 11741087560455314715122962473, nat_lit 51, nat_lit 5918900812851238837872496692, nat_lit 10793289717663524459858378807, nat_lit 58, nat_lit 5918900812851238837872496699, nat_lit 532542, nat_lit 633825300114114700748351615039, nat_lit 10870660970123364326667206720, nat_lit 67, nat_lit 5918900812851238837872496708, nat_lit 633825300114114700748351615047, nat_lit 10948032222576448794034978888, nat_lit 75, nat_lit 5918900812851238837872496716, nat_lit 1318991, nat_lit 10948032222576448794034978897, nat_lit 84, nat_lit 786517, nat_lit 11025403475103842655269044310, nat_lit 1319001, nat_lit 28763]
noncomputable def cd_X6_join : List Nat := [nat_lit 0, nat_lit 270337, nat_lit 10599861586599493185770110978, nat_lit 876549, nat_lit 786438, nat_lit 5396644858770963634956800007, nat_lit 532490, nat_lit 10696575651954742537447067659, nat_lit 786446, nat_lit 5396644858770963634956800015, nat_lit 532498, nat_lit 11895830065190346864026992659, nat_lit 1085462, nat_lit 786456, nat_lit 5396644858770963634956800025, nat_lit 532508, nat_lit 633844642927228534815147175965, nat_lit 294942, nat_lit 11895830065190346864026992671, nat_lit 51791395715063842, nat_lit 1056805, nat_lit 11915172878124036945736159271, nat_lit 54043195528749098, nat_lit 11934515691613921581399117869, nat_lit 55, nat_lit 5918900812851238837872496696, nat_lit 10793289717663524459858378811, nat_lit 62, nat_lit 5918900812851238837872496703, nat_lit 532546, nat_lit 633844642927228534815147176003, nat_lit 294980, nat_lit 633863985740342368881942736965, nat_lit 10870660970123364326667206726, nat_lit 73, nat_lit 786506, nat_lit 11025403475103842655269044299, nat_lit 1056846, nat_lit 28752]
noncomputable def cd_X6_wrap : List Nat := [nat_lit 0, nat_lit 270337, nat_lit 10599861586599493185770110978, nat_lit 1400837, nat_lit 1056775, nat_lit 12089258196148543546895421449, nat_lit 1310732, nat_lit 5396644858770963634956800014, nat_lit 532497, nat_lit 794642, nat_lit 11354231297827352608301174803, nat_lit 22, nat_lit 5918900812851238837872496663, nat_lit 10793289717663524459858378778, nat_lit 29, nat_lit 5918900812851238837872496670, nat_lit 532513, nat_lit 633825300114114700748351615010, nat_lit 10870660970123364326667206691, nat_lit 38, nat_lit 5918900812851238837872496679, nat_lit 1056810, nat_lit 10948032222576448794034978860, nat_lit 47, nat_lit 5918900812851238837872496688, nat_lit 794675, nat_lit 633825300114114700748351615028, nat_lit 10870660970123364326667206709, nat_lit 56, nat_lit 5918900812851238837872496697, nat_lit 633825300114114700748351615036, nat_lit 10948032222576448794034978877, nat_lit 64, nat_lit 1310785, nat_lit 11025403475103842655269044291, nat_lit 1310790, nat_lit 5396644858770963634956800072, nat_lit 2475880078573012349613248587, nat_lit 28750]
noncomputable def cd_X6_unwrap : List Nat := [nat_lit 0, nat_lit 270337, nat_lit 10599861586599493185770110978, nat_lit 876549, nat_lit 786438, nat_lit 5396644858770963634956800007, nat_lit 532490, nat_lit 10696575651954742537447067659, nat_lit 786446, nat_lit 5396644858770963634956800015, nat_lit 532498, nat_lit 11895830065190346864026992659, nat_lit 1085462, nat_lit 786456, nat_lit 5396644858770963634956800025, nat_lit 532508, nat_lit 12302029140580862266730102813, nat_lit 1347616, nat_lit 1318946, nat_lit 633805957301001992581462896676, nat_lit 49539595901382693, nat_lit 12437428832591621716586369064, nat_lit 50, nat_lit 5918900812851238837872496691, nat_lit 10793289717663524459858378806, nat_lit 57, nat_lit 5918900812851238837872496698, nat_lit 532541, nat_lit 633844642927228534815147175998, nat_lit 10870660970123364326667206719, nat_lit 66, nat_lit 5918900812851238837872496707, nat_lit 1318982, nat_lit 633844642927228534815147176008, nat_lit 10870660970123364326667206729, nat_lit 76, nat_lit 786509, nat_lit 11025403475103842655269044302, nat_lit 1056849, nat_lit 28755]
noncomputable def cd_X6_setType : List Nat := [nat_lit 0, nat_lit 270337, nat_lit 10599861586599493185770110978, nat_lit 1138693, nat_lit 1048583, nat_lit 5396644858770963634956800009, nat_lit 532492, nat_lit 10696575651954742537447067661, nat_lit 794640, nat_lit 12089258196148543546895421457, nat_lit 1048596, nat_lit 5396644858770963634956800022, nat_lit 532505, nat_lit 11895830065190346864026992666, nat_lit 1347613, nat_lit 1318943, nat_lit 11915172878124036945736159265, nat_lit 47287796087431204, nat_lit 1318951, nat_lit 794665, nat_lit 49539595901382698, nat_lit 12592171337506797850576130093, nat_lit 55, nat_lit 5918900812851238837872496696, nat_lit 10793289717663524459858378811, nat_lit 62, nat_lit 5918900812851238837872496703, nat_lit 532546, nat_lit 633844642927228534815147176003, nat_lit 10870660970123364326667206724, nat_lit 71, nat_lit 5918900812851238837872496712, nat_lit 794699, nat_lit 10948032222576448794034978892, nat_lit 79, nat_lit 1048656, nat_lit 11025403475103842655269044306, nat_lit 1318997, nat_lit 28759]
noncomputable def cd_X6_mark : List Nat := [nat_lit 0, nat_lit 270337, nat_lit 10599861586599493185770110978, nat_lit 1662981, nat_lit 1056775, nat_lit 20266198323732489, nat_lit 1056780, nat_lit 633863985740342368881942736910, nat_lit 22517998137421839, nat_lit 12746913842421973984565366802, nat_lit 1572892, nat_lit 5396644858770963634956800030, nat_lit 532513, nat_lit 794658, nat_lit 11354231297827352608301174819, nat_lit 38, nat_lit 5918900812851238837872496679, nat_lit 532522, nat_lit 794667, nat_lit 1056812, nat_lit 633844642927228534815147175982, nat_lit 32815, nat_lit 1318960, nat_lit 12766256655283606472234385458, nat_lit 53, nat_lit 5918900812851238837872496694, nat_lit 1572921, nat_lit 5396644858770963634956800059, nat_lit 12862970720846021406772183102, nat_lit 69805794224545857, nat_lit 12940341973582832650655731780, nat_lit 78, nat_lit 1572943, nat_lit 11025403475103842655269044305, nat_lit 1572948, nat_lit 5396644858770963634956800086, nat_lit 532569, nat_lit 794714, nat_lit 12959684786453472337584210011, nat_lit 28766]
noncomputable def cd_X6_copy : List Nat := [nat_lit 0, nat_lit 270337, nat_lit 10599861586599493185770110978, nat_lit 1138693, nat_lit 1048583, nat_lit 5396644858770963634956800009, nat_lit 532492, nat_lit 794637, nat_lit 11354231297827352608301174798, nat_lit 1048593, nat_lit 5396644858770963634956800019, nat_lit 532502, nat_lit 23, nat_lit 6034957691547754037526401048, nat_lit 11567002242257419528322170907, nat_lit 1347614, nat_lit 1318944, nat_lit 1609762, nat_lit 1318948, nat_lit 1871910, nat_lit 532520, nat_lit 2134057, nat_lit 2105387, nat_lit 794669, nat_lit 87820192734556206, nat_lit 1581105, nat_lit 1048627, nat_lit 5396644858770963634956800053, nat_lit 2105400, nat_lit 11895830065190346864026992698, nat_lit 13172455730523251287430844477, nat_lit 32832, nat_lit 1609793, nat_lit 1843267, nat_lit 1581125, nat_lit 13191798543634833554393935943, nat_lit 1871946, nat_lit 633844642927230786614962741324, nat_lit 49539595901096015, nat_lit 1048658, nat_lit 5435330485000883568361082964, nat_lit 13249826983156479739883962455, nat_lit 1843290, nat_lit 633825300114114700748351615068, nat_lit 13269169796090169821575127133, nat_lit 2134112, nat_lit 2105442, nat_lit 1319012, nat_lit 141863388263002214, nat_lit 2105449, nat_lit 107, nat_lit 6034957691547754037526401132, nat_lit 98415, nat_lit 141863388263002224, nat_lit 1048691, nat_lit 5435330485000883568361082997, nat_lit 120, nat_lit 6034957691547754037526401145, nat_lit 2105468, nat_lit 24702, nat_lit 13327198235614067806879367295, nat_lit 633844642927230786614962741378, nat_lit 103582791429542021, nat_lit 1048712, nat_lit 5435330485000883568361083018, nat_lit 1048717, nat_lit 5396644858770963634956800143, nat_lit 532626, nat_lit 794771, nat_lit 13346541048732405473302298772, nat_lit 1843351, nat_lit 2134169, nat_lit 2105499, nat_lit 1581213, nat_lit 182395784909336735, nat_lit 1048738, nat_lit 5435330485000883568361083044, nat_lit 633825300114114700748351615143, nat_lit 13327198235614067806879367336, nat_lit 633844642927230786614962741419, nat_lit 162129586585358510, nat_lit 1048753, nat_lit 5435330485000883568361083059, nat_lit 2475880078573012349613248694, nat_lit 28857]
noncomputable def cd_X6_paste : List Nat := [nat_lit 0, nat_lit 270337, nat_lit 10599861586599493185770110978, nat_lit 876549, nat_lit 786438, nat_lit 5396644858770963634956800007, nat_lit 532490, nat_lit 10696575651954742537447067659, nat_lit 786446, nat_lit 5435330485000883568361082895, nat_lit 2475880078573012349613248530, nat_lit 29273397578211349, nat_lit 13501283553949322782316269592, nat_lit 34, nat_lit 786467, nat_lit 532516, nat_lit 13520626366790689071676538917, nat_lit 54043195528749096, nat_lit 43, nat_lit 786476, nat_lit 532525, nat_lit 13675368871701361606039453742, nat_lit 54043195528749105, nat_lit 13752740124449431848978321460, nat_lit 62, nat_lit 786495, nat_lit 11025403475103842655269044288, nat_lit 67, nat_lit 5918900812851238837872496708, nat_lit 3172221350691304952566911047, nat_lit 2475880078573012349613248586, nat_lit 28749]
noncomputable def cd_X6_takeBack : List Nat := [nat_lit 0, nat_lit 270337, nat_lit 10599861586599493185770110978, nat_lit 614405, nat_lit 524294, nat_lit 5280587980081203834743951367, nat_lit 18014398509785098, nat_lit 13907482629378118781850193933, nat_lit 524311, nat_lit 65560, nat_lit 5280587980081203834743951385, nat_lit 633844642927228534815147175964, nat_lit 294941, nat_lit 5280587980081203834743996446, nat_lit 524321, nat_lit 5396644858770963634956800034, nat_lit 524325, nat_lit 5357959232541043701552517158, nat_lit 7427640235894677434313752617, nat_lit 633825300114114700748351615020, nat_lit 823341, nat_lit 794670, nat_lit 524335, nat_lit 5280587980081203834743951408, nat_lit 105834591244038195, nat_lit 794678, nat_lit 524343, nat_lit 5319273606311123768148234296, nat_lit 98363, nat_lit 105834591244038204, nat_lit 524351, nat_lit 5319273606311123768148234304, nat_lit 794691, nat_lit 811076, nat_lit 524357, nat_lit 5396644858770963634956800070, nat_lit 73, nat_lit 5938243625967324704481480778, nat_lit 7040783973584219101199876173, nat_lit 101330991615877200, nat_lit 524371, nat_lit 5396644858770963634956800084, nat_lit 87, nat_lit 5938243625967324704481480792, nat_lit 7427640235894677434313752667, nat_lit 633844642927230786614961430622, nat_lit 47287796087410785, nat_lit 524388, nat_lit 5280587980081203834743951461, nat_lit 28776]
noncomputable def cd_X6_revert : List Nat := [nat_lit 0, nat_lit 270337, nat_lit 10599861586599493185770110978, nat_lit 876549, nat_lit 532486, nat_lit 33776997205843975, nat_lit 532490, nat_lit 786443, nat_lit 5241902353849032101525983244, nat_lit 33776997206110223, nat_lit 532498, nat_lit 19, nat_lit 5802843934154723638218592276, nat_lit 98327, nat_lit 36028797019533336, nat_lit 14062225134331575512672079899, nat_lit 37, nat_lit 5918900812851238837872496678, nat_lit 41, nat_lit 5802843934154723638218592298, nat_lit 532525, nat_lit 811054, nat_lit 14081567947017567614874173487, nat_lit 50, nat_lit 5996272065315582304308432947, nat_lit 14294338891195432955766390838, nat_lit 57, nat_lit 532538, nat_lit 633844642927228534815147175995, nat_lit 32828, nat_lit 786493, nat_lit 5241902353849032101525983294, nat_lit 14371710143799388010670473281, nat_lit 633825300114114700748351615044, nat_lit 1085509, nat_lit 1056839, nat_lit 786505, nat_lit 5280587980081203834743951434, nat_lit 121597189939834957, nat_lit 1056848, nat_lit 786514, nat_lit 5319273606311123768148234323, nat_lit 98390, nat_lit 121597189939834967, nat_lit 90, nat_lit 5996272065315582304308432987, nat_lit 786526, nat_lit 5319273606311123768148234335, nat_lit 1056866, nat_lit 811108, nat_lit 633825300114114700748351615077, nat_lit 14449081396110609089756414054, nat_lit 633844642927230786614961692777, nat_lit 78812993479004268, nat_lit 111, nat_lit 5996272065315582304308433008, nat_lit 115, nat_lit 5918900812851238837872496756, nat_lit 633825300114114700748351615095, nat_lit 14526452648565945356938133624, nat_lit 139611588448788603, nat_lit 15203451108088317850241638526, nat_lit 137, nat_lit 786570, nat_lit 11025403475103842655269044363, nat_lit 786574, nat_lit 5396644858770963634956800143, nat_lit 2475880078573012349613248658, nat_lit 28821]
noncomputable def cd_X6_send : List Nat := [nat_lit 0, nat_lit 270337, nat_lit 10599861586599493185770110978, nat_lit 614405, nat_lit 524294, nat_lit 5241902353849032101525983239, nat_lit 10, nat_lit 5822186747270809504827576331, nat_lit 22517998136897550, nat_lit 15358193613003493984231399441, nat_lit 28, nat_lit 5822186747270809504827576349, nat_lit 524320, nat_lit 5280587980081203834743951393, nat_lit 32804, nat_lit 634985868900946996555898957861, nat_lit 40532396647690279, nat_lit 15377536426121831650654068778, nat_lit 524341, nat_lit 5280587980081203834743951414, nat_lit 823353, nat_lit 633825300114114700748351615034, nat_lit 1085499, nat_lit 1056829, nat_lit 794687, nat_lit 87820192734556224, nat_lit 1056835, nat_lit 524357, nat_lit 5319273606311123768148234310, nat_lit 98377, nat_lit 87820192734556234, nat_lit 77, nat_lit 524366, nat_lit 5319273606311123768148234319, nat_lit 1056850, nat_lit 811092, nat_lit 15396879238830341751008149589, nat_lit 633844642927230786614961692760, nat_lit 51791395714781275, nat_lit 524382, nat_lit 633825300114114700748351615071, nat_lit 5280587980081203834743996512, nat_lit 524387, nat_lit 100, nat_lit 5822186747270809504827576421, nat_lit 5241902353849032101526028392, nat_lit 524395, nat_lit 5357959232541043701552517228, nat_lit 111, nat_lit 5783501121038637771609608304, nat_lit 7427640235894677434313752691, nat_lit 794742, nat_lit 28791]
noncomputable def cd_X6_receive : List Nat := [nat_lit 0, nat_lit 270337, nat_lit 10599861586599493185770110978, nat_lit 614405, nat_lit 6, nat_lit 5822186747270809504827576327, nat_lit 524298, nat_lit 5241902353849032101525983243, nat_lit 294926, nat_lit 823311, nat_lit 16, nat_lit 5996272065315582304308432913, nat_lit 14294338891195432955766390804, nat_lit 524311, nat_lit 5280587980081203834743951384, nat_lit 633844642927228534815147175963, nat_lit 294940, nat_lit 1085469, nat_lit 1056799, nat_lit 78812993479548961, nat_lit 1056804, nat_lit 524326, nat_lit 5319273606311123768148234279, nat_lit 98346, nat_lit 74309393852444715, nat_lit 46, nat_lit 5996272065315582304308432943, nat_lit 524338, nat_lit 5319273606311123768148234291, nat_lit 1056822, nat_lit 811064, nat_lit 633844642927228534815147175993, nat_lit 14449081396110609089756414010, nat_lit 633815628707555531915141374013, nat_lit 40532396646355008, nat_lit 67, nat_lit 524356, nat_lit 5241902353849032101525983301, nat_lit 72, nat_lit 5822186747270809504827576393, nat_lit 14371710143799388010670473292, nat_lit 524367, nat_lit 80, nat_lit 5822186747270809504827576401, nat_lit 5241902353849032101526028372, nat_lit 524375, nat_lit 5357959232541043701552517208, nat_lit 91, nat_lit 5783501121038637771609608284, nat_lit 7427640235894677434313752671, nat_lit 524386, nat_lit 5396644858770963634956800099, nat_lit 102, nat_lit 5783501121038637771609608295, nat_lit 7427640235894677434313752682, nat_lit 109, nat_lit 524398, nat_lit 15803078314220857153709162607, nat_lit 794738, nat_lit 28787]
noncomputable def cd_X6_lost : List Nat := [nat_lit 0, nat_lit 270337, nat_lit 10599861586599493185770110978, nat_lit 5261245166965117968134967301, nat_lit 28680]
noncomputable def cd_X6_version : List Nat := [nat_lit 0, nat_lit 270337, nat_lit 10599861586599493185770110978, nat_lit 614405, nat_lit 635759581425500359227721396230, nat_lit 524296, nat_lit 5241902353849032101525983241, nat_lit 557068, nat_lit 524301, nat_lit 5280587980081203834743951374, nat_lit 32785, nat_lit 28690]
noncomputable def cd_X6_isBuilt : List Nat := [nat_lit 0, nat_lit 5957586439083410571090464769, nat_lit 5744815494988861823309332484, nat_lit 633825300114114700748351614983, nat_lit 299016, nat_lit 270345, nat_lit 10, nat_lit 5822186747270809504827576331, nat_lit 85568392920870926, nat_lit 270353, nat_lit 18, nat_lit 5802843934154723638218592275, nat_lit 98326, nat_lit 85568392920870935, nat_lit 26, nat_lit 5918900812851238837872496667, nat_lit 30, nat_lit 5802843934154723638218592287, nat_lit 270370, nat_lit 811043, nat_lit 6731298963760622232660361252, nat_lit 39, nat_lit 5918900812851238837872496680, nat_lit 43, nat_lit 5957586439083410571090464812, nat_lit 47, nat_lit 5938243625967324704481480752, nat_lit 7040783973584219101199876147, nat_lit 69805794224545846, nat_lit 633825300114114700748351615033, nat_lit 77882, nat_lit 59, nat_lit 5957586439083410571090464828, nat_lit 63, nat_lit 5938243625967324704481480768, nat_lit 7427640235894677434313752643, nat_lit 633844642927230786614960906310, nat_lit 11258999068446793, nat_lit 76, nat_lit 5957586439083410571090464845, nat_lit 80, nat_lit 5783501121038637771609608273, nat_lit 7446983049008511501109575764, nat_lit 77911]
noncomputable def cd_X6_size : List Nat := [nat_lit 0, nat_lit 270337, nat_lit 16383362707635879157564719106, nat_lit 2475880078573012349613248517, nat_lit 28680]
noncomputable def cd_X6_token : List Nat := [nat_lit 0, nat_lit 270337, nat_lit 16383362707635879157564719106, nat_lit 876549, nat_lit 532486, nat_lit 22517998137417735, nat_lit 532490, nat_lit 786443, nat_lit 2475880078573012349613248524, nat_lit 24769797951107087, nat_lit 16596133652338413855031074834, nat_lit 786461, nat_lit 532510, nat_lit 11895830065190346864026992671, nat_lit 28706]
noncomputable def cd_X6_around : List Nat := [nat_lit 0, nat_lit 270337, nat_lit 16383362707635879157564719106, nat_lit 876549, nat_lit 786438, nat_lit 532487, nat_lit 10696575651954742537447067656, nat_lit 786443, nat_lit 532492, nat_lit 13, nat_lit 6034957691547754037526401038, nat_lit 11567002242257419528322170897, nat_lit 1085460, nat_lit 634018728245255293216120909846, nat_lit 1056792, nat_lit 557082, nat_lit 27, nat_lit 1056796, nat_lit 11663716307860366859513380894, nat_lit 32801, nat_lit 28706]
noncomputable def cd_X6_comment : List Nat := [nat_lit 0, nat_lit 5783501121038637771609608193, nat_lit 270340, nat_lit 532485, nat_lit 11354231297827352608301174790, nat_lit 9, nat_lit 5899557999735152971263512586, nat_lit 634018728245255293216120909837, nat_lit 22517998137421839, nat_lit 16886275849057183856029507602, nat_lit 29, nat_lit 5899557999735152971263512606, nat_lit 823329, nat_lit 34, nat_lit 5860872373502981238045544483, nat_lit 794662, nat_lit 270375, nat_lit 61480, nat_lit 41, nat_lit 5880215186619067104654528554, nat_lit 794669, nat_lit 532526, nat_lit 61487, nat_lit 48, nat_lit 65585, nat_lit 5899557999735152971263512626, nat_lit 633844642927228534815147175989, nat_lit 32822, nat_lit 5899557999735152971263557687, nat_lit 794682, nat_lit 28731]
noncomputable def cd_X6_commentAt : List Nat := [nat_lit 270336, nat_lit 20266198323732481, nat_lit 270340, nat_lit 5, nat_lit 5899557999735152971263512582, nat_lit 20266198323998729, nat_lit 270348, nat_lit 634018728245255293216120909837, nat_lit 22517998137421839, nat_lit 17041018353972359990018744338, nat_lit 29, nat_lit 5860872373502981238045544478, nat_lit 270369, nat_lit 24610, nat_lit 633805957301001992581462896675, nat_lit 40532396646641700, nat_lit 633805957301001992581462896679, nat_lit 28712, nat_lit 635759581425500359227721396265, nat_lit 43, nat_lit 5860872373502981238045544492, nat_lit 270383, nat_lit 24624, nat_lit 557105, nat_lit 50, nat_lit 5880215186619067104654528563, nat_lit 270390, nat_lit 24631, nat_lit 32824, nat_lit 28729]
noncomputable def cd_X6_isOpening : List Nat := [nat_lit 8192, nat_lit 633844642927228534815147175937, nat_lit 18014398510051330, nat_lit 8197, nat_lit 633922014179683871082329419782, nat_lit 18014398510575623, nat_lit 633844642927228534815147175946, nat_lit 20266198323187723, nat_lit 633825300114114700748351614990, nat_lit 77839]
noncomputable def cd_X6_depthChange : List Nat := [nat_lit 8192, nat_lit 9007199255044097, nat_lit 633805957301001992581462896644, nat_lit 28677, nat_lit 8198, nat_lit 11915172878124036945736159239, nat_lit 20266198323208202, nat_lit 633844642927228534815147175949, nat_lit 22517998136872974, nat_lit 633825300114114700748351614993, nat_lit 28690]
noncomputable def cd_X6_clientOf : List Nat := [nat_lit 270336, nat_lit 15762598696361985, nat_lit 270340, nat_lit 5, nat_lit 5841529560386895371436560390, nat_lit 98313, nat_lit 18014398510051338, nat_lit 10677232839525455613992804365, nat_lit 24, nat_lit 5841529560386895371436560409, nat_lit 270364, nat_lit 1073181, nat_lit 135198]
noncomputable def cd_X6_documentOf : List Nat := [nat_lit 270336, nat_lit 633883328553456202948738297857, nat_lit 13510798882418690, nat_lit 5, nat_lit 5783501121038637771609608198, nat_lit 22517998136872969, nat_lit 12, nat_lit 270349, nat_lit 10599861586599493185770110990, nat_lit 5396644858770963634956800017, nat_lit 135188]
noncomputable def cd_X6_checkPosition : List Nat := [nat_lit 270336, nat_lit 13510798882676737, nat_lit 270340, nat_lit 5, nat_lit 2475880078573012349613248518, nat_lit 15762598697152521, nat_lit 10754604091985295480801370124, nat_lit 69655]
noncomputable def cd_X6_checkStretch : List Nat := [nat_lit 0, nat_lit 270337, nat_lit 10696575651954742537447067650, nat_lit 5, nat_lit 532486, nat_lit 10696575651954742537447067655, nat_lit 532490, nat_lit 270347, nat_lit 22517998137946124, nat_lit 11412259737860157351469162511, nat_lit 69658]
noncomputable def cd_X6_checkNodeType : List Nat := [nat_lit 8192, nat_lit 11915172878124036945736159233, nat_lit 9007199255044100, nat_lit 12147286636190355489317625863, nat_lit 69650]
noncomputable def cd_X6_isAnyPending : List Nat := [nat_lit 633825300114114700748351614976, nat_lit 299009, nat_lit 270338, nat_lit 3, nat_lit 5841529560386895371436560388, nat_lit 98311, nat_lit 38280596833480712, nat_lit 11, nat_lit 5841529560386895371436560396, nat_lit 270351, nat_lit 1073168, nat_lit 5280587980081203834743951377, nat_lit 33776997206630420, nat_lit 633844642927228534815147175959, nat_lit 77848, nat_lit 633844642927230786614960906265, nat_lit 4503599627391004, nat_lit 633825300114114700748351615007, nat_lit 77856]
noncomputable def cd_X6_isFirstValidWith : List Nat := [nat_lit 0, nat_lit 5764158307922551905000624129, nat_lit 270340, nat_lit 532485, nat_lit 9845491874982072395453972486, nat_lit 1347593, nat_lit 11, nat_lit 5764158307922551905000624140, nat_lit 270351, nat_lit 532496, nat_lit 9922863127437408662635429905, nat_lit 1609748, nat_lit 22, nat_lit 5764158307922551905000624151, nat_lit 270362, nat_lit 532507, nat_lit 794652, nat_lit 1056797, nat_lit 10000234379897248529444257823, nat_lit 34, nat_lit 5938243625967324704481480739, nat_lit 5744815494988861823309332518, nat_lit 41, nat_lit 5764158307922551905000624170, nat_lit 45, nat_lit 5938243625967324704481480750, nat_lit 10077605632345829397184659505, nat_lit 1871924, nat_lit 54, nat_lit 5764158307922551905000624183, nat_lit 270394, nat_lit 532539, nat_lit 1318972, nat_lit 1581118, nat_lit 10000234379897248529444257856, nat_lit 1843267, nat_lit 77893]
noncomputable def cd_X6_innermost : List Nat := [nat_lit 270336, nat_lit 31525197392945153, nat_lit 270340, nat_lit 5, nat_lit 6034957691547754037526401030, nat_lit 98313, nat_lit 31525197392687114, nat_lit 13, nat_lit 6034957691547754037526401038, nat_lit 270353, nat_lit 633844642927228534815147175954, nat_lit 294931, nat_lit 24596, nat_lit 33776997205299221, nat_lit 633825300114114700748351615000, nat_lit 28697]
noncomputable def cd_X6_isPossible : List Nat := [nat_lit 262144, nat_lit 524289, nat_lit 2, nat_lit 5938243625967324704481480707, nat_lit 7040783973584219101199876102, nat_lit 31525197391634441, nat_lit 12, nat_lit 5764158307922551905000624141, nat_lit 16, nat_lit 5938243625967324704481480721, nat_lit 10077605632345829397184659476, nat_lit 31525197391634455, nat_lit 633844642927228534815147175962, nat_lit 33776997205299227, nat_lit 633825300114114700748351615006, nat_lit 77855]
noncomputable def cd_X6_addPending : List Nat := [nat_lit 262144, nat_lit 5280587980081203834743951361, nat_lit 262148, nat_lit 5319273606311123768148234245, nat_lit 98312, nat_lit 15762598696366089, nat_lit 11102774728068085680322551820, nat_lit 23, nat_lit 24, nat_lit 5918900812851238837872496665, nat_lit 262172, nat_lit 5396644858770963634956800029, nat_lit 11122117540675264789058961440, nat_lit 33776997205581859, nat_lit 11199488793650766813181157414, nat_lit 262193, nat_lit 5396644858770963634956800050, nat_lit 53, nat_lit 5938243625967324704481480758, nat_lit 7427640235894677434313752633, nat_lit 262204, nat_lit 5319273606311123768148234301, nat_lit 262208, nat_lit 5280587980081203834743951425, nat_lit 811076, nat_lit 69, nat_lit 5918900812851238837872496710, nat_lit 6731298963760622232660361289, nat_lit 262220, nat_lit 65613, nat_lit 5280587980081203834743951438, nat_lit 633844642927228534815147176017, nat_lit 32850, nat_lit 5280587980081203834743996499, nat_lit 69718]
noncomputable def cd_X6_draftsBare : List Nat := [nat_lit 262144, nat_lit 5435330485000883568361082881, nat_lit 2475880078573012349613248516, nat_lit 823303, nat_lit 633825300114114700748351614984, nat_lit 1085449, nat_lit 1056779, nat_lit 794637, nat_lit 69805794225074190, nat_lit 17, nat_lit 262162, nat_lit 532499, nat_lit 1056788, nat_lit 794646, nat_lit 13597997619250528938485366807, nat_lit 40532396646375450, nat_lit 633844642927228534815147175965, nat_lit 77854, nat_lit 262175, nat_lit 5435330485000883568361082912, nat_lit 1056803, nat_lit 12302029140580862266730102821, nat_lit 794664, nat_lit 633844642927228534815147175977, nat_lit 294954, nat_lit 63050394783232043, nat_lit 633825300114114700748351615022, nat_lit 77871, nat_lit 633815628707555531915141111856, nat_lit 633844642927230786614961692723, nat_lit 13510798882132022, nat_lit 633825300114114700748351615033, nat_lit 77882]
noncomputable def cd_X6_draftsSlice : List Nat := [nat_lit 0, nat_lit 5918900812851238837872496641, nat_lit 10793289717663524459858378756, nat_lit 7, nat_lit 5918900812851238837872496648, nat_lit 532491, nat_lit 633825300114114700748351614988, nat_lit 10870660970123364326667206669, nat_lit 794640, nat_lit 1347601, nat_lit 1318931, nat_lit 1056789, nat_lit 49539595901906967, nat_lit 26, nat_lit 5918900812851238837872496667, nat_lit 262174, nat_lit 5435330485000883568361082911, nat_lit 1318946, nat_lit 11895830065190346864026992676, nat_lit 10948032222576448794034978855, nat_lit 633844642927230786614961954858, nat_lit 22517998136873005, nat_lit 48, nat_lit 49, nat_lit 5918900812851238837872496690, nat_lit 262197, nat_lit 5396644858770963634956800054, nat_lit 11122117540675264789058961465, nat_lit 77884]
noncomputable def cd_X6_draftsWrapped : List Nat := [nat_lit 262144, nat_lit 5435330485000883568361082881, nat_lit 2475880078573012349613248516, nat_lit 633863985740342368881942736903, nat_lit 32776, nat_lit 634985868900946996555898957833, nat_lit 20266198324523019, nat_lit 633825300114114700748351614990, nat_lit 77839, nat_lit 633844642927228534815147175952, nat_lit 823313, nat_lit 794642, nat_lit 633922014179683871082329419795, nat_lit 128352589381152788, nat_lit 23, nat_lit 5918900812851238837872496664, nat_lit 10793289717663524459858378779, nat_lit 30, nat_lit 5918900812851238837872496671, nat_lit 532514, nat_lit 633825300114114700748351615011, nat_lit 10870660970123364326667206692, nat_lit 39, nat_lit 5918900812851238837872496680, nat_lit 794667, nat_lit 10948032222576448794034978860, nat_lit 633825300114114700748351615023, nat_lit 1085488, nat_lit 1056818, nat_lit 262196, nat_lit 5435330485000883568361082933, nat_lit 2475880078573012349613248568, nat_lit 94575592175611963, nat_lit 62, nat_lit 5918900812851238837872496703, nat_lit 262210, nat_lit 5435330485000883568361082947, nat_lit 1056838, nat_lit 11895830065190346864026992712, nat_lit 10948032222576448794034978891, nat_lit 633844642927230786614961692750, nat_lit 63050394783207505, nat_lit 84, nat_lit 5918900812851238837872496725, nat_lit 633825300114114700748351615064, nat_lit 10948032222576448794034978905, nat_lit 92, nat_lit 93, nat_lit 5918900812851238837872496734, nat_lit 262241, nat_lit 5396644858770963634956800098, nat_lit 11122117540675264789058961509, nat_lit 123848989752729704, nat_lit 633844642927228534815147176043, nat_lit 77932, nat_lit 633844642927230786614961430637, nat_lit 24769797950558320, nat_lit 633825300114114700748351615091, nat_lit 77940]
noncomputable def cd_X6_addConfirmedMaps : List Nat := [nat_lit 270336, nat_lit 823297, nat_lit 794626, nat_lit 532483, nat_lit 49539595901906948, nat_lit 794631, nat_lit 45035996274270216, nat_lit 794635, nat_lit 12, nat_lit 5802843934154723638218592269, nat_lit 98320, nat_lit 45035996274536465, nat_lit 20, nat_lit 5996272065315582304308432917, nat_lit 24, nat_lit 5802843934154723638218592281, nat_lit 794652, nat_lit 811037, nat_lit 633825300114114700748351615006, nat_lit 14449081396110609089756413983, nat_lit 633844642927230786614961430562, nat_lit 4503599627391013, nat_lit 69672]
noncomputable def cd_X6_mapPending : List Nat := [nat_lit 262144, nat_lit 5280587980081203834743951361, nat_lit 262148, nat_lit 5319273606311123768148234245, nat_lit 98312, nat_lit 13191798543634833554393935881, nat_lit 561164, nat_lit 633825300114114700748351614989, nat_lit 823310, nat_lit 633825300114114700748351614991, nat_lit 1085456, nat_lit 1056786, nat_lit 532500, nat_lit 153122387331428373, nat_lit 794648, nat_lit 25, nat_lit 5976929252199496437699448858, nat_lit 98333, nat_lit 153122387331428382, nat_lit 33, nat_lit 5976929252199496437699448866, nat_lit 794661, nat_lit 811046, nat_lit 1400871, nat_lit 1310761, nat_lit 262187, nat_lit 5319273606311123768148234284, nat_lit 1056815, nat_lit 811057, nat_lit 6731298963760622232660361266, nat_lit 53, nat_lit 5996272065315582304308432950, nat_lit 1310777, nat_lit 532539, nat_lit 1056828, nat_lit 294974, nat_lit 14526452648565945356938133567, nat_lit 135107988821155906, nat_lit 69, nat_lit 1310790, nat_lit 262216, nat_lit 5396644858770963634956800073, nat_lit 11122117540675264789058961484, nat_lit 135107988821155919, nat_lit 262226, nat_lit 5396644858770963634956800083, nat_lit 86, nat_lit 5938243625967324704481480791, nat_lit 7427640235894677434313752666, nat_lit 93, nat_lit 5996272065315582304308432990, nat_lit 1310817, nat_lit 532579, nat_lit 633844642927228534815147176036, nat_lit 295013, nat_lit 1056870, nat_lit 295016, nat_lit 15880449566534330032608788585, nat_lit 633844642927230786614961430636, nat_lit 148618787703246959, nat_lit 262258, nat_lit 65651, nat_lit 5261245166965117968134967412, nat_lit 633844642927228534815147176055, nat_lit 32888, nat_lit 5261245166965117968135012473, nat_lit 633844642927230786614961692796, nat_lit 24769797950558335, nat_lit 633825300114114700748351615106, nat_lit 1085571, nat_lit 1056901, nat_lit 794759, nat_lit 200410183418818696, nat_lit 1056907, nat_lit 262285, nat_lit 5319273606311123768148234382, nat_lit 98449, nat_lit 200410183418818706, nat_lit 262293, nat_lit 5319273606311123768148234390, nat_lit 1056921, nat_lit 811163, nat_lit 156, nat_lit 5976929252199496437699448989, nat_lit 1056928, nat_lit 811170, nat_lit 6731298963760622232660361379, nat_lit 633844642927230786614961692838, nat_lit 157625986957988009, nat_lit 262316, nat_lit 794797, nat_lit 5280587980081203834743996590, nat_lit 69809]
noncomputable def cd_X6_confirm : List Nat := [nat_lit 0, nat_lit 5822186747270809504827576321, nat_lit 4, nat_lit 5802843934154723638218592261, nat_lit 98312, nat_lit 15762598696366089, nat_lit 69644, nat_lit 13, nat_lit 5802843934154723638218592270, nat_lit 17, nat_lit 5822186747270809504827576338, nat_lit 811029, nat_lit 614422, nat_lit 524311, nat_lit 262168, nat_lit 6731298963760622232660361241, nat_lit 524316, nat_lit 29, nat_lit 5783501121038637771609608222, nat_lit 33, nat_lit 5938243625967324704481480738, nat_lit 7040783973584219101199876133, nat_lit 63050394783227944, nat_lit 43, nat_lit 5783501121038637771609608236, nat_lit 47, nat_lit 5938243625967324704481480752, nat_lit 7427640235894677434313752627, nat_lit 54, nat_lit 65591, nat_lit 5822186747270809504827576376, nat_lit 633844642927228534815147175995, nat_lit 32828, nat_lit 5822186747270809504827621437, nat_lit 64, nat_lit 524353, nat_lit 15474250491285678018189606978, nat_lit 69701]
noncomputable def cd_X6_mapComments : List Nat := [nat_lit 633825300114114700748351614976, nat_lit 561153, nat_lit 532482, nat_lit 3, nat_lit 5899557999735152971263512580, nat_lit 112589990685093895, nat_lit 532490, nat_lit 634018728245255293216120909835, nat_lit 112589990685093901, nat_lit 16, nat_lit 5860872373502981238045544465, nat_lit 532500, nat_lit 24597, nat_lit 633805957301001992581462896662, nat_lit 108086391056936983, nat_lit 26, nat_lit 262171, nat_lit 28, nat_lit 5860872373502981238045544477, nat_lit 532512, nat_lit 24609, nat_lit 633844642927228534815147175970, nat_lit 15551621743745517884998434851, nat_lit 823334, nat_lit 39, nat_lit 262184, nat_lit 41, nat_lit 5880215186619067104654528554, nat_lit 532525, nat_lit 24622, nat_lit 633825300114114700748351615023, nat_lit 15551621743745517884998434864, nat_lit 1085491, nat_lit 53, nat_lit 5860872373502981238045544502, nat_lit 532537, nat_lit 1056826, nat_lit 794684, nat_lit 92323792362451005, nat_lit 794688, nat_lit 94575592174800961, nat_lit 633805957301001992581462896708, nat_lit 61509, nat_lit 70, nat_lit 5880215186619067104654528583, nat_lit 532554, nat_lit 1056843, nat_lit 61517, nat_lit 633844642927230786614961168462, nat_lit 4503599627391057, nat_lit 69716]
noncomputable def cd_X6_mapOver : List Nat := [nat_lit 0, nat_lit 6015614878431668170917416961, nat_lit 532484, nat_lit 794629, nat_lit 15628992996090515961290440710, nat_lit 262153, nat_lit 10, nat_lit 6015614878431668170917416971, nat_lit 633825300114114700748351614990, nat_lit 15648335809240378825107587087, nat_lit 18, nat_lit 6015614878431668170917416979, nat_lit 3945933875222149626241749014, nat_lit 28697]
noncomputable def cd_X7_init : List Nat := [nat_lit 0, nat_lit 17157075231970817247430205441, nat_lit 4, nat_lit 634173470750165965750485397509, nat_lit 2301794760546253948640653319, nat_lit 17253789297539987581416890377, nat_lit 12, nat_lit 634173470750165965750485397517, nat_lit 2301794760546253948640653327, nat_lit 17273132110656073448025874449, nat_lit 20, nat_lit 638467575261439380378913615893, nat_lit 2301794760546253948640653336, nat_lit 17292474923772159314634858522, nat_lit 29, nat_lit 633902671366570037015533858846, nat_lit 2301794760546253948640653343, nat_lit 17311817736888245181243842593, nat_lit 36, nat_lit 635778924238614193294516957221, nat_lit 4468189829295669429714382887, nat_lit 17331160550004331047852826665, nat_lit 44, nat_lit 635778924238614193294516957229, nat_lit 4468189829295669429714382895, nat_lit 17350503363120416914461810737, nat_lit 52, nat_lit 635778924238614193294516957237, nat_lit 2301794760546253948640653367, nat_lit 17369846176236502781070794809, nat_lit 60, nat_lit 635778924238614193294516957245, nat_lit 2301794760546253948640653375, nat_lit 17389188989352588647679778881, nat_lit 68, nat_lit 637732548363113685840682299461, nat_lit 2301794760546253948640653384, nat_lit 17408531802468674514288762954, nat_lit 77, nat_lit 637732548363113685840682299470, nat_lit 2301794760546253948640653393, nat_lit 17427874615584760380897747027, nat_lit 86, nat_lit 637732548363113685840682299479, nat_lit 2301794760546253948640653402, nat_lit 17447217428700846247506731100, nat_lit 95, nat_lit 751042747583953649129078403168, nat_lit 2301794760546253948640653411, nat_lit 17466560241816932114115715173, nat_lit 104, nat_lit 751042747583953649129078403177, nat_lit 2301794760546253948640653420, nat_lit 17485903054933017980724699246, nat_lit 113, nat_lit 633883328553456202948738297970, nat_lit 2301794760546253948640653427, nat_lit 17524588681165189713942667381, nat_lit 120, nat_lit 633883328553456202948738297977, nat_lit 2301794760546253948640653434, nat_lit 17543931494281275580551651452, nat_lit 127, nat_lit 633883328553456202948738297984, nat_lit 2301794760546253948640653441, nat_lit 17563274307397361447160635523, nat_lit 134, nat_lit 637307006474609336371179958407, nat_lit 2301794760546253948640653450, nat_lit 17582617120513447313769619596, nat_lit 143, nat_lit 633883328553456202948738298000, nat_lit 2301794760546253948640653457, nat_lit 17601959933629533180378603667, nat_lit 150, nat_lit 634018728245255293216120909975, nat_lit 2301794760546253948640653465, nat_lit 17640645559861704913596571803, nat_lit 158, nat_lit 634018728245255293216120909983, nat_lit 2301794760546253948640653473, nat_lit 17659988372977790780205555875, nat_lit 166, nat_lit 636301180192689964897810788519, nat_lit 2301794760546253948640653482, nat_lit 17679331186093876646814539948, nat_lit 175, nat_lit 635450096415679014158992421040, nat_lit 2301794760546253948640653490, nat_lit 17737359625442134246641492148, nat_lit 183, nat_lit 635450096415679014158992421048, nat_lit 4468189829295669429714383034, nat_lit 17756702438558220113250476220, nat_lit 191, nat_lit 635450096415679014158992421056, nat_lit 2301794760546253948640653506, nat_lit 17776045251674305979859460292, nat_lit 199, nat_lit 635063240153402332823081201864, nat_lit 2301794760546253948640653514, nat_lit 17814730877906477713077428428, nat_lit 207, nat_lit 635063240153402332823081201872, nat_lit 2301794760546253948640653522, nat_lit 17834073691022563579686412500, nat_lit 215, nat_lit 633825300114114700748351615192, nat_lit 633825300114114700748351615193, nat_lit 634869812022263992155125592282, nat_lit 633883328553456202948738298076, nat_lit 17176418045345860092638019805, nat_lit 224, nat_lit 633844642927228534815147176161, nat_lit 633825300114114700748351615202, nat_lit 635063240153402332823081201891, nat_lit 633863985740342368881942737125, nat_lit 17176418045345860092638019814, nat_lit 233, nat_lit 633863985740342368881942737130, nat_lit 633825300114114700748351615211, nat_lit 633980042619027625082529788140, nat_lit 633883328553456202948738298094, nat_lit 17176418045345860092638019823, nat_lit 242, nat_lit 633883328553456202948738298099, nat_lit 633825300114114700748351615220, nat_lit 633863985740342368881942737141, nat_lit 633825300114114700748351615222, nat_lit 17176418045345860092638019831, nat_lit 250, nat_lit 633883328553456202948738298107, nat_lit 633844642927228534815147176188, nat_lit 633941356992799956948938666237, nat_lit 633863985740342368881942737151, nat_lit 17176418045345860092638019840, nat_lit 259, nat_lit 633902671366570037015533859076, nat_lit 633825300114114700748351615237, nat_lit 633941356992799956948938666246, nat_lit 633883328553456202948738298120, nat_lit 17176418045345860092638019849, nat_lit 268, nat_lit 633922014179683871082329420045, nat_lit 633825300114114700748351615246, nat_lit 633863985740342368881942737167, nat_lit 633825300114114700748351615248, nat_lit 17176418045345860092638019857, nat_lit 276, nat_lit 633922014179683871082329420053, nat_lit 633844642927228534815147176214, nat_lit 634250842002621302017667641623, nat_lit 633863985740342368881942737177, nat_lit 17176418045345860092638019866, nat_lit 633825300114114700748351615261, nat_lit 299294, nat_lit 270623, nat_lit 633902671366570037015533859104, nat_lit 389561367768379681, nat_lit 292, nat_lit 17311817736888245181235335461, nat_lit 270632, nat_lit 633863985740342368881942737193, nat_lit 61738, nat_lit 299, nat_lit 17292474923772159314626351404, nat_lit 634985868900946996555898958127, nat_lit 270641, nat_lit 557362, nat_lit 633844642927228534815147176243, nat_lit 61748, nat_lit 633844642927230786614960906549, nat_lit 351280770934919480, nat_lit 69947]
noncomputable def cd_X7_fails : List Nat := [nat_lit 0, nat_lit 270337, nat_lit 17853416504138649446286934018, nat_lit 270341, nat_lit 15762598697148422, nat_lit 633844642927228534815147175945, nat_lit 18014398509502474, nat_lit 633825300114114700748351614989, nat_lit 77838]
noncomputable def cd_X7_isIn : List Nat := [nat_lit 8192, nat_lit 270337, nat_lit 18014398510051330, nat_lit 8197, nat_lit 532486, nat_lit 18014398510575623, nat_lit 633844642927228534815147175946, nat_lit 20266198323187723, nat_lit 633825300114114700748351614990, nat_lit 77839]
noncomputable def cd_X7_isClient : List Nat := [nat_lit 8192, nat_lit 633825300114114700748351614977, nat_lit 633863985740342368881942736898, nat_lit 19207413422043983727196950531, nat_lit 77830]
noncomputable def cd_X7_isPlace : List Nat := [nat_lit 270336, nat_lit 633825300114114700748351614977, nat_lit 633883328553456202948738297858, nat_lit 19207413422043983727196950531, nat_lit 33776997205319686, nat_lit 532489, nat_lit 633825300114114700748351614986, nat_lit 11, nat_lit 17311817736888245181235335180, nat_lit 270351, nat_lit 24592, nat_lit 19207413422043983727196950545, nat_lit 33776997205319700, nat_lit 633844642927228534815147175959, nat_lit 36028797018984472, nat_lit 633825300114114700748351615003, nat_lit 77852]
noncomputable def cd_X7_opens : List Nat := [nat_lit 8192, nat_lit 633844642927228534815147175937, nat_lit 633922014179683871082329419778, nat_lit 19207413422043983727196950531, nat_lit 77830]
noncomputable def cd_X7_sets : List Nat := [nat_lit 0, nat_lit 17253789297539987581408382977, nat_lit 633883328553456202948738297860, nat_lit 270341, nat_lit 557062, nat_lit 532487, nat_lit 32776, nat_lit 794633, nat_lit 61450, nat_lit 11, nat_lit 17273132110656073448017367052, nat_lit 633883328553456202948738297871, nat_lit 270352, nat_lit 557073, nat_lit 532498, nat_lit 32787, nat_lit 1056788, nat_lit 61462, nat_lit 69655]
noncomputable def cd_X7_isDone : List Nat := [nat_lit 0, nat_lit 17273132110656073448017367041, nat_lit 270340, nat_lit 24581, nat_lit 823302, nat_lit 7, nat_lit 17253789297539987581408382984, nat_lit 270347, nat_lit 24588, nat_lit 40532396646375437, nat_lit 532496, nat_lit 40532396646637585, nat_lit 794644, nat_lit 633844642927228534815147175957, nat_lit 40532396646379542, nat_lit 794649, nat_lit 633863985740342368881942736922, nat_lit 45035996274012187, nat_lit 633844642927228534815147175966, nat_lit 47287796087410719, nat_lit 633825300114114700748351615010, nat_lit 77859]
noncomputable def cd_X7_spreads : List Nat := [nat_lit 532480, nat_lit 823297, nat_lit 633825300114114700748351614978, nat_lit 1085443, nat_lit 1056773, nat_lit 633883328553456202948738297863, nat_lit 146366987890372616, nat_lit 794635, nat_lit 633863985740342368881942736908, nat_lit 1056781, nat_lit 557071, nat_lit 1867792, nat_lit 633844642927228534815147175953, nat_lit 819218, nat_lit 633844642927228534815147175955, nat_lit 56294995342438420, nat_lit 23, nat_lit 633883328553456202948738297880, nat_lit 270361, nat_lit 557082, nat_lit 1056795, nat_lit 32797, nat_lit 633825300114114700748351615006, nat_lit 19497555619001444508446769183, nat_lit 101330991616139298, nat_lit 794661, nat_lit 633863985740342368881942736934, nat_lit 1056807, nat_lit 557097, nat_lit 633844642927228534815147175978, nat_lit 32811, nat_lit 1867820, nat_lit 633844642927228534815147175981, nat_lit 819246, nat_lit 633844642927228534815147175983, nat_lit 105834591243513904, nat_lit 51, nat_lit 633883328553456202948738297908, nat_lit 270389, nat_lit 557110, nat_lit 1056823, nat_lit 32825, nat_lit 633844642927228534815147175994, nat_lit 19497555619001444508446769211, nat_lit 105834591243247678, nat_lit 633844642927228534815147176001, nat_lit 108086391056912450, nat_lit 633825300114114700748351615045, nat_lit 1347654, nat_lit 794696, nat_lit 1318985, nat_lit 135107988821155915, nat_lit 633844642927228534815147176014, nat_lit 633863985740342368881942736975, nat_lit 1056848, nat_lit 557138, nat_lit 633863985740342368881942736979, nat_lit 32852, nat_lit 1605717, nat_lit 137359788634820694, nat_lit 633825300114114700748351615065, nat_lit 1081434, nat_lit 823387, nat_lit 633844642927230786614961692764, nat_lit 9007199254761567, nat_lit 794722, nat_lit 28771]
noncomputable def cd_X7_follows : List Nat := [nat_lit 633825300114114700748351614976, nat_lit 1085441, nat_lit 633825300114114700748351614979, nat_lit 1347588, nat_lit 1318918, nat_lit 633883328553456202948738297864, nat_lit 168884986027225097, nat_lit 633883328553456202948738297868, nat_lit 270349, nat_lit 557070, nat_lit 1318927, nat_lit 32785, nat_lit 1609746, nat_lit 20, nat_lit 17253789297539987581408382997, nat_lit 1581080, nat_lit 24602, nat_lit 794651, nat_lit 1867804, nat_lit 633844642927228534815147175965, nat_lit 819230, nat_lit 633844642927228534815147175967, nat_lit 56294995342438432, nat_lit 633844642927228534815147175971, nat_lit 58546795155836964, nat_lit 633825300114114700748351615015, nat_lit 1871912, nat_lit 532522, nat_lit 633863985740342368881942736939, nat_lit 1318956, nat_lit 557102, nat_lit 1867823, nat_lit 633844642927228534815147175984, nat_lit 819249, nat_lit 633844642927228534815147175986, nat_lit 119345390125363251, nat_lit 532534, nat_lit 633863985740342368881942736951, nat_lit 1318968, nat_lit 557114, nat_lit 633844642927228534815147175995, nat_lit 32828, nat_lit 1867837, nat_lit 633844642927228534815147175998, nat_lit 819263, nat_lit 633844642927228534815147176000, nat_lit 123848989752995905, nat_lit 68, nat_lit 17273132110656073448017367109, nat_lit 1581128, nat_lit 24650, nat_lit 633844642927228534815147176011, nat_lit 123848989754044492, nat_lit 633844642927228534815147176015, nat_lit 126100789566394448, nat_lit 633825300114114700748351615059, nat_lit 2134100, nat_lit 1056854, nat_lit 1843288, nat_lit 157625986958008410, nat_lit 2105437, nat_lit 157625986958008415, nat_lit 633844642927228534815147176034, nat_lit 633863985740342368881942736995, nat_lit 1319012, nat_lit 557158, nat_lit 633844642927228534815147176039, nat_lit 32872, nat_lit 1605737, nat_lit 159877786771673194, nat_lit 633825300114114700748351615085, nat_lit 1081454, nat_lit 1085551, nat_lit 633844642927230786614961954929, nat_lit 9007199254761588, nat_lit 119, nat_lit 270456, nat_lit 1056889, nat_lit 19420184366546108241265836155, nat_lit 28798]
noncomputable def cd_X7_isValid : List Nat := [nat_lit 0, nat_lit 17698673999209962513415016449, nat_lit 634985868900946996555898957828, nat_lit 13510798883467270, nat_lit 633825300114114700748351614985, nat_lit 77834, nat_lit 633825300114114700748351614987, nat_lit 299020, nat_lit 13, nat_lit 17814730877906477713068920846, nat_lit 633825300114114700748351614993, nat_lit 633825300114114700748351614994, nat_lit 61459, nat_lit 20, nat_lit 17834073691022563579677904917, nat_lit 633825300114114700748351615000, nat_lit 25, nat_lit 633825300114114700748351615002, nat_lit 633844642927228534815147175963, nat_lit 19420184366546108241265836060, nat_lit 61471, nat_lit 633825300114114700748351615008, nat_lit 561185, nat_lit 532514, nat_lit 35, nat_lit 17698673999209962513415016484, nat_lit 200410183418818599, nat_lit 42, nat_lit 17679331186093876646806032427, nat_lit 532526, nat_lit 24623, nat_lit 823344, nat_lit 794673, nat_lit 110338190870880306, nat_lit 270389, nat_lit 101330991615877174, nat_lit 57, nat_lit 17834073691022563579677904954, nat_lit 270397, nat_lit 24638, nat_lit 633941356992799956948938666047, nat_lit 1867841, nat_lit 633844642927228534815147176002, nat_lit 819267, nat_lit 105834591243509828, nat_lit 633825300114114700748351615047, nat_lit 77896, nat_lit 633815628707555531915140587593, nat_lit 195906583790637132, nat_lit 794703, nat_lit 19574926871202327396681044048, nat_lit 1085523, nat_lit 85, nat_lit 17834073691022563579677904982, nat_lit 270425, nat_lit 90, nat_lit 91, nat_lit 17814730877906477713068920924, nat_lit 270431, nat_lit 24672, nat_lit 97, nat_lit 17834073691022563579677904994, nat_lit 270437, nat_lit 24678, nat_lit 1056871, nat_lit 153122387330637929, nat_lit 794732, nat_lit 155374187144302701, nat_lit 633941356992799956948938666096, nat_lit 19632955310800534775828070514, nat_lit 61557, nat_lit 1056886, nat_lit 195906583790657656, nat_lit 633844642927230786614960906363, nat_lit 126, nat_lit 17814730877906477713068920959, nat_lit 270466, nat_lit 794755, nat_lit 61572, nat_lit 133, nat_lit 17834073691022563579677905030, nat_lit 270473, nat_lit 138, nat_lit 794763, nat_lit 633844642927228534815147176076, nat_lit 19420184366546108241265836173, nat_lit 61584, nat_lit 633844642927230786614961168529, nat_lit 51791395714781332, nat_lit 270487, nat_lit 231935380809883800, nat_lit 155, nat_lit 17834073691022563579677905052, nat_lit 633825300114114700748351615135, nat_lit 24736, nat_lit 633941356992799956948938666145, nat_lit 1867939, nat_lit 633844642927228534815147176100, nat_lit 819365, nat_lit 633844642927228534815147176102, nat_lit 231935380809887911, nat_lit 633844642927228534815147176106, nat_lit 234187180623286443, nat_lit 633825300114114700748351615150, nat_lit 77999]
noncomputable def cd_X7_begins : List Nat := [nat_lit 0, nat_lit 17679331186093876646806032385, nat_lit 633825300114114700748351614980, nat_lit 633844642927228534815147175941, nat_lit 61446, nat_lit 7, nat_lit 17679331186093876646806032392, nat_lit 633844642927228534815147175947, nat_lit 633825300114114700748351614988, nat_lit 61453, nat_lit 14, nat_lit 633863985740342368881942736911, nat_lit 17698673999209962513415061520, nat_lit 69651]
noncomputable def cd_X7_rule : List Nat := [nat_lit 270336, nat_lit 633825300114114700748351614977, nat_lit 633922014179683871082329419778, nat_lit 19207413422043983727196950531, nat_lit 1347590, nat_lit 532488, nat_lit 633825300114114700748351614985, nat_lit 633863985740342368881942736906, nat_lit 19207413422043983727196950539, nat_lit 58546795155857422, nat_lit 794641, nat_lit 633825300114114700748351614994, nat_lit 636262494566460044964405981203, nat_lit 19207413422043983727196950549, nat_lit 58546795155857432, nat_lit 794651, nat_lit 633863985740342368881942736924, nat_lit 2129949, nat_lit 58546795156119582, nat_lit 1056801, nat_lit 633825300114114700748351615011, nat_lit 633883328553456202948738297892, nat_lit 19207413422043983727196950565, nat_lit 58546795155857448, nat_lit 633844642927228534815147175979, nat_lit 60798594969522220, nat_lit 633825300114114700748351615023, nat_lit 1609776, nat_lit 1318962, nat_lit 85568392920080436, nat_lit 1581111, nat_lit 85568392920080441, nat_lit 633883328553456202948738297916, nat_lit 270397, nat_lit 557118, nat_lit 532543, nat_lit 32832, nat_lit 87820192733745217, nat_lit 633825300114114700748351615044, nat_lit 1871941, nat_lit 71, nat_lit 17253789297539987581408383048, nat_lit 1843275, nat_lit 24653, nat_lit 2134094, nat_lit 80, nat_lit 17273132110656073448017367121, nat_lit 1843284, nat_lit 24662, nat_lit 2396247, nat_lit 89, nat_lit 17505245868049103847325175898, nat_lit 157625986958270557, nat_lit 96, nat_lit 17543931494281275580543144033, nat_lit 633825300114114700748351615076, nat_lit 24677, nat_lit 102, nat_lit 17543931494281275580543144039, nat_lit 633844642927228534815147176042, nat_lit 24683, nat_lit 32876, nat_lit 109, nat_lit 17543931494281275580543144046, nat_lit 633863985740342368881942737009, nat_lit 24690, nat_lit 32883, nat_lit 157625986958270580, nat_lit 633844642927228534815147176055, nat_lit 159877786771673208, nat_lit 633825300114114700748351615099, nat_lit 2658428, nat_lit 1319038, nat_lit 218424581927510144, nat_lit 1581187, nat_lit 218424581927510149, nat_lit 2629768, nat_lit 218424581927510154, nat_lit 141, nat_lit 270478, nat_lit 532623, nat_lit 794768, nat_lit 1056913, nat_lit 17176418045345860092638019731, nat_lit 150, nat_lit 19265441861630932107276861591, nat_lit 154, nat_lit 19342813114086268374457794715, nat_lit 2658462, nat_lit 2629792, nat_lit 218424581927772322, nat_lit 165, nat_lit 270502, nat_lit 532647, nat_lit 2105512, nat_lit 2367658, nat_lit 17176418045345860092638019756, nat_lit 175, nat_lit 1319088, nat_lit 229683580996198578, nat_lit 633844642927228534815147176117, nat_lit 249949779319083190, nat_lit 1581241, nat_lit 238690780250939579, nat_lit 633863985740342368881942737086, nat_lit 249949779319083199, nat_lit 2629826, nat_lit 247697979505418436, nat_lit 633825300114114700748351615175, nat_lit 249949779319083208, nat_lit 633883328553456202948738298059, nat_lit 19710326563251367443379798220, nat_lit 131279, nat_lit 69840]
noncomputable def cd_X7_empties : List Nat := [nat_lit 0, nat_lit 17331160550004331047844319233, nat_lit 270340, nat_lit 633825300114114700748351614981, nat_lit 323590, nat_lit 7, nat_lit 17389188989352588647671271432, nat_lit 270347, nat_lit 532492, nat_lit 61453, nat_lit 633825300114114700748351614990, nat_lit 823311, nat_lit 794640, nat_lit 633863985740342368881942736913, nat_lit 99079191802982418, nat_lit 21, nat_lit 17408531802468674514280255510, nat_lit 633863985740342368881942736921, nat_lit 270362, nat_lit 557083, nat_lit 794652, nat_lit 32797, nat_lit 633825300114114700748351615006, nat_lit 61471, nat_lit 32, nat_lit 17427874615584760380889239585, nat_lit 633863985740342368881942736932, nat_lit 270373, nat_lit 557094, nat_lit 794663, nat_lit 32808, nat_lit 633825300114114700748351615017, nat_lit 61482, nat_lit 43, nat_lit 17447217428700846247498223660, nat_lit 633863985740342368881942736943, nat_lit 270384, nat_lit 557105, nat_lit 794674, nat_lit 32819, nat_lit 633825300114114700748351615028, nat_lit 61493, nat_lit 633844642927230786614961430582, nat_lit 27021597764243513, nat_lit 69692]
noncomputable def cd_X7_copies : List Nat := [nat_lit 0, nat_lit 17331160550004331047844319233, nat_lit 532484, nat_lit 5, nat_lit 17331160550004331047844319238, nat_lit 270345, nat_lit 286730, nat_lit 323595, nat_lit 12, nat_lit 17350503363120416914453303309, nat_lit 532496, nat_lit 17, nat_lit 17350503363120416914453303314, nat_lit 270357, nat_lit 286742, nat_lit 323607, nat_lit 24, nat_lit 17369846176236502781062287385, nat_lit 532508, nat_lit 29, nat_lit 17369846176236502781062287390, nat_lit 270369, nat_lit 24610, nat_lit 61475, nat_lit 36, nat_lit 17389188989352588647671271461, nat_lit 532520, nat_lit 41, nat_lit 17389188989352588647671271466, nat_lit 270381, nat_lit 24622, nat_lit 61487, nat_lit 633825300114114700748351615024, nat_lit 823345, nat_lit 794674, nat_lit 633863985740342368881942736947, nat_lit 195906583791448116, nat_lit 55, nat_lit 17408531802468674514280255544, nat_lit 633863985740342368881942736955, nat_lit 532540, nat_lit 557117, nat_lit 794686, nat_lit 32831, nat_lit 64, nat_lit 17408531802468674514280255553, nat_lit 633863985740342368881942736964, nat_lit 270405, nat_lit 557126, nat_lit 794695, nat_lit 32840, nat_lit 24649, nat_lit 61514, nat_lit 75, nat_lit 17427874615584760380889239628, nat_lit 633863985740342368881942736975, nat_lit 532560, nat_lit 557137, nat_lit 794706, nat_lit 32851, nat_lit 84, nat_lit 17427874615584760380889239637, nat_lit 633863985740342368881942736984, nat_lit 270425, nat_lit 557146, nat_lit 794715, nat_lit 32860, nat_lit 24669, nat_lit 61534, nat_lit 95, nat_lit 17447217428700846247498223712, nat_lit 633863985740342368881942736995, nat_lit 532580, nat_lit 557157, nat_lit 794726, nat_lit 32871, nat_lit 104, nat_lit 17447217428700846247498223721, nat_lit 633863985740342368881942737004, nat_lit 270445, nat_lit 557166, nat_lit 794735, nat_lit 32880, nat_lit 24689, nat_lit 61554, nat_lit 633844642927230786614961430643, nat_lit 76561193665319030, nat_lit 633825300114114700748351615097, nat_lit 823418, nat_lit 794747, nat_lit 634985868900946996555898957948, nat_lit 283726776525172862, nat_lit 129, nat_lit 17466560241816932114107207810, nat_lit 634985868900946996555898957957, nat_lit 532615, nat_lit 557192, nat_lit 794761, nat_lit 32906, nat_lit 139, nat_lit 17466560241816932114107207820, nat_lit 634985868900946996555898957967, nat_lit 270481, nat_lit 557202, nat_lit 794771, nat_lit 32916, nat_lit 24725, nat_lit 61590, nat_lit 151, nat_lit 17485903054933017980716191896, nat_lit 634985868900946996555898957979, nat_lit 532637, nat_lit 557214, nat_lit 794783, nat_lit 32928, nat_lit 161, nat_lit 17485903054933017980716191906, nat_lit 634985868900946996555898957989, nat_lit 270503, nat_lit 557224, nat_lit 794793, nat_lit 32938, nat_lit 24747, nat_lit 61612, nat_lit 633844642927230786614961430701, nat_lit 200410183418007728, nat_lit 69811]
noncomputable def cd_X7_adds : List Nat := [nat_lit 0, nat_lit 17447217428700846247498223617, nat_lit 633863985740342368881942736900, nat_lit 270341, nat_lit 557062, nat_lit 24583, nat_lit 8, nat_lit 17447217428700846247498223625, nat_lit 633863985740342368881942736908, nat_lit 270349, nat_lit 557070, nat_lit 633844642927228534815147175951, nat_lit 32784, nat_lit 24593, nat_lit 32786, nat_lit 1085459, nat_lit 1056789, nat_lit 634985868900946996555898957847, nat_lit 63050394784018457, nat_lit 28, nat_lit 17485903054933017980716191773, nat_lit 634985868900946996555898957856, nat_lit 270370, nat_lit 557091, nat_lit 1056804, nat_lit 32806, nat_lit 794663, nat_lit 61480, nat_lit 41, nat_lit 17447217428700846247498223658, nat_lit 633863985740342368881942736941, nat_lit 270382, nat_lit 557103, nat_lit 532528, nat_lit 32817, nat_lit 114738, nat_lit 24627, nat_lit 633844642927228534815147175988, nat_lit 32821, nat_lit 61494, nat_lit 69687]
noncomputable def cd_X7_looksAt : List Nat := [nat_lit 0, nat_lit 1, nat_lit 17311817736888245181235335170, nat_lit 270341, nat_lit 24582, nat_lit 17698673999209962513415061511, nat_lit 633825300114114700748351614986, nat_lit 561163, nat_lit 532492, nat_lit 13, nat_lit 17698673999209962513415016462, nat_lit 58546795156647953, nat_lit 20, nat_lit 17679331186093876646806032405, nat_lit 532504, nat_lit 25, nat_lit 17292474923772159314626351130, nat_lit 634985868900946996555898957853, nat_lit 270367, nat_lit 557088, nat_lit 532513, nat_lit 32802, nat_lit 24611, nat_lit 61476, nat_lit 633844642927230786614961168421, nat_lit 18014398509502504, nat_lit 69675]
noncomputable def cd_X7_keeps : List Nat := [nat_lit 0, nat_lit 17311817736888245181235335169, nat_lit 270340, nat_lit 5, nat_lit 17698673999209962513415016454, nat_lit 61449, nat_lit 633825300114114700748351614986, nat_lit 561163, nat_lit 532492, nat_lit 13, nat_lit 17698673999209962513415016462, nat_lit 58546795156647953, nat_lit 20, nat_lit 17292474923772159314626351125, nat_lit 634985868900946996555898957848, nat_lit 270362, nat_lit 557083, nat_lit 532508, nat_lit 32797, nat_lit 30, nat_lit 17679331186093876646806032415, nat_lit 532514, nat_lit 24611, nat_lit 61476, nat_lit 633844642927230786614961168421, nat_lit 18014398509502504, nat_lit 69675]
noncomputable def cd_X7_marks : List Nat := [nat_lit 0, nat_lit 17408531802468674514280255489, nat_lit 633863985740342368881942736900, nat_lit 270341, nat_lit 557062, nat_lit 24583, nat_lit 561160, nat_lit 532489, nat_lit 10, nat_lit 17408531802468674514280255499, nat_lit 633863985740342368881942736910, nat_lit 270351, nat_lit 557072, nat_lit 633844642927228534815147175953, nat_lit 32786, nat_lit 24595, nat_lit 168884986027225108, nat_lit 23, nat_lit 17679331186093876646806032408, nat_lit 532507, nat_lit 24604, nat_lit 635759581425500359227721396253, nat_lit 164381386399592479, nat_lit 633844642927228534815147175970, nat_lit 35, nat_lit 17369846176236502781062287396, nat_lit 270375, nat_lit 24616, nat_lit 1605673, nat_lit 823338, nat_lit 43, nat_lit 17679331186093876646806032428, nat_lit 532527, nat_lit 24624, nat_lit 635759581425500359227721396273, nat_lit 294963, nat_lit 633902671366570037015533858868, nat_lit 2129973, nat_lit 1085494, nat_lit 56, nat_lit 17350503363120416914453303353, nat_lit 270396, nat_lit 286781, nat_lit 108086391056932926, nat_lit 1056833, nat_lit 794691, nat_lit 1081412, nat_lit 119345390125338693, nat_lit 1056840, nat_lit 794698, nat_lit 633805957301001992581462896715, nat_lit 1343564, nat_lit 819277, nat_lit 1085518, nat_lit 80, nat_lit 17679331186093876646806032465, nat_lit 532564, nat_lit 85, nat_lit 17679331186093876646806032470, nat_lit 532569, nat_lit 24666, nat_lit 91, nat_lit 17679331186093876646806032476, nat_lit 532575, nat_lit 24672, nat_lit 635759581425500359227721396321, nat_lit 295011, nat_lit 633902671366570037015533858916, nat_lit 2130021, nat_lit 295014, nat_lit 1056871, nat_lit 32873, nat_lit 61546, nat_lit 633844642927230786614961168491, nat_lit 15762598695817326, nat_lit 69745]
noncomputable def cd_X7_changes : List Nat := [nat_lit 0, nat_lit 17408531802468674514280255489, nat_lit 633863985740342368881942736900, nat_lit 270341, nat_lit 557062, nat_lit 532487, nat_lit 32776, nat_lit 24585, nat_lit 794634, nat_lit 32779, nat_lit 1347596, nat_lit 14, nat_lit 17427874615584760380889239567, nat_lit 633863985740342368881942736914, nat_lit 270355, nat_lit 557076, nat_lit 532501, nat_lit 32790, nat_lit 24599, nat_lit 1609752, nat_lit 26, nat_lit 17447217428700846247498223643, nat_lit 633863985740342368881942736926, nat_lit 270367, nat_lit 557088, nat_lit 532513, nat_lit 32802, nat_lit 24611, nat_lit 1871908, nat_lit 633825300114114700748351615014, nat_lit 2134055, nat_lit 2105385, nat_lit 1581099, nat_lit 137359788635631661, nat_lit 48, nat_lit 17466560241816932114107207729, nat_lit 634985868900946996555898957876, nat_lit 270390, nat_lit 557111, nat_lit 532536, nat_lit 96827391988768825, nat_lit 633825300114114700748351615036, nat_lit 110338190870597693, nat_lit 64, nat_lit 17427874615584760380889239617, nat_lit 633863985740342368881942736964, nat_lit 270405, nat_lit 557126, nat_lit 24647, nat_lit 32840, nat_lit 2105417, nat_lit 32843, nat_lit 76, nat_lit 17679331186093876646806032461, nat_lit 1318992, nat_lit 2105426, nat_lit 32852, nat_lit 24661, nat_lit 61526, nat_lit 633844642927230786614962741335, nat_lit 69805794224263258, nat_lit 1843293, nat_lit 1581151, nat_lit 200410183419342945, nat_lit 100, nat_lit 17698673999209962513415016549, nat_lit 633844642927228534815147176040, nat_lit 295017, nat_lit 2134122, nat_lit 2105452, nat_lit 1319022, nat_lit 1581168, nat_lit 32882, nat_lit 198158383604871283, nat_lit 118, nat_lit 17679331186093876646806032503, nat_lit 2105466, nat_lit 1843324, nat_lit 32894, nat_lit 1581183, nat_lit 295041, nat_lit 130, nat_lit 17679331186093876646806032515, nat_lit 2105478, nat_lit 24712, nat_lit 61577, nat_lit 633815628707555531915142422666, nat_lit 155374187144302733, nat_lit 249949779319083152, nat_lit 1319059, nat_lit 1581205, nat_lit 32919, nat_lit 2134168, nat_lit 2105498, nat_lit 156, nat_lit 17698673999209962513415016605, nat_lit 249949779319894176, nat_lit 163, nat_lit 17679331186093876646806032548, nat_lit 2105511, nat_lit 1843369, nat_lit 32939, nat_lit 1581228, nat_lit 295086, nat_lit 175, nat_lit 17679331186093876646806032560, nat_lit 2105523, nat_lit 24757, nat_lit 61622, nat_lit 633844642927230786614962741431, nat_lit 209417382672748730, nat_lit 189, nat_lit 65726, nat_lit 17698673999209962513415016639, nat_lit 1843394, nat_lit 1581252, nat_lit 295110, nat_lit 32967, nat_lit 17698673999209962513415061704, nat_lit 633825300114114700748351615179, nat_lit 2134220, nat_lit 2105550, nat_lit 1843408, nat_lit 319755573544136914, nat_lit 213, nat_lit 17679331186093876646806032598, nat_lit 1319129, nat_lit 2105563, nat_lit 32989, nat_lit 222, nat_lit 17485903054933017980716191967, nat_lit 634985868900946996555898958050, nat_lit 270564, nat_lit 557285, nat_lit 1056998, nat_lit 33000, nat_lit 2105577, nat_lit 33003, nat_lit 24812, nat_lit 61677, nat_lit 633844642927230786614962741486, nat_lit 272467777455935729, nat_lit 69876]
noncomputable def cd_X7_isTooLong : List Nat := [nat_lit 0, nat_lit 17331160550004331047844319233, nat_lit 270340, nat_lit 286725, nat_lit 96827391988768774, nat_lit 9, nat_lit 17698673999209962513415016458, nat_lit 13, nat_lit 17447217428700846247498223630, nat_lit 633863985740342368881942736913, nat_lit 270354, nat_lit 557075, nat_lit 24596, nat_lit 32789, nat_lit 22, nat_lit 17447217428700846247498223639, nat_lit 633863985740342368881942736922, nat_lit 270363, nat_lit 557084, nat_lit 633844642927228534815147175965, nat_lit 32798, nat_lit 24607, nat_lit 32800, nat_lit 33, nat_lit 17427874615584760380889239586, nat_lit 633863985740342368881942736933, nat_lit 270374, nat_lit 557095, nat_lit 24616, nat_lit 294953, nat_lit 42, nat_lit 17427874615584760380889239595, nat_lit 633863985740342368881942736942, nat_lit 270383, nat_lit 557104, nat_lit 633844642927228534815147175985, nat_lit 32818, nat_lit 24627, nat_lit 294964, nat_lit 634985868900946996555898957877, nat_lit 96827391989821495, nat_lit 633844642927228534815147175994, nat_lit 99079191802171451, nat_lit 633825300114114700748351615038, nat_lit 77887]
noncomputable def cd_X7_does : List Nat := [nat_lit 0, nat_lit 17331160550004331047844319233, nat_lit 270340, nat_lit 286725, nat_lit 20266198323208198, nat_lit 9, nat_lit 270346, nat_lit 20619438779601568582763298827, nat_lit 69646, nat_lit 15, nat_lit 270352, nat_lit 633825300114114700748351614993, nat_lit 633825300114114700748351614994, nat_lit 633825300114114700748351614995, nat_lit 20696810032063660249385811988, nat_lit 23, nat_lit 17389188989352588647671271448, nat_lit 270363, nat_lit 24604, nat_lit 633863985740342368881942736925, nat_lit 99079191802458142, nat_lit 33, nat_lit 270370, nat_lit 633844642927228534815147175971, nat_lit 36, nat_lit 17447217428700846247498223653, nat_lit 633863985740342368881942736936, nat_lit 270377, nat_lit 557098, nat_lit 24619, nat_lit 44, nat_lit 17427874615584760380889239597, nat_lit 633863985740342368881942736944, nat_lit 270385, nat_lit 557106, nat_lit 24627, nat_lit 294964, nat_lit 53, nat_lit 17447217428700846247498223670, nat_lit 633863985740342368881942736953, nat_lit 270394, nat_lit 557115, nat_lit 24636, nat_lit 20696810032063660249385812029, nat_lit 69696]
noncomputable def cd_X7_goes : List Nat := [nat_lit 0, nat_lit 270337, nat_lit 20464696274690896048401432578, nat_lit 13510798882152453, nat_lit 633825300114114700748351614984, nat_lit 77833, nat_lit 10, nat_lit 270347, nat_lit 20542067527146232315582889996, nat_lit 15, nat_lit 19342813114086268374457794576, nat_lit 77843]
noncomputable def cd_X7_startOf : List Nat := [nat_lit 0, nat_lit 17408531802468674514280255489, nat_lit 633863985740342368881942736900, nat_lit 270341, nat_lit 557062, nat_lit 794631, nat_lit 32776, nat_lit 24585, nat_lit 532490, nat_lit 60798594969542667, nat_lit 794638, nat_lit 633844642927228534815147175951, nat_lit 60798594969808912, nat_lit 19, nat_lit 17447217428700846247498223636, nat_lit 633863985740342368881942736919, nat_lit 270360, nat_lit 557081, nat_lit 24602, nat_lit 27, nat_lit 17427874615584760380889239580, nat_lit 633863985740342368881942736927, nat_lit 270368, nat_lit 557089, nat_lit 24610, nat_lit 294947, nat_lit 63050394783207460, nat_lit 633825300114114700748351615015, nat_lit 32808, nat_lit 28713]
noncomputable def cd_X7_takesOf : List Nat := [nat_lit 532480, nat_lit 24769797950578689, nat_lit 4, nat_lit 17447217428700846247498223621, nat_lit 633863985740342368881942736904, nat_lit 270345, nat_lit 557066, nat_lit 794635, nat_lit 32780, nat_lit 24589, nat_lit 42784196460040206, nat_lit 17, nat_lit 17427874615584760380889239570, nat_lit 633863985740342368881942736917, nat_lit 270358, nat_lit 557079, nat_lit 794648, nat_lit 32793, nat_lit 24602, nat_lit 28699]
noncomputable def cd_X7_rangeAt : List Nat := [nat_lit 633805957301001992581462896640, nat_lit 1085441, nat_lit 3, nat_lit 17331160550004331047844319236, nat_lit 270343, nat_lit 286728, nat_lit 20266198323208201, nat_lit 633805957301001992581462896652, nat_lit 33776997205299213, nat_lit 16, nat_lit 17389188989352588647671271441, nat_lit 270356, nat_lit 24597, nat_lit 633844642927228534815147175958, nat_lit 294935, nat_lit 1347608, nat_lit 1318938, nat_lit 92323792361660444, nat_lit 31, nat_lit 270368, nat_lit 532513, nat_lit 1318946, nat_lit 22766491035241653596670148644, nat_lit 1609767, nat_lit 794665, nat_lit 1581098, nat_lit 1581100, nat_lit 46, nat_lit 270383, nat_lit 532528, nat_lit 1318961, nat_lit 23075976045062998665395191859, nat_lit 32822, nat_lit 19207413422043983727196950583, nat_lit 83316593106395194, nat_lit 1318973, nat_lit 85568392920059967, nat_lit 1056834, nat_lit 1085508, nat_lit 633815628707555531915141636166, nat_lit 36028797018984521, nat_lit 1056844, nat_lit 28750]
noncomputable def cd_X7_maps : List Nat := [nat_lit 633825300114114700748351614976, nat_lit 1347585, nat_lit 633825300114114700748351614979, nat_lit 1609732, nat_lit 1581062, nat_lit 8, nat_lit 17389188989352588647671271433, nat_lit 270348, nat_lit 24589, nat_lit 240942580065153038, nat_lit 17, nat_lit 17331160550004331047844319250, nat_lit 270357, nat_lit 286742, nat_lit 240942580064624663, nat_lit 26, nat_lit 270363, nat_lit 532508, nat_lit 1581085, nat_lit 22766491035241653596670148639, nat_lit 1871906, nat_lit 36, nat_lit 270373, nat_lit 532518, nat_lit 1581095, nat_lit 23075976045062998665395191849, nat_lit 2134060, nat_lit 46, nat_lit 270383, nat_lit 532528, nat_lit 74309393851916337, nat_lit 633844642927228534815147175988, nat_lit 76561193665318965, nat_lit 633825300114114700748351615032, nat_lit 1581113, nat_lit 23075976045062998665395191867, nat_lit 2396222, nat_lit 794688, nat_lit 1843265, nat_lit 99079191802982467, nat_lit 794694, nat_lit 1318983, nat_lit 32841, nat_lit 28746, nat_lit 794699, nat_lit 1843276, nat_lit 2105422, nat_lit 32848, nat_lit 222928181555933265, nat_lit 2105428, nat_lit 130604389195096150, nat_lit 794713, nat_lit 1843290, nat_lit 2105436, nat_lit 32862, nat_lit 130604389194051679, nat_lit 633844642927228534815147176034, nat_lit 132856189007450211, nat_lit 633825300114114700748351615078, nat_lit 2658407, nat_lit 2105449, nat_lit 150870587518263403, nat_lit 794734, nat_lit 1843311, nat_lit 150870587517218929, nat_lit 633844642927228534815147176052, nat_lit 153122387330617461, nat_lit 633825300114114700748351615096, nat_lit 2920569, nat_lit 123, nat_lit 124, nat_lit 17795388064790391846459936893, nat_lit 182395784908808320, nat_lit 794755, nat_lit 1843332, nat_lit 186899384537231494, nat_lit 794761, nat_lit 1843338, nat_lit 2105484, nat_lit 32910, nat_lit 186899384536707215, nat_lit 633844642927228534815147176082, nat_lit 189151184349581459, nat_lit 633825300114114700748351615126, nat_lit 17795388064790391846464176279, nat_lit 1843354, nat_lit 1319068, nat_lit 32926, nat_lit 2629791, nat_lit 211669182486716577, nat_lit 2891940, nat_lit 216172782114087078, nat_lit 1056937, nat_lit 216172782113824939, nat_lit 2367662, nat_lit 218424581927489712, nat_lit 633825300114114700748351615155, nat_lit 32948, nat_lit 28853, nat_lit 1319094, nat_lit 2367672, nat_lit 2105530, nat_lit 295100, nat_lit 32957, nat_lit 1347774, nat_lit 633844642927230786614962217152, nat_lit 9007199254761667, nat_lit 794822, nat_lit 1319111, nat_lit 32969, nat_lit 28874]
noncomputable def cd_X7_mapsThrough : List Nat := [nat_lit 532480, nat_lit 1085441, nat_lit 270339, nat_lit 1347588, nat_lit 1318918, nat_lit 8, nat_lit 17718016812326048380024000521, nat_lit 263460578202005516, nat_lit 15, nat_lit 17737359625442134246632984592, nat_lit 1318931, nat_lit 24597, nat_lit 1609750, nat_lit 24, nat_lit 17776045251674305979850952729, nat_lit 1318940, nat_lit 24606, nat_lit 633805957301001992581462896671, nat_lit 47287796087697440, nat_lit 633805957301001992581462896675, nat_lit 65302194596892708, nat_lit 39, nat_lit 1581096, nat_lit 42, nat_lit 17756702438558220113241968683, nat_lit 1318958, nat_lit 286768, nat_lit 1056817, nat_lit 22998604792607662398214258739, nat_lit 1871926, nat_lit 1843256, nat_lit 633805957301001992581462896698, nat_lit 78812993479290939, nat_lit 633825300114114700748351615038, nat_lit 96827391988486207, nat_lit 66, nat_lit 1581123, nat_lit 69, nat_lit 17756702438558220113241968710, nat_lit 1318985, nat_lit 286795, nat_lit 1843276, nat_lit 22766491035241653596670148686, nat_lit 2134097, nat_lit 1843283, nat_lit 633805957301001992581462896725, nat_lit 110338190870884438, nat_lit 633825300114114700748351615065, nat_lit 132856189007450202, nat_lit 2105437, nat_lit 95, nat_lit 1581152, nat_lit 98, nat_lit 17756702438558220113241968739, nat_lit 1319014, nat_lit 286824, nat_lit 1843305, nat_lit 23075976045062998665395191915, nat_lit 32878, nat_lit 2396271, nat_lit 1843313, nat_lit 633805957301001992581462896755, nat_lit 168884986026438772, nat_lit 1056887, nat_lit 2105465, nat_lit 153122387330904187, nat_lit 794750, nat_lit 168884986026434687, nat_lit 1056898, nat_lit 2367620, nat_lit 164381386399330438, nat_lit 794761, nat_lit 168884986026696842, nat_lit 633844642927228534815147176077, nat_lit 171136785840099470, nat_lit 633825300114114700748351615121, nat_lit 2658450, nat_lit 2629780, nat_lit 236438980436992150, nat_lit 153, nat_lit 17737359625442134246632984730, nat_lit 157, nat_lit 17776045251674305979850952862, nat_lit 1319073, nat_lit 24739, nat_lit 24740, nat_lit 2920613, nat_lit 167, nat_lit 2891944, nat_lit 633844642927228534815147176106, nat_lit 1843371, nat_lit 22766491035241653596670148781, nat_lit 1056944, nat_lit 32946, nat_lit 2105523, nat_lit 295093, nat_lit 1085622, nat_lit 184, nat_lit 17776045251674305979850952889, nat_lit 1319100, nat_lit 24766, nat_lit 633844642927228534815147176127, nat_lit 32960, nat_lit 1347777, nat_lit 261208778387509443, nat_lit 198, nat_lit 1581255, nat_lit 201, nat_lit 17756702438558220113241968842, nat_lit 1319117, nat_lit 286927, nat_lit 1056976, nat_lit 794834, nat_lit 23153347297520586732390596819, nat_lit 1085654, nat_lit 633844642927230786614961955032, nat_lit 9007199254761691, nat_lit 1056990, nat_lit 28896]
noncomputable def cd_X7_mapsStep : List Nat := [nat_lit 0, nat_lit 17331160550004331047844319233, nat_lit 532484, nat_lit 286725, nat_lit 117093590311673862, nat_lit 9, nat_lit 270346, nat_lit 11, nat_lit 17408531802468674514280255500, nat_lit 633863985740342368881942736911, nat_lit 532496, nat_lit 557073, nat_lit 24594, nat_lit 633844642927228534815147175955, nat_lit 22921233540152326131033587732, nat_lit 823319, nat_lit 24, nat_lit 270361, nat_lit 26, nat_lit 17408531802468674514280255515, nat_lit 633863985740342368881942736926, nat_lit 532511, nat_lit 557088, nat_lit 633844642927228534815147175969, nat_lit 32802, nat_lit 24611, nat_lit 633825300114114700748351615012, nat_lit 22921233540152326131033587749, nat_lit 1085480, nat_lit 42, nat_lit 17408531802468674514280255531, nat_lit 633863985740342368881942736942, nat_lit 532527, nat_lit 557104, nat_lit 794673, nat_lit 61490, nat_lit 51, nat_lit 17408531802468674514280255540, nat_lit 633863985740342368881942736951, nat_lit 532536, nat_lit 557113, nat_lit 633844642927228534815147175994, nat_lit 32827, nat_lit 1056828, nat_lit 61502, nat_lit 1056831, nat_lit 794689, nat_lit 112589990685618242, nat_lit 633844642927228534815147176005, nat_lit 114841790497968198, nat_lit 633825300114114700748351615049, nat_lit 77898, nat_lit 633844642927228534815147176011, nat_lit 823372, nat_lit 633825300114114700748351615053, nat_lit 1085518, nat_lit 1056848, nat_lit 82, nat_lit 17389188989352588647671271507, nat_lit 532566, nat_lit 24663, nat_lit 292733975779913816, nat_lit 633863985740342368881942736987, nat_lit 532572, nat_lit 557149, nat_lit 1056862, nat_lit 32864, nat_lit 1347681, nat_lit 99, nat_lit 633825300114114700748351615076, nat_lit 17795388064790391846464176229, nat_lit 104, nat_lit 270441, nat_lit 106, nat_lit 17408531802468674514280255595, nat_lit 1319022, nat_lit 24688, nat_lit 633844642927228534815147176049, nat_lit 22921233540152326131033587826, nat_lit 1609845, nat_lit 119, nat_lit 17795388064790391846459936888, nat_lit 1871995, nat_lit 125, nat_lit 633825300114114700748351615102, nat_lit 17795388064790391846464176255, nat_lit 130, nat_lit 270467, nat_lit 132, nat_lit 17408531802468674514280255621, nat_lit 1319048, nat_lit 24714, nat_lit 139, nat_lit 17427874615584760380889239692, nat_lit 1319055, nat_lit 24721, nat_lit 32914, nat_lit 633825300114114700748351615123, nat_lit 22921233540152326131033587860, nat_lit 2134167, nat_lit 794777, nat_lit 245446179691733146, nat_lit 1843357, nat_lit 240942580064362655, nat_lit 162, nat_lit 17795388064790391846459936931, nat_lit 245446179691995302, nat_lit 633844642927228534815147176105, nat_lit 247697979505397930, nat_lit 633825300114114700748351615149, nat_lit 823470, nat_lit 175, nat_lit 17408531802468674514280255664, nat_lit 1319091, nat_lit 1581237, nat_lit 61623, nat_lit 184, nat_lit 17427874615584760380889239737, nat_lit 1319100, nat_lit 2105534, nat_lit 1581248, nat_lit 283726776525697218, nat_lit 2105541, nat_lit 1581255, nat_lit 295113, nat_lit 285978576338047178, nat_lit 633825300114114700748351615181, nat_lit 61646, nat_lit 633844642927230786614961692879, nat_lit 126100789566394578, nat_lit 794837, nat_lit 364791569817051350, nat_lit 217, nat_lit 17389188989352588647671271642, nat_lit 532701, nat_lit 24798, nat_lit 633863985740342368881942737119, nat_lit 360287970190209248, nat_lit 227, nat_lit 17408531802468674514280255716, nat_lit 633863985740342368881942737127, nat_lit 532712, nat_lit 557289, nat_lit 633844642927228534815147176170, nat_lit 33003, nat_lit 24812, nat_lit 237, nat_lit 17408531802468674514280255726, nat_lit 633863985740342368881942737137, nat_lit 532722, nat_lit 557299, nat_lit 24820, nat_lit 245, nat_lit 17427874615584760380889239798, nat_lit 633863985740342368881942737145, nat_lit 532730, nat_lit 557307, nat_lit 24828, nat_lit 33021, nat_lit 364791569817579774, nat_lit 633844642927228534815147176193, nat_lit 367043369630716162, nat_lit 633825300114114700748351615237, nat_lit 78086]
noncomputable def cd_X7_enters : List Nat := [nat_lit 0, nat_lit 17737359625442134246632984577, nat_lit 4, nat_lit 17718016812326048380024000517, nat_lit 270344, nat_lit 61449, nat_lit 10, nat_lit 17756702438558220113241968651, nat_lit 14, nat_lit 17718016812326048380024000527, nat_lit 532498, nat_lit 323603, nat_lit 20, nat_lit 17776045251674305979850952725, nat_lit 24, nat_lit 17718016812326048380024000537, nat_lit 633805957301001992581462896668, nat_lit 61469, nat_lit 30, nat_lit 65567, nat_lit 17718016812326048380024000544, nat_lit 633844642927228534815147175971, nat_lit 32804, nat_lit 17718016812326048380024045605, nat_lit 69672]
noncomputable def cd_X7_place : List Nat := [nat_lit 634985868900946996555898957824, nat_lit 634018728245255293216120909826, nat_lit 8196, nat_lit 557061, nat_lit 32774, nat_lit 270343, nat_lit 32776, nat_lit 28681]
noncomputable def cd_X7_canEdit : List Nat := [nat_lit 0, nat_lit 17543931494281275580543143937, nat_lit 270340, nat_lit 24581, nat_lit 634018728245255293216120909830, nat_lit 18014398509789192, nat_lit 633825300114114700748351614987, nat_lit 77836, nat_lit 13, nat_lit 270350, nat_lit 20309953769780223514037993487, nat_lit 18, nat_lit 635759581425500359227721396243, nat_lit 20387325022235559781220761621, nat_lit 77848]
noncomputable def cd_X7_edits : List Nat := [nat_lit 0, nat_lit 635759581425500359227721396225, nat_lit 270339, nat_lit 4, nat_lit 17543931494281275580543143941, nat_lit 270344, nat_lit 24585, nat_lit 20851552536717627604991004682, nat_lit 20909580976311331384505417741, nat_lit 16, nat_lit 17543931494281275580543143953, nat_lit 270356, nat_lit 114709, nat_lit 24598, nat_lit 633844642927228534815147175959, nat_lit 32792, nat_lit 61465, nat_lit 26, nat_lit 270363, nat_lit 20986952228764415851873714204, nat_lit 69663]
noncomputable def cd_X7_tries : List Nat := [nat_lit 0, nat_lit 635759581425500359227721396225, nat_lit 633844642927228534815147175939, nat_lit 20077840012416466512307306500, nat_lit 7, nat_lit 17408531802468674514280255496, nat_lit 637693862736886017707091177483, nat_lit 270350, nat_lit 61455, nat_lit 16, nat_lit 17427874615584760380889239569, nat_lit 637693862736886017707091177492, nat_lit 532503, nat_lit 61464, nat_lit 69657]
noncomputable def cd_X7_type : List Nat := [nat_lit 270336, nat_lit 19865069067909838398610001921, nat_lit 33776997205319684, nat_lit 7, nat_lit 270344, nat_lit 532489, nat_lit 19923097507505793977942556682, nat_lit 33776997205319693, nat_lit 794640, nat_lit 633825300114114700748351614993, nat_lit 634308870441962804218054324242, nat_lit 19207413422043983727196950548, nat_lit 33776997205319703, nat_lit 633844642927228534815147175962, nat_lit 36028797018984475, nat_lit 633825300114114700748351615006, nat_lit 1085471, nat_lit 1056801, nat_lit 72057594037968931, nat_lit 38, nat_lit 532519, nat_lit 633825300114114700748351615016, nat_lit 20000468759961130245131354153, nat_lit 44, nat_lit 635759581425500359227721396269, nat_lit 633825300114114700748351615023, nat_lit 635759581425500359227721396272, nat_lit 633902671366570037015533858866, nat_lit 794675, nat_lit 557108, nat_lit 32821, nat_lit 20155211264874054579302711350, nat_lit 57, nat_lit 1056826, nat_lit 83316593106657340, nat_lit 633844642927228534815147175999, nat_lit 99079191802171456, nat_lit 67, nat_lit 270404, nat_lit 20232582517324887246860730437, nat_lit 96827391988506696, nat_lit 633825300114114700748351615051, nat_lit 99079191802171468, nat_lit 633863985740342368881942736975, nat_lit 19710326563251367443379798096, nat_lit 108086391056932947, nat_lit 633825300114114700748351615062, nat_lit 28759, nat_lit 88, nat_lit 270425, nat_lit 20774181284512241117129359450, nat_lit 93, nat_lit 17311817736888245181235335262, nat_lit 270433, nat_lit 24674, nat_lit 28771]
noncomputable def cd_X7_erase : List Nat := [nat_lit 270336, nat_lit 19865069067909838398610001921, nat_lit 33776997205319684, nat_lit 7, nat_lit 270344, nat_lit 532489, nat_lit 19923097507505793977942556682, nat_lit 33776997205319693, nat_lit 16, nat_lit 270353, nat_lit 794642, nat_lit 19923097507505793977942556691, nat_lit 33776997205319702, nat_lit 633844642927228534815147175961, nat_lit 36028797018984474, nat_lit 633825300114114700748351615005, nat_lit 1085470, nat_lit 1056800, nat_lit 63050394783227938, nat_lit 794661, nat_lit 532518, nat_lit 63050394784542759, nat_lit 42, nat_lit 532523, nat_lit 794668, nat_lit 532525, nat_lit 294958, nat_lit 20000468759961130245131354159, nat_lit 50, nat_lit 1056819, nat_lit 74309393851916341, nat_lit 633844642927228534815147175992, nat_lit 101330991615856697, nat_lit 794684, nat_lit 532541, nat_lit 85568392921133118, nat_lit 633863985740342368881942736961, nat_lit 101330991615856706, nat_lit 69, nat_lit 270406, nat_lit 20232582517324887246860730439, nat_lit 99079191802191946, nat_lit 633825300114114700748351615053, nat_lit 101330991615856718, nat_lit 633883328553456202948738297937, nat_lit 19710326563251367443379798098, nat_lit 110338190870618197, nat_lit 633825300114114700748351615064, nat_lit 28761, nat_lit 90, nat_lit 270427, nat_lit 20774181284512241117129359452, nat_lit 95, nat_lit 17311817736888245181235335264, nat_lit 270435, nat_lit 24676, nat_lit 28773]
noncomputable def cd_X7_depthAt : List Nat := [nat_lit 633825300114114700748351614976, nat_lit 823297, nat_lit 2, nat_lit 17814730877906477713068920835, nat_lit 633825300114114700748351614982, nat_lit 633825300114114700748351614983, nat_lit 61448, nat_lit 633825300114114700748351614985, nat_lit 1085450, nat_lit 1056780, nat_lit 532494, nat_lit 81064793293500431, nat_lit 18, nat_lit 17292474923772159314626351123, nat_lit 634985868900946996555898957846, nat_lit 270360, nat_lit 557081, nat_lit 1056794, nat_lit 32796, nat_lit 24605, nat_lit 1347614, nat_lit 1318944, nat_lit 56294995342434338, nat_lit 633815628707555531915141111845, nat_lit 76561193665318952, nat_lit 1318955, nat_lit 19574926871202327396681044013, nat_lit 76561193665339440, nat_lit 633844642927230786614961430579, nat_lit 54, nat_lit 17814730877906477713068920887, nat_lit 794682, nat_lit 1318971, nat_lit 61501, nat_lit 633844642927230786614961692734, nat_lit 20266198323187777, nat_lit 794692, nat_lit 28741]
noncomputable def cd_X7_split : List Nat := [nat_lit 270336, nat_lit 19865069067909838398610001921, nat_lit 22517998136893444, nat_lit 7, nat_lit 270344, nat_lit 532489, nat_lit 19923097507505793977942556682, nat_lit 22517998136893453, nat_lit 633844642927228534815147175952, nat_lit 24769797950558225, nat_lit 633825300114114700748351614996, nat_lit 823317, nat_lit 794646, nat_lit 42784196460060695, nat_lit 26, nat_lit 270363, nat_lit 532508, nat_lit 21219065986132676453235965981, nat_lit 45035996273725472, nat_lit 633825300114114700748351615011, nat_lit 1085476, nat_lit 38, nat_lit 17814730877906477713068920871, nat_lit 1056810, nat_lit 24620, nat_lit 1347629, nat_lit 794671, nat_lit 94575592174821424, nat_lit 51, nat_lit 532532, nat_lit 633825300114114700748351615029, nat_lit 20000468759961130245131354166, nat_lit 57, nat_lit 635759581425500359227721396282, nat_lit 633825300114114700748351615036, nat_lit 633825300114114700748351615037, nat_lit 20155211264874054579302711358, nat_lit 65, nat_lit 635759581425500359227721396290, nat_lit 633825300114114700748351615044, nat_lit 1318981, nat_lit 20155211264874054579302711367, nat_lit 74, nat_lit 794699, nat_lit 105834591243509836, nat_lit 633844642927228534815147176015, nat_lit 126100789566394448, nat_lit 1056851, nat_lit 123848989754040405, nat_lit 88, nat_lit 270425, nat_lit 20232582517324887246860730458, nat_lit 123848989752729693, nat_lit 633825300114114700748351615072, nat_lit 126100789566394465, nat_lit 633863985740342368881942736996, nat_lit 19710326563251367443379798117, nat_lit 135107988821155944, nat_lit 633825300114114700748351615083, nat_lit 28780, nat_lit 109, nat_lit 270446, nat_lit 20774181284512241117129359471, nat_lit 1319026, nat_lit 28788]
noncomputable def cd_X7_tokenOf : List Nat := [nat_lit 0, nat_lit 17292474923772159314626351105, nat_lit 634985868900946996555898957828, nat_lit 270342, nat_lit 557063, nat_lit 532488, nat_lit 32777, nat_lit 24586, nat_lit 28683]
noncomputable def cd_X7_opensAt : List Nat := [nat_lit 532480, nat_lit 1, nat_lit 17311817736888245181235335170, nat_lit 270341, nat_lit 24582, nat_lit 31525197392424967, nat_lit 10, nat_lit 270347, nat_lit 532492, nat_lit 21451179743498685254780076045, nat_lit 19574926871202327396681043984, nat_lit 31525197391634451, nat_lit 633844642927228534815147175958, nat_lit 33776997205299223, nat_lit 633825300114114700748351615002, nat_lit 77851]
noncomputable def cd_X7_join : List Nat := [nat_lit 270336, nat_lit 19865069067909838398610001921, nat_lit 22517998136893444, nat_lit 7, nat_lit 270344, nat_lit 532489, nat_lit 19923097507505793977942556682, nat_lit 22517998136893453, nat_lit 633844642927228534815147175952, nat_lit 24769797950558225, nat_lit 633825300114114700748351614996, nat_lit 823317, nat_lit 794646, nat_lit 67553994410598423, nat_lit 532506, nat_lit 67553994411909147, nat_lit 30, nat_lit 270367, nat_lit 532512, nat_lit 21373808491043348987599142945, nat_lit 67553994410598436, nat_lit 39, nat_lit 270376, nat_lit 532521, nat_lit 633844642927228534815147175978, nat_lit 294955, nat_lit 21451179743498685254780076076, nat_lit 67553994410860591, nat_lit 633844642927228534815147175986, nat_lit 69805794224263219, nat_lit 633825300114114700748351615030, nat_lit 1085495, nat_lit 1056825, nat_lit 87820192733765691, nat_lit 62, nat_lit 270399, nat_lit 532544, nat_lit 21451179743498685254780076097, nat_lit 90071992547430468, nat_lit 633825300114114700748351615047, nat_lit 1347656, nat_lit 1056842, nat_lit 110338190870618188, nat_lit 79, nat_lit 532560, nat_lit 633844642927228534815147176017, nat_lit 294994, nat_lit 633863985740342368881942736979, nat_lit 20000468759961130245131354196, nat_lit 87, nat_lit 794712, nat_lit 121597189939306585, nat_lit 633844642927228534815147176028, nat_lit 141863388262191197, nat_lit 1056864, nat_lit 139611588448526434, nat_lit 101, nat_lit 270438, nat_lit 20232582517324887246860730471, nat_lit 139611588448526442, nat_lit 633825300114114700748351615085, nat_lit 141863388262191214, nat_lit 633863985740342368881942737009, nat_lit 19710326563251367443379798130, nat_lit 150870587516952693, nat_lit 633825300114114700748351615096, nat_lit 28793, nat_lit 122, nat_lit 270459, nat_lit 20774181284512241117129359484, nat_lit 1319039, nat_lit 28801]
noncomputable def cd_X7_wrap : List Nat := [nat_lit 270336, nat_lit 19865069067909838398610001921, nat_lit 40532396646375428, nat_lit 7, nat_lit 270344, nat_lit 532489, nat_lit 19923097507505793977942556682, nat_lit 40532396646375437, nat_lit 16, nat_lit 270353, nat_lit 794642, nat_lit 19923097507505793977942556691, nat_lit 40532396646375446, nat_lit 1056793, nat_lit 19574926871202327396681043995, nat_lit 40532396646375454, nat_lit 633844642927228534815147175969, nat_lit 42784196460040226, nat_lit 633825300114114700748351615013, nat_lit 1347622, nat_lit 1318952, nat_lit 103582791429562410, nat_lit 45, nat_lit 635759581425500359227721396270, nat_lit 633863985740342368881942736944, nat_lit 20077840012416466512307306545, nat_lit 52, nat_lit 17408531802468674514280255541, nat_lit 637693862736886017707091177528, nat_lit 532539, nat_lit 61500, nat_lit 61, nat_lit 17408531802468674514280255550, nat_lit 637713205549999851773886738497, nat_lit 794692, nat_lit 61509, nat_lit 70, nat_lit 635759581425500359227721396295, nat_lit 633825300114114700748351615049, nat_lit 1056842, nat_lit 20155211264874054579302711372, nat_lit 79, nat_lit 635759581425500359227721396304, nat_lit 633844642927228534815147176018, nat_lit 633825300114114700748351615059, nat_lit 20155211264874054579302711380, nat_lit 87, nat_lit 1319000, nat_lit 114841790498250842, nat_lit 633844642927228534815147176029, nat_lit 141863388262191198, nat_lit 794721, nat_lit 532578, nat_lit 126100789567467619, nat_lit 633863985740342368881942736998, nat_lit 141863388262191207, nat_lit 106, nat_lit 270443, nat_lit 20232582517324887246860730476, nat_lit 139611588448526447, nat_lit 633825300114114700748351615090, nat_lit 141863388262191219, nat_lit 633883328553456202948738297974, nat_lit 19710326563251367443379798135, nat_lit 150870587516952698, nat_lit 633825300114114700748351615101, nat_lit 28798, nat_lit 127, nat_lit 270464, nat_lit 20774181284512241117129359489, nat_lit 132, nat_lit 17311817736888245181235335301, nat_lit 270472, nat_lit 24713, nat_lit 28810]
noncomputable def cd_X7_closing : List Nat := [nat_lit 633844642927228534815147175936, nat_lit 823297, nat_lit 532482, nat_lit 1085443, nat_lit 794629, nat_lit 58546795157168134, nat_lit 633844642927230786614961692681, nat_lit 12, nat_lit 270349, nat_lit 1056782, nat_lit 21451179743498685254780076048, nat_lit 1347603, nat_lit 794645, nat_lit 1318934, nat_lit 38280596832952344, nat_lit 633805957301001992581462896667, nat_lit 51791395714781212, nat_lit 1318943, nat_lit 19574926871202327396681044001, nat_lit 49539595901116452, nat_lit 633844642927228534815147175975, nat_lit 51791395714781224, nat_lit 633825300114114700748351615019, nat_lit 32812, nat_lit 823341, nat_lit 9007199254761518, nat_lit 1056817, nat_lit 28723]
noncomputable def cd_X7_unwrap : List Nat := [nat_lit 270336, nat_lit 19865069067909838398610001921, nat_lit 22517998136893444, nat_lit 7, nat_lit 270344, nat_lit 532489, nat_lit 19923097507505793977942556682, nat_lit 22517998136893453, nat_lit 633844642927228534815147175952, nat_lit 24769797950558225, nat_lit 633825300114114700748351614996, nat_lit 823317, nat_lit 794646, nat_lit 47287796087431191, nat_lit 26, nat_lit 270363, nat_lit 532508, nat_lit 21373808491043348987599142941, nat_lit 47287796087431200, nat_lit 633844642927228534815147175971, nat_lit 49539595901095972, nat_lit 633825300114114700748351615015, nat_lit 1085480, nat_lit 1056810, nat_lit 67553994410598444, nat_lit 47, nat_lit 270384, nat_lit 532529, nat_lit 21451179743498685254780076082, nat_lit 69805794224263221, nat_lit 633825300114114700748351615032, nat_lit 1347641, nat_lit 1056827, nat_lit 137359788634841149, nat_lit 64, nat_lit 635759581425500359227721396289, nat_lit 633863985740342368881942736963, nat_lit 20077840012416466512307306564, nat_lit 71, nat_lit 17408531802468674514280255560, nat_lit 637693862736886017707091177547, nat_lit 532558, nat_lit 61519, nat_lit 80, nat_lit 17427874615584760380889239633, nat_lit 637693862736886017707091177556, nat_lit 633844642927228534815147176023, nat_lit 61528, nat_lit 89, nat_lit 17408531802468674514280255578, nat_lit 637713205549999851773886738525, nat_lit 96, nat_lit 270433, nat_lit 532578, nat_lit 21683293500864694056324710499, nat_lit 61542, nat_lit 103, nat_lit 17427874615584760380889239656, nat_lit 637713205549999851773886738539, nat_lit 633844642927228534815147176046, nat_lit 61551, nat_lit 112, nat_lit 794737, nat_lit 148618787703529586, nat_lit 633844642927228534815147176053, nat_lit 168884986026414198, nat_lit 1056889, nat_lit 166633186212749435, nat_lit 126, nat_lit 270463, nat_lit 20232582517324887246860730496, nat_lit 166633186212749443, nat_lit 633825300114114700748351615110, nat_lit 168884986026414215, nat_lit 633863985740342368881942737034, nat_lit 19710326563251367443379798155, nat_lit 177892185281175694, nat_lit 633825300114114700748351615121, nat_lit 28818, nat_lit 147, nat_lit 270484, nat_lit 20774181284512241117129359509, nat_lit 1319064, nat_lit 28826]
noncomputable def cd_X7_setType : List Nat := [nat_lit 270336, nat_lit 19865069067909838398610001921, nat_lit 29273397577949188, nat_lit 7, nat_lit 270344, nat_lit 532489, nat_lit 19923097507505793977942556682, nat_lit 29273397577949197, nat_lit 794640, nat_lit 19574926871202327396681043985, nat_lit 29273397577949204, nat_lit 633844642927228534815147175959, nat_lit 31525197391613976, nat_lit 633825300114114700748351615003, nat_lit 1085468, nat_lit 1056798, nat_lit 67553994410598432, nat_lit 35, nat_lit 270372, nat_lit 532517, nat_lit 21373808491043348987599142950, nat_lit 67553994410598441, nat_lit 44, nat_lit 270381, nat_lit 532526, nat_lit 21451179743498685254780076079, nat_lit 794674, nat_lit 67553994410602547, nat_lit 633844642927228534815147175990, nat_lit 69805794224263223, nat_lit 633825300114114700748351615034, nat_lit 1347643, nat_lit 1318973, nat_lit 87820192733765695, nat_lit 66, nat_lit 270403, nat_lit 532548, nat_lit 21451179743498685254780076101, nat_lit 90071992547430472, nat_lit 633825300114114700748351615051, nat_lit 1609804, nat_lit 1318990, nat_lit 117093590311673936, nat_lit 83, nat_lit 532564, nat_lit 633844642927228534815147176021, nat_lit 20000468759961130245131354198, nat_lit 89, nat_lit 635759581425500359227721396314, nat_lit 633825300114114700748351615068, nat_lit 794717, nat_lit 20155211264874054579302711390, nat_lit 97, nat_lit 1056866, nat_lit 128352589380362340, nat_lit 633844642927228534815147176039, nat_lit 148618787703246952, nat_lit 1319019, nat_lit 146366987889582189, nat_lit 112, nat_lit 270449, nat_lit 20232582517324887246860730482, nat_lit 146366987889582197, nat_lit 633825300114114700748351615096, nat_lit 148618787703246969, nat_lit 633863985740342368881942737020, nat_lit 19710326563251367443379798141, nat_lit 157625986958008448, nat_lit 633825300114114700748351615107, nat_lit 28804, nat_lit 133, nat_lit 270470, nat_lit 20774181284512241117129359495, nat_lit 1581194, nat_lit 28812]
noncomputable def cd_X7_mark : List Nat := [nat_lit 270336, nat_lit 19865069067909838398610001921, nat_lit 45035996273745924, nat_lit 7, nat_lit 270344, nat_lit 532489, nat_lit 19923097507505793977942556682, nat_lit 45035996273745933, nat_lit 16, nat_lit 270353, nat_lit 794642, nat_lit 19923097507505793977942556691, nat_lit 45035996273745942, nat_lit 1056793, nat_lit 633825300114114700748351615003, nat_lit 633844642927228534815147175964, nat_lit 19207413422043983727196950557, nat_lit 45035996273745952, nat_lit 633844642927228534815147175971, nat_lit 47287796087410724, nat_lit 633825300114114700748351615015, nat_lit 1609768, nat_lit 633825300114114700748351615018, nat_lit 1871915, nat_lit 633825300114114700748351615021, nat_lit 2134062, nat_lit 532528, nat_lit 2396209, nat_lit 1581107, nat_lit 164381386399064117, nat_lit 2367544, nat_lit 794682, nat_lit 164381386399854651, nat_lit 62, nat_lit 270399, nat_lit 2367552, nat_lit 21451179743498685254780076098, nat_lit 2658373, nat_lit 1843271, nat_lit 2629705, nat_lit 635759581425500359227721396299, nat_lit 99079191802720333, nat_lit 633844642927228534815147176016, nat_lit 101330991615856721, nat_lit 633825300114114700748351615060, nat_lit 32853, nat_lit 1871958, nat_lit 2105432, nat_lit 150870587517214810, nat_lit 2629725, nat_lit 635759581425500359227721396319, nat_lit 155374187144851553, nat_lit 2629732, nat_lit 635759581425500359227721396326, nat_lit 295016, nat_lit 633902671366570037015533858921, nat_lit 2130026, nat_lit 1056875, nat_lit 1867885, nat_lit 633844642927228534815147176046, nat_lit 819311, nat_lit 1319024, nat_lit 146366987889582194, nat_lit 633825300114114700748351615093, nat_lit 148618787703246966, nat_lit 633844642927228534815147176057, nat_lit 155374187144589434, nat_lit 633844642927228534815147176061, nat_lit 157625986957987966, nat_lit 633825300114114700748351615105, nat_lit 2134146, nat_lit 633844642927230786614963003524, nat_lit 63050394783207559, nat_lit 138, nat_lit 1581195, nat_lit 175640385467752589, nat_lit 633844642927228534815147176080, nat_lit 211669182486433937, nat_lit 794772, nat_lit 532629, nat_lit 186899384536969366, nat_lit 633863985740342368881942737049, nat_lit 211669182486433946, nat_lit 157, nat_lit 17543931494281275580543144094, nat_lit 270497, nat_lit 24738, nat_lit 634018728245255293216120909987, nat_lit 209417382673559717, nat_lit 2105512, nat_lit 209417382672769194, nat_lit 633825300114114700748351615149, nat_lit 211669182486433966, nat_lit 633883328553456202948738298033, nat_lit 19710326563251367443379798194, nat_lit 220676381741195445, nat_lit 633825300114114700748351615160, nat_lit 28857, nat_lit 186, nat_lit 635759581425500359227721396411, nat_lit 633825300114114700748351615165, nat_lit 20077840012416466512307306686, nat_lit 193, nat_lit 17331160550004331047844319426, nat_lit 635759581425500359227721396421, nat_lit 633844642927228534815147176135, nat_lit 323784, nat_lit 201, nat_lit 17350503363120416914453303498, nat_lit 635759581425500359227721396429, nat_lit 1319119, nat_lit 323793, nat_lit 210, nat_lit 17369846176236502781062287571, nat_lit 635759581425500359227721396438, nat_lit 1056984, nat_lit 61658, nat_lit 219, nat_lit 17408531802468674514280255708, nat_lit 637693862736886017707091177695, nat_lit 532706, nat_lit 61667, nat_lit 228, nat_lit 17408531802468674514280255717, nat_lit 637713205549999851773886738664, nat_lit 794859, nat_lit 61676, nat_lit 237, nat_lit 270574, nat_lit 20309953769780223514037993711, nat_lit 242, nat_lit 635759581425500359227721396467, nat_lit 20542067527146232315582890229, nat_lit 248, nat_lit 270585, nat_lit 20774181284512241117129359610, nat_lit 1843453, nat_lit 28927]
noncomputable def cd_X7_copy : List Nat := [nat_lit 270336, nat_lit 19865069067909838398610001921, nat_lit 33776997205319684, nat_lit 7, nat_lit 270344, nat_lit 532489, nat_lit 19923097507505793977942556682, nat_lit 33776997205319693, nat_lit 16, nat_lit 270353, nat_lit 794642, nat_lit 19923097507505793977942556691, nat_lit 33776997205319702, nat_lit 633844642927228534815147175961, nat_lit 36028797018984474, nat_lit 633825300114114700748351615005, nat_lit 1085470, nat_lit 32, nat_lit 1056801, nat_lit 49539595901378595, nat_lit 633844642927228534815147175974, nat_lit 63050394783207463, nat_lit 794666, nat_lit 532523, nat_lit 60798594970857516, nat_lit 633825300114114700748351615023, nat_lit 63050394783207472, nat_lit 633863985740342368881942736947, nat_lit 19710326563251367443379798068, nat_lit 72057594037968951, nat_lit 633825300114114700748351615034, nat_lit 28731, nat_lit 633825300114114700748351615036, nat_lit 1347645, nat_lit 633825300114114700748351615039, nat_lit 1609792, nat_lit 794690, nat_lit 633844642927228534815147176003, nat_lit 294980, nat_lit 1871941, nat_lit 1843271, nat_lit 532553, nat_lit 146366987890110538, nat_lit 77, nat_lit 270414, nat_lit 1843279, nat_lit 21451179743498685254780076113, nat_lit 2134100, nat_lit 1581142, nat_lit 2105432, nat_lit 119345390125621338, nat_lit 633844642927228534815147176029, nat_lit 137359788634820702, nat_lit 2105441, nat_lit 19574926871202327396681044067, nat_lit 135107988821155942, nat_lit 1581161, nat_lit 135107988822466667, nat_lit 633805957301001992581462896750, nat_lit 137359788634820719, nat_lit 633825300114114700748351615090, nat_lit 32883, nat_lit 1609844, nat_lit 633815628707555531915142160502, nat_lit 90071992547430521, nat_lit 124, nat_lit 270461, nat_lit 532606, nat_lit 21219065986132676453235966079, nat_lit 1872002, nat_lit 633825300114114700748351615108, nat_lit 2134149, nat_lit 2105479, nat_lit 1581193, nat_lit 216172782114615435, nat_lit 142, nat_lit 17582617120513447313761112207, nat_lit 634985868900946996555898957970, nat_lit 270484, nat_lit 557205, nat_lit 1319062, nat_lit 32920, nat_lit 153, nat_lit 17814730877906477713068920986, nat_lit 1843357, nat_lit 1581215, nat_lit 295073, nat_lit 633844642927228534815147176098, nat_lit 32931, nat_lit 2105508, nat_lit 32934, nat_lit 24743, nat_lit 61608, nat_lit 633844642927230786614961954985, nat_lit 633844642927230786614962741420, nat_lit 162129586585358511, nat_lit 633825300114114700748351615154, nat_lit 2134195, nat_lit 532661, nat_lit 2396342, nat_lit 2367672, nat_lit 794810, nat_lit 303992974848340155, nat_lit 190, nat_lit 270527, nat_lit 2367680, nat_lit 21451179743498685254780076226, nat_lit 2658501, nat_lit 2105543, nat_lit 2629833, nat_lit 19574926871202327396681044171, nat_lit 256705178760159438, nat_lit 633844642927228534815147176145, nat_lit 272467777455935698, nat_lit 2629845, nat_lit 270215977642533079, nat_lit 2105562, nat_lit 270215977643581660, nat_lit 633805957301001992581462896863, nat_lit 272467777455935712, nat_lit 633825300114114700748351615203, nat_lit 32996, nat_lit 2134245, nat_lit 231, nat_lit 17582617120513447313761112296, nat_lit 634985868900946996555898958059, nat_lit 270573, nat_lit 557294, nat_lit 1319151, nat_lit 33009, nat_lit 2629874, nat_lit 61684, nat_lit 633844642927230786614961955061, nat_lit 633844642927230786614963003640, nat_lit 225179981368545531, nat_lit 633825300114114700748351615230, nat_lit 2396415, nat_lit 2367745, nat_lit 2105603, nat_lit 342273571680989445, nat_lit 264, nat_lit 17582617120513447313761112329, nat_lit 634985868900946996555898958092, nat_lit 270606, nat_lit 557327, nat_lit 1319184, nat_lit 33042, nat_lit 633825300114114700748351615251, nat_lit 61716, nat_lit 633844642927230786614961955093, nat_lit 633844642927230786614963003672, nat_lit 308496574474899739, nat_lit 286, nat_lit 17601959933629533180370096415, nat_lit 270626, nat_lit 1319203, nat_lit 61733, nat_lit 1319206, nat_lit 28968]
noncomputable def cd_X7_canPaste : List Nat := [nat_lit 1056768, nat_lit 794626, nat_lit 11258999069519875, nat_lit 633825300114114700748351614982, nat_lit 77831, nat_lit 8, nat_lit 532489, nat_lit 633825300114114700748351614986, nat_lit 20000468759961130245131354123, nat_lit 1318926, nat_lit 36028797020315664, nat_lit 19, nat_lit 635759581425500359227721396244, nat_lit 633825300114114700748351614998, nat_lit 1318935, nat_lit 20155211264874054579302711321, nat_lit 794652, nat_lit 1609757, nat_lit 1581087, nat_lit 1056801, nat_lit 78812993479815203, nat_lit 38, nat_lit 635759581425500359227721396263, nat_lit 633825300114114700748351615017, nat_lit 42, nat_lit 17582617120513447313761112107, nat_lit 634985868900946996555898957870, nat_lit 270384, nat_lit 557105, nat_lit 1581106, nat_lit 32820, nat_lit 24629, nat_lit 20155211264874054579302711350, nat_lit 633844642927230786614962217017, nat_lit 40532396646355004, nat_lit 1318975, nat_lit 94575592176132161, nat_lit 68, nat_lit 635759581425500359227721396293, nat_lit 633825300114114700748351615047, nat_lit 633825300114114700748351615048, nat_lit 20155211264874054579302711369, nat_lit 76, nat_lit 270413, nat_lit 20232582517324887246860730446, nat_lit 77905]
noncomputable def cd_X7_isNode : List Nat := [nat_lit 633825300114114700748351614976, nat_lit 1085441, nat_lit 794627, nat_lit 532484, nat_lit 38280596834004997, nat_lit 8, nat_lit 17582617120513447313761112073, nat_lit 634985868900946996555898957836, nat_lit 270350, nat_lit 557071, nat_lit 532496, nat_lit 32785, nat_lit 24594, nat_lit 19574926871202327396681043987, nat_lit 38280596832690198, nat_lit 633844642927228534815147175961, nat_lit 40532396646354970, nat_lit 633825300114114700748351615005, nat_lit 1347614, nat_lit 532512, nat_lit 1609761, nat_lit 1581091, nat_lit 794661, nat_lit 137359788635631654, nat_lit 1318953, nat_lit 137359788634841131, nat_lit 46, nat_lit 17582617120513447313761112111, nat_lit 634985868900946996555898957874, nat_lit 270388, nat_lit 557109, nat_lit 1581110, nat_lit 32824, nat_lit 24633, nat_lit 1871930, nat_lit 1056828, nat_lit 1843262, nat_lit 90071992547713088, nat_lit 633805957301001992581462896707, nat_lit 103582791429541956, nat_lit 1843271, nat_lit 19574926871202327396681044041, nat_lit 101330991615877196, nat_lit 633844642927228534815147176015, nat_lit 103582791429541968, nat_lit 633825300114114700748351615059, nat_lit 32852, nat_lit 1085525, nat_lit 1056855, nat_lit 123848989753778265, nat_lit 1581148, nat_lit 794718, nat_lit 633844642927228534815147176031, nat_lit 295008, nat_lit 128352589380366433, nat_lit 633844642927228534815147176036, nat_lit 130604389193764965, nat_lit 633825300114114700748351615080, nat_lit 1347689, nat_lit 633844642927230786614962217067, nat_lit 47287796087410798, nat_lit 1319025, nat_lit 77939]
noncomputable def cd_X7_pastes : List Nat := [nat_lit 633825300114114700748351614976, nat_lit 823297, nat_lit 2, nat_lit 17601959933629533180370096131, nat_lit 270342, nat_lit 24583, nat_lit 1085448, nat_lit 10, nat_lit 270347, nat_lit 532492, nat_lit 794637, nat_lit 1056782, nat_lit 633825300114114700748351614992, nat_lit 22147521015603467058854248465, nat_lit 1347604, nat_lit 1318934, nat_lit 76561193665601560, nat_lit 27, nat_lit 270364, nat_lit 794653, nat_lit 1056798, nat_lit 22224892268054299726408335392, nat_lit 76561193665339427, nat_lit 633844642927230786614961430566, nat_lit 633815628707555531915141373993, nat_lit 44, nat_lit 270381, nat_lit 532526, nat_lit 794671, nat_lit 1056816, nat_lit 633825300114114700748351615026, nat_lit 22147521015603467058854248499, nat_lit 1347638, nat_lit 33776997205299256, nat_lit 633844642927228534815147175995, nat_lit 1609788, nat_lit 1581118, nat_lit 633941356992799956948938666048, nat_lit 121597189939834946, nat_lit 1318981, nat_lit 121597189939306567, nat_lit 74, nat_lit 270411, nat_lit 532556, nat_lit 633825300114114700748351615053, nat_lit 78, nat_lit 17601959933629533180370096207, nat_lit 270418, nat_lit 24659, nat_lit 1581140, nat_lit 22147521015603467058854248534, nat_lit 1347673, nat_lit 633844642927230786614962217051, nat_lit 81064793292689502, nat_lit 1319009, nat_lit 77923]
noncomputable def cd_X7_paste : List Nat := [nat_lit 270336, nat_lit 19865069067909838398610001921, nat_lit 22517998136893444, nat_lit 7, nat_lit 270344, nat_lit 532489, nat_lit 19923097507505793977942556682, nat_lit 22517998136893453, nat_lit 633844642927228534815147175952, nat_lit 24769797950558225, nat_lit 633825300114114700748351614996, nat_lit 823317, nat_lit 22, nat_lit 794647, nat_lit 38280596832952344, nat_lit 633844642927228534815147175963, nat_lit 67553994410577948, nat_lit 31, nat_lit 17601959933629533180370096160, nat_lit 270371, nat_lit 24612, nat_lit 65302194598223909, nat_lit 40, nat_lit 270377, nat_lit 532522, nat_lit 22070149763141375392232521771, nat_lit 65302194596913198, nat_lit 633825300114114700748351615025, nat_lit 67553994410577970, nat_lit 633863985740342368881942736949, nat_lit 19710326563251367443379798070, nat_lit 76561193665339449, nat_lit 633825300114114700748351615036, nat_lit 28733, nat_lit 62, nat_lit 270399, nat_lit 20774181284512241117129359424, nat_lit 67, nat_lit 17447217428700846247498223684, nat_lit 637693862736886017707091177543, nat_lit 24650, nat_lit 28747]
noncomputable def cd_X7_builds : List Nat := [nat_lit 0, nat_lit 19265441861630932107276861441, nat_lit 633825300114114700748351614980, nat_lit 561157, nat_lit 532486, nat_lit 270343, nat_lit 27021597765054472, nat_lit 11, nat_lit 532492, nat_lit 20542067527146232315582889997, nat_lit 633844642927230786614961168400, nat_lit 9007199254761491, nat_lit 69654]
noncomputable def cd_X7_takeBack : List Nat := [nat_lit 270336, nat_lit 19865069067909838398610001921, nat_lit 561156, nat_lit 5, nat_lit 532486, nat_lit 18014398509785095, nat_lit 633844642927228534815147175946, nat_lit 36028797018984459, nat_lit 14, nat_lit 17543931494281275580543143951, nat_lit 270354, nat_lit 24595, nat_lit 33776997205581844, nat_lit 633863985740342368881942736919, nat_lit 36028797018984472, nat_lit 633825300114114700748351615003, nat_lit 19710326563251367443379798044, nat_lit 45035996273745951, nat_lit 633825300114114700748351615010, nat_lit 28707, nat_lit 36, nat_lit 17543931494281275580543143973, nat_lit 270376, nat_lit 114729, nat_lit 24618, nat_lit 633844642927228534815147175979, nat_lit 294956, nat_lit 61485, nat_lit 46, nat_lit 47, nat_lit 17524588681165189713934159920, nat_lit 270387, nat_lit 24628, nat_lit 22379634772960468661144141877, nat_lit 633825300114114700748351615032, nat_lit 823353, nat_lit 794682, nat_lit 59, nat_lit 17543931494281275580543143996, nat_lit 270399, nat_lit 24640, nat_lit 110338190871408705, nat_lit 68, nat_lit 270405, nat_lit 794694, nat_lit 20851552536717627604991004743, nat_lit 20542067527146232315582890058, nat_lit 633844642927230786614961430605, nat_lit 81064793292689488, nat_lit 83, nat_lit 270420, nat_lit 20986952228764415851873714261, nat_lit 88, nat_lit 17543931494281275580543144025, nat_lit 270428, nat_lit 24669, nat_lit 28766]
noncomputable def cd_X7_inverts : List Nat := [nat_lit 0, nat_lit 270337, nat_lit 635759581425500359227721396226, nat_lit 20909580976311331384505417732, nat_lit 7, nat_lit 17350503363120416914453303304, nat_lit 635759581425500359227721396235, nat_lit 13, nat_lit 17350503363120416914453303310, nat_lit 270353, nat_lit 286738, nat_lit 31525197391896595, nat_lit 633844642927228534815147175958, nat_lit 33776997205299223, nat_lit 633825300114114700748351615002, nat_lit 323611, nat_lit 633825300114114700748351615004, nat_lit 561181, nat_lit 532510, nat_lit 31, nat_lit 17389188989352588647671271456, nat_lit 270371, nat_lit 24612, nat_lit 157625986958798885, nat_lit 40, nat_lit 17331160550004331047844319273, nat_lit 270380, nat_lit 286765, nat_lit 157625986958270510, nat_lit 49, nat_lit 17408531802468674514280255538, nat_lit 637693862736886017707091177525, nat_lit 532536, nat_lit 32825, nat_lit 58, nat_lit 270395, nat_lit 633844642927228534815147175996, nat_lit 532541, nat_lit 22766491035241653596670148670, nat_lit 61505, nat_lit 66, nat_lit 17427874615584760380889239619, nat_lit 637693862736886017707091177542, nat_lit 532553, nat_lit 32842, nat_lit 75, nat_lit 17447217428700846247498223692, nat_lit 633863985740342368881942736975, nat_lit 270416, nat_lit 557137, nat_lit 532562, nat_lit 32851, nat_lit 24660, nat_lit 61525, nat_lit 86, nat_lit 17447217428700846247498223703, nat_lit 637693862736886017707091177562, nat_lit 532573, nat_lit 32862, nat_lit 95, nat_lit 17427874615584760380889239648, nat_lit 633863985740342368881942736995, nat_lit 270436, nat_lit 557157, nat_lit 532582, nat_lit 32871, nat_lit 24680, nat_lit 61545, nat_lit 633844642927230786614961168490, nat_lit 40532396646355053, nat_lit 633825300114114700748351615088, nat_lit 561265, nat_lit 532594, nat_lit 634985868900946996555898957939, nat_lit 204913783046189173, nat_lit 120, nat_lit 17485903054933017980716191865, nat_lit 749882178797123605121344745596, nat_lit 532607, nat_lit 32896, nat_lit 129, nat_lit 17466560241816932114107207810, nat_lit 634985868900946996555898957957, nat_lit 270471, nat_lit 557192, nat_lit 532617, nat_lit 32906, nat_lit 24715, nat_lit 61580, nat_lit 633844642927230786614961168525, nat_lit 162129586585358480, nat_lit 69779]
noncomputable def cd_X7_canRevert : List Nat := [nat_lit 0, nat_lit 633825300114114700748351614977, nat_lit 17718016812326048380024045570, nat_lit 532485, nat_lit 633844642927228534815147175942, nat_lit 32775, nat_lit 823304, nat_lit 794633, nat_lit 10, nat_lit 17524588681165189713934159883, nat_lit 270350, nat_lit 24591, nat_lit 42784196460851216, nat_lit 19, nat_lit 794644, nat_lit 633825300114114700748351614997, nat_lit 22611748530328729262495645718, nat_lit 633844642927230786614961430553, nat_lit 15762598695817244, nat_lit 633825300114114700748351615007, nat_lit 823328, nat_lit 794657, nat_lit 34, nat_lit 17543931494281275580543143971, nat_lit 270374, nat_lit 24615, nat_lit 78812993479815208, nat_lit 43, nat_lit 270380, nat_lit 794669, nat_lit 20851552536717627604991004718, nat_lit 633825300114114700748351615025, nat_lit 22611748530328729262495645746, nat_lit 633844642927230786614961430581, nat_lit 47287796087410744, nat_lit 59, nat_lit 532540, nat_lit 22689119782781813729869447229, nat_lit 64, nat_lit 633825300114114700748351615041, nat_lit 635759581425500359227721396290, nat_lit 22843862287694738064038969412, nat_lit 110338190870618183, nat_lit 74, nat_lit 270411, nat_lit 20232582517324887246860730444, nat_lit 110338190870618191, nat_lit 633844642927228534815147176018, nat_lit 112589990684282963, nat_lit 633825300114114700748351615062, nat_lit 77911]
noncomputable def cd_X7_revert : List Nat := [nat_lit 270336, nat_lit 19865069067909838398610001921, nat_lit 33776997205319684, nat_lit 532487, nat_lit 633825300114114700748351614984, nat_lit 9, nat_lit 17524588681165189713934159882, nat_lit 270349, nat_lit 24590, nat_lit 633844642927228534815147175951, nat_lit 294928, nat_lit 19207413422043983727196950545, nat_lit 33776997205319700, nat_lit 633844642927228534815147175959, nat_lit 36028797018984472, nat_lit 633825300114114700748351615003, nat_lit 823324, nat_lit 29, nat_lit 794654, nat_lit 49539595901378591, nat_lit 633844642927228534815147175970, nat_lit 67553994410577955, nat_lit 38, nat_lit 270375, nat_lit 532520, nat_lit 22534377277873392995321004073, nat_lit 65302194596913196, nat_lit 633825300114114700748351615023, nat_lit 67553994410577968, nat_lit 633863985740342368881942736947, nat_lit 19710326563251367443379798068, nat_lit 76561193665339447, nat_lit 633825300114114700748351615034, nat_lit 28731, nat_lit 60, nat_lit 270397, nat_lit 20774181284512241117129359422, nat_lit 65, nat_lit 17311817736888245181235335234, nat_lit 270405, nat_lit 24646, nat_lit 28743]
noncomputable def cd_X7_mapsComments : List Nat := [nat_lit 633825300114114700748351614976, nat_lit 561153, nat_lit 532482, nat_lit 3, nat_lit 17621302746745619046979080196, nat_lit 110338190871408647, nat_lit 10, nat_lit 17640645559861704913588064267, nat_lit 532494, nat_lit 24591, nat_lit 633805957301001992581462896656, nat_lit 105834591243251729, nat_lit 20, nat_lit 270357, nat_lit 633825300114114700748351614998, nat_lit 23, nat_lit 17640645559861704913588064280, nat_lit 532507, nat_lit 24604, nat_lit 633844642927228534815147175965, nat_lit 23153347297520586732390596638, nat_lit 823329, nat_lit 34, nat_lit 270371, nat_lit 633825300114114700748351615012, nat_lit 37, nat_lit 17659988372977790780197048358, nat_lit 532521, nat_lit 24618, nat_lit 633825300114114700748351615019, nat_lit 23153347297520586732390596652, nat_lit 1085487, nat_lit 49, nat_lit 17640645559861704913588064306, nat_lit 532533, nat_lit 1056822, nat_lit 794680, nat_lit 90071992548765753, nat_lit 794684, nat_lit 92323792361115709, nat_lit 633805957301001992581462896704, nat_lit 61505, nat_lit 66, nat_lit 17659988372977790780197048387, nat_lit 532550, nat_lit 1056839, nat_lit 61513, nat_lit 633844642927230786614961168458, nat_lit 4503599627391053, nat_lit 69712]
noncomputable def cd_X7_send : List Nat := [nat_lit 270336, nat_lit 19865069067909838398610001921, nat_lit 561156, nat_lit 5, nat_lit 532486, nat_lit 18014398509785095, nat_lit 633844642927228534815147175946, nat_lit 60798594969522187, nat_lit 14, nat_lit 17524588681165189713934159887, nat_lit 270354, nat_lit 24595, nat_lit 20, nat_lit 17505245868049103847325175829, nat_lit 54043195528753176, nat_lit 27, nat_lit 17505245868049103847325175836, nat_lit 31, nat_lit 17543931494281275580543143968, nat_lit 270371, nat_lit 24612, nat_lit 32805, nat_lit 634985868900946996555898957862, nat_lit 58546795157172264, nat_lit 633863985740342368881942736939, nat_lit 60798594969522220, nat_lit 633825300114114700748351615023, nat_lit 19710326563251367443379798064, nat_lit 69805794224283699, nat_lit 633825300114114700748351615030, nat_lit 28727, nat_lit 56, nat_lit 17543931494281275580543143993, nat_lit 270396, nat_lit 24637, nat_lit 823358, nat_lit 633825300114114700748351615039, nat_lit 1085504, nat_lit 1056834, nat_lit 794692, nat_lit 135107988821946437, nat_lit 72, nat_lit 270409, nat_lit 1056842, nat_lit 20851552536717627604991004748, nat_lit 79, nat_lit 17505245868049103847325175888, nat_lit 20909580976311331384505417811, nat_lit 86, nat_lit 87, nat_lit 17505245868049103847325175896, nat_lit 23308089802424503867319795803, nat_lit 94, nat_lit 65631, nat_lit 17505245868049103847325175904, nat_lit 633844642927228534815147176035, nat_lit 32868, nat_lit 17505245868049103847325220965, nat_lit 633844642927230786614961692776, nat_lit 85568392920060011, nat_lit 110, nat_lit 270447, nat_lit 20309953769780223514037993584, nat_lit 115, nat_lit 633883328553456202948738297972, nat_lit 20986952228764415851873714293, nat_lit 120, nat_lit 17524588681165189713934159993, nat_lit 270460, nat_lit 125, nat_lit 17505245868049103847325175934, nat_lit 61569, nat_lit 130, nat_lit 17543931494281275580543144067, nat_lit 270470, nat_lit 633825300114114700748351615111, nat_lit 61576, nat_lit 794761, nat_lit 28810]
noncomputable def cd_X7_rebases : List Nat := [nat_lit 0, nat_lit 17543931494281275580543143937, nat_lit 270340, nat_lit 24581, nat_lit 561158, nat_lit 633825300114114700748351614983, nat_lit 823304, nat_lit 9, nat_lit 633825300114114700748351614986, nat_lit 17718016812326048380024045579, nat_lit 532494, nat_lit 633844642927228534815147175951, nat_lit 294928, nat_lit 1085457, nat_lit 1056787, nat_lit 54043195529011221, nat_lit 24, nat_lit 270361, nat_lit 1056794, nat_lit 20851552536717627604991004700, nat_lit 633844642927228534815147175967, nat_lit 22611748530328729262495645728, nat_lit 633815628707555531915141373987, nat_lit 31525197391613990, nat_lit 41, nat_lit 17524588681165189713934159914, nat_lit 270381, nat_lit 24622, nat_lit 1085487, nat_lit 1056817, nat_lit 51, nat_lit 17505245868049103847325175860, nat_lit 87820192734556215, nat_lit 58, nat_lit 1056827, nat_lit 633825300114114700748351615037, nat_lit 22611748530328729262495645758, nat_lit 633844642927230786614961692737, nat_lit 65302194596892740, nat_lit 71, nat_lit 633883328553456202948738297928, nat_lit 20309953769780223514037993545, nat_lit 76, nat_lit 270413, nat_lit 20986952228764415851873714254, nat_lit 633825300114114700748351615057, nat_lit 1085522, nat_lit 1056852, nat_lit 532566, nat_lit 245446179692523607, nat_lit 90, nat_lit 270427, nat_lit 1056860, nat_lit 20851552536717627604991004766, nat_lit 635759581425500359227721396321, nat_lit 20909580976311331384505417827, nat_lit 102, nat_lit 532583, nat_lit 1056872, nat_lit 295018, nat_lit 635759581425500359227721396331, nat_lit 22843862287694738064038969453, nat_lit 1347696, nat_lit 114, nat_lit 270451, nat_lit 20309953769780223514037993588, nat_lit 1319031, nat_lit 222928181554880633, nat_lit 124, nat_lit 635759581425500359227721396349, nat_lit 20387325022235559781220761727, nat_lit 222928181554880642, nat_lit 133, nat_lit 635759581425500359227721396358, nat_lit 635566153294362018559765786760, nat_lit 794762, nat_lit 32907, nat_lit 20909580976311331384505417868, nat_lit 143, nat_lit 17776045251674305979850952848, nat_lit 532627, nat_lit 633844642927228534815147176084, nat_lit 295061, nat_lit 1056918, nat_lit 295064, nat_lit 153, nat_lit 17718016812326048380024000666, nat_lit 61597, nat_lit 158, nat_lit 635566153294362018559765786783, nat_lit 794785, nat_lit 32930, nat_lit 633825300114114700748351615139, nat_lit 22611748530328729262495645860, nat_lit 633844642927230786614961430695, nat_lit 170, nat_lit 270507, nat_lit 20986952228764415851873714348, nat_lit 240942580064342191, nat_lit 178, nat_lit 17563274307397361447152128179, nat_lit 270518, nat_lit 114871, nat_lit 24760, nat_lit 633844642927228534815147176121, nat_lit 32954, nat_lit 61627, nat_lit 633844642927230786614961692860, nat_lit 105834591243227327, nat_lit 633825300114114700748351615170, nat_lit 1085635, nat_lit 1056965, nat_lit 794823, nat_lit 279223176897802440, nat_lit 203, nat_lit 635566153294362018559765786828, nat_lit 1056974, nat_lit 32976, nat_lit 270545, nat_lit 1056978, nat_lit 20851552536717627604991004884, nat_lit 20909580976311331384505417943, nat_lit 633844642927230786614961692890, nat_lit 249949779319083229, nat_lit 224, nat_lit 17543931494281275580543144161, nat_lit 270564, nat_lit 794853, nat_lit 61670, nat_lit 231, nat_lit 17524588681165189713934160104, nat_lit 270571, nat_lit 236, nat_lit 17505245868049103847325176045, nat_lit 61680, nat_lit 69873]
noncomputable def cd_X7_receive : List Nat := [nat_lit 0, nat_lit 270337, nat_lit 19865069067909838398610001922, nat_lit 13510798882152453, nat_lit 633825300114114700748351614984, nat_lit 15762598695817225, nat_lit 633844642927228534815147175948, nat_lit 19710326563251367443379798029, nat_lit 24769797950578704, nat_lit 633825300114114700748351614995, nat_lit 28692, nat_lit 21, nat_lit 17505245868049103847325175830, nat_lit 25, nat_lit 17524588681165189713934159898, nat_lit 270365, nat_lit 24606, nat_lit 294943, nat_lit 561184, nat_lit 532513, nat_lit 54043195529797666, nat_lit 37, nat_lit 270374, nat_lit 23462832307335176401682710567, nat_lit 532522, nat_lit 28715]
noncomputable def cd_X7_of : List Nat := [nat_lit 0, nat_lit 532481, nat_lit 19865069067909838398610001922, nat_lit 13510798882152453, nat_lit 633825300114114700748351614984, nat_lit 15762598695817225, nat_lit 633844642927228534815147175948, nat_lit 19710326563251367443379798029, nat_lit 24769797950578704, nat_lit 633825300114114700748351614995, nat_lit 31525197391613972, nat_lit 262167, nat_lit 532504, nat_lit 24601, nat_lit 28698]
noncomputable def cd_X7_lost : List Nat := [nat_lit 0, nat_lit 1, nat_lit 17563274307397361447152128002, nat_lit 270341, nat_lit 23617574812248100735859310598, nat_lit 28681]
noncomputable def cd_X7_version : List Nat := [nat_lit 0, nat_lit 270337, nat_lit 19865069067909838398610001922, nat_lit 13510798882152453, nat_lit 633825300114114700748351614984, nat_lit 15762598695817225, nat_lit 633844642927228534815147175948, nat_lit 19710326563251367443379798029, nat_lit 24769797950578704, nat_lit 633825300114114700748351614995, nat_lit 49539595901095956, nat_lit 635759581425500359227721396247, nat_lit 25, nat_lit 17524588681165189713934159898, nat_lit 270365, nat_lit 24606, nat_lit 557087, nat_lit 32, nat_lit 17543931494281275580543143969, nat_lit 270372, nat_lit 24613, nat_lit 32806, nat_lit 28711]
noncomputable def cd_X7_isBuilt : List Nat := [nat_lit 0, nat_lit 633825300114114700748351614977, nat_lit 17853416504138649446286934018, nat_lit 5, nat_lit 6, nat_lit 17505245868049103847325175815, nat_lit 22379634772960468661144141834, nat_lit 13, nat_lit 17698673999209962513415016462, nat_lit 17, nat_lit 17311817736888245181235335186, nat_lit 633883328553456202948738297877, nat_lit 24598, nat_lit 36028797019271191, nat_lit 633844642927228534815147175962, nat_lit 38280596832669723, nat_lit 633825300114114700748351615006, nat_lit 299039, nat_lit 633825300114114700748351615008, nat_lit 561185, nat_lit 532514, nat_lit 35, nat_lit 17698673999209962513415016484, nat_lit 92323792361926695, nat_lit 270378, nat_lit 92323792361136171, nat_lit 46, nat_lit 17679331186093876646806032431, nat_lit 532530, nat_lit 24627, nat_lit 52, nat_lit 633883328553456202948738297909, nat_lit 532534, nat_lit 21451179743498685254780076087, nat_lit 83316593106661434, nat_lit 633844642927228534815147175997, nat_lit 85568392920059966, nat_lit 633825300114114700748351615041, nat_lit 299074, nat_lit 633844642927230786614961168451, nat_lit 45035996273725510, nat_lit 270409, nat_lit 77898]
noncomputable def cd_X7_size : List Nat := [nat_lit 0, nat_lit 270337, nat_lit 633825300114114700748351614978, nat_lit 633883328553456202948738297859, nat_lit 19207413422043983727196950532, nat_lit 18014398509522951, nat_lit 633825300114114700748351614986, nat_lit 20266198323187723, nat_lit 633844642927228534815147175950, nat_lit 19710326563251367443379798031, nat_lit 29273397577949202, nat_lit 633825300114114700748351614997, nat_lit 38280596832669718, nat_lit 25, nat_lit 17311817736888245181235335194, nat_lit 270365, nat_lit 24606, nat_lit 28703]
noncomputable def cd_X7_token : List Nat := [nat_lit 0, nat_lit 270337, nat_lit 532482, nat_lit 19923097507505793977942556675, nat_lit 29273397577949190, nat_lit 532489, nat_lit 10, nat_lit 17311817736888245181235335179, nat_lit 270350, nat_lit 24591, nat_lit 29273397578739728, nat_lit 633844642927228534815147175955, nat_lit 31525197391613972, nat_lit 633825300114114700748351614999, nat_lit 823320, nat_lit 25, nat_lit 794650, nat_lit 45035996273745947, nat_lit 633825300114114700748351615006, nat_lit 47287796087410719, nat_lit 633844642927228534815147175970, nat_lit 19710326563251367443379798051, nat_lit 56294995342172198, nat_lit 633825300114114700748351615017, nat_lit 65302194596892714, nat_lit 45, nat_lit 270382, nat_lit 532527, nat_lit 21451179743498685254780076080, nat_lit 28723]
noncomputable def cd_X7_around : List Nat := [nat_lit 0, nat_lit 1, nat_lit 270338, nat_lit 532483, nat_lit 19923097507505793977942556676, nat_lit 18014398509522951, nat_lit 633825300114114700748351614986, nat_lit 20266198323187723, nat_lit 633844642927228534815147175950, nat_lit 19710326563251367443379798031, nat_lit 29273397577949202, nat_lit 633825300114114700748351614997, nat_lit 28694, nat_lit 23, nat_lit 270360, nat_lit 532505, nat_lit 21219065986132676453235965978, nat_lit 823325, nat_lit 634018728245255293216120909854, nat_lit 794656, nat_lit 557089, nat_lit 34, nat_lit 17814730877906477713068920867, nat_lit 794662, nat_lit 24615, nat_lit 32808, nat_lit 28713]
noncomputable def cd_X7_comment : List Nat := [nat_lit 0, nat_lit 633883328553456202948738297857, nat_lit 270338, nat_lit 19923097507505793977942556675, nat_lit 27021597764263942, nat_lit 9, nat_lit 633883328553456202948738297866, nat_lit 532491, nat_lit 19923097507505793977942556684, nat_lit 27021597764263951, nat_lit 633844642927228534815147175954, nat_lit 29273397577928723, nat_lit 633825300114114700748351614998, nat_lit 823319, nat_lit 24, nat_lit 794649, nat_lit 42784196460322842, nat_lit 633844642927228534815147175965, nat_lit 69805794224263198, nat_lit 532513, nat_lit 270370, nat_lit 54043195529539619, nat_lit 633863985740342368881942736934, nat_lit 69805794224263207, nat_lit 42, nat_lit 17621302746745619046979080235, nat_lit 634018728245255293216120909870, nat_lit 67553994410864688, nat_lit 633883328553456202948738297907, nat_lit 69805794224263220, nat_lit 633825300114114700748351615031, nat_lit 19710326563251367443379798072, nat_lit 78812993479024699, nat_lit 633825300114114700748351615038, nat_lit 28735, nat_lit 64, nat_lit 17640645559861704913588064321, nat_lit 68, nat_lit 17621302746745619046979080261, nat_lit 270408, nat_lit 61513, nat_lit 74, nat_lit 17659988372977790780197048395, nat_lit 78, nat_lit 17621302746745619046979080271, nat_lit 532562, nat_lit 61523, nat_lit 84, nat_lit 65621, nat_lit 17621302746745619046979080278, nat_lit 633844642927228534815147176025, nat_lit 32858, nat_lit 17621302746745619046979125339, nat_lit 94, nat_lit 17621302746745619046979080287, nat_lit 633844642927228534815147176034, nat_lit 295011, nat_lit 28772]
noncomputable def cd_X7_commentAt : List Nat := [nat_lit 270336, nat_lit 633825300114114700748351614977, nat_lit 2, nat_lit 17621302746745619046979080195, nat_lit 633844642927228534815147175942, nat_lit 294919, nat_lit 19207413422043983727196950536, nat_lit 561163, nat_lit 12, nat_lit 532493, nat_lit 29273397577949198, nat_lit 633825300114114700748351614993, nat_lit 31525197391613970, nat_lit 633844642927228534815147175957, nat_lit 19710326563251367443379798038, nat_lit 40532396646375449, nat_lit 633825300114114700748351615004, nat_lit 83316593106374685, nat_lit 32, nat_lit 17640645559861704913588064289, nat_lit 270372, nat_lit 24613, nat_lit 633805957301001992581462896678, nat_lit 58546795156123687, nat_lit 633805957301001992581462896682, nat_lit 83316593106374699, nat_lit 635759581425500359227721396270, nat_lit 48, nat_lit 17640645559861704913588064305, nat_lit 270388, nat_lit 24629, nat_lit 557110, nat_lit 55, nat_lit 17659988372977790780197048376, nat_lit 270395, nat_lit 24636, nat_lit 32829, nat_lit 28734]
noncomputable def cd_L_rule : List Nat := [nat_lit 0, nat_lit 270337, nat_lit 532482, nat_lit 794627, nat_lit 1056772, nat_lit 7640411213047899246819176454, nat_lit 36028797018984457, nat_lit 1400844, nat_lit 633844642927228534815147175950, nat_lit 28687, nat_lit 1400848, nat_lit 633863985740342368881942736914, nat_lit 28691, nat_lit 1400852, nat_lit 633883328553456202948738297878, nat_lit 28695, nat_lit 633825300114114700748351615000, nat_lit 28697]
noncomputable def cd_L_type : List Nat := [nat_lit 1048576, nat_lit 633825300114114700748351614978, nat_lit 3, nat_lit 270340, nat_lit 532485, nat_lit 794630, nat_lit 10522490353171865344223113223, nat_lit 86026, nat_lit 585739, nat_lit 36028797018984460, nat_lit 1400847, nat_lit 633844642927228534815147175953, nat_lit 28690, nat_lit 1400851, nat_lit 633863985740342368881942736917, nat_lit 28694, nat_lit 633825300114114700748351614999, nat_lit 28696]
noncomputable def cd_L_erase : List Nat := [nat_lit 1048576, nat_lit 633825300114114700748351614978, nat_lit 3, nat_lit 270340, nat_lit 532485, nat_lit 794630, nat_lit 11276860078446452004522192903, nat_lit 86026, nat_lit 585739, nat_lit 42784196460040204, nat_lit 1400847, nat_lit 633844642927228534815147175953, nat_lit 28690, nat_lit 1400851, nat_lit 633863985740342368881942736917, nat_lit 28694, nat_lit 1400855, nat_lit 633883328553456202948738297881, nat_lit 28698, nat_lit 633825300114114700748351615003, nat_lit 28700]
noncomputable def cd_L_split : List Nat := [nat_lit 786432, nat_lit 633825300114114700748351614977, nat_lit 2, nat_lit 270339, nat_lit 532484, nat_lit 11489631008861316884174893061, nat_lit 86024, nat_lit 585737, nat_lit 33776997205299210, nat_lit 1138701, nat_lit 633844642927228534815147175951, nat_lit 28688, nat_lit 1138705, nat_lit 633863985740342368881942736915, nat_lit 28692, nat_lit 633825300114114700748351614997, nat_lit 28694]
noncomputable def cd_L_join : List Nat := [nat_lit 786432, nat_lit 633825300114114700748351614977, nat_lit 2, nat_lit 270339, nat_lit 532484, nat_lit 11818458831796496019695235077, nat_lit 86024, nat_lit 585737, nat_lit 33776997205299210, nat_lit 1138701, nat_lit 633844642927228534815147175951, nat_lit 28688, nat_lit 1138705, nat_lit 633863985740342368881942736915, nat_lit 28692, nat_lit 633825300114114700748351614997, nat_lit 28694]
noncomputable def cd_L_wrap : List Nat := [nat_lit 1310720, nat_lit 633825300114114700748351614978, nat_lit 3, nat_lit 270340, nat_lit 532485, nat_lit 794630, nat_lit 1056775, nat_lit 12011886976774398342558019593, nat_lit 86028, nat_lit 585741, nat_lit 45035996273725454, nat_lit 1662993, nat_lit 633844642927228534815147175955, nat_lit 28692, nat_lit 1662997, nat_lit 633863985740342368881942736919, nat_lit 28696, nat_lit 1663001, nat_lit 633883328553456202948738297883, nat_lit 28700, nat_lit 633825300114114700748351615005, nat_lit 28702]
noncomputable def cd_L_unwrap : List Nat := [nat_lit 786432, nat_lit 633825300114114700748351614977, nat_lit 2, nat_lit 270339, nat_lit 532484, nat_lit 12224657907187011422397034501, nat_lit 86024, nat_lit 585737, nat_lit 33776997205299210, nat_lit 1138701, nat_lit 633844642927228534815147175951, nat_lit 28688, nat_lit 1138705, nat_lit 633863985740342368881942736915, nat_lit 28692, nat_lit 633825300114114700748351614997, nat_lit 28694]
noncomputable def cd_L_setType : List Nat := [nat_lit 1048576, nat_lit 633825300114114700748351614978, nat_lit 3, nat_lit 270340, nat_lit 532485, nat_lit 794630, nat_lit 12514800103896774224140464135, nat_lit 86026, nat_lit 585739, nat_lit 36028797018984460, nat_lit 1400847, nat_lit 633844642927228534815147175953, nat_lit 28690, nat_lit 1400851, nat_lit 633863985740342368881942736917, nat_lit 28694, nat_lit 633825300114114700748351614999, nat_lit 28696]
noncomputable def cd_L_mark : List Nat := [nat_lit 1572864, nat_lit 633825300114114700748351614978, nat_lit 3, nat_lit 270340, nat_lit 532485, nat_lit 794630, nat_lit 1056775, nat_lit 1318921, nat_lit 12669542622647008413412651019, nat_lit 86030, nat_lit 585743, nat_lit 47287796087410704, nat_lit 1925139, nat_lit 633844642927228534815147175957, nat_lit 28694, nat_lit 1925143, nat_lit 633863985740342368881942736921, nat_lit 28698, nat_lit 1925147, nat_lit 633883328553456202948738297885, nat_lit 28702, nat_lit 633825300114114700748351615007, nat_lit 28704]
noncomputable def cd_L_copy : List Nat := [nat_lit 1048576, nat_lit 633825300114114700748351614978, nat_lit 3, nat_lit 270340, nat_lit 532485, nat_lit 794630, nat_lit 13095084483476738172717789191, nat_lit 86026, nat_lit 585739, nat_lit 36028797018984460, nat_lit 1400847, nat_lit 633844642927228534815147175953, nat_lit 28690, nat_lit 1400851, nat_lit 633863985740342368881942736917, nat_lit 28694, nat_lit 633825300114114700748351614999, nat_lit 28696]
noncomputable def cd_L_paste : List Nat := [nat_lit 786432, nat_lit 633825300114114700748351614977, nat_lit 2, nat_lit 270339, nat_lit 532484, nat_lit 13423912320244723563706609669, nat_lit 86024, nat_lit 585737, nat_lit 33776997205299210, nat_lit 1138701, nat_lit 633844642927228534815147175951, nat_lit 28688, nat_lit 1138705, nat_lit 633863985740342368881942736915, nat_lit 28692, nat_lit 633825300114114700748351614997, nat_lit 28694]
noncomputable def cd_L_takeBack : List Nat := [nat_lit 524288, nat_lit 633825300114114700748351614977, nat_lit 2, nat_lit 270339, nat_lit 13830111395632987166594461700, nat_lit 86023, nat_lit 585736, nat_lit 31525197391613961, nat_lit 876556, nat_lit 633844642927228534815147175949, nat_lit 28686, nat_lit 876559, nat_lit 633863985740342368881942736912, nat_lit 28689, nat_lit 633825300114114700748351614994, nat_lit 28691]
noncomputable def cd_L_revert : List Nat := [nat_lit 786432, nat_lit 633825300114114700748351614977, nat_lit 2, nat_lit 270339, nat_lit 532484, nat_lit 13984853900545911500770799621, nat_lit 86024, nat_lit 585737, nat_lit 33776997205299210, nat_lit 1138701, nat_lit 633844642927228534815147175951, nat_lit 28688, nat_lit 1138705, nat_lit 633863985740342368881942736915, nat_lit 28692, nat_lit 633825300114114700748351614997, nat_lit 28694]
noncomputable def cd_L_send : List Nat := [nat_lit 524288, nat_lit 633825300114114700748351614977, nat_lit 2, nat_lit 270339, nat_lit 15280822379170542176242397188, nat_lit 86023, nat_lit 585736, nat_lit 31525197391613961, nat_lit 876556, nat_lit 633844642927228534815147175949, nat_lit 28686, nat_lit 876559, nat_lit 633863985740342368881942736912, nat_lit 28689, nat_lit 633825300114114700748351614994, nat_lit 28691]
noncomputable def cd_L_receive : List Nat := [nat_lit 524288, nat_lit 633825300114114700748351614977, nat_lit 2, nat_lit 270339, nat_lit 15725707062341981638824980484, nat_lit 86023, nat_lit 585736, nat_lit 24769797950558217, nat_lit 876556, nat_lit 633844642927228534815147175949, nat_lit 28686, nat_lit 633825300114114700748351614991, nat_lit 28688]
noncomputable def cd_L_lost : List Nat := [nat_lit 524288, nat_lit 633825300114114700748351614977, nat_lit 2, nat_lit 270339, nat_lit 16035192072163326707550023684, nat_lit 86023, nat_lit 585736, nat_lit 24769797950558217, nat_lit 876556, nat_lit 633844642927228534815147175949, nat_lit 28686, nat_lit 633825300114114700748351614991, nat_lit 28688]
noncomputable def cd_L_version : List Nat := [nat_lit 524288, nat_lit 633825300114114700748351614977, nat_lit 2, nat_lit 270339, nat_lit 16170591763960165175117377540, nat_lit 86023, nat_lit 585736, nat_lit 24769797950558217, nat_lit 876556, nat_lit 633844642927228534815147175949, nat_lit 28686, nat_lit 633825300114114700748351614991, nat_lit 28688]
noncomputable def cd_L_size : List Nat := [nat_lit 524288, nat_lit 633825300114114700748351614977, nat_lit 2, nat_lit 270339, nat_lit 16305991455757003642684993540, nat_lit 86023, nat_lit 585736, nat_lit 24769797950558217, nat_lit 876556, nat_lit 633844642927228534815147175949, nat_lit 28686, nat_lit 633825300114114700748351614991, nat_lit 28688]
noncomputable def cd_L_token : List Nat := [nat_lit 786432, nat_lit 633825300114114700748351614977, nat_lit 2, nat_lit 270339, nat_lit 532484, nat_lit 16518762400011430177247227909, nat_lit 86024, nat_lit 585737, nat_lit 27021597764243466, nat_lit 1138701, nat_lit 633844642927228534815147175951, nat_lit 28688, nat_lit 633825300114114700748351614993, nat_lit 28690]
noncomputable def cd_L_around : List Nat := [nat_lit 786432, nat_lit 633825300114114700748351614977, nat_lit 2, nat_lit 270339, nat_lit 532484, nat_lit 16673504904922102711609880581, nat_lit 86024, nat_lit 585737, nat_lit 27021597764243466, nat_lit 1138701, nat_lit 633844642927228534815147175951, nat_lit 28688, nat_lit 633825300114114700748351614993, nat_lit 28690]
noncomputable def cd_L_comment : List Nat := [nat_lit 786432, nat_lit 633825300114114700748351614977, nat_lit 2, nat_lit 270339, nat_lit 532484, nat_lit 16808904629000743308168949765, nat_lit 86024, nat_lit 585737, nat_lit 40532396646354954, nat_lit 1138701, nat_lit 633844642927228534815147175951, nat_lit 28688, nat_lit 1138705, nat_lit 633863985740342368881942736915, nat_lit 28692, nat_lit 1138709, nat_lit 633883328553456202948738297879, nat_lit 28696, nat_lit 633825300114114700748351615001, nat_lit 28698]
noncomputable def cd_L_commentAt : List Nat := [nat_lit 524288, nat_lit 633825300114114700748351614977, nat_lit 2, nat_lit 270339, nat_lit 16963647101627361913726201860, nat_lit 86023, nat_lit 585736, nat_lit 24769797950558217, nat_lit 876556, nat_lit 633844642927228534815147175949, nat_lit 28686, nat_lit 633825300114114700748351614991, nat_lit 28688]
noncomputable def cd_L_law : List Nat := [nat_lit 1566767862220559410420858880, nat_lit 65539, nat_lit 1605453488448227544021934084, nat_lit 352263, nat_lit 17060361166401646913455472648, nat_lit 65547, nat_lit 17099046792629315047067820044, nat_lit 614415, nat_lit 633844642927228534815147175952, nat_lit 24236544831634085694510034961, nat_lit 876563, nat_lit 633825300114114700748351614996, nat_lit 1085461, nat_lit 1056791, nat_lit 25, nat_lit 98330, nat_lit 633941356992799956948938666011, nat_lit 294941, nat_lit 1567252670326026270, nat_lit 33, nat_lit 1056802, nat_lit 24612, nat_lit 634424927320645808618827690021, nat_lit 819239, nat_lit 92454617076382291382703867918789596030667467670357494174161924572043922809259880897039966533261873192, nat_lit 262292, nat_lit 149, nat_lit 1056918, nat_lit 633844642927228534815147176088, nat_lit 32921, nat_lit 24730, nat_lit 155, nat_lit 1056924, nat_lit 633863985740342368881942737054, nat_lit 32927, nat_lit 24736, nat_lit 161, nat_lit 1056930, nat_lit 633883328553456202948738298020, nat_lit 32933, nat_lit 24742, nat_lit 167, nat_lit 1056936, nat_lit 633902671366570037015533858986, nat_lit 32939, nat_lit 24748, nat_lit 7524354301292710982481522861, nat_lit 1347760, nat_lit 524466, nat_lit 179, nat_lit 1056948, nat_lit 633844642927228534815147176118, nat_lit 32951, nat_lit 24760, nat_lit 185, nat_lit 1056954, nat_lit 633863985740342368881942737084, nat_lit 32957, nat_lit 24766, nat_lit 191, nat_lit 1056960, nat_lit 633883328553456202948738298050, nat_lit 32963, nat_lit 24772, nat_lit 197, nat_lit 1056966, nat_lit 633902671366570037015533859016, nat_lit 32969, nat_lit 24778, nat_lit 19130042169843100838964773067, nat_lit 1562749070697582798, nat_lit 262353, nat_lit 210, nat_lit 1056979, nat_lit 633844642927228534815147176149, nat_lit 32982, nat_lit 24791, nat_lit 216, nat_lit 1056985, nat_lit 633863985740342368881942737115, nat_lit 32988, nat_lit 24797, nat_lit 222, nat_lit 1056991, nat_lit 633883328553456202948738298081, nat_lit 32994, nat_lit 24803, nat_lit 786660, nat_lit 10464461894595489135367205093, nat_lit 1347816, nat_lit 524522, nat_lit 235, nat_lit 1057004, nat_lit 633844642927228534815147176174, nat_lit 33007, nat_lit 24816, nat_lit 241, nat_lit 1057010, nat_lit 633863985740342368881942737140, nat_lit 33013, nat_lit 24822, nat_lit 247, nat_lit 1057016, nat_lit 633883328553456202948738298106, nat_lit 33019, nat_lit 24828, nat_lit 19787697815711207310197014781, nat_lit 1609984, nat_lit 1562749070697582850, nat_lit 262405, nat_lit 262, nat_lit 1057031, nat_lit 633844642927228534815147176201, nat_lit 33034, nat_lit 24843, nat_lit 268, nat_lit 1057037, nat_lit 633863985740342368881942737167, nat_lit 33040, nat_lit 24849, nat_lit 274, nat_lit 1057043, nat_lit 633883328553456202948738298133, nat_lit 33046, nat_lit 24855, nat_lit 786712, nat_lit 11218831606035017740384121113, nat_lit 1347868, nat_lit 524574, nat_lit 287, nat_lit 1057056, nat_lit 633844642927228534815147176226, nat_lit 33059, nat_lit 24868, nat_lit 293, nat_lit 1057062, nat_lit 633863985740342368881942737192, nat_lit 33065, nat_lit 24874, nat_lit 299, nat_lit 1057068, nat_lit 633883328553456202948738298158, nat_lit 33071, nat_lit 24880, nat_lit 21064323481224255718686998833, nat_lit 1610036, nat_lit 1562749070697582902, nat_lit 262457, nat_lit 314, nat_lit 1057083, nat_lit 633844642927228534815147176253, nat_lit 33086, nat_lit 24895, nat_lit 320, nat_lit 1057089, nat_lit 633863985740342368881942737219, nat_lit 33092, nat_lit 24901, nat_lit 786758, nat_lit 11431602550284940675318985031, nat_lit 1347914, nat_lit 524620, nat_lit 333, nat_lit 1057102, nat_lit 633844642927228534815147176272, nat_lit 33105, nat_lit 24914, nat_lit 339, nat_lit 1057108, nat_lit 633863985740342368881942737238, nat_lit 33111, nat_lit 24920, nat_lit 21141694733677340186055033177, nat_lit 1610076, nat_lit 1562749070697582942, nat_lit 262497, nat_lit 354, nat_lit 1057123, nat_lit 633844642927228534815147176293, nat_lit 33126, nat_lit 24935, nat_lit 360, nat_lit 1057129, nat_lit 633863985740342368881942737259, nat_lit 33132, nat_lit 24941, nat_lit 786798, nat_lit 11760430373220119810839327087, nat_lit 1347954, nat_lit 524660, nat_lit 373, nat_lit 1057142, nat_lit 633844642927228534815147176312, nat_lit 33145, nat_lit 24954, nat_lit 379, nat_lit 1057148, nat_lit 633863985740342368881942737278, nat_lit 33151, nat_lit 24960, nat_lit 21296437238588012720418210177, nat_lit 1610116, nat_lit 1562749070697582982, nat_lit 262537, nat_lit 394, nat_lit 1057163, nat_lit 633844642927228534815147176333, nat_lit 33166, nat_lit 24975, nat_lit 400, nat_lit 1057169, nat_lit 633863985740342368881942737299, nat_lit 33172, nat_lit 24981, nat_lit 406, nat_lit 1057175, nat_lit 633883328553456202948738298265, nat_lit 33178, nat_lit 24987, nat_lit 412, nat_lit 1057181, nat_lit 633902671366570037015533859231, nat_lit 33184, nat_lit 24993, nat_lit 786850, nat_lit 11953858504362964078419947939, nat_lit 1348006, nat_lit 524712, nat_lit 425, nat_lit 1057194, nat_lit 633844642927228534815147176364, nat_lit 33197, nat_lit 25006, nat_lit 431, nat_lit 1057200, nat_lit 633863985740342368881942737330, nat_lit 33203, nat_lit 25012, nat_lit 437, nat_lit 1057206, nat_lit 633883328553456202948738298296, nat_lit 33209, nat_lit 25018, nat_lit 443, nat_lit 1057212, nat_lit 633902671366570037015533859262, nat_lit 33215, nat_lit 25024, nat_lit 21528550995958525121589428673, nat_lit 1610180, nat_lit 1562749070697583046, nat_lit 262601, nat_lit 458, nat_lit 1057227, nat_lit 633844642927228534815147176397, nat_lit 33230, nat_lit 25039, nat_lit 464, nat_lit 1057233, nat_lit 633863985740342368881942737363, nat_lit 33236, nat_lit 25045, nat_lit 786902, nat_lit 12166629448610635213541126615, nat_lit 1348058, nat_lit 524764, nat_lit 477, nat_lit 1057246, nat_lit 633844642927228534815147176416, nat_lit 33249, nat_lit 25058, nat_lit 483, nat_lit 1057252, nat_lit 633863985740342368881942737382, nat_lit 33255, nat_lit 25064, nat_lit 21605922248409357789143777769, nat_lit 1610220, nat_lit 1562749070697583086, nat_lit 262641, nat_lit 498, nat_lit 1057267, nat_lit 633844642927228534815147176437, nat_lit 33270, nat_lit 25079, nat_lit 504, nat_lit 1057273, nat_lit 633863985740342368881942737403, nat_lit 33276, nat_lit 25085, nat_lit 510, nat_lit 1057279, nat_lit 633883328553456202948738298369, nat_lit 33282, nat_lit 25091, nat_lit 786948, nat_lit 12456771645320398015284556293, nat_lit 1348104, nat_lit 524810, nat_lit 523, nat_lit 1057292, nat_lit 633844642927228534815147176462, nat_lit 33295, nat_lit 25104, nat_lit 529, nat_lit 1057298, nat_lit 633863985740342368881942737428, nat_lit 33301, nat_lit 25110, nat_lit 535, nat_lit 1057304, nat_lit 633883328553456202948738298394, nat_lit 33307, nat_lit 25116, nat_lit 21760664753322282123320115741, nat_lit 1610272, nat_lit 1562749070697583138, nat_lit 262693, nat_lit 550, nat_lit 1057319, nat_lit 633844642927228534815147176489, nat_lit 33322, nat_lit 25131, nat_lit 556, nat_lit 1057325, nat_lit 633863985740342368881942737455, nat_lit 33328, nat_lit 25137, nat_lit 562, nat_lit 1057331, nat_lit 633883328553456202948738298421, nat_lit 33334, nat_lit 25143, nat_lit 568, nat_lit 1057337, nat_lit 633902671366570037015533859387, nat_lit 33340, nat_lit 25149, nat_lit 574, nat_lit 1057343, nat_lit 633922014179683871082329420353, nat_lit 33346, nat_lit 25155, nat_lit 779122735535137348, nat_lit 633844642927228534815147176519, nat_lit 781374535348802120, nat_lit 633825300114114700748351615563, nat_lit 787020, nat_lit 12611514150235574149274579533, nat_lit 1348176, nat_lit 524882, nat_lit 595, nat_lit 1057364, nat_lit 633844642927228534815147176534, nat_lit 33367, nat_lit 25176, nat_lit 601, nat_lit 1057370, nat_lit 633863985740342368881942737500, nat_lit 33373, nat_lit 25182, nat_lit 607, nat_lit 1057376, nat_lit 633883328553456202948738298466, nat_lit 33379, nat_lit 25188, nat_lit 613, nat_lit 1057382, nat_lit 633902671366570037015533859432, nat_lit 33385, nat_lit 25194, nat_lit 619, nat_lit 1057388, nat_lit 633922014179683871082329420398, nat_lit 33391, nat_lit 25200, nat_lit 853432129386750577, nat_lit 633844642927228534815147176564, nat_lit 855683929200415349, nat_lit 633825300114114700748351615608, nat_lit 21838036005782121990128943737, nat_lit 1610364, nat_lit 1562749070697583230, nat_lit 262785, nat_lit 642, nat_lit 1057411, nat_lit 633844642927228534815147176581, nat_lit 33414, nat_lit 25223, nat_lit 648, nat_lit 1057417, nat_lit 633863985740342368881942737547, nat_lit 33420, nat_lit 25229, nat_lit 654, nat_lit 1057423, nat_lit 633883328553456202948738298513, nat_lit 33426, nat_lit 25235, nat_lit 787092, nat_lit 13037056038735420019144045205, nat_lit 1348248, nat_lit 524954, nat_lit 667, nat_lit 1057436, nat_lit 633844642927228534815147176606, nat_lit 33439, nat_lit 25248, nat_lit 673, nat_lit 1057442, nat_lit 633863985740342368881942737572, nat_lit 33445, nat_lit 25254, nat_lit 679, nat_lit 1057448, nat_lit 633883328553456202948738298538, nat_lit 33451, nat_lit 25260, nat_lit 21915407258232954657683030701, nat_lit 1610416, nat_lit 1562749070697583282, nat_lit 262837, nat_lit 694, nat_lit 1057463, nat_lit 633844642927228534815147176633, nat_lit 33466, nat_lit 25275, nat_lit 700, nat_lit 1057469, nat_lit 633863985740342368881942737599, nat_lit 33472, nat_lit 25281, nat_lit 787138, nat_lit 13365883861668347354850702019, nat_lit 1348294, nat_lit 525000, nat_lit 713, nat_lit 1057482, nat_lit 633844642927228534815147176652, nat_lit 33485, nat_lit 25294, nat_lit 719, nat_lit 1057488, nat_lit 633863985740342368881942737618, nat_lit 33491, nat_lit 25300, nat_lit 21992778510686039125051589333, nat_lit 1610456, nat_lit 1562749070697583322, nat_lit 262877, nat_lit 734, nat_lit 1057503, nat_lit 633844642927228534815147176673, nat_lit 33506, nat_lit 25315, nat_lit 787172, nat_lit 13772082937056610957738554085, nat_lit 1348328, nat_lit 525034, nat_lit 747, nat_lit 1057516, nat_lit 633844642927228534815147176686, nat_lit 33519, nat_lit 25328, nat_lit 22302263520505132393963209457, nat_lit 1610484, nat_lit 1562749070697583350, nat_lit 262905, nat_lit 762, nat_lit 1057531, nat_lit 633844642927228534815147176701, nat_lit 33534, nat_lit 25343, nat_lit 768, nat_lit 1057537, nat_lit 633863985740342368881942737667, nat_lit 33540, nat_lit 25349, nat_lit 787206, nat_lit 13926825441969535291914892039, nat_lit 1348362, nat_lit 525068, nat_lit 781, nat_lit 1057550, nat_lit 633844642927228534815147176720, nat_lit 33553, nat_lit 25362, nat_lit 787, nat_lit 1057556, nat_lit 633863985740342368881942737686, nat_lit 33559, nat_lit 25368, nat_lit 22457006025418056728140071705, nat_lit 1610524, nat_lit 1562749070697583390, nat_lit 262945, nat_lit 802, nat_lit 1057571, nat_lit 633844642927228534815147176741, nat_lit 33574, nat_lit 25383, nat_lit 787240, nat_lit 15222793920594165967386489641, nat_lit 1348396, nat_lit 525102, nat_lit 815, nat_lit 1057584, nat_lit 633844642927228534815147176754, nat_lit 33587, nat_lit 25396, nat_lit 23230718549969167600138863413, nat_lit 1610552, nat_lit 1562749070697583418, nat_lit 262973, nat_lit 830, nat_lit 1057599, nat_lit 633844642927228534815147176769, nat_lit 33602, nat_lit 25411, nat_lit 787268, nat_lit 15667678622212349503678624581, nat_lit 1348424, nat_lit 525130, nat_lit 843, nat_lit 1057612, nat_lit 633844642927228534815147176782, nat_lit 33615, nat_lit 25424, nat_lit 23385461054879840134501778257, nat_lit 1610580, nat_lit 1562749070697583446, nat_lit 263001, nat_lit 858, nat_lit 1057627, nat_lit 633844642927228534815147176797, nat_lit 33630, nat_lit 25439, nat_lit 787296, nat_lit 15977163632033694572403667809, nat_lit 1348452, nat_lit 525158, nat_lit 871, nat_lit 1057640, nat_lit 633844642927228534815147176810, nat_lit 33643, nat_lit 25452, nat_lit 23540203559790512668864693101, nat_lit 1610608, nat_lit 1562749070697583474, nat_lit 263029, nat_lit 886, nat_lit 1057655, nat_lit 633844642927228534815147176825, nat_lit 33658, nat_lit 25467, nat_lit 787324, nat_lit 16112563323830533039971021693, nat_lit 1348480, nat_lit 525186, nat_lit 899, nat_lit 1057668, nat_lit 633844642927228534815147176838, nat_lit 33671, nat_lit 25480, nat_lit 23694946064701185203227345801, nat_lit 1610636, nat_lit 1562749070697583502, nat_lit 263057, nat_lit 6653927711375091759713371026, nat_lit 525205, nat_lit 23772317317154269670595117974, nat_lit 1562749070697608089, nat_lit 633825300114114700748351615900, nat_lit 78749, nat_lit 263070, nat_lit 927, nat_lit 1057696, nat_lit 633844642927228534815147176866, nat_lit 33699, nat_lit 25508, nat_lit 787365, nat_lit 16247963015627371507538375590, nat_lit 1348521, nat_lit 525227, nat_lit 940, nat_lit 1057709, nat_lit 633844642927228534815147176879, nat_lit 33712, nat_lit 25521, nat_lit 23849688569611857737590260658, nat_lit 1610677, nat_lit 1562749070697583543, nat_lit 263098, nat_lit 955, nat_lit 1057724, nat_lit 633844642927228534815147176894, nat_lit 33727, nat_lit 25536, nat_lit 961, nat_lit 1057730, nat_lit 633863985740342368881942737860, nat_lit 33733, nat_lit 25542, nat_lit 787399, nat_lit 16460733959881798042100609992, nat_lit 1348555, nat_lit 525261, nat_lit 974, nat_lit 1057743, nat_lit 633844642927228534815147176913, nat_lit 33746, nat_lit 25555, nat_lit 980, nat_lit 1057749, nat_lit 633863985740342368881942737879, nat_lit 33752, nat_lit 25561, nat_lit 23927059822069445804585403354, nat_lit 1610717, nat_lit 1562749070697583583, nat_lit 263138, nat_lit 995, nat_lit 1057764, nat_lit 633844642927228534815147176934, nat_lit 33767, nat_lit 25576, nat_lit 1001, nat_lit 1057770, nat_lit 633863985740342368881942737900, nat_lit 33773, nat_lit 25582, nat_lit 787439, nat_lit 16615476464792470576463262704, nat_lit 1348595, nat_lit 525301, nat_lit 1014, nat_lit 1057783, nat_lit 633844642927228534815147176953, nat_lit 33786, nat_lit 25595, nat_lit 1020, nat_lit 1057789, nat_lit 633863985740342368881942737919, nat_lit 33792, nat_lit 25601, nat_lit 24004431074524782071766860802, nat_lit 1610757, nat_lit 1562749070697583623, nat_lit 263178, nat_lit 1035, nat_lit 1057804, nat_lit 633844642927228534815147176974, nat_lit 33807, nat_lit 25616, nat_lit 1041, nat_lit 1057810, nat_lit 633863985740342368881942737940, nat_lit 33813, nat_lit 25622, nat_lit 787479, nat_lit 16750876156589309044030616600, nat_lit 1348635, nat_lit 525341, nat_lit 1054, nat_lit 1057823, nat_lit 633844642927228534815147176993, nat_lit 33826, nat_lit 25635, nat_lit 1060, nat_lit 1057829, nat_lit 633863985740342368881942737959, nat_lit 33832, nat_lit 25641, nat_lit 24081802326980118338948318250, nat_lit 1610797, nat_lit 1562749070697583663, nat_lit 263218, nat_lit 1075, nat_lit 1057844, nat_lit 633844642927228534815147177014, nat_lit 33847, nat_lit 25656, nat_lit 787513, nat_lit 16905618661497729778579584058, nat_lit 1348669, nat_lit 525375, nat_lit 1088, nat_lit 1057857, nat_lit 633844642927228534815147177027, nat_lit 33860, nat_lit 25669, nat_lit 24159173579433202806316090438, nat_lit 1610825, nat_lit 1562749070697583691, nat_lit 633941356992811215948006614094, nat_lit 29273397577929809, nat_lit 633844642927228534815147177044, nat_lit 78933]
noncomputable def sx_cd (m : Nat) : List Nat := (cond (Nat.ble m 90) (cond (Nat.ble m 44) (cond (Nat.ble m 21) (cond (Nat.ble m 10) (cond (Nat.ble m 4) (cond (Nat.ble m 1) (cond (Nat.ble m 0) cd_X0_init cd_X1_init) (cond (Nat.ble m 2) cd_X1_kindsOf (cond (Nat.ble m 3) cd_X1_quantityOf cd_X1_setElement))) (cond (Nat.ble m 7) (cond (Nat.ble m 5) cd_X1_accepts (cond (Nat.ble m 6) cd_X1_isEnd cd_X1_advance)) (cond (Nat.ble m 8) cd_X1_skip (cond (Nat.ble m 9) cd_X2_init cd_X2_clear)))) (cond (Nat.ble m 15) (cond (Nat.ble m 12) (cond (Nat.ble m 11) cd_X2_addMap cd_X2_addPartner) (cond (Nat.ble m 13) cd_X2_carryStep (cond (Nat.ble m 14) cd_X2_carryMarking cd_X2_carryChange))) (cond (Nat.ble m 18) (cond (Nat.ble m 16) cd_X2_carryPosition (cond (Nat.ble m 17) cd_X3_init cd_X3_begin)) (cond (Nat.ble m 19) cd_X3_leaveRange (cond (Nat.ble m 20) cd_X3_enterRange cd_X4_init))))) (cond (Nat.ble m 32) (cond (Nat.ble m 26) (cond (Nat.ble m 23) (cond (Nat.ble m 22) cd_X4_becomeChange cd_X4_addRange) (cond (Nat.ble m 24) cd_X4_addPut (cond (Nat.ble m 25) cd_X4_becomeMarking cd_X4_become))) (cond (Nat.ble m 29) (cond (Nat.ble m 27) cd_X4_becomeInverse (cond (Nat.ble m 28) cd_X4_putStart cd_X4_carry)) (cond (Nat.ble m 30) cd_X4_applyTo (cond (Nat.ble m 31) cd_X4_isWithin cd_X4_markTokens)))) (cond (Nat.ble m 38) (cond (Nat.ble m 35) (cond (Nat.ble m 33) cd_X4_markedToken (cond (Nat.ble m 34) cd_X4_changesMarks cd_X5_init)) (cond (Nat.ble m 36) cd_X5_clear (cond (Nat.ble m 37) cd_X5_at cd_X5_add))) (cond (Nat.ble m 41) (cond (Nat.ble m 39) cd_X5_addSlice (cond (Nat.ble m 40) cd_X5_become cd_X5_becomeFirst)) (cond (Nat.ble m 42) cd_X5_isLike (cond (Nat.ble m 43) cd_X5_findOpen cd_X5_findClosing)))))) (cond (Nat.ble m 67) (cond (Nat.ble m 55) (cond (Nat.ble m 49) (cond (Nat.ble m 46) (cond (Nat.ble m 45) cd_X5_countCharacters cd_X6_init) (cond (Nat.ble m 47) cd_X6_rule (cond (Nat.ble m 48) cd_X6_type cd_X6_erase))) (cond (Nat.ble m 52) (cond (Nat.ble m 50) cd_X6_split (cond (Nat.ble m 51) cd_X6_join cd_X6_wrap)) (cond (Nat.ble m 53) cd_X6_unwrap (cond (Nat.ble m 54) cd_X6_setType cd_X6_mark)))) (cond (Nat.ble m 61) (cond (Nat.ble m 58) (cond (Nat.ble m 56) cd_X6_copy (cond (Nat.ble m 57) cd_X6_paste cd_X6_takeBack)) (cond (Nat.ble m 59) cd_X6_revert (cond (Nat.ble m 60) cd_X6_send cd_X6_receive))) (cond (Nat.ble m 64) (cond (Nat.ble m 62) cd_X6_lost (cond (Nat.ble m 63) cd_X6_version cd_X6_isBuilt)) (cond (Nat.ble m 65) cd_X6_size (cond (Nat.ble m 66) cd_X6_token cd_X6_around))))) (cond (Nat.ble m 78) (cond (Nat.ble m 72) (cond (Nat.ble m 69) (cond (Nat.ble m 68) cd_X6_comment cd_X6_commentAt) (cond (Nat.ble m 70) cd_X6_isOpening (cond (Nat.ble m 71) cd_X6_depthChange cd_X6_clientOf))) (cond (Nat.ble m 75) (cond (Nat.ble m 73) cd_X6_documentOf (cond (Nat.ble m 74) cd_X6_checkPosition cd_X6_checkStretch)) (cond (Nat.ble m 76) cd_X6_checkNodeType (cond (Nat.ble m 77) cd_X6_isAnyPending cd_X6_isFirstValidWith)))) (cond (Nat.ble m 84) (cond (Nat.ble m 81) (cond (Nat.ble m 79) cd_X6_innermost (cond (Nat.ble m 80) cd_X6_isPossible cd_X6_addPending)) (cond (Nat.ble m 82) cd_X6_draftsBare (cond (Nat.ble m 83) cd_X6_draftsSlice cd_X6_draftsWrapped))) (cond (Nat.ble m 87) (cond (Nat.ble m 85) cd_X6_addConfirmedMaps (cond (Nat.ble m 86) cd_X6_mapPending cd_X6_confirm)) (cond (Nat.ble m 88) cd_X6_mapComments (cond (Nat.ble m 89) cd_X6_mapOver cd_X7_init))))))) (cond (Nat.ble m 135) (cond (Nat.ble m 112) (cond (Nat.ble m 101) (cond (Nat.ble m 95) (cond (Nat.ble m 92) (cond (Nat.ble m 91) cd_X7_fails cd_X7_isIn) (cond (Nat.ble m 93) cd_X7_isClient (cond (Nat.ble m 94) cd_X7_isPlace cd_X7_opens))) (cond (Nat.ble m 98) (cond (Nat.ble m 96) cd_X7_sets (cond (Nat.ble m 97) cd_X7_isDone cd_X7_spreads)) (cond (Nat.ble m 99) cd_X7_follows (cond (Nat.ble m 100) cd_X7_isValid cd_X7_begins)))) (cond (Nat.ble m 106) (cond (Nat.ble m 103) (cond (Nat.ble m 102) cd_X7_rule cd_X7_empties) (cond (Nat.ble m 104) cd_X7_copies (cond (Nat.ble m 105) cd_X7_adds cd_X7_looksAt))) (cond (Nat.ble m 109) (cond (Nat.ble m 107) cd_X7_keeps (cond (Nat.ble m 108) cd_X7_marks cd_X7_changes)) (cond (Nat.ble m 110) cd_X7_isTooLong (cond (Nat.ble m 111) cd_X7_does cd_X7_goes))))) (cond (Nat.ble m 123) (cond (Nat.ble m 117) (cond (Nat.ble m 114) (cond (Nat.ble m 113) cd_X7_startOf cd_X7_takesOf) (cond (Nat.ble m 115) cd_X7_rangeAt (cond (Nat.ble m 116) cd_X7_maps cd_X7_mapsThrough))) (cond (Nat.ble m 120) (cond (Nat.ble m 118) cd_X7_mapsStep (cond (Nat.ble m 119) cd_X7_enters cd_X7_place)) (cond (Nat.ble m 121) cd_X7_canEdit (cond (Nat.ble m 122) cd_X7_edits cd_X7_tries)))) (cond (Nat.ble m 129) (cond (Nat.ble m 126) (cond (Nat.ble m 124) cd_X7_type (cond (Nat.ble m 125) cd_X7_erase cd_X7_depthAt)) (cond (Nat.ble m 127) cd_X7_split (cond (Nat.ble m 128) cd_X7_tokenOf cd_X7_opensAt))) (cond (Nat.ble m 132) (cond (Nat.ble m 130) cd_X7_join (cond (Nat.ble m 131) cd_X7_wrap cd_X7_closing)) (cond (Nat.ble m 133) cd_X7_unwrap (cond (Nat.ble m 134) cd_X7_setType cd_X7_mark)))))) (cond (Nat.ble m 158) (cond (Nat.ble m 146) (cond (Nat.ble m 140) (cond (Nat.ble m 137) (cond (Nat.ble m 136) cd_X7_copy cd_X7_canPaste) (cond (Nat.ble m 138) cd_X7_isNode (cond (Nat.ble m 139) cd_X7_pastes cd_X7_paste))) (cond (Nat.ble m 143) (cond (Nat.ble m 141) cd_X7_builds (cond (Nat.ble m 142) cd_X7_takeBack cd_X7_inverts)) (cond (Nat.ble m 144) cd_X7_canRevert (cond (Nat.ble m 145) cd_X7_revert cd_X7_mapsComments)))) (cond (Nat.ble m 152) (cond (Nat.ble m 149) (cond (Nat.ble m 147) cd_X7_send (cond (Nat.ble m 148) cd_X7_rebases cd_X7_receive)) (cond (Nat.ble m 150) cd_X7_of (cond (Nat.ble m 151) cd_X7_lost cd_X7_version))) (cond (Nat.ble m 155) (cond (Nat.ble m 153) cd_X7_isBuilt (cond (Nat.ble m 154) cd_X7_size cd_X7_token)) (cond (Nat.ble m 156) cd_X7_around (cond (Nat.ble m 157) cd_X7_comment cd_X7_commentAt))))) (cond (Nat.ble m 169) (cond (Nat.ble m 163) (cond (Nat.ble m 160) (cond (Nat.ble m 159) cd_L_rule cd_L_type) (cond (Nat.ble m 161) cd_L_erase (cond (Nat.ble m 162) cd_L_split cd_L_join))) (cond (Nat.ble m 166) (cond (Nat.ble m 164) cd_L_wrap (cond (Nat.ble m 165) cd_L_unwrap cd_L_setType)) (cond (Nat.ble m 167) cd_L_mark (cond (Nat.ble m 168) cd_L_copy cd_L_paste)))) (cond (Nat.ble m 175) (cond (Nat.ble m 172) (cond (Nat.ble m 170) cd_L_takeBack (cond (Nat.ble m 171) cd_L_revert cd_L_send)) (cond (Nat.ble m 173) cd_L_receive (cond (Nat.ble m 174) cd_L_lost cd_L_version))) (cond (Nat.ble m 178) (cond (Nat.ble m 176) cd_L_size (cond (Nat.ble m 177) cd_L_token cd_L_around)) (cond (Nat.ble m 179) cd_L_comment (cond (Nat.ble m 180) cd_L_commentAt cd_L_law))))))))
noncomputable def sx_kd (a k : Nat) : Bool := match sx_mq[a]? with
  | some (kd, _) => Nat.beq kd k
  | none => false
noncomputable def sx_rob (ret : Option FieldType) : Bool := match ret with
  | some (.object _) => true
  | _ => false
noncomputable def sx_ok1 (own : String) (ini wrp : Bool) (ret : Option FieldType) (bs : ByteArray) (maxL fr lo : Nat) (full : List Nat) (x : Nat) (cs : List Nat) : Nat → Bool := fun op => match op with
  | 0 => sx_loc bs (sx_xp x) (sx_xa x) cs (.aload (sx_xa x)) (.aload_n (sx_f4 (sx_xa x)))
  | 1 => sx_fld own bs (sx_xp x) (Nat.mod (sx_xa x) 16) (sx_xb x) (sx_xc x) .getfield (fun _ _ => true) cs
  | 2 => sx_loc bs (sx_xp x) (sx_xa x) cs (.iload (sx_xa x)) (.iload_n (sx_f4 (sx_xa x)))
  | 3 => sx_cok bs (sx_xp x) (sx_xa x) (sx_xb x) (sx_xc x) cs
  | 4 => sx_kd (sx_xa x) 0 && sx_cal own bs (sx_xp x) fr lo (Nat.mod (sx_xb x) 16) 1 sx_m[sx_xa x]? lw_tbl[sx_xc x]? false .invokevirtual (sx_cls1 (Nat.div (sx_xb x) 16)) cs
  | 5 => sx_jmp bs (sx_xp x) full (sx_xb x) .goto
  | 6 => sx_dk bs (sx_xp x) (sx_la (sx_xa x)) 1 && sx_nx cs (sx_xp x + 1)
  | 7 => decide (ret = some .int) && sx_dk bs (sx_xp x) .ireturn 1
  | 8 => Nat.ble (sx_xa x) 8 && (sx_dk bs (sx_xp x) (sx_bi (sx_xa x)) 1 && sx_nx cs (sx_xp x + 1))
  | 9 => Nat.ble (sx_xa x + 1) maxL && sx_loc bs (sx_xp x) (sx_xa x) cs (.istore (sx_xa x)) (.istore_n (sx_f4 (sx_xa x)))
  | 10 => Nat.ble (sx_xa x) 5 && (sx_jmp bs (sx_xp x) full (sx_xb x) (.ifCond (sx_cc (sx_xa x))) && sx_nx cs (sx_xp x + 3))
  | 11 => Nat.ble (sx_xa x) 5 && (sx_jmp bs (sx_xp x) full (sx_xb x) (.if_icmp (sx_cc (sx_xa x))) && sx_nx cs (sx_xp x + 3))
  | 12 => sx_fld own bs (sx_xp x) (Nat.mod (sx_xa x) 16) (sx_xb x) (sx_xc x) .putfield (fun T k => !(T k).2.2.2 && sx_tc (Nat.div (sx_xa x) 16) (T k).2.2.1) cs
  | 13 => sx_kd (sx_xa x) 1 && sx_cal own bs (sx_xp x) fr lo (Nat.mod (sx_xb x) 16) 0 sx_m[sx_xa x]? lw_tbl[sx_xc x]? false .invokestatic (fun _ => true) cs
  | 14 => Nat.ble (sx_xa x + 1) maxL && (sx_dk bs (sx_xp x) (.iinc (sx_xa x) (sx_z (sx_xc x))) 3 && (decide (Int32.ofInt (sx_z (sx_xc x)) = nI (sx_xb x)) && sx_nx cs (sx_xp x + 3)))
  | 15 => sx_dk bs (sx_xp x) (sx_sa (sx_xa x)) 1 && sx_nx cs (sx_xp x + 1)
  | 16 => sx_dk bs (sx_xp x) .dup 1 && sx_nx cs (sx_xp x + 1)
  | 17 => decide (ret = none) && sx_dk bs (sx_xp x) .return_ 1
  | 18 => sx_kd (sx_xa x) 2 && sx_cal own bs (sx_xp x) fr lo 0 1 sx_m[sx_xa x]? lw_tbl[sx_xc x]? false .invokespecial (fun y => decide (y.name = "<init>")) cs
  | 19 => decide (ret = some .boolean) && sx_dk bs (sx_xp x) .ireturn 1
  | 20 => Nat.ble (sx_xa x) 7 && sx_cla own bs (sx_xp x) (sx_xc x) (sx_cln (sx_xa x)) .new cs
  | 21 => sx_dk bs (sx_xp x) .i2l 1 && sx_nx cs (sx_xp x + 1)
  | 22 => Nat.ble (sx_xa x + 1) maxL && sx_loc bs (sx_xp x) (sx_xa x) cs (.astore (sx_xa x)) (.astore_n (sx_f4 (sx_xa x)))
  | 23 => Nat.ble (sx_xa x) 2 && (sx_dk bs (sx_xp x) (.newarray (sx_at (sx_xa x))) 2 && (decide (lw_tbl[sx_xc x]? = some (Jvm.Cond.arrayClass (sx_ty (sx_xa x)))) && sx_nx cs (sx_xp x + 2)))
  | 24 => sx_dk bs (sx_xp x) .arraylength 1 && sx_nx cs (sx_xp x + 1)
  | 25 => sx_thr own bs (sx_xp x) fr lo (sx_xa x) (sx_xb x) (sx_xc x) .ldc 2
  | 26 => sx_dk bs (sx_xp x) .lcmp 1 && sx_nx cs (sx_xp x + 1)
  | 27 => sx_dk bs (sx_xp x) .aconst_null 1 && sx_nx cs (sx_xp x + 1)
  | 28 => sx_dk bs (sx_xp x) .dup2 1 && sx_nx cs (sx_xp x + 1)
  | 29 => sx_cla own bs (sx_xp x) (sx_xc x) (cond (Nat.beq (sx_xa x) 3) RX4 RX0) .anewarray cs
  | 30 => ini && sx_fld own bs (sx_xp x) (Nat.mod (sx_xa x) 16) (sx_xb x) (sx_xc x) .putfield (fun T k => (T k).2.2.2 && (decide ((T k).1 = own) && sx_tc (Nat.div (sx_xa x) 16) (T k).2.2.1)) cs
  | 31 => sx_jmp bs (sx_xp x) full (sx_xb x) .ifnull && sx_nx cs (sx_xp x + 3)
  | 32 => sx_dk bs (sx_xp x) .pop 1 && sx_nx cs (sx_xp x + 1)
  | 33 => sx_rob ret && sx_dk bs (sx_xp x) .areturn 1
  | 34 => sx_jdk own bs (sx_xp x) fr lo 1 21 (sx_xc x) Lib.Math.max.name .invokestatic cs
  | 35 => sx_jdk own bs (sx_xp x) fr lo 1 21 (sx_xc x) Lib.Math.min.name .invokestatic cs
  | 36 => sx_clo own bs (sx_xp x) fr lo (sx_xa x) (sx_xb x) (sx_xc x) cs
  | 37 => Nat.ble (sx_xa x) 1000 && sx_swi bs (sx_xp x) full (sx_xa x) (sx_xb x) (sx_xc x)
  | 38 => sx_jdk own bs (sx_xp x) fr lo 1 20 (sx_xc x) Lib.objectInit .invokespecial cs
  | 39 => wrp && (sx_kd (sx_xa x) 0 && sx_cal own bs (sx_xp x) fr lo (Nat.mod (sx_xb x) 16) 1 sx_m[sx_xa x]? lw_tbl[sx_xc x]? false .invokevirtual (sx_cls1 (Nat.mod (Nat.div (sx_xb x) 16) 16)) cs)
  | 40 => sx_kd (sx_xa x) 2 && sx_cal own bs (sx_xp x) fr lo 0 1 sx_m[sx_xa x]? lw_tbl[sx_xc x]? true .invokespecial (fun y => decide (y.name = "<init>")) cs
  | 41 => sx_kd (sx_xa x) 1 && sx_cal own bs (sx_xp x) fr lo (Nat.mod (sx_xb x) 16) 0 sx_m[sx_xa x]? lw_tbl[sx_xc x]? true .invokestatic (fun _ => true) cs
  | 43 => sx_kd (sx_xa x) 3 && sx_cal own bs (sx_xp x) fr lo (Nat.mod (sx_xb x) 16) 0 sx_m[sx_xa x]? lw_tbl[sx_xc x]? false .invokestatic (fun _ => true) cs
  | 42 => sx_thr own bs (sx_xp x) fr lo (sx_xa x) (sx_xb x) (sx_xc x) .ldc_w 3
  | _ => false
noncomputable def sx_okL (own : String) (ini wrp : Bool) (ret : Option FieldType) (bs : ByteArray) (maxL fr lo : Nat) (full : List Nat) : List Nat → Bool
  | [] => true
  | x :: cs => sx_ok1 own ini wrp ret bs maxL fr lo full x cs (sx_xq x) && sx_okL own ini wrp ret bs maxL fr lo full cs
noncomputable def sx_wk (y : MethodName) (bs : ByteArray) (mL : Nat) (ret : Option FieldType) (qc qi qs qn : Nat) : Nat → Bool := fun kd => match kd with
  | 0 => decide (lw_tbl[qc]? = some (Jvm.Cond.code y bs mL ret)) && (decide (lw_tbl[qn]? = some (Jvm.Cond.initialized y.cls)) && (decide (lw_tbl[qi]? = some (Jvm.Cond.instanceMethod y)) && decide (lw_tbl[qs]? = some (Jvm.Cond.selects y.cls y y))))
  | 1 => decide (lw_tbl[qc]? = some (Jvm.Cond.code y bs mL ret)) && (decide (lw_tbl[qn]? = some (Jvm.Cond.initialized y.cls)) && decide (lw_tbl[qi]? = some (Jvm.Cond.static y)))
  | 2 => (decide (lw_tbl[qc]? = some (Jvm.Cond.code y bs mL ret)) && (decide (lw_tbl[qn]? = some (Jvm.Cond.initialized y.cls)) && decide (lw_tbl[qi]? = some (Jvm.Cond.instanceMethod y)))) && decide (ret = none)
  | 3 => (match lw_tbl[qc]? with
    | some (Jvm.Cond.codeWith y' bs' mL' ret' _) => decide (y' = y) && (decide (bs' = bs) && (decide (mL' = mL) && decide (ret' = ret)))
    | _ => false) && (decide (lw_tbl[qn]? = some (Jvm.Cond.initialized y.cls)) && decide (lw_tbl[qi]? = some (Jvm.Cond.static y)))
  | _ => true
noncomputable def sx_lx (k : Nat) : Option Nat := match k with
  | 13 => some 0
  | 15 => some 1
  | 17 => some 2
  | _ => none
noncomputable def sx_hnd (bs : ByteArray) (hp v9 mL : Nat) : Bool := match decode bs hp with
  | .ok (.astore k, 2) => Nat.ble (k + 1) mL && (sx_dk bs (hp + 2) (.iconst (v9 : Int)) 1 && sx_dk bs (hp + 3) .ireturn 1)
  | .ok (.astore_n k, 1) => Nat.ble ((k : Nat) + 1) mL && (sx_dk bs (hp + 1) (.iconst (v9 : Int)) 1 && sx_dk bs (hp + 2) .ireturn 1)
  | _ => false
noncomputable def sx_cth (bs : ByteArray) (pc t v9 mL : Nat) : List (Nat × Nat × Nat × Nat) → Bool
  | [] => false
  | z :: r => match sx_lx z.2.2.2 with
    | some t' => cond (Nat.beq t' t) (covers ⟨z.1, z.2.1, z.2.2.1, z.2.2.2⟩ pc && sx_hnd bs z.2.2.1 v9 mL) (sx_cth bs pc t v9 mL r)
    | none => false
noncomputable def sx_wrk (qc : Nat) (bs : ByteArray) (mL : Nat) (cd : List Nat) : Bool := match lw_tbl[qc]? with
  | some (Jvm.Cond.codeWith _ _ _ _ hh) => cd.all (fun x => !(Nat.beq (sx_xq x) 39) || (List.range 3).all (fun t => Nat.beq (Nat.mod (Nat.div (Nat.div (sx_xb x) 256) (4 ^ t)) 4) 0 || sx_cth bs (sx_xp x) t (Nat.mod (Nat.div (Nat.div (sx_xb x) 256) (4 ^ t)) 4) mL hh))
  | _ => false
noncomputable def sx_okM (i : Nat) : Bool := match sx_m[i]?, sx_mq[i]? with
  | some (y, (bs, (mL, (ret, (f, l))))), some (kd, (qc, (qi, (qs, qn)))) => sx_okL y.cls (decide (y.name = "<init>")) (Nat.beq kd 3) ret bs mL f l (sx_cd i) (sx_cd i) && (sx_nx (sx_cd i) 0 && (plainName y.cls && (sx_mh y.cls && (sx_wk y bs mL ret qc qi qs qn kd && (!(Nat.beq kd 3) || (sx_wrk qc bs mL (sx_cd i) && (decide (y.cls = RL) && decide (ret = some .int))))))))
  | _, _ => false
end
section
/-! ===== the abstract machine tells what the machine does: pictures ===== -/
noncomputable def sx_c {I : Type} (g : I → Int32) (b scr : Nat) : sx_V I → Value
  | none => .null
  | some (.inl i) => .int (g i)
  | some (.inr (.inl k)) => .ref (b + k)
  | some (.inr (.inr (.inl i))) => .long (g i).toInt64
  | some (.inr (.inr (.inr _))) => .ref scr
noncomputable def sx_cq {I : Type} (g : I → Int32) (b scr : Nat) (q : Nat × sx_V I) : Nat × Value := (q.1, sx_c g b scr q.2)
theorem sx_c_cat {I : Type} (g : I → Int32) (b scr : Nat) (v : sx_V I) : (sx_c g b scr v).category = cond (sx_is2 v) 2 1 := by
  match v with
  | none => rfl
  | some (.inl i) => rfl
  | some (.inr (.inl k)) => rfl
  | some (.inr (.inr (.inl i))) => rfl
  | some (.inr (.inr (.inr _))) => rfl
theorem sx_lk_mem {I : Type} {ls : sx_L I} {i : Nat} {v : sx_V I} (h : sx_lk ls i = some v) : (i, v) ∈ ls := by
  induction ls with
  | nil => simp [sx_lk] at h
  | cons q r ih =>
    unfold sx_lk at h
    cases hb : Nat.beq q.1 i with
    | true =>
      rw [hb] at h
      have h1 : q.1 = i := Nat.eq_of_beq_eq_true hb
      have h2 : q.2 = v := Option.some.inj h
      rw [← h1, ← h2]
      exact List.mem_cons_self
    | false =>
      rw [hb] at h
      exact List.mem_cons_of_mem _ (ih h)
theorem sx_at9 {I : Type} {g : I → Int32} {b scr : Nat} {la : Array Slot} {nL : Nat} {ls : sx_L I} {i : Nat} {v : sx_V I} (hl : lv_has la nL (ls.map (sx_cq g b scr))) (h : sx_lk ls i = some v) : la[i]? = some (.val (sx_c g b scr v)) :=
  hl.2.2 (i, sx_c g b scr v) (List.mem_map.mpr ⟨(i, v), sx_lk_mem h, rfl⟩)
theorem sx_st_map {I : Type} (g : I → Int32) (b scr : Nat) (ls : sx_L I) (i : Nat) (v : sx_V I) : (i, sx_c g b scr v) :: (ls.map (sx_cq g b scr)).filter (fun q => !(q.1 == i) && !(q.1 + 1 == i && q.2.category == 2)) = (sx_st ls i v).map (sx_cq g b scr) := by
  unfold sx_st
  rw [List.map_cons, List.filter_map]
  refine congrArg (List.cons _) (congrArg (List.map _) (congrArg (fun f => List.filter f ls) ?_))
  funext q
  show (!(q.1 == i) && !(q.1 + 1 == i && (sx_c g b scr q.2).category == 2)) = _
  rw [sx_c_cat]
  cases sx_is2 q.2 <;> rfl
theorem sx_args_map {I : Type} (g : I → Int32) (b scr : Nat) (vs : List (sx_V I)) : ∀ i : Nat, lv_args i (vs.map (sx_c g b scr)) = (sx_args i vs).map (sx_cq g b scr) := by
  induction vs with
  | nil => intro i; rfl
  | cons v vs ih =>
    intro i
    show (i, sx_c g b scr v) :: lv_args (if (sx_c g b scr v).category = 2 then i + 2 else i + 1) (vs.map (sx_c g b scr)) = (i, sx_c g b scr v) :: (sx_args (cond (sx_is2 v) (i + 2) (i + 1)) vs).map (sx_cq g b scr)
    rw [sx_c_cat, ← ih]
    cases sx_is2 v <;> rfl
theorem sx_sw_sum {I : Type} (g : I → Int32) (b scr : Nat) (st : List (sx_V I)) : ((st.map (sx_c g b scr)).map fun v => v.category).sum = sx_sw st := by
  induction st with
  | nil => rfl
  | cons v r ih =>
    rw [List.map_cons, List.map_cons, List.sum_cons, ih, sx_c_cat]
    show _ = cond (sx_is2 v) (Nat.add (sx_sw r) 2) (Nat.add (sx_sw r) 1)
    cases sx_is2 v
    · exact Nat.add_comm _ _
    · exact Nat.add_comm _ _
noncomputable def sx_rd {I : Type} (tr : sx_T (sx_V I) 13) (j : Nat) : sx_V I := (sx_tg 13 tr j).getD none
noncomputable def sx_cell {I : Type} (g : I → Int32) (b scr : Nat) (D : va_G) (s : State) (H : Heap) (k : Nat) : sx_E I → Prop
  | .inl x => va_at D vwCl (b + k, .inr (x.1, x.2.map (sx_c g b scr))) H
  | .inr x => ∃ cA : ClassId, H[b + k]? = some (arrV cA x.2.1 (fun j => sx_c g b scr (sx_rd x.2.2 j))) ∧ ArrOfT s cA (sx_ty x.1) ∧ va_RA s cA (sx_ty x.1)
noncomputable def sx_Rep {I : Type} (g : I → Int32) (b scr : Nat) (D : va_G) (s : State) (h : sx_H I) (H : Heap) : Prop :=
  (∀ (k : Nat) (e : sx_E I), sx_hg h k = some e → sx_cell g b scr D s H k e) ∧ b + h.2.1 ≤ H.size ∧ (h.2.2.2.2 = true → H.size = b + h.2.1) ∧ ∀ (k : Nat) (e : sx_E I), sx_hg h k = some e → k < h.2.1
theorem sx_cell_lt {I : Type} {g : I → Int32} {b scr : Nat} {D : va_G} {s : State} {H : Heap} {k : Nat} {e : sx_E I} (h : sx_cell g b scr D s H k e) : b + k < H.size := by
  cases e with
  | inl x => exact va_at.lt (q := (b + k, .inr (x.1, x.2.map (sx_c g b scr)))) h
  | inr x =>
    obtain ⟨cA, h1, -⟩ := h
    exact (Array.getElem?_eq_some_iff.mp h1).1
theorem sx_cell_kept {I : Type} {g : I → Int32} {b scr : Nat} {D : va_G} {s : State} {H H1 : Heap} {k : Nat} {e : sx_E I} (h : sx_cell g b scr D s H k e) (hq : H1[b + k]? = H[b + k]?) : sx_cell g b scr D s H1 k e := by
  cases e with
  | inl x => exact va_at.kept (q := (b + k, .inr (x.1, x.2.map (sx_c g b scr)))) h hq
  | inr x =>
    obtain ⟨cA, h1, h2⟩ := h
    exact ⟨cA, hq.trans h1, h2⟩
theorem sx_cell_moved {I : Type} {g : I → Int32} {b scr : Nat} {D : va_G} {s U : State} {H : Heap} {k : Nat} {e : sx_E I} (hvm : s.vm.Alike U.vm) (h : sx_cell g b scr D s H k e) : sx_cell g b scr D U H k e := by
  cases e with
  | inl x => exact h
  | inr x =>
    obtain ⟨cA, h1, h2, h3⟩ := h
    exact ⟨cA, h1, arrOfT_moved hvm h2, h3.moved hvm⟩
theorem sx_Rep_moved {I : Type} {g : I → Int32} {b scr : Nat} {D : va_G} {s U : State} {h : sx_H I} {H : Heap} (hvm : s.vm.Alike U.vm) (hR : sx_Rep g b scr D s h H) : sx_Rep g b scr D U h H :=
  ⟨fun k e hk => sx_cell_moved hvm (hR.1 k e hk), hR.2⟩
theorem sx_hg_tg {I : Type} {h : sx_H I} {k : Nat} {e : sx_E I} (hk : sx_hg h k = some e) : sx_tg 10 h.1 k = some (some e) := by
  unfold sx_hg at hk
  split at hk
  · next e' he => rw [he]; exact congrArg some hk
  · cases hk
theorem sx_hg_of {I : Type} {h : sx_H I} {k : Nat} {e : sx_E I} (hk : sx_tg 10 h.1 k = some (some e)) : sx_hg h k = some e := by
  unfold sx_hg
  rw [hk]
theorem sx_hg_eq {I : Type} {h h' : sx_H I} {k : Nat} (hk : sx_tg 10 h.1 k = sx_tg 10 h'.1 k) : sx_hg h k = sx_hg h' k := by
  unfold sx_hg
  rw [hk]
theorem sx_hg_hs {I : Type} {h : sx_H I} {k : Nat} {e0 : sx_E I} (e1 : sx_E I) (hk : sx_hg h k = some e0) : sx_hg (sx_hs h k e1) k = some e1 :=
  sx_hg_of (sx_tg_same 10 h.1 k _ (some e1) (sx_hg_tg hk))
theorem sx_hg_hs_ne {I : Type} {h : sx_H I} {k j : Nat} (e1 : sx_E I) (hj : j ≠ k) : sx_hg (sx_hs h k e1) j = sx_hg h j :=
  sx_hg_eq (sx_tg_ne 10 h.1 k j (some e1) hj)
theorem sx_hg_hn {I : Type} {h : sx_H I} (e1 : sx_E I) (sl : Nat) (hn : h.2.1 + 1 ≤ 1024) : sx_hg (sx_hn h e1 sl) h.2.1 = some e1 := by
  obtain ⟨w, hw⟩ := sx_tg_some 10 h.1 h.2.1 (show h.2.1 < 1024 by omega)
  exact sx_hg_of (sx_tg_same 10 h.1 h.2.1 w (some e1) hw)
theorem sx_hg_hn_ne {I : Type} {h : sx_H I} (e1 : sx_E I) (sl : Nat) {j : Nat} (hj : j ≠ h.2.1) : sx_hg (sx_hn h e1 sl) j = sx_hg h j :=
  sx_hg_eq (sx_tg_ne 10 h.1 h.2.1 j (some e1) hj)
theorem sx_Rep_set {I : Type} {g : I → Int32} {b scr : Nat} {D : va_G} {s : State} {h : sx_H I} {H H1 : Heap} {k : Nat} {e0 e1 : sx_E I} (hR : sx_Rep g b scr D s h H) (hk : sx_hg h k = some e0) (hc : sx_cell g b scr D s H1 k e1) (z : H1.size = H.size) (oq : ∀ q : Nat, q ≠ b + k → H1[q]? = H[q]?) : sx_Rep g b scr D s (sx_hs h k e1) H1 := by
  refine ⟨fun j e hj => ?_, by rw [z]; exact hR.2.1, fun hx => by rw [z]; exact hR.2.2.1 hx, fun j e hj => ?_⟩
  · by_cases hjk : j = k
    · subst hjk
      rw [sx_hg_hs e1 hk] at hj
      cases hj
      exact hc
    · rw [sx_hg_hs_ne e1 hjk] at hj
      exact sx_cell_kept (hR.1 j e hj) (oq _ (by omega))
  · by_cases hjk : j = k
    · subst hjk
      exact hR.2.2.2 j e0 hk
    · rw [sx_hg_hs_ne e1 hjk] at hj
      exact hR.2.2.2 j e hj
theorem sx_Rep_push {I : Type} {g : I → Int32} {b scr : Nat} {D : va_G} {s : State} {h : sx_H I} {H H1 : Heap} {e1 : sx_E I} (sl : Nat) (hR : sx_Rep g b scr D s h H) (hx : h.2.2.2.2 = true) (hn : h.2.1 + 1 ≤ 1024) (hc : sx_cell g b scr D s H1 h.2.1 e1) (z : H1.size = H.size + 1) (oq : ∀ q : Nat, q < H.size → H1[q]? = H[q]?) : sx_Rep g b scr D s (sx_hn h e1 sl) H1 := by
  have hz := hR.2.2.1 hx
  refine ⟨fun j e hj => ?_, ?_, fun _ => ?_, fun j e hj => ?_⟩
  · by_cases hjk : j = h.2.1
    · subst hjk
      rw [sx_hg_hn e1 sl hn] at hj
      cases hj
      exact hc
    · rw [sx_hg_hn_ne e1 sl hjk] at hj
      have h1 := hR.1 j e hj
      exact sx_cell_kept h1 (oq _ (sx_cell_lt h1))
  · show b + (h.2.1 + 1) ≤ H1.size
    omega
  · show H1.size = b + (h.2.1 + 1)
    omega
  · show j < h.2.1 + 1
    by_cases hjk : j = h.2.1
    · omega
    · rw [sx_hg_hn_ne e1 sl hjk] at hj
      have := hR.2.2.2 j e hj
      omega
/-! ===== what the tables say ===== -/
noncomputable def sx_goods : List Jvm.Cond := lw_tbl.filter goodWord
noncomputable def sx_ngk : Jvm.Cond → Bool
  | .methodLinkNest .. => true
  | .fieldLinkNest .. => true
  | .castable .. => true
  | .declares .. => true
  | _ => false
noncomputable def sx_ng : List Jvm.Cond := lw_tbl.filter sx_ngk
theorem sx_wg {args : Array Value} {s : State} (hts : ∀ w ∈ sx_goods, w.before args s = true) {q : Nat} {w : Jvm.Cond} (hq : lw_tbl[q]? = some w) (hg : goodWord w = true) : w.before args s = true :=
  hts w (List.mem_filter.mpr ⟨List.mem_of_getElem? hq, hg⟩)
theorem sx_wn {s : State} (hts : ∀ w ∈ sx_ng, va_Nw w s) {q : Nat} {w : Jvm.Cond} (hq : lw_tbl[q]? = some w) (hg : sx_ngk w = true) : va_Nw w s :=
  hts w (List.mem_filter.mpr ⟨List.mem_of_getElem? hq, hg⟩)
theorem sx_ng_moved {s U : State} (hW : s.WarmedH U.vm) {w : Jvm.Cond} (hk : sx_ngk w = true) (h : va_Nw w s) : va_Nw w U := by
  cases w <;> first | (cases hk; done) | exact va_Nw.warmM hW h | exact va_Nw.warmF hW h | exact va_Nw.warmC hW h | exact va_Nw.warmD hW h
/-- a static array of the class's -/
noncomputable def sx_Sta (b a : Nat) (s : State) : Prop := ∃ (t : Nat) (cell : Cell), va_Z RX6 (sx_fn a) "[I" (.ref t) (fun q => b ≤ q) s s.heap ∧ s.heap[t]? = some cell ∧ (∀ k, cell.vm ≠ .statics k) ∧ cell.vm ≠ .unknown ∧ ArrOfT s cell.cls .int ∧ va_RA s cell.cls .int ∧ cell.slots = (arrV cell.cls 18 (fun j => .int (nI ((sx_sv a).getD j 0)))).slots ∧ t < b
noncomputable def sx_KK (b scr L : Nat) (xs : Nat → Int32) (D : va_G) (s : State) : Prop :=
  va_K D vwCl [] s ∧ (∀ w ∈ sx_ng, va_Nw w s) ∧ (va_AO RX4 s ∧ va_AO RX0 s) ∧ (vx_Zq Bundle.tN "UNASSIGNED_STACK" Bundle.steD (fun q => b ≤ q) s s.heap ∧ vx_Zq Bundle.tN "SUPPRESSED_SENTINEL" Bundle.listD (fun q => b ≤ q) s s.heap) ∧ (∀ (i : Nat) (tx : String), Jvm.Cond.stringRef RX6 i tx ∈ lw_tbl → ∃ sa, vk_R RX6 i tx sa s) ∧ (va_X scr L xs s s.heap ∧ scr < b) ∧ (sx_Sta b 0 s ∧ sx_Sta b 1 s) ∧ (∀ a a' : Nat, a < 3 → a' < 3 → a ≠ a' → va_Nc (sx_en a) (sx_en a') s) ∧ b ≤ s.heap.size
theorem sx_Sta_moved {b a : Nat} {s U : State} (hW : s.WarmedH U.vm) (hh : ∀ q : Nat, q < b → U.heap[q]? = s.heap[q]?) (h : sx_Sta b a s) : sx_Sta b a U := by
  obtain ⟨t, cell, h1, h2, h6, h7, h3, h4, h8, h5⟩ := h
  exact ⟨t, cell, (h1.kept (fun q _ hq => hh q (Nat.not_le.mp hq))).moved hW.alike, (hh t h5).trans h2, h6, h7, arrOfT_moved hW.alike h3, h4.moved hW.alike, h8, h5⟩
theorem sx_KK_moved {b scr L : Nat} {xs : Nat → Int32} {D : va_G} {s U : State} (hW : s.WarmedH U.vm) (hh : ∀ q : Nat, q < b → U.heap[q]? = s.heap[q]?) (hz : b ≤ U.heap.size) (h : sx_KK b scr L xs D s) : sx_KK b scr L xs D U := by
  obtain ⟨h1, h2, ⟨h3, h3'⟩, ⟨h4, h4'⟩, h5, ⟨h6, h6'⟩, ⟨h7, h7'⟩, h8, h9⟩ := h
  exact ⟨va_K.moved hW.alike h1, fun w hw => sx_ng_moved hW (List.mem_filter.mp hw).2 (h2 w hw), ⟨va_AO.moved hW.alike h3, va_AO.moved hW.alike h3'⟩,
    ⟨(h4.kept (fun q _ hq => hh q (Nat.not_le.mp hq))).moved hW.alike, (h4'.kept (fun q _ hq => hh q (Nat.not_le.mp hq))).moved hW.alike⟩,
    fun i tx hi => by obtain ⟨sa, hsa⟩ := h5 i tx hi; exact ⟨sa, hsa.warm hW⟩,
    ⟨(h6.kept (hh scr h6')).moved hW.alike, h6'⟩, ⟨sx_Sta_moved hW hh h7, sx_Sta_moved hW hh h7'⟩, fun a a' ha ha' hn => va_Nc.moved hW.alike (h8 a a' ha ha' hn), hz⟩
end
section
/-! ===== the abstract machine tells what the machine does: an instruction ===== -/
noncomputable def sx_cb (k : Nat) (x y z : Int32) : Prop := match k with
  | 0 => z = x + y
  | 1 => z = x - y
  | 2 => z = x * y
  | 3 => z = x &&& y
  | 4 => z = x ||| y
  | 5 => z = x ^^^ y
  | 6 => z = x <<< (y &&& 31)
  | 7 => z = x >>> (y &&& 31)
  | 8 => ¬ y = 0 ∧ z = x - x / y * y
  | _ => False
noncomputable def sx_ct (k : Nat) (x y : Int32) : Prop := match k with
  | 0 => x = y
  | 1 => ¬ x = y
  | 2 => x < y
  | 3 => y ≤ x
  | 4 => y < x
  | _ => x ≤ y
noncomputable def sx_Law {I : Type} (o : sx_O I) (g : I → Int32) (L : Nat) (xs : Nat → Int32) : Prop :=
  (∀ n : Nat, g (o.1 n) = nI n) ∧ (∀ (k : Nat) (i j v : I), o.2.1 k i j = some v → sx_cb k (g i) (g j) (g v)) ∧ (∀ (k : Nat) (i j : I) (v : Bool), o.2.2.1 k i j = some v → (v = true ↔ sx_ct k (g i) (g j))) ∧
  (∀ (i : I) (n : Nat), o.2.2.2.1 i = some n → g i = nI n) ∧ o.2.2.2.2.1 = L ∧ L < 2 ^ 31 ∧ ∀ j : Nat, j < L → g (o.2.2.2.2.2 j) = xs j
theorem sx_nx_pc {cs : List Nat} {q : Nat} (h : sx_nx cs q = true) : sx_pc cs = some q := by
  cases cs with
  | nil => cases h
  | cons x r => exact congrArg some (Nat.eq_of_beq_eq_true h)
theorem sx_dk_ok {bs : ByteArray} {pc : Nat} {i : Instr} {k : Nat} (h : sx_dk bs pc i k = true) : decode bs pc = .ok (i, k) := of_decide_eq_true h
theorem sx_f4_val {a : Nat} (h : a + 1 ≤ 4) : ((sx_f4 a : Fin 4) : Nat) = a := by
  match a, h with
  | 0, _ => rfl
  | 1, _ => rfl
  | 2, _ => rfl
  | 3, _ => rfl
  | n + 4, h => omega
theorem sx_P1 {D : va_G} {q : Nat × va_E} {H : Heap} (h : va_at D vwCl q H) : va_P D vwCl [q] H := fun k q' hk => by
  cases k with
  | zero => cases hk; exact h
  | succ k => simp at hk
/-- the claim at a place of a method: what the frame comes to -/
noncomputable def sx_Cm (p : Program) (l : Launch) (e : Env) (R : Room) (s : State) (m : MethodId) (args : Array Value) (below : List Frame) (meth : Method) (c : Code) (Q : State → Prop) {I : Type} (g : I → Int32) (b scr : Nat) (D : va_G) (h0 : sx_H I) (cs : List Nat) (ls : sx_L I) (st : List (sx_V I)) (h : sx_H I) : Prop :=
  ∀ (H : Heap) (locs : List Loc) (cells slots : Nat) (la : Array Slot) (pc : Nat), sx_pc cs = some pc → lv_has la c.maxLocals (ls.map (sx_cq g b scr)) → sx_Rep g b scr D s h H → va_S (fun q => b ≤ q) s.heap H locs → h0.2.2.1 + cells = h.2.2.1 → h0.2.2.2.1 + slots = h.2.2.2.1 →
    W p l e R s m args below meth c H locs cells slots Q (F0 m pc la (st.map (sx_c g b scr)))
section SN
variable {p : Program} {l : Launch} {e : Env} {R : Room} {s : State} {m : MethodId} {args : Array Value} {below : List Frame} {meth : Method} {c : Code} {Q : State → Prop}
variable {I : Type} {o : sx_O I} {g : I → Int32} {b scr L : Nat} {xs : Nat → Int32} {D : va_G} {h0 : sx_H I} {bs : ByteArray} {own : String} {full cs : List Nat} {x a k q : Nat} {ls : sx_L I} {st : List (sx_V I)} {h : sx_H I} {out : sx_R I} {go : sx_G I}
theorem sn_iload (hx : p.tables.exec = Jvm.exec) (hb : c.code = bs) (hok : sx_loc bs (sx_xp x) a cs (.iload a) (.iload_n (sx_f4 a)) = true) (hgo : ∀ ls st h, go cs ls st h = some out → sx_Cm p l e R s m args below meth c Q g b scr D h0 cs ls st h) (er : sh_iload go a cs ls st h = some out) : sx_Cm p l e R s m args below meth c Q g b scr D h0 (x :: cs) ls st h := by
  unfold sh_iload at er
  split at er
  · next i hi =>
    intro H locs cells slots la pc hpc hl hP hS hc hs
    have hpc' : sx_xp x = pc := Option.some.inj hpc
    subst hpc'
    have hq := sx_at9 hl hi
    unfold sx_loc at hok
    simp only [Bool.or_eq_true, Bool.and_eq_true] at hok
    rcases hok with ⟨h1, h2⟩ | ⟨h1, h2, h3⟩
    · exact lv_iload (x := g i) hx hb (sx_dk_ok h1) hq (hgo _ _ _ er H locs cells slots la _ (sx_nx_pc h2) hl hP hS hc hs)
    · exact lv_iload_n (x := g i) hx hb (sx_dk_ok h2) (sx_f4_val (Nat.le_of_ble_eq_true h1)) hq (hgo _ _ _ er H locs cells slots la _ (sx_nx_pc h3) hl hP hS hc hs)
  · cases er
theorem sn_aload (hx : p.tables.exec = Jvm.exec) (hb : c.code = bs) (hok : sx_loc bs (sx_xp x) a cs (.aload a) (.aload_n (sx_f4 a)) = true) (hgo : ∀ ls st h, go cs ls st h = some out → sx_Cm p l e R s m args below meth c Q g b scr D h0 cs ls st h) (er : sh_aload go a cs ls st h = some out) : sx_Cm p l e R s m args below meth c Q g b scr D h0 (x :: cs) ls st h := by
  unfold sh_aload at er
  intro H locs cells slots la pc hpc hl hP hS hc hs
  have hpc' : sx_xp x = pc := Option.some.inj hpc
  subst hpc'
  unfold sx_loc at hok
  simp only [Bool.or_eq_true, Bool.and_eq_true] at hok
  split at er
  · next k9 hi =>
    have hq := sx_at9 hl hi
    rcases hok with ⟨h1, h2⟩ | ⟨h1, h2, h3⟩
    · exact lv_aload (x := b + k9) hx hb (sx_dk_ok h1) hq (hgo _ _ _ er H locs cells slots la _ (sx_nx_pc h2) hl hP hS hc hs)
    · exact lv_aload_n (x := b + k9) hx hb (sx_dk_ok h2) (sx_f4_val (Nat.le_of_ble_eq_true h1)) hq (hgo _ _ _ er H locs cells slots la _ (sx_nx_pc h3) hl hP hS hc hs)
  · next hi =>
    have hq := sx_at9 hl hi
    rcases hok with ⟨h1, h2⟩ | ⟨h1, h2, h3⟩
    · exact lv_aloadN hx hb (sx_dk_ok h1) hq (hgo _ _ _ er H locs cells slots la _ (sx_nx_pc h2) hl hP hS hc hs)
    · exact lv_aload_nN hx hb (sx_dk_ok h2) (sx_f4_val (Nat.le_of_ble_eq_true h1)) hq (hgo _ _ _ er H locs cells slots la _ (sx_nx_pc h3) hl hP hS hc hs)
  · next u hi =>
    have hq := sx_at9 hl hi
    rcases hok with ⟨h1, h2⟩ | ⟨h1, h2, h3⟩
    · exact lv_aload (x := scr) hx hb (sx_dk_ok h1) hq (hgo _ _ _ er H locs cells slots la _ (sx_nx_pc h2) hl hP hS hc hs)
    · exact lv_aload_n (x := scr) hx hb (sx_dk_ok h2) (sx_f4_val (Nat.le_of_ble_eq_true h1)) hq (hgo _ _ _ er H locs cells slots la _ (sx_nx_pc h3) hl hP hS hc hs)
  · cases er
theorem sn_const (hx : p.tables.exec = Jvm.exec) (hb : c.code = bs) (hk : ∀ n : Nat, g (o.1 n) = nI n) {b9 c9 : Nat} (hok : sx_cok bs (sx_xp x) a b9 c9 cs = true) (hgo : ∀ ls st h, go cs ls st h = some out → sx_Cm p l e R s m args below meth c Q g b scr D h0 cs ls st h) (er : sh_const o go a cs ls st h = some out) : sx_Cm p l e R s m args below meth c Q g b scr D h0 (x :: cs) ls st h := by
  unfold sh_const at er
  intro H locs cells slots la pc hpc hl hP hS hc hs
  have hpc' : sx_xp x = pc := Option.some.inj hpc
  subst hpc'
  have k9 : ∀ pc', sx_pc cs = some pc' → W p l e R s m args below meth c H locs cells slots Q (F0 m pc' la (.int (nI a) :: st.map (sx_c g b scr))) := fun pc' h9 => by
    rw [← hk a]
    exact hgo _ _ _ er H locs cells slots la _ h9 hl hP hS hc hs
  unfold sx_cok at hok
  split at hok <;> simp only [Bool.and_eq_true] at hok <;> obtain ⟨h1, h2, h3⟩ := hok
  · exact lv_iconst hx hb (sx_dk_ok h1) (of_decide_eq_true h2) (k9 _ (sx_nx_pc h3))
  · exact lv_bipush hx hb (sx_dk_ok h1) (of_decide_eq_true h2) (k9 _ (sx_nx_pc h3))
  · exact lv_sipush hx hb (sx_dk_ok h1) (of_decide_eq_true h2) (k9 _ (sx_nx_pc h3))
theorem sn_istore (hx : p.tables.exec = Jvm.exec) (hb : c.code = bs) (hn : a < c.maxLocals) (hok : sx_loc bs (sx_xp x) a cs (.istore a) (.istore_n (sx_f4 a)) = true) (hgo : ∀ ls st h, go cs ls st h = some out → sx_Cm p l e R s m args below meth c Q g b scr D h0 cs ls st h) (er : sh_istore go a cs ls st h = some out) : sx_Cm p l e R s m args below meth c Q g b scr D h0 (x :: cs) ls st h := by
  unfold sh_istore at er
  split at er
  · next i r =>
    intro H locs cells slots la pc hpc hl hP hS hc hs
    have hpc' : sx_xp x = pc := Option.some.inj hpc
    subst hpc'
    unfold sx_loc at hok
    simp only [Bool.or_eq_true, Bool.and_eq_true] at hok
    rcases hok with ⟨h1, h2⟩ | ⟨h1, h2, h3⟩
    · exact lv_istore (x := g i) hx hb (sx_dk_ok h1) hl hn (sx_st_map g b scr ls a (some (.inl i))) (fun la' hl' => hgo _ _ _ er H locs cells slots la' _ (sx_nx_pc h2) hl' hP hS hc hs)
    · exact lv_istore_n (x := g i) hx hb (sx_dk_ok h2) (sx_f4_val (Nat.le_of_ble_eq_true h1)) hl hn (sx_st_map g b scr ls a (some (.inl i))) (fun la' hl' => hgo _ _ _ er H locs cells slots la' _ (sx_nx_pc h3) hl' hP hS hc hs)
  · cases er
theorem sn_astore (hx : p.tables.exec = Jvm.exec) (hb : c.code = bs) (hn : a < c.maxLocals) (hok : sx_loc bs (sx_xp x) a cs (.astore a) (.astore_n (sx_f4 a)) = true) (hgo : ∀ ls st h, go cs ls st h = some out → sx_Cm p l e R s m args below meth c Q g b scr D h0 cs ls st h) (er : sh_astore go a cs ls st h = some out) : sx_Cm p l e R s m args below meth c Q g b scr D h0 (x :: cs) ls st h := by
  unfold sh_astore at er
  split at er
  · next i r =>
    intro H locs cells slots la pc hpc hl hP hS hc hs
    have hpc' : sx_xp x = pc := Option.some.inj hpc
    subst hpc'
    unfold sx_loc at hok
    simp only [Bool.or_eq_true, Bool.and_eq_true] at hok
    rcases hok with ⟨h1, h2⟩ | ⟨h1, h2, h3⟩
    · exact lv_astore (x := b + i) hx hb (sx_dk_ok h1) hl hn (sx_st_map g b scr ls a (some (.inr (.inl i)))) (fun la' hl' => hgo _ _ _ er H locs cells slots la' _ (sx_nx_pc h2) hl' hP hS hc hs)
    · exact lv_astore_n (x := b + i) hx hb (sx_dk_ok h2) (sx_f4_val (Nat.le_of_ble_eq_true h1)) hl hn (sx_st_map g b scr ls a (some (.inr (.inl i)))) (fun la' hl' => hgo _ _ _ er H locs cells slots la' _ (sx_nx_pc h3) hl' hP hS hc hs)
  · next r =>
    intro H locs cells slots la pc hpc hl hP hS hc hs
    have hpc' : sx_xp x = pc := Option.some.inj hpc
    subst hpc'
    unfold sx_loc at hok
    simp only [Bool.or_eq_true, Bool.and_eq_true] at hok
    rcases hok with ⟨h1, h2⟩ | ⟨h1, h2, h3⟩
    · exact lv_astoreN hx hb (sx_dk_ok h1) hl hn (sx_st_map g b scr ls a none) (fun la' hl' => hgo _ _ _ er H locs cells slots la' _ (sx_nx_pc h2) hl' hP hS hc hs)
    · exact lv_astore_nN hx hb (sx_dk_ok h2) (sx_f4_val (Nat.le_of_ble_eq_true h1)) hl hn (sx_st_map g b scr ls a none) (fun la' hl' => hgo _ _ _ er H locs cells slots la' _ (sx_nx_pc h3) hl' hP hS hc hs)
  · cases er
theorem sn_iinc (hx : p.tables.exec = Jvm.exec) (hb : c.code = bs) (hLw : sx_Law o g L xs) (hn : a < c.maxLocals) {b9 c9 : Nat} (hd : sx_dk bs (sx_xp x) (.iinc a (sx_z c9)) 3 = true) (hz : Int32.ofInt (sx_z c9) = nI b9) (hnx : sx_nx cs (sx_xp x + 3) = true) (hgo : ∀ ls st h, go cs ls st h = some out → sx_Cm p l e R s m args below meth c Q g b scr D h0 cs ls st h) (er : sh_iinc o go a b9 cs ls st h = some out) : sx_Cm p l e R s m args below meth c Q g b scr D h0 (x :: cs) ls st h := by
  unfold sh_iinc at er
  split at er
  · next i hi =>
    split at er
    · next v hv =>
      intro H locs cells slots la pc hpc hl hP hS hc hs
      have hpc' : sx_xp x = pc := Option.some.inj hpc
      subst hpc'
      have h1 : g v = g i + g (o.1 b9) := hLw.2.1 0 _ _ _ hv
      have hm : (a, Value.int (g i)) ∈ ls.map (sx_cq g b scr) := List.mem_map.mpr ⟨(a, some (.inl i)), sx_lk_mem hi, rfl⟩
      obtain ⟨n, hk⟩ := List.getElem?_of_mem hm
      exact lv_iinc (x := g i) (v := g v) hx hb (sx_dk_ok hd) hl hk (by rw [hz, h1, hLw.1]) hn (sx_st_map g b scr ls a (some (.inl v))) (fun la' hl' => hgo _ _ _ er H locs cells slots la' _ (sx_nx_pc hnx) hl' hP hS hc hs)
    · cases er
  · cases er
theorem sn_bin (hx : p.tables.exec = Jvm.exec) (hb : c.code = bs) (hLw : sx_Law o g L xs) (ha : a ≤ 8) (hd : sx_dk bs (sx_xp x) (sx_bi a) 1 = true) (hnx : sx_nx cs (sx_xp x + 1) = true) (hgo : ∀ ls st h, go cs ls st h = some out → sx_Cm p l e R s m args below meth c Q g b scr D h0 cs ls st h) (er : sh_bin o go a cs ls st h = some out) : sx_Cm p l e R s m args below meth c Q g b scr D h0 (x :: cs) ls st h := by
  unfold sh_bin at er
  split at er
  · next j i r =>
    split at er
    · next v hv =>
      intro H locs cells slots la pc hpc hl hP hS hc hs
      have hpc' : sx_xp x = pc := Option.some.inj hpc
      subst hpc'
      have h1 := hLw.2.1 a _ _ _ hv
      have kk := hgo _ _ _ er H locs cells slots la _ (sx_nx_pc hnx) hl hP hS hc hs
      have kk' : W p l e R s m args below meth c H locs cells slots Q (F0 m (sx_xp x + 1) la (.int (g v) :: r.map (sx_c g b scr))) := kk
      show W p l e R s m args below meth c H locs cells slots Q (F0 m (sx_xp x) la (.int (g j) :: .int (g i) :: r.map (sx_c g b scr)))
      have hd' := sx_dk_ok hd
      rcases (show a = 0 ∨ a = 1 ∨ a = 2 ∨ a = 3 ∨ a = 4 ∨ a = 5 ∨ a = 6 ∨ a = 7 ∨ a = 8 by omega) with rfl | rfl | rfl | rfl | rfl | rfl | rfl | rfl | rfl
      · have h2 : g v = g i + g j := h1
        rw [h2] at kk'; exact lv_iadd hx hb hd' kk'
      · have h2 : g v = g i - g j := h1
        rw [h2] at kk'; exact lv_isub hx hb hd' kk'
      · have h2 : g v = g i * g j := h1
        rw [h2] at kk'; exact lv_imul hx hb hd' kk'
      · have h2 : g v = g i &&& g j := h1
        rw [h2] at kk'; exact lv_iand hx hb hd' kk'
      · have h2 : g v = g i ||| g j := h1
        rw [h2] at kk'; exact lv_ior hx hb hd' kk'
      · have h2 : g v = g i ^^^ g j := h1
        rw [h2] at kk'; exact lv_ixor hx hb hd' kk'
      · have h2 : g v = g i <<< (g j &&& 31) := h1
        rw [h2] at kk'; exact lv_ishl hx hb hd' kk'
      · have h2 : g v = g i >>> (g j &&& 31) := h1
        rw [h2] at kk'; exact lv_ishr hx hb hd' kk'
      · have h2 : ¬ g j = 0 ∧ g v = g i - g i / g j * g j := h1
        rw [h2.2] at kk'; exact lv_irem hx hb hd' h2.1 kk'
    · cases er
  · cases er
theorem sn_i2l (hx : p.tables.exec = Jvm.exec) (hb : c.code = bs) (hd : sx_dk bs (sx_xp x) .i2l 1 = true) (hnx : sx_nx cs (sx_xp x + 1) = true) (hgo : ∀ ls st h, go cs ls st h = some out → sx_Cm p l e R s m args below meth c Q g b scr D h0 cs ls st h) (er : sh_i2l go cs ls st h = some out) : sx_Cm p l e R s m args below meth c Q g b scr D h0 (x :: cs) ls st h := by
  unfold sh_i2l at er
  split at er
  · next i r =>
    intro H locs cells slots la pc hpc hl hP hS hc hs
    have hpc' : sx_xp x = pc := Option.some.inj hpc
    subst hpc'
    exact lv_i2l (x := g i) hx hb (sx_dk_ok hd) rfl (hgo _ _ _ er H locs cells slots la _ (sx_nx_pc hnx) hl hP hS hc hs)
  · cases er
theorem sx_lcmp0 (x : Int32) : lg_cmp x.toInt64 x.toInt64 = 0 := by
  unfold lg_cmp
  simp
theorem sx_lcmp1 {x y : Int32} (h : x < y) : lg_cmp x.toInt64 y.toInt64 = -1 := by
  unfold lg_cmp
  have h1 : x.toInt < y.toInt := Int32.lt_iff_toInt_lt.mp h
  have h2 : x.toInt64.toInt = x.toInt := by simp
  have h3 : y.toInt64.toInt = y.toInt := by simp
  rw [if_neg (fun q => by rw [gt_iff_lt, Int64.lt_iff_toInt_lt, h2, h3] at q; omega), if_neg (fun q => by have := congrArg Int64.toInt q; rw [h2, h3] at this; omega)]
theorem sx_lcmp2 {x y : Int32} (h : ¬ x < y) (hn : ¬ x = y) : lg_cmp x.toInt64 y.toInt64 = 1 := by
  unfold lg_cmp
  have h1 : ¬ x.toInt < y.toInt := fun q => h (Int32.lt_iff_toInt_lt.mpr q)
  have h0 : x.toInt ≠ y.toInt := fun q => hn (Int32.toInt_inj.mp q)
  have h2 : x.toInt64.toInt = x.toInt := by simp
  have h3 : y.toInt64.toInt = y.toInt := by simp
  rw [if_pos (by rw [gt_iff_lt, Int64.lt_iff_toInt_lt, h2, h3]; omega)]
theorem sn_lcmp (hx : p.tables.exec = Jvm.exec) (hb : c.code = bs) (hLw : sx_Law o g L xs) (hd : sx_dk bs (sx_xp x) .lcmp 1 = true) (hnx : sx_nx cs (sx_xp x + 1) = true) (hgo : ∀ ls st h, go cs ls st h = some out → sx_Cm p l e R s m args below meth c Q g b scr D h0 cs ls st h) (er : sh_lcmp o go cs ls st h = some out) : sx_Cm p l e R s m args below meth c Q g b scr D h0 (x :: cs) ls st h := by
  unfold sh_lcmp at er
  split at er
  · next j i r =>
    have kk : ∀ n, go cs ls (some (.inl (o.1 n)) :: r) h = some out → lg_cmp (g i).toInt64 (g j).toInt64 = nI n → sx_Cm p l e R s m args below meth c Q g b scr D h0 (x :: cs) ls (some (.inr (.inr (.inl j))) :: some (.inr (.inr (.inl i))) :: r) h := fun n er' hn => by
      intro H locs cells slots la pc hpc hl hP hS hc hs
      have hpc' : sx_xp x = pc := Option.some.inj hpc
      subst hpc'
      have kk' : W p l e R s m args below meth c H locs cells slots Q (F0 m (sx_xp x + 1) la (.int (g (o.1 n)) :: r.map (sx_c g b scr))) := hgo _ _ _ er' H locs cells slots la _ (sx_nx_pc hnx) hl hP hS hc hs
      rw [hLw.1, ← hn] at kk'
      exact W.lcmp (x := (g i).toInt64) (y := (g j).toInt64) hx hb (sx_dk_ok hd) kk'
    split at er
    · next ht =>
      have h1 : g i = g j := (hLw.2.2.1 0 _ _ _ ht).mp rfl
      exact kk 0 er (by rw [h1, sx_lcmp0]; decide)
    · next ht =>
      have h1 : ¬ g i = g j := fun q => by have := (hLw.2.2.1 0 _ _ _ ht).mpr q; cases this
      split at er
      · next ht2 =>
        have h2 : g i < g j := (hLw.2.2.1 2 _ _ _ ht2).mp rfl
        exact kk 4294967295 er (by rw [sx_lcmp1 h2]; decide)
      · next ht2 =>
        have h2 : ¬ g i < g j := fun q => by have := (hLw.2.2.1 2 _ _ _ ht2).mpr q; cases this
        exact kk 1 er (by rw [sx_lcmp2 h2 h1]; decide)
      · cases er
    · cases er
  · cases er
theorem sx_jmp_ok {pc t9 : Nat} {f : Int → Instr} (h : sx_jmp bs pc full t9 f = true) : ∃ t : Nat, sx_pc (full.drop t9) = some t ∧ decode bs pc = .ok (f ((t : Int) - (pc : Int)), 3) := by
  unfold sx_jmp at h
  split at h
  · next t ht => exact ⟨t, ht, sx_dk_ok h⟩
  · cases h
theorem sn_icmp (hx : p.tables.exec = Jvm.exec) (hb : c.code = bs) (hLw : sx_Law o g L xs) (ha : a ≤ 5) {t9 : Nat} (hj : sx_jmp bs (sx_xp x) full t9 (.if_icmp (sx_cc a)) = true) (hnx : sx_nx cs (sx_xp x + 3) = true) (hgo : ∀ ls st h, go cs ls st h = some out → sx_Cm p l e R s m args below meth c Q g b scr D h0 cs ls st h) (hgj : ∀ ls st h, go (full.drop t9) ls st h = some out → sx_Cm p l e R s m args below meth c Q g b scr D h0 (full.drop t9) ls st h) (er : sh_icmp o go full a t9 cs ls st h = some out) : sx_Cm p l e R s m args below meth c Q g b scr D h0 (x :: cs) ls st h := by
  obtain ⟨t, ht, hd⟩ := sx_jmp_ok hj
  unfold sh_icmp at er
  split at er
  · next j i r =>
    intro H locs cells slots la pc hpc hl hP hS hc hs
    have hpc' : sx_xp x = pc := Option.some.inj hpc
    subst hpc'
    show W p l e R s m args below meth c H locs cells slots Q (F0 m (sx_xp x) la (.int (g j) :: .int (g i) :: r.map (sx_c g b scr)))
    have hz : ((sx_xp x : Nat) : Int) + ((t : Int) - ((sx_xp x : Nat) : Int)) = (t : Int) := by omega
    split at er
    · next hv =>
      have hct := (hLw.2.2.1 a _ _ _ hv).mp rfl
      have kk := hgj _ _ _ er H locs cells slots la _ ht hl hP hS hc hs
      rcases (show a = 0 ∨ a = 1 ∨ a = 2 ∨ a = 3 ∨ a = 4 ∨ a = 5 by omega) with rfl | rfl | rfl | rfl | rfl | rfl
      · exact lv_icmp_eq (tgt := t) hx hb hd hz (fun _ => kk) (fun q => absurd hct q)
      · exact lv_icmp_ne (tgt := t) hx hb hd hz (fun _ => kk) (fun q => absurd q hct)
      · exact lv_icmp_lt (tgt := t) hx hb hd hz (fun _ => kk) (fun q => absurd hct q)
      · exact lv_icmp_ge (tgt := t) hx hb hd hz (fun _ => kk) (fun q => absurd hct q)
      · exact lv_icmp_gt (tgt := t) hx hb hd hz (fun _ => kk) (fun q => absurd hct q)
      · exact lv_icmp_le (tgt := t) hx hb hd hz (fun _ => kk) (fun q => absurd hct q)
    · next hv =>
      have hct : ¬ sx_ct a (g i) (g j) := fun q => by have := (hLw.2.2.1 a _ _ _ hv).mpr q; cases this
      have kk := hgo _ _ _ er H locs cells slots la _ (sx_nx_pc hnx) hl hP hS hc hs
      rcases (show a = 0 ∨ a = 1 ∨ a = 2 ∨ a = 3 ∨ a = 4 ∨ a = 5 by omega) with rfl | rfl | rfl | rfl | rfl | rfl
      · exact lv_icmp_eq (tgt := t) hx hb hd hz (fun q => absurd q hct) (fun _ => kk)
      · exact lv_icmp_ne (tgt := t) hx hb hd hz (fun q => absurd q hct) (fun _ => kk)
      · exact lv_icmp_lt (tgt := t) hx hb hd hz (fun q => absurd q hct) (fun _ => kk)
      · exact lv_icmp_ge (tgt := t) hx hb hd hz (fun q => absurd q hct) (fun _ => kk)
      · exact lv_icmp_gt (tgt := t) hx hb hd hz (fun q => absurd q hct) (fun _ => kk)
      · exact lv_icmp_le (tgt := t) hx hb hd hz (fun q => absurd q hct) (fun _ => kk)
    · cases er
  · cases er
theorem sn_if (hx : p.tables.exec = Jvm.exec) (hb : c.code = bs) (hLw : sx_Law o g L xs) (ha : a ≤ 5) {t9 : Nat} (hj : sx_jmp bs (sx_xp x) full t9 (.ifCond (sx_cc a)) = true) (hnx : sx_nx cs (sx_xp x + 3) = true) (hgo : ∀ ls st h, go cs ls st h = some out → sx_Cm p l e R s m args below meth c Q g b scr D h0 cs ls st h) (hgj : ∀ ls st h, go (full.drop t9) ls st h = some out → sx_Cm p l e R s m args below meth c Q g b scr D h0 (full.drop t9) ls st h) (er : sh_if o go full a t9 cs ls st h = some out) : sx_Cm p l e R s m args below meth c Q g b scr D h0 (x :: cs) ls st h := by
  obtain ⟨t, ht, hd⟩ := sx_jmp_ok hj
  have h0z : g (o.1 0) = 0 := (hLw.1 0).trans nI_0
  unfold sh_if at er
  split at er
  · next i r =>
    intro H locs cells slots la pc hpc hl hP hS hc hs
    have hpc' : sx_xp x = pc := Option.some.inj hpc
    subst hpc'
    show W p l e R s m args below meth c H locs cells slots Q (F0 m (sx_xp x) la (.int (g i) :: r.map (sx_c g b scr)))
    have hz : ((sx_xp x : Nat) : Int) + ((t : Int) - ((sx_xp x : Nat) : Int)) = (t : Int) := by omega
    split at er
    · next hv =>
      have hct := (hLw.2.2.1 a _ _ _ hv).mp rfl
      rw [h0z] at hct
      have kk := hgj _ _ _ er H locs cells slots la _ ht hl hP hS hc hs
      rcases (show a = 0 ∨ a = 1 ∨ a = 2 ∨ a = 3 ∨ a = 4 ∨ a = 5 by omega) with rfl | rfl | rfl | rfl | rfl | rfl
      · exact lv_if_eq (tgt := t) hx hb hd hz (fun _ => kk) (fun q => absurd hct q)
      · exact lv_if_ne (tgt := t) hx hb hd hz (fun _ => kk) (fun q => absurd q hct)
      · exact lv_if_lt (tgt := t) hx hb hd hz (fun _ => kk) (fun q => absurd hct q)
      · exact lv_if_ge (tgt := t) hx hb hd hz (fun _ => kk) (fun q => absurd hct q)
      · exact lv_if_gt (tgt := t) hx hb hd hz (fun _ => kk) (fun q => absurd hct q)
      · exact lv_if_le (tgt := t) hx hb hd hz (fun _ => kk) (fun q => absurd hct q)
    · next hv =>
      have hct : ¬ sx_ct a (g i) (g (o.1 0)) := fun q => by have := (hLw.2.2.1 a _ _ _ hv).mpr q; cases this
      rw [h0z] at hct
      have kk := hgo _ _ _ er H locs cells slots la _ (sx_nx_pc hnx) hl hP hS hc hs
      rcases (show a = 0 ∨ a = 1 ∨ a = 2 ∨ a = 3 ∨ a = 4 ∨ a = 5 by omega) with rfl | rfl | rfl | rfl | rfl | rfl
      · exact lv_if_eq (tgt := t) hx hb hd hz (fun q => absurd q hct) (fun _ => kk)
      · exact lv_if_ne (tgt := t) hx hb hd hz (fun q => absurd q hct) (fun _ => kk)
      · exact lv_if_lt (tgt := t) hx hb hd hz (fun q => absurd q hct) (fun _ => kk)
      · exact lv_if_ge (tgt := t) hx hb hd hz (fun q => absurd q hct) (fun _ => kk)
      · exact lv_if_gt (tgt := t) hx hb hd hz (fun q => absurd q hct) (fun _ => kk)
      · exact lv_if_le (tgt := t) hx hb hd hz (fun q => absurd q hct) (fun _ => kk)
    · cases er
  · cases er
theorem sn_goto (hx : p.tables.exec = Jvm.exec) (hb : c.code = bs) {t9 : Nat} (hj : sx_jmp bs (sx_xp x) full t9 .goto = true) (hgj : ∀ ls st h, go (full.drop t9) ls st h = some out → sx_Cm p l e R s m args below meth c Q g b scr D h0 (full.drop t9) ls st h) (er : sh_goto go full t9 ls st h = some out) : sx_Cm p l e R s m args below meth c Q g b scr D h0 (x :: cs) ls st h := by
  obtain ⟨t, ht, hd⟩ := sx_jmp_ok hj
  intro H locs cells slots la pc hpc hl hP hS hc hs
  have hpc' : sx_xp x = pc := Option.some.inj hpc
  subst hpc'
  exact lv_goto (tgt := t) hx hb hd (by omega) (hgj _ _ _ er H locs cells slots la _ ht hl hP hS hc hs)
theorem sn_ifnull (hx : p.tables.exec = Jvm.exec) (hb : c.code = bs) {t9 : Nat} (hj : sx_jmp bs (sx_xp x) full t9 .ifnull = true) (hnx : sx_nx cs (sx_xp x + 3) = true) (hgo : ∀ ls st h, go cs ls st h = some out → sx_Cm p l e R s m args below meth c Q g b scr D h0 cs ls st h) (hgj : ∀ ls st h, go (full.drop t9) ls st h = some out → sx_Cm p l e R s m args below meth c Q g b scr D h0 (full.drop t9) ls st h) (er : sh_ifnull go full t9 cs ls st h = some out) : sx_Cm p l e R s m args below meth c Q g b scr D h0 (x :: cs) ls st h := by
  obtain ⟨t, ht, hd⟩ := sx_jmp_ok hj
  unfold sh_ifnull at er
  split at er
  · next k9 r =>
    intro H locs cells slots la pc hpc hl hP hS hc hs
    have hpc' : sx_xp x = pc := Option.some.inj hpc
    subst hpc'
    exact lv_ifnull (x := b + k9) hx hb hd (hgo _ _ _ er H locs cells slots la _ (sx_nx_pc hnx) hl hP hS hc hs)
  · next r =>
    intro H locs cells slots la pc hpc hl hP hS hc hs
    have hpc' : sx_xp x = pc := Option.some.inj hpc
    subst hpc'
    exact lv_ifnullN (tgt := t) hx hb hd (by omega) (hgj _ _ _ er H locs cells slots la _ ht hl hP hS hc hs)
  · cases er
theorem sn_null (hx : p.tables.exec = Jvm.exec) (hb : c.code = bs) (hd : sx_dk bs (sx_xp x) .aconst_null 1 = true) (hnx : sx_nx cs (sx_xp x + 1) = true) (hgo : ∀ ls st h, go cs ls st h = some out → sx_Cm p l e R s m args below meth c Q g b scr D h0 cs ls st h) (er : sh_null go cs ls st h = some out) : sx_Cm p l e R s m args below meth c Q g b scr D h0 (x :: cs) ls st h := by
  intro H locs cells slots la pc hpc hl hP hS hc hs
  have hpc' : sx_xp x = pc := Option.some.inj hpc
  subst hpc'
  exact lv_null hx hb (sx_dk_ok hd) (hgo _ _ _ er H locs cells slots la _ (sx_nx_pc hnx) hl hP hS hc hs)
theorem sx_cat1 {v : sx_V I} (h : sx_is2 v = false) : (sx_c g b scr v).category = 1 := by rw [sx_c_cat, h]; rfl
theorem sn_dup (hx : p.tables.exec = Jvm.exec) (hb : c.code = bs) (hd : sx_dk bs (sx_xp x) .dup 1 = true) (hnx : sx_nx cs (sx_xp x + 1) = true) (hgo : ∀ ls st h, go cs ls st h = some out → sx_Cm p l e R s m args below meth c Q g b scr D h0 cs ls st h) (er : sh_dup go cs ls st h = some out) : sx_Cm p l e R s m args below meth c Q g b scr D h0 (x :: cs) ls st h := by
  unfold sh_dup at er
  split at er
  · next v r =>
    cases h2 : sx_is2 v with
    | true => rw [h2] at er; cases er
    | false =>
      rw [h2] at er
      intro H locs cells slots la pc hpc hl hP hS hc hs
      have hpc' : sx_xp x = pc := Option.some.inj hpc
      subst hpc'
      exact lv_dup (va := sx_c g b scr v) hx hb (sx_dk_ok hd) (sx_cat1 h2) (hgo _ _ _ er H locs cells slots la _ (sx_nx_pc hnx) hl hP hS hc hs)
  · cases er
theorem sn_dup2 (hx : p.tables.exec = Jvm.exec) (hb : c.code = bs) (hd : sx_dk bs (sx_xp x) .dup2 1 = true) (hnx : sx_nx cs (sx_xp x + 1) = true) (hgo : ∀ ls st h, go cs ls st h = some out → sx_Cm p l e R s m args below meth c Q g b scr D h0 cs ls st h) (er : sh_dup2 go cs ls st h = some out) : sx_Cm p l e R s m args below meth c Q g b scr D h0 (x :: cs) ls st h := by
  unfold sh_dup2 at er
  split at er
  · next v w r =>
    cases h2 : sx_is2 v with
    | true => rw [h2] at er; cases er
    | false =>
      cases h3 : sx_is2 w with
      | true => rw [h2, h3] at er; cases er
      | false =>
        rw [h2, h3] at er
        intro H locs cells slots la pc hpc hl hP hS hc hs
        have hpc' : sx_xp x = pc := Option.some.inj hpc
        subst hpc'
        exact lv_dup2_11 (va := sx_c g b scr v) (vb := sx_c g b scr w) hx hb (sx_dk_ok hd) (sx_cat1 h2) (sx_cat1 h3) (hgo _ _ _ er H locs cells slots la _ (sx_nx_pc hnx) hl hP hS hc hs)
  · cases er
theorem sn_pop (hx : p.tables.exec = Jvm.exec) (hb : c.code = bs) (hd : sx_dk bs (sx_xp x) .pop 1 = true) (hnx : sx_nx cs (sx_xp x + 1) = true) (hgo : ∀ ls st h, go cs ls st h = some out → sx_Cm p l e R s m args below meth c Q g b scr D h0 cs ls st h) (er : sh_pop go cs ls st h = some out) : sx_Cm p l e R s m args below meth c Q g b scr D h0 (x :: cs) ls st h := by
  unfold sh_pop at er
  split at er
  · next v r =>
    cases h2 : sx_is2 v with
    | true => rw [h2] at er; cases er
    | false =>
      rw [h2] at er
      intro H locs cells slots la pc hpc hl hP hS hc hs
      have hpc' : sx_xp x = pc := Option.some.inj hpc
      subst hpc'
      exact lv_pop (va := sx_c g b scr v) hx hb (sx_dk_ok hd) (sx_cat1 h2) (hgo _ _ _ er H locs cells slots la _ (sx_nx_pc hnx) hl hP hS hc hs)
  · cases er
/-! fields -/
theorem sx_cl8 {P : Nat → vw_C → Prop} (h0 : P 0 (RX0, TX0, 7)) (h1 : P 1 (RX1, TX1, 4)) (h2 : P 2 (RX2, TX2, 5)) (h3 : P 3 (RX3, TX3, 7)) (h4 : P 4 (RX4, TX4, 11)) (h5 : P 5 (RX5, TX5, 2)) (h6 : P 6 (RX6, TX6, 15)) (h7 : P 7 (RX7, TX7, 32)) (ci : Nat) (q : vw_C) (h : vwCl[ci]? = some q) : P ci q := by
  match ci, h with
  | 0, h => cases h; exact h0
  | 1, h => cases h; exact h1
  | 2, h => cases h; exact h2
  | 3, h => cases h; exact h3
  | 4, h => cases h; exact h4
  | 5, h => cases h; exact h5
  | 6, h => cases h; exact h6
  | 7, h => cases h; exact h7
  | n + 8, h => simp at h
theorem sx_uws {ci : Nat} {q : vw_C} (h : vwCl[ci]? = some q) : ∀ w ∈ u_ws q.1 q.2.1 q.2.2, w ∈ sx_goods :=
  sx_cl8 (P := fun _ q => ∀ w ∈ u_ws q.1 q.2.1 q.2.2, w ∈ sx_goods) (by decide +kernel) (by decide +kernel) (by decide +kernel) (by decide +kernel) (by decide +kernel) (by decide +kernel) (by decide +kernel) (by decide +kernel) ci q h
theorem sx_nms {ci : Nat} {q : vw_C} (h : vwCl[ci]? = some q) : ∀ a, a < q.2.2 → ∀ b, b < q.2.2 → a ≠ b → (q.2.1 a).2.1 ≠ (q.2.1 b).2.1 :=
  sx_cl8 (P := fun _ q => ∀ a, a < q.2.2 → ∀ b, b < q.2.2 → a ≠ b → (q.2.1 a).2.1 ≠ (q.2.1 b).2.1) nmX0 nmX1 nmX2 nmX3 nmX4 nmX5 nmX6 nmX7 ci q h
noncomputable def sx_fty (ci : Nat) : Nat → FieldType := match ci with
  | 0 => tyX0
  | 1 => tyX1
  | 2 => tyX2
  | 3 => tyX3
  | 4 => tyX4
  | 5 => tyX5
  | 6 => tyX6
  | _ => tyX7
theorem sx_ftyok {ci : Nat} {q : vw_C} (h : vwCl[ci]? = some q) : ∀ k, k < q.2.2 → parseFieldDescriptor (q.2.1 k).2.2.1 = some (sx_fty ci k) :=
  sx_cl8 (P := fun ci q => ∀ k, k < q.2.2 → parseFieldDescriptor (q.2.1 k).2.2.1 = some (sx_fty ci k)) tyX0_ok tyX1_ok tyX2_ok tyX3_ok tyX4_ok tyX5_ok tyX6_ok tyX7_ok ci q h
theorem sx_fld_ok {pc ci : Nat} {f : Nat → Instr} {more : u_T → Nat → Bool} (h : sx_fld own bs pc ci k q f more cs = true) : ∃ (idx : Nat) (r : vw_C), vwCl[ci]? = some r ∧ lw_tbl[q]? = some (Jvm.Cond.fieldLink own idx (r.2.1 k).1 (r.2.1 k).2.1 (r.2.1 k).2.2.1) ∧ k < r.2.2 ∧ decode bs pc = .ok (f idx, 3) ∧ more r.2.1 k = true ∧ sx_pc cs = some (pc + 3) := by
  unfold sx_fld at h
  split at h
  · next own' idx ref name desc C T N hq hc =>
    simp only [Bool.and_eq_true, decide_eq_true_eq] at h
    obtain ⟨h1, h2, h3, h4, h5, h6, h7, h8⟩ := h
    subst h1; subst h2; subst h3; subst h4
    exact ⟨idx, (C, T, N), hc, hq, Nat.le_of_ble_eq_true h5, sx_dk_ok h6, h7, sx_nx_pc h8⟩
  · cases h
theorem sn_get (hx : p.tables.exec = Jvm.exec) (hb : c.code = bs) (hown : s.vm.findClass own = some m.cls) (hts : ∀ w ∈ sx_goods, w.before args s = true) (hK : va_K D vwCl [] s) (hok : sx_fld own bs (sx_xp x) (Nat.mod a 16) k q .getfield (fun _ _ => true) cs = true) (hgo : ∀ ls st h, go cs ls st h = some out → sx_Cm p l e R s m args below meth c Q g b scr D h0 cs ls st h) (er : sh_get go a k cs ls st h = some out) : sx_Cm p l e R s m args below meth c Q g b scr D h0 (x :: cs) ls st h := by
  obtain ⟨idx, r9, hc9, hq, hk, hd, -, hnx⟩ := sx_fld_ok hok
  unfold sh_get at er
  split at er
  · next k9 r =>
    split at er
    · next ci fs hg =>
      cases hci : Nat.beq ci (Nat.mod a 16) with
      | false => rw [hci] at er; cases er
      | true =>
        rw [hci] at er
        have hci' : ci = Nat.mod a 16 := Nat.eq_of_beq_eq_true hci
        rw [← hci'] at hc9
        dsimp only [cond] at er
        split at er
        · next v hv =>
          intro H locs cells slots la pc hpc hl hP hS hc hs
          have hpc' : sx_xp x = pc := Option.some.inj hpc
          subst hpc'
          have hcell := hP.1 k9 _ hg
          exact va_get (D := D) (cl := vwCl) (ws := [(b + k9, .inr (ci, fs.map (sx_c g b scr)))]) (tys := []) (v := sx_c g b scr v) (C := r9.1) (T := r9.2.1) (N := r9.2.2) hx hb hts (sx_uws hc9) hown hK (sx_P1 hcell) 0 rfl hc9 k hk (sx_wg hts hq rfl) (fun _ h9 => h9) (by rw [List.getElem?_map, hv]; rfl) hd (hgo _ _ _ er H locs cells slots la _ hnx hl hP hS hc hs)
        · cases er
    · cases er
  · cases er
theorem sx_tcfit (hLw : sx_Law o g L xs) {t : Nat} {d : String} {v : sx_V I} (h1 : sx_tc t d = true) (h2 : sx_fit o t v = true) : ∃ ty : FieldType, parseFieldDescriptor d = some ty ∧ narrow ty (sx_c g b scr v) = sx_c g b scr v ∧ fits ty (sx_c g b scr v) = true := by
  unfold sx_fit at h2
  split at h2
  · next i =>
    split at h2
    · exact ⟨.int, of_decide_eq_true h1, rfl, rfl⟩
    · split at h2
      · next n hn =>
        have h3 := hLw.2.2.2.1 i n hn
        simp only [Bool.or_eq_true] at h2
        have hc9 : sx_c g b scr (some (.inl i)) = .int (nI n) := congrArg Value.int h3
        refine ⟨.boolean, of_decide_eq_true h1, ?_, ?_⟩
        · rw [hc9]
          rcases h2 with h2 | h2
          · rw [Nat.eq_of_beq_eq_true h2]; rfl
          · rw [Nat.eq_of_beq_eq_true h2]; rfl
        · rw [hc9]
          rcases h2 with h2 | h2
          · rw [Nat.eq_of_beq_eq_true h2]; decide
          · rw [Nat.eq_of_beq_eq_true h2]; decide
      · cases h2
    · cases h2
  · next k9 =>
    have h3 : t = 2 := Nat.eq_of_beq_eq_true h2
    subst h3
    have h1' : (match parseFieldDescriptor d with
      | some (.object _) => true
      | some (.array _) => true
      | _ => false) = true := h1
    split at h1'
    · next n hn => exact ⟨.object n, hn, rfl, rfl⟩
    · next n hn => exact ⟨.array n, hn, rfl, rfl⟩
    · cases h1'
  · have h3 : t = 2 := Nat.eq_of_beq_eq_true h2
    subst h3
    have h1' : (match parseFieldDescriptor d with
      | some (.object _) => true
      | some (.array _) => true
      | _ => false) = true := h1
    split at h1'
    · next n hn => exact ⟨.object n, hn, rfl, rfl⟩
    · next n hn => exact ⟨.array n, hn, rfl, rfl⟩
    · cases h1'
  · cases h2
theorem sx_Sput {A : Nat → Prop} {H0 H H1 : Heap} {locs : List Loc} {a9 k9 : Nat} (hS : va_S A H0 H locs) (z : H1.size = H.size) (oq : ∀ q : Nat, q ≠ a9 → H1[q]? = H[q]?) (ha : A a9) : va_S A H0 H1 (locs ++ [⟨a9, k9⟩]) := va_S.put hS z oq ha
/-- a field is written: 'fin' for a final one in a constructor -/
theorem sn_put (hx : p.tables.exec = Jvm.exec) (hb : c.code = bs) (hLw : sx_Law o g L xs) (hown : s.vm.findClass own = some m.cls) (hts : ∀ w ∈ sx_goods, w.before args s = true) (hK : va_K D vwCl [] s) (fin : Bool) (hin2 : fin = true → meth.name = "<init>") {more : u_T → Nat → Bool} (hmore : ∀ T k, more T k = true → sx_tc (Nat.div a 16) (T k).2.2.1 = true ∧ (T k).2.2.2 = fin ∧ (fin = true → (T k).1 = own)) (hok : sx_fld own bs (sx_xp x) (Nat.mod a 16) k q .putfield more cs = true) (hgo : ∀ ls st h, go cs ls st h = some out → sx_Cm p l e R s m args below meth c Q g b scr D h0 cs ls st h) (er : sh_put o go a k cs ls st h = some out) : sx_Cm p l e R s m args below meth c Q g b scr D h0 (x :: cs) ls st h := by
  obtain ⟨idx, r9, hc9, hq, hk, hd, hmr, hnx⟩ := sx_fld_ok hok
  obtain ⟨htc, hfin, hdecl⟩ := hmore _ _ hmr
  unfold sh_put at er
  split at er
  · next v k9 r =>
    split at er
    · next ci fs hg =>
      cases hcd : (Nat.beq ci (Nat.mod a 16) && (Nat.ble (k + 1) fs.length && sx_fit o (Nat.div a 16) v)) with
      | false => rw [hcd] at er; cases er
      | true =>
        rw [hcd] at er
        simp only [Bool.and_eq_true] at hcd
        obtain ⟨hci, hlen, hfit⟩ := hcd
        have hci' : ci = Nat.mod a 16 := Nat.eq_of_beq_eq_true hci
        rw [← hci'] at hc9
        obtain ⟨ty, hty, hnar, hfits⟩ := sx_tcfit (g := g) (b := b) (scr := scr) hLw htc hfit
        intro H locs cells slots la pc hpc hl hP hS hc hs
        have hpc' : sx_xp x = pc := Option.some.inj hpc
        subst hpc'
        obtain ⟨r', h1, cell, q1, q2, q3, q4⟩ := hP.1 k9 _ hg
        have hr : r' = r9 := Option.some.inj (h1.symm.trans hc9)
        subst hr
        have hap := va_apart (own := own) hts (sx_uws hc9) (sx_fty ci) (sx_ftyok hc9) (sx_nms hc9) hK hc9
        obtain ⟨hSl, hfc, kC, hkC, hkind⟩ := hK.1 ci _ hc9
        obtain ⟨cf, kf, fi, f, hi, hsl⟩ := hSl k hk
        have hlay := hts _ (sx_uws hc9 _ (u_in_lay hk))
        have hst := (u_facts hfc hkC (u_lays hts (sx_uws hc9) hk) hi).1
        have hlnk := sx_wg hts hq rfl
        have hll : k < (fs.map (sx_c g b scr)).length := by rw [List.length_map]; exact Nat.le_of_ble_eq_true hlen
        have fin9 : ∀ H' : Heap, H'[b + k9]? = some (cell.setSlot f.slot (sx_c g b scr v)) → H'.size = H.size → (∀ q, q ≠ b + k9 → H'[q]? = H[q]?) → W p l e R s m args below meth c H' (locs ++ [⟨b + k9, f.slot⟩]) cells slots Q (F0 m (sx_xp x + 3) la (r.map (sx_c g b scr))) := fun H' e1 e2 e3 => by
          rw [hsl] at e1
          have hcell : sx_cell g b scr D s H' k9 (.inl (ci, fs.set k v)) := by
            show va_at D vwCl (b + k9, .inr (ci, (fs.set k v).map (sx_c g b scr))) H'
            rw [List.map_set]
            exact ⟨_, hc9, t_OB.to (V := updV (vp_V (fs.map (sx_c g b scr))) k (sx_c g b scr v)) ⟨_, e1, q2, q3, t_set q4 hap hk (sx_c g b scr v)⟩ (fun j _ => vp_updV_set hll (sx_c g b scr v) j)⟩
          exact hgo _ _ _ er H' _ cells slots la _ hnx hl (sx_Rep_set hP hg hcell e2 e3) (va_S.put hS e2 e3 (Nat.le_add_right b k9)) hc hs
        cases fin with
        | false =>
          unfold u_lay at hlay
          rw [if_neg (by rw [hfin]; decide)] at hlay
          have h6 := u_store hfc hkC hkind hlay hi hty hnar hfits
          exact W.putK hx hb (f := f) ⟨hown, hlnk, ⟨_, _, _, hi⟩, hst⟩ (by rw [q2]; exact h6) q1 q3 (by rw [hsl]; exact k2_hasslot (q4 k hk)) rfl rfl hd fin9
        | true =>
          unfold u_lay at hlay
          rw [if_pos hfin] at hlay
          have hcf : m.cls = cf := by
            obtain ⟨_, _, c', _, _, _, -, -, hf', -, -, -, hown2, -⟩ := Jvm.Cond.laysFinal_spec hlay
            have e1 : c' = cf := by have := hi.symm.trans hf'; simp at this; exact this.1.symm
            rw [hdecl rfl] at hown2
            rw [← e1]; exact Option.some.inj (hown.symm.trans hown2)
          have h6 := u_fits hfc hkC hkind (Or.inr hlay) hi hty hnar hfits
          exact W.putFinK hx hb hown hlnk hi hst hcf (hin2 rfl) (by rw [q2]; exact h6) q1 q3 (by rw [hsl]; exact k2_hasslot (q4 k hk)) rfl rfl hd fin9
    · cases er
  · cases er
/-! arrays -/
theorem sx_ix_ok (hLw : sx_Law o g L xs) {i : I} {n j : Nat} (h : sx_ix o i n = some j) : g i = nI j ∧ j < n ∧ j < 8192 := by
  unfold sx_ix at h
  split at h
  · next k9 hk9 =>
    cases hcd : (Nat.ble (k9 + 1) n && Nat.ble (k9 + 1) 8192) with
    | false => rw [hcd] at h; cases h
    | true =>
      rw [hcd] at h
      simp only [Bool.and_eq_true] at hcd
      have h1 : k9 = j := Option.some.inj h
      subst h1
      exact ⟨hLw.2.2.2.1 _ _ hk9, Nat.le_of_ble_eq_true hcd.1, Nat.le_of_ble_eq_true hcd.2⟩
  · cases h
theorem sx_ix_in (hLw : sx_Law o g L xs) {i : I} {n j : Nat} (h : sx_ix o i n = some j) : (g i).toNatClampNeg = j ∧ ¬ (g i < 0 ∨ n ≤ (g i).toNatClampNeg) := by
  obtain ⟨h1, h2, h3⟩ := sx_ix_ok hLw h
  have h4 : j < 2 ^ 31 := by omega
  have h5 : (g i).toNatClampNeg = j := by rw [h1]; exact nI_clamp h4
  refine ⟨h5, fun q => ?_⟩
  rcases q with q | q
  · rw [h1] at q; exact nI_pos h4 q
  · rw [h5] at q; omega
theorem sx_rd_of {tr : sx_T (sx_V I) 13} {j : Nat} {v : sx_V I} (h : sx_tg 13 tr j = some v) : sx_rd tr j = v := by
  unfold sx_rd
  rw [h]; rfl
theorem sn_ald (hx : p.tables.exec = Jvm.exec) (hb : c.code = bs) (hLw : sx_Law o g L xs) (hX : va_X scr L xs s s.heap) (hsb : scr < b) (hbs : b ≤ s.heap.size) (hd : sx_dk bs (sx_xp x) (sx_la a) 1 = true) (hnx : sx_nx cs (sx_xp x + 1) = true) (hgo : ∀ ls st h, go cs ls st h = some out → sx_Cm p l e R s m args below meth c Q g b scr D h0 cs ls st h) (er : sh_ald o go a cs ls st h = some out) : sx_Cm p l e R s m args below meth c Q g b scr D h0 (x :: cs) ls st h := by
  unfold sh_ald at er
  split at er
  · next i k9 r =>
    split at er
    · next t n tr hg =>
      cases hta : Nat.beq t a with
      | false => rw [hta] at er; cases er
      | true =>
        rw [hta] at er
        have hta' : t = a := Nat.eq_of_beq_eq_true hta
        subst hta'
        dsimp only [cond] at er
        split at er
        · next j hj =>
          split at er
          · next v hv =>
            obtain ⟨hjc, hjn⟩ := sx_ix_in hLw hj
            obtain ⟨-, hjlt, -⟩ := sx_ix_ok hLw hj
            intro H locs cells slots la pc hpc hl hP hS hc hs
            have hpc' : sx_xp x = pc := Option.some.inj hpc
            subst hpc'
            obtain ⟨cA, hcell, hArr, -⟩ := hP.1 k9 _ hg
            have hsz : ¬ (g i < 0 ∨ (arrV cA n (fun j => sx_c g b scr (sx_rd tr j))).slots.size ≤ (g i).toNatClampNeg) := by rw [arrV_size]; exact hjn
            have hval : (arrV cA n (fun j => sx_c g b scr (sx_rd tr j))).slots[(g i).toNatClampNeg]? = some (sx_c g b scr v) := by
              rw [hjc, arrV_read _ _ hjlt, sx_rd_of hv]
            have kk := hgo _ _ _ er H locs cells slots la _ (sx_nx_pc hnx) hl hP hS hc hs
            have hd' := sx_dk_ok hd
            match t, hd', hArr with
            | 0, hd', hArr => exact W.iald hx hb hcell (hArr _ _) (fun q => by cases q) hsz hval rfl rfl hd' kk
            | 1, hd', hArr => exact W.zald hx hb hcell (hArr _ _) (fun q => by cases q) hsz hval rfl rfl hd' kk
            | 2, hd', hArr => exact W.lald hx hb hcell (hArr _ _) (fun q => by cases q) hsz hval rfl rfl hd' kk
            | 3, hd', hArr => exact W.aald (ty := .object RX4) hx hb hcell (hArr _ _) rfl (fun q => by cases q) hsz hval rfl rfl hd' kk
            | n9 + 4, hd', hArr => exact W.aald (ty := .object RX0) hx hb hcell (hArr _ _) rfl (fun q => by cases q) hsz hval rfl rfl hd' kk
          · cases er
        · cases er
    · cases er
  · next i u r =>
    cases hta : Nat.beq a 0 with
    | false => rw [hta] at er; cases er
    | true =>
      rw [hta] at er
      have hta' : a = 0 := Nat.eq_of_beq_eq_true hta
      subst hta'
      dsimp only [cond] at er
      split at er
      · next j hj =>
        obtain ⟨hjc, hjn⟩ := sx_ix_in hLw hj
        obtain ⟨-, hjlt, -⟩ := sx_ix_ok hLw hj
        intro H locs cells slots la pc hpc hl hP hS hc hs
        have hpc' : sx_xp x = pc := Option.some.inj hpc
        subst hpc'
        have hLe : o.2.2.2.2.1 = L := hLw.2.2.2.2.1
        rw [hLe] at hjn hjlt
        have kk : W p l e R s m args below meth c H locs cells slots Q (F0 m (sx_xp x + 1) la (.int (g (o.2.2.2.2.2 j)) :: r.map (sx_c g b scr))) := hgo _ _ _ er H locs cells slots la _ (sx_nx_pc hnx) hl hP hS hc hs
        rw [hLw.2.2.2.2.2.2 j hjlt, ← hjc] at kk
        exact va_sld (A := fun q => b ≤ q) hx hb hX (Nat.lt_of_lt_of_le hsb hbs) (Nat.not_le.mpr hsb) hS hjn (sx_dk_ok hd) kk
      · cases er
  · cases er
theorem arrV_cong {cA : ClassId} {n : Nat} {f f' : Nat → Value} (h : ∀ j, j < n → f j = f' j) : arrV cA n f = arrV cA n f' := by
  unfold arrV
  congr 1
  apply Array.ext
  · simp
  · intro j h1 h2
    simp at h1
    simp [h j h1]
theorem sx_rd_ts {tr : sx_T (sx_V I) 13} {j : Nat} {v0 v : sx_V I} (h : sx_tg 13 tr j = some v0) (q : Nat) : sx_c g b scr (sx_rd (sx_ts 13 tr j v) q) = updV (fun j => sx_c g b scr (sx_rd tr j)) j (sx_c g b scr v) q := by
  unfold updV
  by_cases hq : q = j
  · subst hq
    rw [if_pos rfl, sx_rd_of (sx_tg_same 13 tr q v0 v h)]
  · rw [if_neg hq]
    unfold sx_rd
    rw [sx_tg_ne 13 tr j q v hq]
theorem sn_ast (hx : p.tables.exec = Jvm.exec) (hb : c.code = bs) (hLw : sx_Law o g L xs) (hK : va_K D vwCl [] s) (hd : sx_dk bs (sx_xp x) (sx_sa a) 1 = true) (hnx : sx_nx cs (sx_xp x + 1) = true) (hgo : ∀ ls st h, go cs ls st h = some out → sx_Cm p l e R s m args below meth c Q g b scr D h0 cs ls st h) (er : sh_ast o go a cs ls st h = some out) : sx_Cm p l e R s m args below meth c Q g b scr D h0 (x :: cs) ls st h := by
  unfold sh_ast at er
  split at er
  · next v i k9 r =>
    split at er
    · next t n tr hg =>
      cases hta : (Nat.beq t a && sx_afit o h a v) with
      | false => rw [hta] at er; cases er
      | true =>
        rw [hta] at er
        simp only [Bool.and_eq_true] at hta
        obtain ⟨hta, haf⟩ := hta
        have hta' : t = a := Nat.eq_of_beq_eq_true hta
        subst hta'
        dsimp only [cond] at er
        split at er
        · next j hj =>
          split at er
          · next v0 hv0 =>
            obtain ⟨hjc, hjn⟩ := sx_ix_in hLw hj
            obtain ⟨hji, hjlt, hj8⟩ := sx_ix_ok hLw hj
            intro H locs cells slots la pc hpc hl hP hS hc hs
            have hpc' : sx_xp x = pc := Option.some.inj hpc
            subst hpc'
            obtain ⟨cA, hcell, hArr, hRA⟩ := hP.1 k9 _ hg
            have hsz : ¬ (g i < 0 ∨ (arrV cA n (fun j => sx_c g b scr (sx_rd tr j))).slots.size ≤ (g i).toNatClampNeg) := by rw [arrV_size]; exact hjn
            have fin9 : ∀ H' : Heap, H'[b + k9]? = some ((arrV cA n (fun j => sx_c g b scr (sx_rd tr j))).setSlot (g i).toNatClampNeg (sx_c g b scr v)) → H'.size = H.size → (∀ q, q ≠ b + k9 → H'[q]? = H[q]?) → W p l e R s m args below meth c H' (locs ++ [⟨b + k9, (g i).toNatClampNeg⟩]) cells slots Q (F0 m (sx_xp x + 1) la (r.map (sx_c g b scr))) := fun H' e1 e2 e3 => by
              have hc' : sx_cell g b scr D s H' k9 (.inr (t, (n, sx_ts 13 tr j v))) := by
                refine ⟨cA, ?_, hArr, hRA⟩
                rw [e1, arrV_store, hjc]
                exact congrArg some (arrV_cong fun q _ => (sx_rd_ts hv0 q).symm)
              exact hgo _ _ _ er H' _ cells slots la _ (sx_nx_pc hnx) hl (sx_Rep_set hP hg hc' e2 e3) (va_S.put hS e2 e3 (Nat.le_add_right b k9)) hc hs
            have hd' := sx_dk_ok hd
            unfold sx_afit at haf
            split at haf
            · next i9 =>
              split at haf
              · exact W.iast (x := g i9) hx hb hcell (hArr _ _) (fun q => by cases q) hsz rfl rfl hd' fin9
              · split at haf
                · next n9 hn9 =>
                  simp only [Bool.or_eq_true] at haf
                  have h3 := hLw.2.2.2.1 _ _ hn9
                  have hnar : narrow .boolean (.int (g i9)) = .int (g i9) := by
                    rw [h3]
                    rcases haf with h2 | h2
                    · rw [Nat.eq_of_beq_eq_true h2]; rfl
                    · rw [Nat.eq_of_beq_eq_true h2]; rfl
                  exact W.zast (x := g i9) hx hb hcell (hArr _ _) (fun q => by cases q) hsz rfl rfl hd' (by rw [hnar]; exact fin9)
                · cases haf
              · cases haf
            · next i9 =>
              have h3 : t = 2 := Nat.eq_of_beq_eq_true haf
              subst h3
              exact W.last (x := (g i9).toInt64) hx hb hcell (hArr _ _) (fun q => by cases q) hsz rfl rfl hd' fin9
            · next kv =>
              split at haf
              · next ci fs hgv =>
                obtain ⟨r', hr', cellV, g1, g2, g3, -⟩ := hP.1 kv _ hgv
                have hin : ¬ g i < 0 ∧ (g i).toNatClampNeg < (arrV cA n (fun j => sx_c g b scr (sx_rd tr j))).slots.size := by
                  rw [arrV_size, hjc]
                  exact ⟨fun q => hjn (Or.inl q), hjlt⟩
                have key : ∀ (q9 : vw_C), vwCl[ci]? = some q9 → sx_ty t = .object q9.1 → sx_sa t = .aastore → W p l e R s m args below meth c H locs cells slots Q (F0 m (sx_xp x) la (.ref (b + kv) :: .int (g i) :: .ref (b + k9) :: r.map (sx_c g b scr))) := fun q9 hq9 hty hsa => by
                  rw [hty] at hRA
                  rw [hsa] at hd'
                  have hcls := (hK.1 ci q9 hq9).2
                  obtain ⟨kA, comp, k1, k2, k3, -⟩ := hRA
                  have hcomp : comp = D.1 ci := Option.some.inj (k3.symm.trans hcls.1)
                  subst hcomp
                  obtain ⟨kC, hkC, -⟩ := hcls.2
                  exact W.aast hx hb hcell (fun q h => by cases h) (fun h => by cases h) k1 k2 rfl hkC hin g1 (fun q h => by rw [g3] at h; cases h) (by rw [g2]; exact hkC) (by rw [g2]; exact va_assign hcls) rfl rfl hd' fin9
                simp only [Bool.or_eq_true, Bool.and_eq_true] at haf
                rcases haf with ⟨h1, h2⟩ | ⟨h1, h2⟩
                · have h1' : t = 3 := Nat.eq_of_beq_eq_true h1
                  have h2' : ci = 4 := Nat.eq_of_beq_eq_true h2
                  subst h1'; subst h2'
                  exact key (RX4, TX4, 11) rfl rfl rfl
                · have h1' : t = 4 := Nat.eq_of_beq_eq_true h1
                  have h2' : ci = 0 := Nat.eq_of_beq_eq_true h2
                  subst h1'; subst h2'
                  exact key (RX0, TX0, 7) rfl rfl rfl
              · cases haf
            · cases haf
          · cases er
        · cases er
    · cases er
  · cases er
theorem sn_alen (hx : p.tables.exec = Jvm.exec) (hb : c.code = bs) (hLw : sx_Law o g L xs) (hX : va_X scr L xs s s.heap) (hsb : scr < b) (hbs : b ≤ s.heap.size) (hd : sx_dk bs (sx_xp x) .arraylength 1 = true) (hnx : sx_nx cs (sx_xp x + 1) = true) (hgo : ∀ ls st h, go cs ls st h = some out → sx_Cm p l e R s m args below meth c Q g b scr D h0 cs ls st h) (er : sh_alen o go cs ls st h = some out) : sx_Cm p l e R s m args below meth c Q g b scr D h0 (x :: cs) ls st h := by
  unfold sh_alen at er
  split at er
  · next k9 r =>
    split at er
    · next t n tr hg =>
      intro H locs cells slots la pc hpc hl hP hS hc hs
      have hpc' : sx_xp x = pc := Option.some.inj hpc
      subst hpc'
      obtain ⟨cA, hcell, hArr, -⟩ := hP.1 k9 _ hg
      have kk : W p l e R s m args below meth c H locs cells slots Q (F0 m (sx_xp x + 1) la (.int (g (o.1 n)) :: r.map (sx_c g b scr))) := hgo _ _ _ er H locs cells slots la _ (sx_nx_pc hnx) hl hP hS hc hs
      rw [hLw.1] at kk
      exact W.alen (n := nI n) hx hb hcell (hArr _ _) (by rw [arrV_size]; rfl) rfl rfl (sx_dk_ok hd) kk
    · cases er
  · next u r =>
    intro H locs cells slots la pc hpc hl hP hS hc hs
    have hpc' : sx_xp x = pc := Option.some.inj hpc
    subst hpc'
    have kk : W p l e R s m args below meth c H locs cells slots Q (F0 m (sx_xp x + 1) la (.int (g (o.1 o.2.2.2.2.1)) :: r.map (sx_c g b scr))) := hgo _ _ _ er H locs cells slots la _ (sx_nx_pc hnx) hl hP hS hc hs
    rw [hLw.1, hLw.2.2.2.2.1] at kk
    exact va_slen (A := fun q => b ≤ q) hx hb hX (Nat.lt_of_lt_of_le hsb hbs) (Nat.not_le.mpr hsb) hS (sx_dk_ok hd) kk
  · cases er
end SN
end
section
section SN
variable {p : Program} {l : Launch} {e : Env} {R : Room} {s : State} {m : MethodId} {args : Array Value} {below : List Frame} {meth : Method} {c : Code} {Q : State → Prop}
variable {I : Type} {o : sx_O I} {g : I → Int32} {b scr L : Nat} {xs : Nat → Int32} {D : va_G} {h0 : sx_H I} {bs : ByteArray} {own : String} {full cs : List Nat} {x a k q : Nat} {ls : sx_L I} {st : List (sx_V I)} {h : sx_H I} {out : sx_R I} {go : sx_G I}
/-! new cells -/
theorem sx_dflt_ty (hk : ∀ n : Nat, g (o.1 n) = nI n) {t : Nat} (ht : t ≤ 2) : sx_c g b scr (sx_dflt o t) = defaultValue (sx_ty t) := by
  have h0z : g (o.1 0) = 0 := (hk 0).trans nI_0
  rcases (show t = 0 ∨ t = 1 ∨ t = 2 by omega) with rfl | rfl | rfl
  · show Value.int (g (o.1 0)) = .int 0
    rw [h0z]
  · show Value.int (g (o.1 0)) = .int 0
    rw [h0z]
  · show Value.long (g (o.1 0)).toInt64 = .long 0
    rw [h0z]; rfl
theorem sx_rd_tr {n j : Nat} (v : sx_V I) (hn : n ≤ 8192) (hj : j < n) : sx_rd (sx_tr 13 v) j = v := by
  unfold sx_rd
  rw [sx_tg_tr 13 j v (by show j < 8192; omega)]; rfl
theorem sx_Spush {H0 H H1 : Heap} {locs : List Loc} {A : Nat → Prop} (hS : va_S A H0 H locs) (z : H1.size = H.size + 1) (oq : ∀ q : Nat, q < H.size → H1[q]? = H[q]?) : va_S A H0 H1 locs :=
  ⟨Nat.le_trans hS.1 (by omega), fun q h1 h2 => (oq q (Nat.lt_of_lt_of_le h1 hS.1)).trans (hS.2.1 q h1 h2), hS.2.2⟩
theorem sn_newa (hx : p.tables.exec = Jvm.exec) (hb : c.code = bs) (hLw : sx_Law o g L xs) (hts : ∀ w ∈ sx_goods, w.before args s = true) (hRc : out.2.2.2.1 ≤ h0.2.2.1 + R.cells) (hRs : out.2.2.2.2.1 ≤ h0.2.2.2.1 + R.slots) (hmono : ∀ ls st h, go cs ls st h = some out → h.2.2.1 ≤ out.2.2.2.1 ∧ h.2.2.2.1 ≤ out.2.2.2.2.1) (ha : a ≤ 2) (hd : sx_dk bs (sx_xp x) (.newarray (sx_at a)) 2 = true) (hq : lw_tbl[q]? = some (Jvm.Cond.arrayClass (sx_ty a))) (hnx : sx_nx cs (sx_xp x + 2) = true) (hgo : ∀ ls st h, go cs ls st h = some out → sx_Cm p l e R s m args below meth c Q g b scr D h0 cs ls st h) (er : sh_newa o go a cs ls st h = some out) : sx_Cm p l e R s m args below meth c Q g b scr D h0 (x :: cs) ls st h := by
  unfold sh_newa at er
  split at er
  · next i r =>
    cases hex : h.2.2.2.2 with
    | false => rw [hex] at er; cases er
    | true =>
      rw [hex] at er
      dsimp only [cond] at er
      split at er
      · next n hn =>
        cases hcd : (Nat.ble n 8192 && Nat.ble (h.2.1 + 1) 1024) with
        | false => rw [hcd] at er; cases er
        | true =>
          rw [hcd] at er
          simp only [Bool.and_eq_true] at hcd
          have h1 : n ≤ 8192 := Nat.le_of_ble_eq_true hcd.1
          have h2 : h.2.1 + 1 ≤ 1024 := Nat.le_of_ble_eq_true hcd.2
          have hgi := hLw.2.2.2.1 _ _ hn
          have hn31 : n < 2 ^ 31 := by omega
          have hm : h.2.2.1 + 1 ≤ out.2.2.2.1 ∧ h.2.2.2.1 + n ≤ out.2.2.2.2.1 := hmono _ _ _ er
          intro H locs cells slots la pc hpc hl hP hS hc hs
          have hpc' : sx_xp x = pc := Option.some.inj hpc
          subst hpc'
          have hty : newarray.typeOf (sx_at a) = sx_ty a := by
            rcases (show a = 0 ∨ a = 1 ∨ a = 2 by omega) with rfl | rfl | rfl <;> rfl
          have hbytes : n * componentBytes (newarray.typeOf (sx_at a)) ≤ 536870912 := by
            rcases (show a = 0 ∨ a = 1 ∨ a = 2 by omega) with rfl | rfl | rfl
            · show n * 4 ≤ 536870912
              omega
            · show n * 1 ≤ 536870912
              omega
            · show n * 8 ≤ 536870912
              omega
          have harr : (Jvm.Cond.arrayClass (newarray.typeOf (sx_at a))).before args s = true := by rw [hty]; exact sx_wg hts hq rfl
          have hz := hP.2.2.1 hex
          refine va_newaK (atype := sx_at a) (N := n) (h := b + h.2.1) hx hb harr rfl (sx_dk_ok hd) rfl (by rw [hgi]; exact nI_pos hn31) (by rw [hgi]; exact nI_clamp hn31) hbytes (by omega) (by omega) hz fun H' cA e1 e2 e3 hArr hNm => ?_
          have hc' : sx_cell g b scr D s H' h.2.1 (.inr (a, (n, sx_tr 13 (sx_dflt o a)))) := by
            rw [hty] at hArr
            refine ⟨cA, ?_, hArr, ?_⟩
            · rw [e1]
              refine congrArg some (arrV_cong fun j hj => ?_)
              rw [sx_rd_tr _ h1 hj, sx_dflt_ty hLw.1 ha, hty]
            · rw [hty] at hNm
              rcases (show a = 0 ∨ a = 1 ∨ a = 2 by omega) with rfl | rfl | rfl <;> exact hNm
          exact hgo _ _ _ er H' locs _ _ la _ (sx_nx_pc hnx) hl (sx_Rep_push n hP hex h2 hc' (by omega) (fun q hq => e3 q (by omega))) (sx_Spush hS (by omega) (fun q hq => e3 q (by omega))) (by show h0.2.2.1 + (cells + 1) = h.2.2.1 + 1; omega) (by show h0.2.2.2.1 + (slots + n) = h.2.2.2.1 + n; omega)
      · cases er
  · cases er
theorem sx_cla_ok {pc : Nat} {C : String} {f : Nat → Instr} (h : sx_cla own bs pc q C f cs = true) : ∃ idx : Nat, lw_tbl[q]? = some (Jvm.Cond.classLink own idx C) ∧ decode bs pc = .ok (f idx, 3) ∧ sx_pc cs = some (pc + 3) := by
  unfold sx_cla at h
  split at h
  · next own' idx C' hq =>
    simp only [Bool.and_eq_true, decide_eq_true_eq] at h
    obtain ⟨h1, h2, h3, h4⟩ := h
    subst h1; subst h2
    exact ⟨idx, hq, sx_dk_ok h3, sx_nx_pc h4⟩
  · cases h
theorem sn_anew (hx : p.tables.exec = Jvm.exec) (hb : c.code = bs) (hLw : sx_Law o g L xs) (hown : s.vm.findClass own = some m.cls) (hts : ∀ w ∈ sx_goods, w.before args s = true) (hAO : va_AO RX4 s ∧ va_AO RX0 s) (hRc : out.2.2.2.1 ≤ h0.2.2.1 + R.cells) (hRs : out.2.2.2.2.1 ≤ h0.2.2.2.1 + R.slots) (hmono : ∀ ls st h, go cs ls st h = some out → h.2.2.1 ≤ out.2.2.2.1 ∧ h.2.2.2.1 ≤ out.2.2.2.2.1) (hok : sx_cla own bs (sx_xp x) q (cond (Nat.beq a 3) RX4 RX0) .anewarray cs = true) (hgo : ∀ ls st h, go cs ls st h = some out → sx_Cm p l e R s m args below meth c Q g b scr D h0 cs ls st h) (er : sh_anew o go a cs ls st h = some out) : sx_Cm p l e R s m args below meth c Q g b scr D h0 (x :: cs) ls st h := by
  obtain ⟨idx, hq, hd, hnx⟩ := sx_cla_ok hok
  unfold sh_anew at er
  split at er
  · next i r =>
    cases hex : h.2.2.2.2 with
    | false => rw [hex] at er; cases er
    | true =>
      rw [hex] at er
      dsimp only [cond] at er
      split at er
      · next n hn =>
        cases hcd : (Nat.ble n 8192 && (Nat.ble (h.2.1 + 1) 1024 && (Nat.beq a 3 || Nat.beq a 4))) with
        | false => rw [hcd] at er; cases er
        | true =>
          rw [hcd] at er
          simp only [Bool.and_eq_true, Bool.or_eq_true] at hcd
          obtain ⟨g1, g2, g3⟩ := hcd
          have h1 : n ≤ 8192 := Nat.le_of_ble_eq_true g1
          have h2 : h.2.1 + 1 ≤ 1024 := Nat.le_of_ble_eq_true g2
          have hgi := hLw.2.2.2.1 _ _ hn
          have hn31 : n < 2 ^ 31 := by omega
          have hm : h.2.2.1 + 1 ≤ out.2.2.2.1 ∧ h.2.2.2.1 + n ≤ out.2.2.2.2.1 := hmono _ _ _ er
          intro H locs cells slots la pc hpc hl hP hS hc hs
          have hpc' : sx_xp x = pc := Option.some.inj hpc
          subst hpc'
          have hz := hP.2.2.1 hex
          have hC : sx_ty a = .object (cond (Nat.beq a 3) RX4 RX0) ∧ va_AO (cond (Nat.beq a 3) RX4 RX0) s := by
            rcases g3 with g3 | g3
            · have e3 : a = 3 := Nat.eq_of_beq_eq_true g3
              subst e3
              exact ⟨rfl, hAO.1⟩
            · have e3 : a = 4 := Nat.eq_of_beq_eq_true g3
              subst e3
              exact ⟨rfl, hAO.2⟩
          generalize hCg : cond (Nat.beq a 3) RX4 RX0 = C at hC hq
          have hnc : (g i).toNatClampNeg = n := by rw [hgi]; exact nI_clamp hn31
          refine W.anew (C := C) hx hb hown (sx_wg hts hq rfl) (va_AO.use hC.2) rfl hd rfl (by rw [hgi]; exact nI_pos hn31) (by rw [hnc]; omega) (by omega) (by rw [hnc]; omega) fun cA kA comp f1 f2 f3 f4 => ?_
          rw [hnc]
          generalize hH1 : H.push ({ cls := cA, slots := Array.replicate n .null, vm := .none } : Cell) = H1
          have z1 : H1.size = H.size + 1 := by rw [← hH1, Array.size_push]
          have e1 : H1[H.size]? = some (arrV cA n (fun _ => .null)) := by rw [← hH1, Array.getElem?_push_size, ← arrV_new]
          have o1 : ∀ q : Nat, q < H.size → H1[q]? = H[q]? := fun q hq => by rw [← hH1, Array.getElem?_push, if_neg (Nat.ne_of_lt hq)]
          have hAr : ArrOfT s cA (.object C) := fun N z => ⟨(fun k h => by cases h), kA, f2, comp, f3⟩
          have hc' : sx_cell g b scr D s H1 h.2.1 (.inr (a, (n, sx_tr 13 none))) := by
            refine ⟨cA, ?_, by rw [hC.1]; exact hAr, by rw [hC.1]; exact ⟨kA, comp, f2, f3, f4, f1⟩⟩
            rw [← hz, e1]
            exact congrArg some (arrV_cong fun j hj => by rw [sx_rd_tr _ h1 hj]; rfl)
          have kk := hgo _ _ _ er H1 locs (cells + 1) (slots + n) la _ hnx hl (sx_Rep_push n hP hex h2 hc' z1 o1) (sx_Spush hS z1 o1) (by show h0.2.2.1 + (cells + 1) = h.2.2.1 + 1; omega) (by show h0.2.2.2.1 + (slots + n) = h.2.2.2.1 + n; omega)
          rw [hz]
          exact kk
      · cases er
  · cases er
/-- what a class's tables say of its making -/
theorem sx_mkc {ci : Nat} {r9 : vw_C} (hc : vwCl[ci]? = some r9) : Jvm.Cond.instantiable r9.1 r9.2.2 ∈ sx_goods ∧ Jvm.Cond.initialized r9.1 ∈ sx_goods ∧ (sx_nff ci).length = r9.2.2 ∧ sx_cln ci = r9.1 :=
  sx_cl8 (P := fun ci r9 => Jvm.Cond.instantiable r9.1 r9.2.2 ∈ sx_goods ∧ Jvm.Cond.initialized r9.1 ∈ sx_goods ∧ (sx_nff ci).length = r9.2.2 ∧ sx_cln ci = r9.1) ⟨by decide +kernel, by decide +kernel, rfl, rfl⟩ ⟨by decide +kernel, by decide +kernel, rfl, rfl⟩ ⟨by decide +kernel, by decide +kernel, rfl, rfl⟩ ⟨by decide +kernel, by decide +kernel, rfl, rfl⟩ ⟨by decide +kernel, by decide +kernel, rfl, rfl⟩ ⟨by decide +kernel, by decide +kernel, rfl, rfl⟩ ⟨by decide +kernel, by decide +kernel, rfl, rfl⟩ ⟨by decide +kernel, by decide +kernel, rfl, rfl⟩ ci r9 hc
noncomputable def sx_dv (t : Nat) : Value := match t with
  | 2 => .null
  | _ => .int 0
theorem sx_nfd {ci : Nat} {r9 : vw_C} (hc : vwCl[ci]? = some r9) : ∀ j, j < r9.2.2 → ∃ t, (sx_nff ci)[j]? = some t ∧ t ≤ 2 ∧ defaultValue (sx_fty ci j) = sx_dv t :=
  sx_cl8 (P := fun ci r9 => ∀ j, j < r9.2.2 → ∃ t, (sx_nff ci)[j]? = some t ∧ t ≤ 2 ∧ defaultValue (sx_fty ci j) = sx_dv t)
    (fun j hj => by match j, hj with
      | 0, _ => exact ⟨0, rfl, by decide, rfl⟩
      | 1, _ => exact ⟨0, rfl, by decide, rfl⟩
      | 2, _ => exact ⟨0, rfl, by decide, rfl⟩
      | 3, _ => exact ⟨2, rfl, by decide, rfl⟩
      | 4, _ => exact ⟨2, rfl, by decide, rfl⟩
      | 5, _ => exact ⟨2, rfl, by decide, rfl⟩
      | 6, _ => exact ⟨2, rfl, by decide, rfl⟩)
    (fun j hj => by match j, hj with
      | 0, _ => exact ⟨2, rfl, by decide, rfl⟩
      | 1, _ => exact ⟨2, rfl, by decide, rfl⟩
      | 2, _ => exact ⟨2, rfl, by decide, rfl⟩
      | 3, _ => exact ⟨2, rfl, by decide, rfl⟩)
    (fun j hj => by match j, hj with
      | 0, _ => exact ⟨2, rfl, by decide, rfl⟩
      | 1, _ => exact ⟨2, rfl, by decide, rfl⟩
      | 2, _ => exact ⟨2, rfl, by decide, rfl⟩
      | 3, _ => exact ⟨0, rfl, by decide, rfl⟩
      | 4, _ => exact ⟨2, rfl, by decide, rfl⟩)
    (fun j hj => by match j, hj with
      | 0, _ => exact ⟨0, rfl, by decide, rfl⟩
      | 1, _ => exact ⟨1, rfl, by decide, rfl⟩
      | 2, _ => exact ⟨1, rfl, by decide, rfl⟩
      | 3, _ => exact ⟨0, rfl, by decide, rfl⟩
      | 4, _ => exact ⟨0, rfl, by decide, rfl⟩
      | 5, _ => exact ⟨1, rfl, by decide, rfl⟩
      | 6, _ => exact ⟨1, rfl, by decide, rfl⟩)
    (fun j hj => by match j, hj with
      | 0, _ => exact ⟨1, rfl, by decide, rfl⟩
      | 1, _ => exact ⟨0, rfl, by decide, rfl⟩
      | 2, _ => exact ⟨0, rfl, by decide, rfl⟩
      | 3, _ => exact ⟨0, rfl, by decide, rfl⟩
      | 4, _ => exact ⟨1, rfl, by decide, rfl⟩
      | 5, _ => exact ⟨0, rfl, by decide, rfl⟩
      | 6, _ => exact ⟨2, rfl, by decide, rfl⟩
      | 7, _ => exact ⟨2, rfl, by decide, rfl⟩
      | 8, _ => exact ⟨2, rfl, by decide, rfl⟩
      | 9, _ => exact ⟨2, rfl, by decide, rfl⟩
      | 10, _ => exact ⟨2, rfl, by decide, rfl⟩)
    (fun j hj => by match j, hj with
      | 0, _ => exact ⟨2, rfl, by decide, rfl⟩
      | 1, _ => exact ⟨0, rfl, by decide, rfl⟩)
    (fun j hj => by match j, hj with
      | 0, _ => exact ⟨2, rfl, by decide, rfl⟩
      | 1, _ => exact ⟨2, rfl, by decide, rfl⟩
      | 2, _ => exact ⟨2, rfl, by decide, rfl⟩
      | 3, _ => exact ⟨0, rfl, by decide, rfl⟩
      | 4, _ => exact ⟨2, rfl, by decide, rfl⟩
      | 5, _ => exact ⟨2, rfl, by decide, rfl⟩
      | 6, _ => exact ⟨2, rfl, by decide, rfl⟩
      | 7, _ => exact ⟨0, rfl, by decide, rfl⟩
      | 8, _ => exact ⟨2, rfl, by decide, rfl⟩
      | 9, _ => exact ⟨2, rfl, by decide, rfl⟩
      | 10, _ => exact ⟨2, rfl, by decide, rfl⟩
      | 11, _ => exact ⟨2, rfl, by decide, rfl⟩
      | 12, _ => exact ⟨2, rfl, by decide, rfl⟩
      | 13, _ => exact ⟨2, rfl, by decide, rfl⟩
      | 14, _ => exact ⟨2, rfl, by decide, rfl⟩)
    (fun j hj => by match j, hj with
      | 0, _ => exact ⟨2, rfl, by decide, rfl⟩
      | 1, _ => exact ⟨2, rfl, by decide, rfl⟩
      | 2, _ => exact ⟨2, rfl, by decide, rfl⟩
      | 3, _ => exact ⟨2, rfl, by decide, rfl⟩
      | 4, _ => exact ⟨2, rfl, by decide, rfl⟩
      | 5, _ => exact ⟨2, rfl, by decide, rfl⟩
      | 6, _ => exact ⟨2, rfl, by decide, rfl⟩
      | 7, _ => exact ⟨2, rfl, by decide, rfl⟩
      | 8, _ => exact ⟨2, rfl, by decide, rfl⟩
      | 9, _ => exact ⟨2, rfl, by decide, rfl⟩
      | 10, _ => exact ⟨2, rfl, by decide, rfl⟩
      | 11, _ => exact ⟨2, rfl, by decide, rfl⟩
      | 12, _ => exact ⟨2, rfl, by decide, rfl⟩
      | 13, _ => exact ⟨0, rfl, by decide, rfl⟩
      | 14, _ => exact ⟨2, rfl, by decide, rfl⟩
      | 15, _ => exact ⟨2, rfl, by decide, rfl⟩
      | 16, _ => exact ⟨2, rfl, by decide, rfl⟩
      | 17, _ => exact ⟨2, rfl, by decide, rfl⟩
      | 18, _ => exact ⟨2, rfl, by decide, rfl⟩
      | 19, _ => exact ⟨0, rfl, by decide, rfl⟩
      | 20, _ => exact ⟨2, rfl, by decide, rfl⟩
      | 21, _ => exact ⟨2, rfl, by decide, rfl⟩
      | 22, _ => exact ⟨2, rfl, by decide, rfl⟩
      | 23, _ => exact ⟨0, rfl, by decide, rfl⟩
      | 24, _ => exact ⟨0, rfl, by decide, rfl⟩
      | 25, _ => exact ⟨2, rfl, by decide, rfl⟩
      | 26, _ => exact ⟨2, rfl, by decide, rfl⟩
      | 27, _ => exact ⟨2, rfl, by decide, rfl⟩
      | 28, _ => exact ⟨1, rfl, by decide, rfl⟩
      | 29, _ => exact ⟨2, rfl, by decide, rfl⟩
      | 30, _ => exact ⟨2, rfl, by decide, rfl⟩
      | 31, _ => exact ⟨0, rfl, by decide, rfl⟩
      | n + 32, hj => exact absurd (show n + 32 < 32 from hj) (by omega)) ci r9 hc
theorem sn_new (hx : p.tables.exec = Jvm.exec) (hb : c.code = bs) (hLw : sx_Law o g L xs) (hown : s.vm.findClass own = some m.cls) (hts : ∀ w ∈ sx_goods, w.before args s = true) (hK : va_K D vwCl [] s) (hRc : out.2.2.2.1 ≤ h0.2.2.1 + R.cells) (hRs : out.2.2.2.2.1 ≤ h0.2.2.2.1 + R.slots) (hmono : ∀ ls st h, go cs ls st h = some out → h.2.2.1 ≤ out.2.2.2.1 ∧ h.2.2.2.1 ≤ out.2.2.2.2.1) (ha : a ≤ 7) (hok : sx_cla own bs (sx_xp x) q (sx_cln a) .new cs = true) (hgo : ∀ ls st h, go cs ls st h = some out → sx_Cm p l e R s m args below meth c Q g b scr D h0 cs ls st h) (er : sh_new o go a cs ls st h = some out) : sx_Cm p l e R s m args below meth c Q g b scr D h0 (x :: cs) ls st h := by
  obtain ⟨idx, hq, hd, hnx⟩ := sx_cla_ok hok
  obtain ⟨r9, hc9⟩ : ∃ r9, vwCl[a]? = some r9 := by
    rcases (show a = 0 ∨ a = 1 ∨ a = 2 ∨ a = 3 ∨ a = 4 ∨ a = 5 ∨ a = 6 ∨ a = 7 by omega) with rfl | rfl | rfl | rfl | rfl | rfl | rfl | rfl <;> exact ⟨_, rfl⟩
  obtain ⟨w1, w2, hlen, hcn⟩ := sx_mkc hc9
  rw [hcn] at hq
  unfold sh_new at er
  cases hcd : (h.2.2.2.2 && Nat.ble (h.2.1 + 1) 1024) with
  | false => rw [hcd] at er; cases er
  | true =>
    rw [hcd] at er
    simp only [Bool.and_eq_true] at hcd
    obtain ⟨hex, g2⟩ := hcd
    have h2 : h.2.1 + 1 ≤ 1024 := Nat.le_of_ble_eq_true g2
    have hm : h.2.2.1 + 1 ≤ out.2.2.2.1 ∧ h.2.2.2.1 + (sx_nff a).length ≤ out.2.2.2.2.1 := hmono _ _ _ er
    intro H locs cells slots la pc hpc hl hP hS hc hs
    have hpc' : sx_xp x = pc := Option.some.inj hpc
    subst hpc'
    have hz := hP.2.2.1 hex
    have hKn := hK.1 a _ hc9
    refine W.newcK (C := r9.1) (n := r9.2.2) (h := b + h.2.1) hx hb hown (sx_wg hts hq rfl) (hts _ w1) (hts _ w2) rfl hd (by omega) (by omega) hKn.2.1 hz fun H1 kC hkC e1 z1 o1 => ?_
    have hc' : sx_cell g b scr D s H1 h.2.1 (.inl (a, (sx_nff a).map (sx_fd o))) := by
      refine ⟨_, hc9, (u_born (sx_fty a) hts (sx_uws hc9) hKn hkC e1 (sx_ftyok hc9)).to fun j hj => ?_⟩
      obtain ⟨t, ht, ht2, hdv⟩ := sx_nfd hc9 j hj
      have h0z : g (o.1 0) = 0 := (hLw.1 0).trans nI_0
      have e9 : vp_V (((sx_nff a).map (sx_fd o)).map (sx_c g b scr)) j = sx_c g b scr (sx_fd o t) := by
        simp [vp_V, List.getD_eq_getElem?_getD, ht]
      show defaultValue (sx_fty a j) = vp_V (((sx_nff a).map (sx_fd o)).map (sx_c g b scr)) j
      rw [hdv, e9]
      rcases (show t = 0 ∨ t = 1 ∨ t = 2 by omega) with rfl | rfl | rfl
      · show Value.int 0 = .int (g (o.1 0))
        rw [h0z]
      · show Value.int 0 = .int (g (o.1 0))
        rw [h0z]
      · rfl
    exact hgo _ _ _ er H1 locs _ _ la _ hnx hl (sx_Rep_push _ hP hex h2 hc' (by omega) (fun q hq => o1 q (by omega))) (sx_Spush hS (by omega) (fun q hq => o1 q (by omega))) (by show h0.2.2.1 + (cells + 1) = h.2.2.1 + 1; omega) (by show h0.2.2.2.1 + (slots + r9.2.2) = h.2.2.2.1 + (sx_nff a).length; omega)
/-! calls of the JDK's own methods; a static array's clone; the law's switch -/
theorem sx_jdk_ok {pc fr lo f9 l9 : Nat} {y : MethodName} {f : Nat → Instr} (h : sx_jdk own bs pc fr lo f9 l9 q y f cs = true) : ∃ idx : Nat, lw_tbl[q]? = some (Jvm.Cond.methodLink own idx y) ∧ f9 ≤ fr ∧ l9 ≤ lo ∧ decode bs pc = .ok (f idx, 3) ∧ sx_pc cs = some (pc + 3) := by
  unfold sx_jdk at h
  split at h
  · next own' idx y' hq =>
    simp only [Bool.and_eq_true, decide_eq_true_eq] at h
    obtain ⟨h1, h2, h3, h4, h5, h6⟩ := h
    subst h1; subst h2
    exact ⟨idx, hq, Nat.le_of_ble_eq_true h3, Nat.le_of_ble_eq_true h4, sx_dk_ok h5, sx_nx_pc h6⟩
  · cases h
theorem sx_w_obj : Jvm.Cond.instanceMethod Lib.objectInit ∈ sx_goods ∧ Jvm.Cond.code Lib.objectInit ⟨#[0xb1]⟩ 1 none ∈ sx_goods := ⟨by decide +kernel, by decide +kernel⟩
theorem sx_w_max : Jvm.Cond.static Lib.Math.max.name ∈ sx_goods ∧ Jvm.Cond.code Lib.Math.max.name Lib.Math.max.code 2 (some .int) ∈ sx_goods := ⟨by decide +kernel, by decide +kernel⟩
theorem sx_w_min : Jvm.Cond.static Lib.Math.min.name ∈ sx_goods ∧ Jvm.Cond.code Lib.Math.min.name Lib.Math.min.code 2 (some .int) ∈ sx_goods := ⟨by decide +kernel, by decide +kernel⟩
theorem sx_w_math : Jvm.Cond.initialized "java/lang/Math" ∈ sx_goods := by decide +kernel
theorem sn_obj (hx : p.tables.exec = Jvm.exec) (hb : c.code = bs) (hown : s.vm.findClass own = some m.cls) (hts : ∀ w ∈ sx_goods, w.before args s = true) {fr lo : Nat} (hRf : fr ≤ R.frames) (hRl : lo ≤ R.locals) (hok : sx_jdk own bs (sx_xp x) fr lo 1 20 q Lib.objectInit .invokespecial cs = true) (hgo : ∀ ls st h, go cs ls st h = some out → sx_Cm p l e R s m args below meth c Q g b scr D h0 cs ls st h) (er : sh_obj go cs ls st h = some out) : sx_Cm p l e R s m args below meth c Q g b scr D h0 (x :: cs) ls st h := by
  obtain ⟨idx, hq, h1, h2, hd, hnx⟩ := sx_jdk_ok hok
  unfold sh_obj at er
  split at er
  · next k9 r =>
    cases hcd : Nat.ble (sx_sw r) 8 with
    | false => rw [hcd] at er; cases er
    | true =>
      rw [hcd] at er
      have h8 : sx_sw r ≤ 8 := Nat.le_of_ble_eq_true hcd
      intro H locs cells slots la pc hpc hl hP hS hc hs
      have hpc' : sx_xp x = pc := Option.some.inj hpc
      subst hpc'
      exact W.objInit (a := b + k9) (rest := r.map (sx_c g b scr)) (g := F0 m (sx_xp x) la (.ref (b + k9) :: r.map (sx_c g b scr))) hx hb hown (sx_wg hts hq rfl) (hts _ sx_w_obj.1) (hts _ sx_w_obj.2) rfl hl.1 rfl hd (by omega) (by show 2 * 0 + _ + 12 ≤ R.locals; rw [sx_sw_sum]; omega) (hgo _ _ _ er H locs cells slots la _ hnx hl hP hS hc hs)
  · cases er
theorem sn_max (hx : p.tables.exec = Jvm.exec) (hb : c.code = bs) (hLw : sx_Law o g L xs) (hown : s.vm.findClass own = some m.cls) (hts : ∀ w ∈ sx_goods, w.before args s = true) {fr lo : Nat} (hRf : fr ≤ R.frames) (hRl : lo ≤ R.locals) (hRc : out.2.2.2.1 ≤ h0.2.2.1 + R.cells) (hRs : out.2.2.2.2.1 ≤ h0.2.2.2.1 + R.slots) (hmono : ∀ ls st h, go cs ls st h = some out → h.2.2.1 ≤ out.2.2.2.1 ∧ h.2.2.2.1 ≤ out.2.2.2.2.1) (hok : sx_jdk own bs (sx_xp x) fr lo 1 21 q Lib.Math.max.name .invokestatic cs = true) (hgo : ∀ ls st h, go cs ls st h = some out → sx_Cm p l e R s m args below meth c Q g b scr D h0 cs ls st h) (er : sh_max o go cs ls st h = some out) : sx_Cm p l e R s m args below meth c Q g b scr D h0 (x :: cs) ls st h := by
  obtain ⟨idx, hq, h1, h2, hd, hnx⟩ := sx_jdk_ok hok
  unfold sh_max at er
  split at er
  · next j i r =>
    cases hcd : Nat.ble (sx_sw r) 8 with
    | false => rw [hcd] at er; cases er
    | true =>
      rw [hcd] at er
      have h8 : sx_sw r ≤ 8 := Nat.le_of_ble_eq_true hcd
      dsimp only [cond] at er
      have kk : ∀ v : I, go cs ls (some (.inl v) :: r) h = some out → g v = (if g i < g j then g j else g i) → sx_Cm p l e R s m args below meth c Q g b scr D h0 (x :: cs) ls (some (.inl j) :: some (.inl i) :: r) h := fun v er' hv => by
        have hm := hmono _ _ _ er'
        intro H locs cells slots la pc hpc hl hP hS hc hs
        have hpc' : sx_xp x = pc := Option.some.inj hpc
        subst hpc'
        have kk' : W p l e R s m args below meth c H locs cells slots Q (F0 m (sx_xp x + 3) la (.int (g v) :: r.map (sx_c g b scr))) := hgo _ _ _ er' H locs cells slots la _ hnx hl hP hS hc hs
        rw [hv] at kk'
        exact va_mmax (x := g i) (y := g j) hx hb hl.1.symm hown (sx_wg hts hq rfl) (hts _ sx_w_max.1) (hts _ sx_w_math) (hts _ sx_w_max.2) (by omega) (by rw [sx_sw_sum]; omega) (by omega) (by omega) hd kk'
      split at er
      · next ht =>
        have h3 : g i < g j := (hLw.2.2.1 2 _ _ _ ht).mp rfl
        exact kk j er (by rw [if_pos h3])
      · next ht =>
        have h3 : ¬ g i < g j := fun q => by have := (hLw.2.2.1 2 _ _ _ ht).mpr q; cases this
        exact kk i er (by rw [if_neg h3])
      · cases er
  · cases er
theorem sn_min (hx : p.tables.exec = Jvm.exec) (hb : c.code = bs) (hLw : sx_Law o g L xs) (hown : s.vm.findClass own = some m.cls) (hts : ∀ w ∈ sx_goods, w.before args s = true) {fr lo : Nat} (hRf : fr ≤ R.frames) (hRl : lo ≤ R.locals) (hRc : out.2.2.2.1 ≤ h0.2.2.1 + R.cells) (hRs : out.2.2.2.2.1 ≤ h0.2.2.2.1 + R.slots) (hmono : ∀ ls st h, go cs ls st h = some out → h.2.2.1 ≤ out.2.2.2.1 ∧ h.2.2.2.1 ≤ out.2.2.2.2.1) (hok : sx_jdk own bs (sx_xp x) fr lo 1 21 q Lib.Math.min.name .invokestatic cs = true) (hgo : ∀ ls st h, go cs ls st h = some out → sx_Cm p l e R s m args below meth c Q g b scr D h0 cs ls st h) (er : sh_min o go cs ls st h = some out) : sx_Cm p l e R s m args below meth c Q g b scr D h0 (x :: cs) ls st h := by
  obtain ⟨idx, hq, h1, h2, hd, hnx⟩ := sx_jdk_ok hok
  unfold sh_min at er
  split at er
  · next j i r =>
    cases hcd : Nat.ble (sx_sw r) 8 with
    | false => rw [hcd] at er; cases er
    | true =>
      rw [hcd] at er
      have h8 : sx_sw r ≤ 8 := Nat.le_of_ble_eq_true hcd
      dsimp only [cond] at er
      have kk : ∀ v : I, go cs ls (some (.inl v) :: r) h = some out → g v = (if g j < g i then g j else g i) → sx_Cm p l e R s m args below meth c Q g b scr D h0 (x :: cs) ls (some (.inl j) :: some (.inl i) :: r) h := fun v er' hv => by
        have hm := hmono _ _ _ er'
        intro H locs cells slots la pc hpc hl hP hS hc hs
        have hpc' : sx_xp x = pc := Option.some.inj hpc
        subst hpc'
        have kk' : W p l e R s m args below meth c H locs cells slots Q (F0 m (sx_xp x + 3) la (.int (g v) :: r.map (sx_c g b scr))) := hgo _ _ _ er' H locs cells slots la _ hnx hl hP hS hc hs
        rw [hv] at kk'
        exact va_mmin (x := g i) (y := g j) hx hb hl.1.symm hown (sx_wg hts hq rfl) (hts _ sx_w_min.1) (hts _ sx_w_math) (hts _ sx_w_min.2) (by omega) (by rw [sx_sw_sum]; omega) (by omega) (by omega) hd kk'
      split at er
      · next ht =>
        have h3 : g i < g j := (hLw.2.2.1 2 _ _ _ ht).mp rfl
        exact kk i er (by rw [if_neg (fun q => by rw [Int32.lt_iff_toInt_lt] at q h3; omega)])
      · next ht =>
        have h3 : ¬ g i < g j := fun q => by have := (hLw.2.2.1 2 _ _ _ ht).mpr q; cases this
        refine kk j er ?_
        by_cases h4 : g j < g i
        · rw [if_pos h4]
        · rw [if_neg h4]
          apply Int32.toInt_inj.mp
          rw [Int32.lt_iff_toInt_lt] at h3 h4
          omega
      · cases er
  · cases er
theorem sn_switch (hx : p.tables.exec = Jvm.exec) (hb : c.code = bs) (hLw : sx_Law o g L xs) {t9 c9 : Nat} (ha : a < 2 ^ 30) (hok : sx_swi bs (sx_xp x) full a t9 c9 = true) (hgj : ∀ b9 ls st h, go (full.drop b9) ls st h = some out → sx_Cm p l e R s m args below meth c Q g b scr D h0 (full.drop b9) ls st h) (er : sh_switch o go full a t9 c9 ls st h = some out) : sx_Cm p l e R s m args below meth c Q g b scr D h0 (x :: cs) ls st h := by
  unfold sx_swi at hok
  split at hok
  · next d lo9 hh offs len hdec =>
    simp only [Bool.and_eq_true, decide_eq_true_eq] at hok
    obtain ⟨h1, h2, h3, h4⟩ := hok
    subst h1; subst h2
    unfold sh_switch at er
    split at er
    · next i r =>
      split at er
      · next n hn =>
        have hgi := hLw.2.2.2.1 _ _ hn
        intro H locs cells slots la pc hpc hl hP hS hc hs
        have hpc' : sx_xp x = pc := Option.some.inj hpc
        subst hpc'
        show W p l e R s m args below meth c H locs cells slots Q (F0 m (sx_xp x) la (.int (g i) :: r.map (sx_c g b scr)))
        cases hcd : Nat.ble (n + 1) a with
        | true =>
          rw [hcd] at er
          dsimp only [cond] at er
          have hna : n < a := Nat.le_of_ble_eq_true hcd
          have hti : (g i).toInt = (n : Int) := by rw [hgi]; exact nI_toInt (by omega)
          have h5 := List.all_eq_true.mp h4 n (List.mem_range.mpr hna)
          split at h5
          · next t ht =>
            have h6 := of_decide_eq_true h5
            exact lv_tableIn (tgt := t) hx hb hdec (by rw [hti]; omega) (by rw [hti]; omega) (by rw [hti]; simpa using h6) (by omega) (hgj _ _ _ _ er H locs cells slots la _ ht hl hP hS hc hs)
          · cases h5
        | false =>
          rw [hcd] at er
          dsimp only [cond] at er
          cases hcd2 : Nat.ble (n + 1) 2147483648 with
          | false => rw [hcd2] at er; cases er
          | true =>
            rw [hcd2] at er
            dsimp only [cond] at er
            have hna : ¬ n < a := fun q => by rw [show Nat.ble (n + 1) a = true from Nat.ble_eq_true_of_le q] at hcd; cases hcd
            have hn31 : n + 1 ≤ 2147483648 := Nat.le_of_ble_eq_true hcd2
            have hti : (g i).toInt = (n : Int) := by rw [hgi]; exact nI_toInt (by omega)
            split at h3
            · next t ht =>
              have h6 := of_decide_eq_true h3
              exact lv_tableOut (tgt := t) hx hb hdec (Or.inr (by rw [hti]; omega)) h6 (hgj _ _ _ _ er H locs cells slots la _ ht hl hP hS hc hs)
            · cases h3
      · cases er
    · cases er
  · cases hok
theorem sx_w_clo : Jvm.Cond.methodLink RX1 13 ⟨"[I", "clone", "()Ljava/lang/Object;"⟩ ∈ sx_goods ∧ Jvm.Cond.sameMethod "[I" "java/lang/Object" "clone" "()Ljava/lang/Object;" ∈ sx_goods ∧ Jvm.Cond.native ⟨"java/lang/Object", "clone", "()Ljava/lang/Object;"⟩ ∈ sx_goods ∧ Jvm.Cond.instanceMethod ⟨"java/lang/Object", "clone", "()Ljava/lang/Object;"⟩ ∈ sx_goods ∧ Jvm.Cond.selects "[I" ⟨"[I", "clone", "()Ljava/lang/Object;"⟩ ⟨"java/lang/Object", "clone", "()Ljava/lang/Object;"⟩ ∈ sx_goods ∧ Jvm.Cond.classLink RX1 14 "[I" ∈ sx_goods := ⟨by decide +kernel, by decide +kernel, by decide +kernel, by decide +kernel, by decide +kernel, by decide +kernel⟩
theorem sx_w_cln : Jvm.Cond.castable "[I" "java/lang/Cloneable" ∈ sx_ng := by decide +kernel
theorem sx_lay_ne {A : Type} (vs : List A) : ∀ (i q : Nat) (t : sx_T A 13), q < i → sx_tg 13 (sx_lay 13 i vs t) q = sx_tg 13 t q := by
  induction vs with
  | nil => intro i q t _; rfl
  | cons v vs ih =>
    intro i q t h
    show sx_tg 13 (sx_lay 13 (i + 1) vs (sx_ts 13 t i v)) q = _
    rw [ih (i + 1) q _ (by omega), sx_tg_ne 13 t i q v (by omega)]
theorem sx_lay_at {A : Type} (vs : List A) : ∀ (i j : Nat) (v : A) (t : sx_T A 13), i + vs.length ≤ 8192 → vs[j]? = some v → sx_tg 13 (sx_lay 13 i vs t) (i + j) = some v := by
  induction vs with
  | nil => intro i j v t _ h; simp at h
  | cons w vs ih =>
    intro i j v t hl h
    show sx_tg 13 (sx_lay 13 (i + 1) vs (sx_ts 13 t i w)) (i + j) = _
    simp only [List.length_cons] at hl
    cases j with
    | zero =>
      cases h
      show sx_tg 13 (sx_lay 13 (i + 1) vs (sx_ts 13 t i w)) i = some w
      rw [sx_lay_ne vs (i + 1) i _ (by omega)]
      obtain ⟨z, hz⟩ := sx_tg_some 13 t i (by show i < 8192; omega)
      exact sx_tg_same 13 t i z w hz
    | succ j =>
      rw [show i + (j + 1) = i + 1 + j by omega]
      exact ih (i + 1) j v _ (by omega) h
theorem sx_sv_len (a : Nat) : (sx_sv a).length = 18 := by
  unfold sx_sv
  split <;> rfl
theorem sn_clone (hx : p.tables.exec = Jvm.exec) (hb : c.code = bs) (hLw : sx_Law o g L xs) (hown : s.vm.findClass own = some m.cls) (hts : ∀ w ∈ sx_goods, w.before args s = true) (hKK : sx_KK b scr L xs D s) {fr lo b9 : Nat} (hRf : fr ≤ R.frames) (hRl : lo ≤ R.locals) (hRc : out.2.2.2.1 ≤ h0.2.2.1 + R.cells) (hRs : out.2.2.2.2.1 ≤ h0.2.2.2.1 + R.slots) (hmono : ∀ ls st h, go cs ls st h = some out → h.2.2.1 ≤ out.2.2.2.1 ∧ h.2.2.2.1 ≤ out.2.2.2.2.1) (hok : sx_clo own bs (sx_xp x) fr lo a b9 q cs = true) (hgo : ∀ ls st h, go cs ls st h = some out → sx_Cm p l e R s m args below meth c Q g b scr D h0 cs ls st h) (er : sh_clone o go a cs ls st h = some out) : sx_Cm p l e R s m args below meth c Q g b scr D h0 (x :: cs) ls st h := by
  unfold sx_clo at hok
  split at hok
  · next own' idx ref name desc host hq =>
    simp only [Bool.and_eq_true, decide_eq_true_eq] at hok
    obtain ⟨e1, e2, e3, e4, e5, e6, h7, h8, h9, h10, h11, h12⟩ := hok
    subst e1; subst e2; subst e3; subst e4; subst e5; subst e6
    have h7' := Nat.le_of_ble_eq_true h7
    have h8' := Nat.le_of_ble_eq_true h8
    obtain ⟨hK, hng, -, -, -, -, ⟨hs0, hs1⟩, -, hbs⟩ := hKK
    have hSt : ∃ a9, sx_sv a9 = sx_sv a ∧ sx_fn a9 = sx_fn a ∧ sx_Sta b a9 s := by
      cases a with
      | zero => exact ⟨0, rfl, rfl, hs0⟩
      | succ n => exact ⟨1, rfl, rfl, hs1⟩
    obtain ⟨a9, f1, f2, t, cell0, hZ, hcell0, hno0, hun0, hArr, hRA, hsl0, htb⟩ := hSt
    generalize hcA : cell0.cls = cA at hArr hRA hsl0
    rw [f2] at hZ
    unfold sh_clone at er
    cases hcd : (h.2.2.2.2 && (Nat.ble (h.2.1 + 1) 1024 && Nat.ble (sx_sw st) 8)) with
    | false => rw [hcd] at er; cases er
    | true =>
      rw [hcd] at er
      dsimp only [cond] at er
      simp only [Bool.and_eq_true] at hcd
      obtain ⟨hex, g2, g3⟩ := hcd
      have h2 : h.2.1 + 1 ≤ 1024 := Nat.le_of_ble_eq_true g2
      have h3 : sx_sw st ≤ 8 := Nat.le_of_ble_eq_true g3
      have hm : h.2.2.1 + 1 ≤ out.2.2.2.1 ∧ h.2.2.2.1 + 18 ≤ out.2.2.2.2.1 := hmono _ _ _ er
      intro H locs cells slots la pc hpc hl hP hS hc hs
      have hpc' : sx_xp x = pc := Option.some.inj hpc
      subst hpc'
      have hz := hP.2.2.1 hex
      refine va_getsN (A := fun q => b ≤ q) hx hb hZ hS hown (va_Nw.use rfl (sx_wn hng hq rfl)) (fun _ h9 => h9) (sx_dk_ok h9) ?_
      have hHt : H[t]? = some cell0 := by rw [hS.2.1 t (Nat.lt_of_lt_of_le htb hbs) (Nat.not_le.mpr htb)]; exact hcell0
      have hnm : s.vm.findClass "[I" = some cA := hRA
      obtain ⟨c0, t0', k1, k2, k3⟩ := Jvm.Cond.castable_spec (va_Nw.use (A := args) rfl (hng _ sx_w_cln))
      cases hnm.symm.trans k1
      generalize hH1 : H.push (arrV cA 18 (fun j => .int (nI ((sx_sv a9).getD j 0)))) = H1
      have z1 : H1.size = H.size + 1 := by rw [← hH1, Array.size_push]
      have e1 : H1[H.size]? = some (arrV cA 18 (fun j => .int (nI ((sx_sv a9).getD j 0)))) := by rw [← hH1, Array.getElem?_push_size]
      have o1 : ∀ q : Nat, q < H.size → H1[q]? = H[q]? := fun q hq => by rw [← hH1, Array.getElem?_push, if_neg (Nat.ne_of_lt hq)]
      have hc' : sx_cell g b scr D s H1 h.2.1 (.inr (0, (18, sx_lay 13 0 ((sx_sv a).map (fun n => some (.inl (o.1 n)))) (sx_tr 13 (some (.inl (o.1 0))))))) := by
        refine ⟨cA, ?_, hArr, hRA⟩
        rw [← hz, e1]
        refine congrArg some (arrV_cong fun j hj => ?_)
        have hlen := sx_sv_len a
        obtain ⟨n, hn⟩ : ∃ n, (sx_sv a)[j]? = some n := ⟨_, List.getElem?_eq_getElem (by omega)⟩
        have h5 := sx_lay_at ((sx_sv a).map (fun n => (some (.inl (o.1 n)) : sx_V I))) 0 j (some (.inl (o.1 n))) (sx_tr 13 (some (.inl (o.1 0)))) (by rw [List.length_map]; omega) (by rw [List.getElem?_map, hn]; rfl)
        rw [Nat.zero_add] at h5
        rw [sx_rd_of h5]
        show Value.int _ = .int (g (o.1 n))
        rw [hLw.1, f1, List.getD_eq_getElem?_getD, hn]; rfl
      have kk : W p l e R s m args below meth c H1 locs (cells + 1) (slots + 18) Q (F0 m (sx_xp x + 9) la (.ref (b + h.2.1) :: st.map (sx_c g b scr))) := hgo _ _ _ er H1 locs (cells + 1) (slots + 18) la _ (sx_nx_pc h12) hl (sx_Rep_push 18 hP hex h2 hc' z1 o1) (sx_Spush hS z1 o1) (by show h0.2.2.1 + (cells + 1) = h.2.2.1 + 1; omega) (by show h0.2.2.2.1 + (slots + 18) = h.2.2.2.1 + 18; omega)
      have kk2 : W p l e R s m args below meth c H1 locs (cells + 1) (slots + 18) Q (F0 m (sx_xp x + 6) la (.ref (b + h.2.1) :: st.map (sx_c g b scr))) := by
        refine va_castA (D := D) (cl := vwCl) (ws := [(b + h.2.1, .inl (cA, (18, .inl (fun j => nI ((sx_sv a9).getD j 0)))))]) hx hb hown (hts _ sx_w_clo.2.2.2.2.2) (sx_P1 (by show H1[b + h.2.1]? = _; rw [← hz, e1]; rfl)) 0 rfl hnm (sx_dk_ok h11) kk
      intro T hT X
      have hcellT : T.heap[t]? = some cell0 := by rw [hT]; exact hHt
      obtain ⟨-, kA, hkA, comp, hkind⟩ := State.isArrayOf_alike X.warmed.alike (hArr 0 (fun _ => .null))
      obtain ⟨-, kS, hkS, compS, hkindS⟩ := hArr 0 (fun _ => .null)
      obtain ⟨vm', X', stp⟩ := X.cloneArray hx hown (hts _ sx_w_clo.1) (hts _ sx_w_clo.2.1) (hts _ sx_w_clo.2.2.1) (hts _ sx_w_clo.2.2.2.1) (hts _ sx_w_clo.2.2.2.2.1) (a := t) (cell := cell0) hcellT hno0 hun0 (by rw [hcA]; exact hnm) k2 (by rw [hcA]; exact k3)
        (fun i v hv => by
          rw [hcA]
          rw [hsl0] at hv
          have hi : i < 18 := by
            have := (Array.getElem?_eq_some_iff.mp hv).1
            rwa [arrV_size] at this
          rw [arrV_read _ _ hi] at hv
          cases hv
          have hk' : T.vm.classes[cA]? = some kA := hkA
          show T.fitsSlot cA .none i (.int _) = true
          simp [State.fitsSlot, State.slotType?, hk', hkind, fits])
        (g := F0 m (sx_xp x + 3) la (.ref t :: st.map (sx_c g b scr))) rfl hl.1 rfl (by rw [hb]; exact sx_dk_ok h10) (by omega) (by show 2 * 0 + _ + 14 ≤ _; rw [sx_sw_sum]; omega) (by omega) (by rw [hsl0, arrV_size]; omega) (hloader := by rw [hcA]; exact Vm.clonesLoader_of_array hkS hkindS)
      have hce : ({ cls := cell0.cls, slots := cell0.slots } : Cell) = arrV cA 18 (fun j => .int (nI ((sx_sv a9).getD j 0))) := by rw [hcA, hsl0]; rfl
      rw [hce, hsl0, arrV_size] at X'
      rw [hce] at stp
      obtain ⟨t2, b1, b2⟩ := kk2 ((T.setVm vm').pushCell (arrV cA 18 (fun j => .int (nI ((sx_sv a9).getD j 0))))) (by rw [← hH1, ← hT]; rfl) X'
      refine ⟨t2, stp t2 ?_, b2⟩
      rw [← hz] at b1
      rw [hT]
      exact b1
  · cases hok
end SN
end
section
/-! ===== what was made only grows ===== -/
noncomputable def sx_LE {I : Type} (h : sx_H I) (out : sx_R I) : Prop := h.2.2.1 ≤ out.2.2.2.1 ∧ h.2.2.2.1 ≤ out.2.2.2.2.1
theorem sx_cond {A : Type} {b : Bool} {x : Option A} {y : A} (h : cond b x none = some y) : b = true ∧ x = some y := by
  cases b with
  | false => cases h
  | true => exact ⟨rfl, h⟩
theorem sx_condn {A : Type} {b : Bool} {x : Option A} {y : A} (h : cond b none x = some y) : b = false ∧ x = some y := by
  cases b with
  | true => cases h
  | false => exact ⟨rfl, h⟩
section MO
variable {I : Type} {o : sx_O I} {call : sx_K I} {go : sx_G I} {full : List sx_I} {a b9 c9 : Nat} {cs : List sx_I} {ls : sx_L I} {st : List (sx_V I)} {h : sx_H I} {out : sx_R I}
theorem sx_LE_hn {e1 : sx_E I} {sl : Nat} (h9 : sx_LE (sx_hn h e1 sl) out) : sx_LE h out := ⟨Nat.le_trans (Nat.le_succ _) h9.1, Nat.le_trans (Nat.le_add_right _ _) h9.2⟩
theorem sx_LE_hs {k9 : Nat} {e1 : sx_E I} (h9 : sx_LE (sx_hs h k9 e1) out) : sx_LE h out := h9
theorem sx_LE_tr {h' : sx_H I} {z : Nat × sx_V I} (h1 : sx_LE h (z, h')) (h2 : sx_LE h' out) : sx_LE h out := ⟨Nat.le_trans h1.1 h2.1, Nat.le_trans h1.2 h2.2⟩
theorem mo_bk {r : List (sx_V I)} {res : Option (sx_R I)} (hres : ∀ out', res = some out' → sx_LE h out') (hg : ∀ cs ls st h, go cs ls st h = some out → sx_LE h out) (er : sx_bk go cs ls r res = some out) : sx_LE h out := by
  cases res with
  | none => cases er
  | some z =>
    obtain ⟨⟨t, v⟩, h'⟩ := z
    have h1 := hres _ rfl
    match t, h1, er with
    | 0, h1, er => exact sx_LE_tr h1 (hg cs ls r h' er)
    | 1, h1, er => exact sx_LE_tr h1 (hg cs ls (v :: r) h' er)
    | t + 2, h1, er =>
      have e9 : some ((t + 2, none), h') = some out := er
      cases e9
      exact h1
theorem mo_bkI {r : List (sx_V I)} {res : Option (sx_R I)} (hres : ∀ out', res = some out' → sx_LE h out') (hg : ∀ cs ls st h, go cs ls st h = some out → sx_LE h out) (er : sx_bkI go cs ls r res = some out) : sx_LE h out := by
  cases res with
  | none => cases er
  | some z =>
    obtain ⟨⟨t, v⟩, h'⟩ := z
    have h1 := hres _ rfl
    match t, h1, er with
    | 0, h1, er => exact sx_LE_tr h1 (hg cs ls r h' er)
    | t + 1, h1, er => cases er
theorem mo_bkN {r : List (sx_V I)} {res : Option (sx_R I)} (hres : ∀ out', res = some out' → sx_LE h out') (hg : ∀ cs ls st h, go cs ls st h = some out → sx_LE h out) (er : sx_bkN go cs ls r res = some out) : sx_LE h out := by
  cases res with
  | none => cases er
  | some z =>
    obtain ⟨⟨t, v⟩, h'⟩ := z
    have h1 := hres _ rfl
    match t, h1, er with
    | 0, h1, er => exact sx_LE_tr h1 (hg cs ls r h' er)
    | 1, h1, er => exact sx_LE_tr h1 (hg cs ls (v :: r) h' er)
    | t + 2, h1, er => cases er
theorem mo_bkW {r : List (sx_V I)} {res : Option (sx_R I)} (hres : ∀ out', res = some out' → sx_LE h out') (hg : ∀ cs ls st h, go cs ls st h = some out → sx_LE h out) (er : sx_bkW o go b9 cs ls r res = some out) : sx_LE h out := by
  cases res with
  | none => cases er
  | some z =>
    obtain ⟨⟨t, v⟩, h'⟩ := z
    have h1 := hres _ rfl
    match t, h1, er with
    | 0, h1, er => exact sx_LE_tr h1 (hg cs ls r h' er)
    | 1, h1, er => exact sx_LE_tr h1 (hg cs ls (v :: r) h' er)
    | t + 2, h1, er =>
      have e9 := (sx_condn er).2
      cases e9
      exact h1
theorem mo_hd (op : Nat) (hcall : ∀ m as h out', call m as h = some out' → sx_LE h out') (hg : ∀ cs ls st h, go cs ls st h = some out → sx_LE h out) (er : sx_hd op o call go full a b9 c9 cs ls st h = some out) : sx_LE h out := by
  match op, er with
  | 0, er =>
    have er : sh_aload go a cs ls st h = some out := er
    unfold sh_aload at er
    (repeat' (first | (split at er) | (replace er := (sx_cond er).2) | (replace er := (sx_condn er).2)))
    all_goals first | exact hg _ _ _ _ er | exact sx_LE_hs (hg _ _ _ _ er) | (cases er; done)
  | 1, er =>
    have er : sh_get go a b9 cs ls st h = some out := er
    unfold sh_get at er
    (repeat' (first | (split at er) | (replace er := (sx_cond er).2) | (replace er := (sx_condn er).2)))
    all_goals first | exact hg _ _ _ _ er | exact sx_LE_hs (hg _ _ _ _ er) | (cases er; done)
  | 2, er =>
    have er : sh_iload go a cs ls st h = some out := er
    unfold sh_iload at er
    (repeat' (first | (split at er) | (replace er := (sx_cond er).2) | (replace er := (sx_condn er).2)))
    all_goals first | exact hg _ _ _ _ er | exact sx_LE_hs (hg _ _ _ _ er) | (cases er; done)
  | 3, er =>
    have er : sh_const o go a cs ls st h = some out := er
    unfold sh_const at er
    exact hg _ _ _ _ er
  | 4, er =>
    have er : sh_callV call go a b9 cs ls st h = some out := er
    unfold sh_callV at er
    (repeat' (first | (split at er) | (replace er := (sx_cond er).2) | (replace er := (sx_condn er).2)))
    all_goals first | exact mo_bk (fun out' e9 => hcall _ _ _ _ e9) hg er | (cases er; done)
  | 5, er =>
    have er : sh_goto go full b9 ls st h = some out := er
    unfold sh_goto at er
    exact hg _ _ _ _ er
  | 6, er =>
    have er : sh_ald o go a cs ls st h = some out := er
    unfold sh_ald at er
    (repeat' (first | (split at er) | (replace er := (sx_cond er).2) | (replace er := (sx_condn er).2)))
    all_goals first | exact hg _ _ _ _ er | exact sx_LE_hs (hg _ _ _ _ er) | (cases er; done)
  | 7, er =>
    have er : sh_iret st h = some out := er
    unfold sh_iret at er
    (repeat' (first | (split at er) | (replace er := (sx_cond er).2) | (replace er := (sx_condn er).2)))
    all_goals (cases er; try exact ⟨Nat.le_refl _, Nat.le_refl _⟩)
  | 8, er =>
    have er : sh_bin o go a cs ls st h = some out := er
    unfold sh_bin at er
    (repeat' (first | (split at er) | (replace er := (sx_cond er).2) | (replace er := (sx_condn er).2)))
    all_goals first | exact hg _ _ _ _ er | exact sx_LE_hs (hg _ _ _ _ er) | (cases er; done)
  | 9, er =>
    have er : sh_istore go a cs ls st h = some out := er
    unfold sh_istore at er
    (repeat' (first | (split at er) | (replace er := (sx_cond er).2) | (replace er := (sx_condn er).2)))
    all_goals first | exact hg _ _ _ _ er | exact sx_LE_hs (hg _ _ _ _ er) | (cases er; done)
  | 10, er =>
    have er : sh_if o go full a b9 cs ls st h = some out := er
    unfold sh_if at er
    (repeat' (first | (split at er) | (replace er := (sx_cond er).2) | (replace er := (sx_condn er).2)))
    all_goals first | exact hg _ _ _ _ er | exact sx_LE_hs (hg _ _ _ _ er) | (cases er; done)
  | 11, er =>
    have er : sh_icmp o go full a b9 cs ls st h = some out := er
    unfold sh_icmp at er
    (repeat' (first | (split at er) | (replace er := (sx_cond er).2) | (replace er := (sx_condn er).2)))
    all_goals first | exact hg _ _ _ _ er | exact sx_LE_hs (hg _ _ _ _ er) | (cases er; done)
  | 12, er =>
    have er : sh_put o go a b9 cs ls st h = some out := er
    unfold sh_put at er
    (repeat' (first | (split at er) | (replace er := (sx_cond er).2) | (replace er := (sx_condn er).2)))
    all_goals first | exact hg _ _ _ _ er | exact sx_LE_hs (hg _ _ _ _ er) | (cases er; done)
  | 13, er =>
    have er : sh_callS call go a b9 cs ls st h = some out := er
    unfold sh_callS at er
    (repeat' (first | (split at er) | (replace er := (sx_cond er).2) | (replace er := (sx_condn er).2)))
    all_goals first | exact mo_bk (fun out' e9 => hcall _ _ _ _ e9) hg er | (cases er; done)
  | 14, er =>
    have er : sh_iinc o go a b9 cs ls st h = some out := er
    unfold sh_iinc at er
    (repeat' (first | (split at er) | (replace er := (sx_cond er).2) | (replace er := (sx_condn er).2)))
    all_goals first | exact hg _ _ _ _ er | exact sx_LE_hs (hg _ _ _ _ er) | (cases er; done)
  | 15, er =>
    have er : sh_ast o go a cs ls st h = some out := er
    unfold sh_ast at er
    (repeat' (first | (split at er) | (replace er := (sx_cond er).2) | (replace er := (sx_condn er).2)))
    all_goals first | exact hg _ _ _ _ er | exact sx_LE_hs (hg _ _ _ _ er) | (cases er; done)
  | 16, er =>
    have er : sh_dup go cs ls st h = some out := er
    unfold sh_dup at er
    (repeat' (first | (split at er) | (replace er := (sx_cond er).2) | (replace er := (sx_condn er).2)))
    all_goals first | exact hg _ _ _ _ er | exact sx_LE_hs (hg _ _ _ _ er) | (cases er; done)
  | 17, er =>
    have er : sh_vret st h = some out := er
    unfold sh_vret at er
    (repeat' (first | (split at er) | (replace er := (sx_cond er).2) | (replace er := (sx_condn er).2)))
    all_goals (cases er; try exact ⟨Nat.le_refl _, Nat.le_refl _⟩)
  | 18, er =>
    have er : sh_callI call go a cs ls st h = some out := er
    unfold sh_callI at er
    (repeat' (first | (split at er) | (replace er := (sx_cond er).2) | (replace er := (sx_condn er).2)))
    all_goals first | exact mo_bkI (fun out' e9 => hcall _ _ _ _ e9) hg er | (cases er; done)
  | 19, er =>
    have er : sh_zret o st h = some out := er
    unfold sh_zret at er
    (repeat' (first | (split at er) | (replace er := (sx_cond er).2) | (replace er := (sx_condn er).2)))
    all_goals (cases er; try exact ⟨Nat.le_refl _, Nat.le_refl _⟩)
  | 20, er =>
    have er : sh_new o go a cs ls st h = some out := er
    unfold sh_new at er
    (repeat' (first | (split at er) | (replace er := (sx_cond er).2) | (replace er := (sx_condn er).2)))
    all_goals first | exact sx_LE_hn (hg _ _ _ _ er) | (cases er; done)
  | 21, er =>
    have er : sh_i2l go cs ls st h = some out := er
    unfold sh_i2l at er
    (repeat' (first | (split at er) | (replace er := (sx_cond er).2) | (replace er := (sx_condn er).2)))
    all_goals first | exact hg _ _ _ _ er | exact sx_LE_hs (hg _ _ _ _ er) | (cases er; done)
  | 22, er =>
    have er : sh_astore go a cs ls st h = some out := er
    unfold sh_astore at er
    (repeat' (first | (split at er) | (replace er := (sx_cond er).2) | (replace er := (sx_condn er).2)))
    all_goals first | exact hg _ _ _ _ er | exact sx_LE_hs (hg _ _ _ _ er) | (cases er; done)
  | 23, er =>
    have er : sh_newa o go a cs ls st h = some out := er
    unfold sh_newa at er
    (repeat' (first | (split at er) | (replace er := (sx_cond er).2) | (replace er := (sx_condn er).2)))
    all_goals first | exact sx_LE_hn (hg _ _ _ _ er) | (cases er; done)
  | 24, er =>
    have er : sh_alen o go cs ls st h = some out := er
    unfold sh_alen at er
    (repeat' (first | (split at er) | (replace er := (sx_cond er).2) | (replace er := (sx_condn er).2)))
    all_goals first | exact hg _ _ _ _ er | exact sx_LE_hs (hg _ _ _ _ er) | (cases er; done)
  | 25, er =>
    have er : sh_throw a st h = some out := er
    unfold sh_throw at er
    replace er := (sx_cond er).2
    cases er
    exact ⟨Nat.le_add_right _ _, Nat.le_add_right _ _⟩
  | 26, er =>
    have er : sh_lcmp o go cs ls st h = some out := er
    unfold sh_lcmp at er
    (repeat' (first | (split at er) | (replace er := (sx_cond er).2) | (replace er := (sx_condn er).2)))
    all_goals first | exact hg _ _ _ _ er | exact sx_LE_hs (hg _ _ _ _ er) | (cases er; done)
  | 27, er =>
    have er : sh_null go cs ls st h = some out := er
    unfold sh_null at er
    exact hg _ _ _ _ er
  | 28, er =>
    have er : sh_dup2 go cs ls st h = some out := er
    unfold sh_dup2 at er
    (repeat' (first | (split at er) | (replace er := (sx_cond er).2) | (replace er := (sx_condn er).2)))
    all_goals first | exact hg _ _ _ _ er | exact sx_LE_hs (hg _ _ _ _ er) | (cases er; done)
  | 29, er =>
    have er : sh_anew o go a cs ls st h = some out := er
    unfold sh_anew at er
    (repeat' (first | (split at er) | (replace er := (sx_cond er).2) | (replace er := (sx_condn er).2)))
    all_goals first | exact sx_LE_hn (hg _ _ _ _ er) | (cases er; done)
  | 30, er =>
    have er : sh_put o go a b9 cs ls st h = some out := er
    unfold sh_put at er
    (repeat' (first | (split at er) | (replace er := (sx_cond er).2) | (replace er := (sx_condn er).2)))
    all_goals first | exact hg _ _ _ _ er | exact sx_LE_hs (hg _ _ _ _ er) | (cases er; done)
  | 31, er =>
    have er : sh_ifnull go full b9 cs ls st h = some out := er
    unfold sh_ifnull at er
    (repeat' (first | (split at er) | (replace er := (sx_cond er).2) | (replace er := (sx_condn er).2)))
    all_goals first | exact hg _ _ _ _ er | exact sx_LE_hs (hg _ _ _ _ er) | (cases er; done)
  | 32, er =>
    have er : sh_pop go cs ls st h = some out := er
    unfold sh_pop at er
    (repeat' (first | (split at er) | (replace er := (sx_cond er).2) | (replace er := (sx_condn er).2)))
    all_goals first | exact hg _ _ _ _ er | exact sx_LE_hs (hg _ _ _ _ er) | (cases er; done)
  | 33, er =>
    have er : sh_aret st h = some out := er
    unfold sh_aret at er
    (repeat' (first | (split at er) | (replace er := (sx_cond er).2) | (replace er := (sx_condn er).2)))
    all_goals (cases er; try exact ⟨Nat.le_refl _, Nat.le_refl _⟩)
  | 34, er =>
    have er : sh_max o go cs ls st h = some out := er
    unfold sh_max at er
    (repeat' (first | (split at er) | (replace er := (sx_cond er).2) | (replace er := (sx_condn er).2)))
    all_goals first | exact hg _ _ _ _ er | exact sx_LE_hs (hg _ _ _ _ er) | (cases er; done)
  | 35, er =>
    have er : sh_min o go cs ls st h = some out := er
    unfold sh_min at er
    (repeat' (first | (split at er) | (replace er := (sx_cond er).2) | (replace er := (sx_condn er).2)))
    all_goals first | exact hg _ _ _ _ er | exact sx_LE_hs (hg _ _ _ _ er) | (cases er; done)
  | 36, er =>
    have er : sh_clone o go a cs ls st h = some out := er
    unfold sh_clone at er
    (repeat' (first | (split at er) | (replace er := (sx_cond er).2) | (replace er := (sx_condn er).2)))
    all_goals first | exact sx_LE_hn (hg _ _ _ _ er) | (cases er; done)
  | 37, er =>
    have er : sh_switch o go full a b9 c9 ls st h = some out := er
    unfold sh_switch at er
    split at er
    · split at er
      · next n9 hn9 =>
        cases hz : Nat.ble (n9 + 1) a with
        | true => rw [hz] at er; exact hg _ _ _ _ er
        | false =>
          rw [hz] at er
          exact hg _ _ _ _ (sx_cond er).2
      · cases er
    · cases er
  | 38, er =>
    have er : sh_obj go cs ls st h = some out := er
    unfold sh_obj at er
    (repeat' (first | (split at er) | (replace er := (sx_cond er).2) | (replace er := (sx_condn er).2)))
    all_goals first | exact hg _ _ _ _ er | exact sx_LE_hs (hg _ _ _ _ er) | (cases er; done)
  | 39, er =>
    have er : sh_callW o call go a b9 cs ls st h = some out := er
    unfold sh_callW at er
    (repeat' (first | (split at er) | (replace er := (sx_cond er).2) | (replace er := (sx_condn er).2)))
    all_goals first | exact mo_bkW (fun out' e9 => hcall _ _ _ _ e9) hg er | (cases er; done)
  | 40, er =>
    have er : sh_callI call go a cs ls st h = some out := er
    unfold sh_callI at er
    (repeat' (first | (split at er) | (replace er := (sx_cond er).2) | (replace er := (sx_condn er).2)))
    all_goals first | exact mo_bkI (fun out' e9 => hcall _ _ _ _ e9) hg er | (cases er; done)
  | 41, er =>
    have er : sh_callN call go a b9 cs ls st h = some out := er
    unfold sh_callN at er
    (repeat' (first | (split at er) | (replace er := (sx_cond er).2) | (replace er := (sx_condn er).2)))
    all_goals first | exact mo_bkN (fun out' e9 => hcall _ _ _ _ e9) hg er | (cases er; done)
  | 42, er =>
    have er : sh_throw a st h = some out := er
    unfold sh_throw at er
    replace er := (sx_cond er).2
    cases er
    exact ⟨Nat.le_add_right _ _, Nat.le_add_right _ _⟩
  | 43, er =>
    have er : sh_callN call go a b9 cs ls st h = some out := er
    unfold sh_callN at er
    (repeat' (first | (split at er) | (replace er := (sx_cond er).2) | (replace er := (sx_condn er).2)))
    all_goals first | exact mo_bkN (fun out' e9 => hcall _ _ _ _ e9) hg er | (cases er; done)
  | n + 44, er => cases er
end MO
theorem sx_mono {I : Type} {cd : Nat → List sx_I} {o : sx_O I} (n : Nat) : ∀ (full cs : List sx_I) (ls : sx_L I) (st : List (sx_V I)) (h : sx_H I) (out : sx_R I), sx_run cd o n full cs ls st h = some out → sx_LE h out := by
  induction n with
  | zero => intro full cs ls st h out er; cases er
  | succ n ih =>
    intro full cs ls st h out er
    rw [sx_run_succ] at er
    cases cs with
    | nil => cases er
    | cons x r =>
      rw [sx_b1_cons] at er
      exact mo_hd (sx_xq x) (fun m as h out' e => ih _ _ _ _ _ _ e) (fun cs ls st h e => ih _ _ _ _ _ _ e) er
end
section
/-! ===== calls ===== -/
noncomputable def sx_Pc {I : Type} (g : I → Int32) (b scr L : Nat) (xs : Nat → Int32) (D : va_G) (as : List (sx_V I)) (h : sx_H I) : Array Value → State → Prop := fun v U => v = (as.map (sx_c g b scr)).toArray ∧ (sx_Rep g b scr D U h U.heap ∧ sx_KK b scr L xs D U)
theorem sx_Pc_blind {I : Type} {g : I → Int32} {b scr L : Nat} {xs : Nat → Int32} {D : va_G} {as : List (sx_V I)} {h : sx_H I} : FrameBlind (sx_Pc g b scr L xs D as h) := fun a U g9 mk ⟨h1, h2, h3⟩ =>
  ⟨h1, sx_Rep_moved (s := U) (U := U.calling g9 mk a) (Vm.Alike.refl U.vm) h2, sx_KK_moved (s := U) (U := U.calling g9 mk a) (State.WarmedH.refl U) (fun _ _ => rfl) h3.2.2.2.2.2.2.2.2 h3⟩
noncomputable def sx_rv {I : Type} (g : I → Int32) (b scr : Nat) (q : Nat × sx_V I) : Option Value := match q.1 with
  | 0 => none
  | _ => some (sx_c g b scr q.2)
noncomputable def sx_Qc {I : Type} (g : I → Int32) (b scr : Nat) (D : va_G) (out : sx_R I) : Array Value → State → Outcome → State → Prop := fun _ st oc t => oc = .returned (sx_rv g b scr out.1) ∧ (sx_Rep g b scr D t out.2 t.heap ∧ va_F (fun q => b ≤ q) st t)
noncomputable def sx_XC {I : Type} (g : I → Int32) (b scr : Nat) (D : va_G) (out : sx_R I) : String → State → State → Prop := fun E st t => E = sx_en (out.1.1 - 2) ∧ (sx_Rep g b scr D t out.2 t.heap ∧ va_F (fun q => b ≤ q) st t)
def sx_No : Array Value → State → Outcome → State → Prop := fun _ _ _ _ => False
def sx_rm (f lo mc ms : Nat) : Room := { frames := f, cells := mc, slots := ms, locals := lo }
/-- what a call of a method comes to, by its row of the table -/
noncomputable def sx_Cn {I : Type} (l : Launch) (g : I → Int32) (b scr L : Nat) (xs : Nat → Int32) (D : va_G) (mid : Nat) (as : List (sx_V I)) (h : sx_H I) (out : sx_R I) : Prop :=
  ∀ (y : MethodName) (bs : ByteArray) (mL : Nat) (ret : Option FieldType) (f lo kd qc qi qs qn : Nat), sx_m[mid]? = some (y, (bs, (mL, (ret, (f, lo))))) → sx_mq[mid]? = some (kd, (qc, (qi, (qs, qn)))) → as.length ≤ mL → sx_n2 as = true →
    (kd ≤ 2 → out.1.1 ≤ 1 → Met l y (Jvm.Cond.code y bs mL ret :: sx_goods) (sx_rm f lo (out.2.2.2.1 - h.2.2.1) (out.2.2.2.2.1 - h.2.2.2.1)) (sx_Pc g b scr L xs D as h) (sx_Qc g b scr D out) (out.2.2.2.1 - h.2.2.1) (out.2.2.2.2.1 - h.2.2.2.1) (fun q => b ≤ q)) ∧
    (kd ≤ 2 → 2 ≤ out.1.1 → vx_Met l y (Jvm.Cond.code y bs mL ret :: sx_goods) (sx_rm f lo (out.2.2.2.1 - h.2.2.1) (out.2.2.2.2.1 - h.2.2.2.1)) (sx_Pc g b scr L xs D as h) sx_No (sx_XC g b scr D out) (out.2.2.2.1 - h.2.2.1) (out.2.2.2.2.1 - h.2.2.2.1) (fun q => b ≤ q)) ∧
    (kd = 3 → out.1.1 ≤ 1 → ∀ hh : List (Nat × Nat × Nat × Nat), lw_tbl[qc]? = some (Jvm.Cond.codeWith y bs mL ret hh) → Met l y (Jvm.Cond.codeWith y bs mL ret hh :: sx_goods) (sx_rm f lo (out.2.2.2.1 - h.2.2.1) (out.2.2.2.2.1 - h.2.2.2.1)) (sx_Pc g b scr L xs D as h) (sx_Qc g b scr D out) (out.2.2.2.1 - h.2.2.1) (out.2.2.2.2.1 - h.2.2.2.1) (fun q => b ≤ q))
theorem sx_pop_ok {A : Type} (n : Nat) : ∀ (acc st as r : List A), sx_pop n acc st = some (as, r) → as.length = acc.length + n ∧ as.reverse ++ r = acc.reverse ++ st := by
  induction n with
  | zero => intro acc st as r h; cases h; exact ⟨rfl, rfl⟩
  | succ n ih =>
    intro acc st as r h
    cases st with
    | nil => cases h
    | cons v st =>
      obtain ⟨h1, h2⟩ := ih (v :: acc) st as r h
      refine ⟨by rw [h1, List.length_cons]; omega, ?_⟩
      rw [h2, List.reverse_cons, List.append_assoc]
      rfl
theorem sx_wsU {args : Array Value} {s : State} (hts : ∀ w ∈ sx_goods, w.before args s = true) {w0 : Jvm.Cond} (h0 : w0 ∈ sx_goods) : ∀ w ∈ w0 :: sx_goods, ∀ (a' : Array Value) (U : State), s.WarmedH U.vm → w.before a' U = true := fun w hw a' U hW => by
  have hm : w ∈ sx_goods := (List.mem_cons.mp hw).elim (fun e => e ▸ h0) id
  exact word_at hW (good_of_word (List.mem_filter.mp hm).2) (hts w hm)
theorem sx_gq {q : Nat} {w : Jvm.Cond} (hq : lw_tbl[q]? = some w) (hg : goodWord w = true) : w ∈ sx_goods := List.mem_filter.mpr ⟨List.mem_of_getElem? hq, hg⟩
theorem sx_okM_ok {i : Nat} (h : sx_okM i = true) {y : MethodName} {bs : ByteArray} {mL : Nat} {ret : Option FieldType} {f lo : Nat} (he : sx_m[i]? = some (y, (bs, (mL, (ret, (f, lo)))))) :
    ∃ kd qc qi qs qn : Nat, sx_mq[i]? = some (kd, (qc, (qi, (qs, qn)))) ∧ sx_okL y.cls (decide (y.name = "<init>")) (Nat.beq kd 3) ret bs mL f lo (sx_cd i) (sx_cd i) = true ∧ sx_nx (sx_cd i) 0 = true ∧ plainName y.cls = true ∧ (y.cls ≠ "java/lang/invoke/MethodHandle" ∧ y.cls ≠ "java/lang/invoke/VarHandle") ∧ sx_wk y bs mL ret qc qi qs qn kd = true ∧ (kd = 3 → sx_wrk qc bs mL (sx_cd i) = true ∧ y.cls = RL ∧ ret = some .int) := by
  unfold sx_okM at h
  rw [he] at h
  split at h
  · next y9 b9 m9 r9 f9 l9 kd qc qi qs qn h1 h2 =>
    cases h1
    simp only [Bool.and_eq_true] at h
    obtain ⟨g1, g2, g3, g4, g5, g6⟩ := h
    unfold sx_mh at g4
    simp only [Bool.and_eq_true, decide_eq_true_eq] at g4
    refine ⟨kd, qc, qi, qs, qn, h2, g1, g2, g3, g4, g5, fun hk => ?_⟩
    subst hk
    simpa using g6
  · cases h
theorem sx_cal_ok {own : String} {bs : ByteArray} {cs : List Nat} {pc fr lo n sl : Nat} {e : Option sx_ME} {w : Option Jvm.Cond} {nest : Bool} {f : Nat → Instr} {more : MethodName → Bool} (h : sx_cal own bs pc fr lo n sl e w nest f more cs = true) :
    ∃ (y : MethodName) (bs9 : ByteArray) (mL : Nat) (ret : Option FieldType) (f9 l9 idx : Nat), e = some (y, (bs9, (mL, (ret, (f9, l9))))) ∧ ((nest = false ∧ w = some (Jvm.Cond.methodLink own idx y)) ∨ (nest = true ∧ ∃ host, w = some (Jvm.Cond.methodLinkNest own idx y host))) ∧ (parseMethodDescriptor y.desc).map (fun d => d.parameters.length) = some n ∧ f9 + 1 ≤ fr ∧ 8 + (mL + 11) + l9 ≤ lo ∧ n + sl ≤ mL ∧ decode bs pc = .ok (f idx, 3) ∧ more y = true ∧ sx_pc cs = some (pc + 3) := by
  unfold sx_cal at h
  split at h
  · next y bs9 mL ret f9 l9 own' idx y' =>
    simp only [Bool.and_eq_true, decide_eq_true_eq] at h
    obtain ⟨h0, h1, h2, h3, h4, h5, h55, h6, h7, h8⟩ := h
    subst h1; subst h2
    exact ⟨_, bs9, mL, ret, f9, l9, idx, rfl, Or.inl ⟨(by cases nest <;> first | rfl | (cases h0; done)), rfl⟩, h3, Nat.le_of_ble_eq_true h4, Nat.le_of_ble_eq_true h5, Nat.le_of_ble_eq_true h55, sx_dk_ok h6, h7, sx_nx_pc h8⟩
  · next y bs9 mL ret f9 l9 own' idx y' host =>
    simp only [Bool.and_eq_true, decide_eq_true_eq] at h
    obtain ⟨h0, h1, h2, h3, h4, h5, h55, h6, h7, h8⟩ := h
    subst h1; subst h2
    exact ⟨_, bs9, mL, ret, f9, l9, idx, rfl, Or.inr ⟨h0, host, rfl⟩, h3, Nat.le_of_ble_eq_true h4, Nat.le_of_ble_eq_true h5, Nat.le_of_ble_eq_true h55, sx_dk_ok h6, h7, sx_nx_pc h8⟩
  · cases h
theorem sx_par {y : MethodName} {n : Nat} (h : (parseMethodDescriptor y.desc).map (fun d => d.parameters.length) = some n) : ∀ sig, parseMethodDescriptor y.desc = some sig → n = sig.parameters.length := fun sig hs => by
  rw [hs] at h
  exact (Option.some.inj h).symm
section SN
variable {p : Program} {l : Launch} {e : Env} {R : Room} {s : State} {m : MethodId} {args : Array Value} {below : List Frame} {meth : Method} {c : Code} {Q : State → Prop}
variable {I : Type} {o : sx_O I} {g : I → Int32} {b scr L : Nat} {xs : Nat → Int32} {D : va_G} {h0 : sx_H I} {bs : ByteArray} {own : String} {full cs : List Nat} {x a k q : Nat} {ls : sx_L I} {st : List (sx_V I)} {h : sx_H I} {out : sx_R I} {go : sx_G I}
variable {H : Heap} {locs : List Loc} {cells slots pc mc ms : Nat} {la : Array Slot} {st0 rest : List Value} {out9 : sx_R I} {a9 : Array Value}
theorem sx_ofRun (hr : va_Run p l e R s m args below meth c H locs cells slots mc ms (F0 m pc la st0) rest (sx_Qc g b scr D out9 a9) (fun q => b ≤ q)) (hS : va_S (fun q => b ≤ q) s.heap H locs)
    (kk : ∀ (H1 : Heap) (locs1 : List Loc), sx_Rep g b scr D s out9.2 H1 → va_S (fun q => b ≤ q) s.heap H1 locs1 → W p l e R s m args below meth c H1 locs1 (cells + mc) (slots + ms) Q (F0 m (pc + 3) la ((sx_rv g b scr out9.1).toList ++ rest))) : W p l e R s m args below meth c H locs cells slots Q (F0 m pc la st0) := by
  intro T hT X
  obtain ⟨v, st₀, t, T', L9, e0, X', hL, e1, e2, ⟨hv, hrep, hz, hk⟩, stp⟩ := hr T hT X
  have hv' : v = sx_rv g b scr out9.1 := Outcome.returned.inj hv
  subst hv'
  rw [e0] at hz hk
  have hvm : s.vm.Alike t.vm := by rw [← e2]; exact X'.warmed.alike
  have hrep' : sx_Rep g b scr D s out9.2 T'.heap := by rw [e1]; exact sx_Rep_moved hvm.symm hrep
  obtain ⟨t2, a1, b1⟩ := kk T'.heap (locs ++ L9) hrep' ⟨Nat.le_trans hS.1 (by rw [e1]; exact hz), fun q h1 h2 => by rw [e1, hk q (Nat.lt_of_lt_of_le h1 hS.1) h2]; exact hS.2.1 q h1 h2, fun q hq => (List.mem_append.mp hq).elim (hS.2.2 q) (hL q)⟩ T' rfl X'
  exact ⟨t2, stp t2 a1, b1⟩
theorem sx_ofRunX (hr : vx_Run p l e R s m args below meth c H locs cells slots mc ms (F0 m pc la st0) rest (sx_No a9) (sx_XC g b scr D out9) (fun q => b ≤ q)) (hS : va_S (fun q => b ≤ q) s.heap H locs)
    (kk : ∀ (H1 : Heap) (locs1 : List Loc) (q : Addr) (ce : Cell), sx_Rep g b scr D s out9.2 H1 → va_S (fun q => b ≤ q) s.heap H1 locs1 → H1[q]? = some ce → ce.vm = .none → s.vm.findClass (sx_en (out9.1.1 - 2)) = some ce.cls → vx_W p l e R s m args below meth c H1 locs1 (cells + mc) (slots + ms) Q (F0 m pc la rest) q) : W p l e R s m args below meth c H locs cells slots Q (F0 m pc la st0) := by
  intro T hT X
  rcases hr T hT X with ⟨v, st₀, t, T', L9, e0, X', hL, e1, e2, hF, -⟩ | ⟨q, st₀, t, T', L9, E, ce, e0, X', hL, e1, e2, ⟨hE, hrep, hz, hk⟩, hce, hcv, hcl, stp⟩
  · exact hF.elim
  · subst hE
    rw [e0] at hz hk
    have hvm : s.vm.Alike t.vm := by rw [← e2]; exact X'.warmed.alike
    have hrep' : sx_Rep g b scr D s out9.2 T'.heap := by rw [e1]; exact sx_Rep_moved hvm.symm hrep
    obtain ⟨t2, a1, b1⟩ := kk T'.heap (locs ++ L9) q ce hrep' ⟨Nat.le_trans hS.1 (by rw [e1]; exact hz), fun q h1 h2 => by rw [e1, hk q (Nat.lt_of_lt_of_le h1 hS.1) h2]; exact hS.2.1 q h1 h2, fun q hq => (List.mem_append.mp hq).elim (hS.2.2 q) (hL q)⟩ (by rw [e1]; exact hce) hcv hcl T' rfl X'
    exact ⟨t2, stp.trans a1, b1⟩
/-- behind a call, whether it returned or threw -/
theorem sn_bk {r : List (sx_V I)} (hRc : out.2.2.2.1 ≤ h0.2.2.1 + R.cells) (hRs : out.2.2.2.2.1 ≤ h0.2.2.2.1 + R.slots) (hmono : ∀ ls st h, go cs ls st h = some out → h.2.2.1 ≤ out.2.2.2.1 ∧ h.2.2.2.1 ≤ out.2.2.2.2.1) (hle : sx_LE h out9) (hgo : ∀ ls st h, go cs ls st h = some out → sx_Cm p l e R s m args below meth c Q g b scr D h0 cs ls st h)
    (hThr : ∀ (t9 : Nat) (h' : sx_H I) (H : Heap) (locs : List Loc) (cells slots : Nat) (la : Array Slot) (pc : Nat) (rest : List Value) (q : Addr) (ce : Cell), out = ((t9 + 2, none), h') → sx_Rep g b scr D s h' H → va_S (fun q => b ≤ q) s.heap H locs → h0.2.2.1 + cells = h'.2.2.1 → h0.2.2.2.1 + slots = h'.2.2.2.1 → H[q]? = some ce → ce.vm = .none → s.vm.findClass (sx_en t9) = some ce.cls → vx_W p l e R s m args below meth c H locs cells slots Q (F0 m pc la rest) q)
    (er : sx_bk go cs ls r (some out9) = some out) (hnx : sx_pc cs = some (pc + 3)) (hl : lv_has la c.maxLocals (ls.map (sx_cq g b scr))) (hS : va_S (fun q => b ≤ q) s.heap H locs) (hc : h0.2.2.1 + cells = h.2.2.1) (hs : h0.2.2.2.1 + slots = h.2.2.2.1)
    (runN : out9.1.1 ≤ 1 → cells + (out9.2.2.2.1 - h.2.2.1) ≤ R.cells ∧ slots + (out9.2.2.2.2.1 - h.2.2.2.1) ≤ R.slots → va_Run p l e R s m args below meth c H locs cells slots (out9.2.2.2.1 - h.2.2.1) (out9.2.2.2.2.1 - h.2.2.2.1) (F0 m pc la st0) (r.map (sx_c g b scr)) (sx_Qc g b scr D out9 a9) (fun q => b ≤ q))
    (runX : 2 ≤ out9.1.1 → cells + (out9.2.2.2.1 - h.2.2.1) ≤ R.cells ∧ slots + (out9.2.2.2.2.1 - h.2.2.2.1) ≤ R.slots → vx_Run p l e R s m args below meth c H locs cells slots (out9.2.2.2.1 - h.2.2.1) (out9.2.2.2.2.1 - h.2.2.2.1) (F0 m pc la st0) (r.map (sx_c g b scr)) (sx_No a9) (sx_XC g b scr D out9) (fun q => b ≤ q)) : W p l e R s m args below meth c H locs cells slots Q (F0 m pc la st0) := by
  obtain ⟨⟨t, v⟩, h'⟩ := out9
  have hle1 : h.2.2.1 ≤ h'.2.2.1 := hle.1
  have hle2 : h.2.2.2.1 ≤ h'.2.2.2.1 := hle.2
  match t, er, runN, runX with
  | 0, er, runN, runX =>
    have er' : go cs ls r h' = some out := er
    have hm := hmono _ _ _ er'
    refine sx_ofRun (runN (show 0 ≤ 1 from Nat.zero_le _) ⟨?_, ?_⟩) hS fun H1 locs1 hP1 hS1 => hgo _ _ _ er' H1 locs1 _ _ la _ hnx hl hP1 hS1 ?_ ?_
    · show cells + (h'.2.2.1 - h.2.2.1) ≤ R.cells
      omega
    · show slots + (h'.2.2.2.1 - h.2.2.2.1) ≤ R.slots
      omega
    · show h0.2.2.1 + (cells + (h'.2.2.1 - h.2.2.1)) = h'.2.2.1
      omega
    · show h0.2.2.2.1 + (slots + (h'.2.2.2.1 - h.2.2.2.1)) = h'.2.2.2.1
      omega
  | 1, er, runN, runX =>
    have er' : go cs ls (v :: r) h' = some out := er
    have hm := hmono _ _ _ er'
    refine sx_ofRun (runN (show 1 ≤ 1 from Nat.le_refl _) ⟨?_, ?_⟩) hS fun H1 locs1 hP1 hS1 => hgo _ _ _ er' H1 locs1 _ _ la _ hnx hl hP1 hS1 ?_ ?_
    · show cells + (h'.2.2.1 - h.2.2.1) ≤ R.cells
      omega
    · show slots + (h'.2.2.2.1 - h.2.2.2.1) ≤ R.slots
      omega
    · show h0.2.2.1 + (cells + (h'.2.2.1 - h.2.2.1)) = h'.2.2.1
      omega
    · show h0.2.2.2.1 + (slots + (h'.2.2.2.1 - h.2.2.2.1)) = h'.2.2.2.1
      omega
  | t + 2, er, runN, runX =>
    have er' : some ((t + 2, none), h') = some out := er
    have er2 : out = ((t + 2, none), h') := (Option.some.inj er').symm
    have hq1 : out.2 = h' := by rw [er2]
    rw [hq1] at hRc hRs
    refine sx_ofRunX (runX (by show 2 ≤ t + 2; omega) ⟨?_, ?_⟩) hS fun H1 locs1 q ce hP1 hS1 h1 h2 h3 => hThr t h' H1 locs1 _ _ la pc _ q ce er2 hP1 hS1 ?_ ?_ h1 h2 h3
    · show cells + (h'.2.2.1 - h.2.2.1) ≤ R.cells
      omega
    · show slots + (h'.2.2.2.1 - h.2.2.2.1) ≤ R.slots
      omega
    · show h0.2.2.1 + (cells + (h'.2.2.1 - h.2.2.1)) = h'.2.2.1
      omega
    · show h0.2.2.2.1 + (slots + (h'.2.2.2.1 - h.2.2.2.1)) = h'.2.2.2.1
      omega
end SN
end
section
/-! ===== the calls, row by row ===== -/
section SN
variable {p : Program} {l : Launch} {e : Env} {R : Room} {s : State} {m : MethodId} {args : Array Value} {below : List Frame} {meth : Method} {c : Code} {Q : State → Prop}
variable {I : Type} {o : sx_O I} {g : I → Int32} {b scr L : Nat} {xs : Nat → Int32} {D : va_G} {h0 : sx_H I} {bs : ByteArray} {own : String} {full cs : List Nat} {x a k q : Nat} {ls : sx_L I} {st : List (sx_V I)} {h : sx_H I} {out : sx_R I} {go : sx_G I}
variable {call : sx_K I} {b9 fr lo : Nat}
theorem sx_PcU (hbs : b ≤ s.heap.size) (hKK : sx_KK b scr L xs D s) {H : Heap} {locs : List Loc} {as : List (sx_V I)} (hP : sx_Rep g b scr D s h H) (hS : va_S (fun q => b ≤ q) s.heap H locs) : ∀ U : State, U.heap = H → s.WarmedH U.vm → sx_Pc g b scr L xs D as h (as.map (sx_c g b scr)).toArray U := fun U hU hW =>
  ⟨rfl, by rw [hU]; exact sx_Rep_moved hW.alike hP, sx_KK_moved hW (fun q hq => by rw [hU]; exact hS.2.1 q (Nat.lt_of_lt_of_le hq hbs) (Nat.not_le.mpr hq)) (by rw [hU]; exact Nat.le_trans hbs hS.1) hKK⟩
theorem sx_stk {as r st : List (sx_V I)} (hl2 : as.reverse ++ r = ([] : List (sx_V I)).reverse ++ st) : st.map (sx_c g b scr) = (as.map (sx_c g b scr)).reverse ++ r.map (sx_c g b scr) := by
  have h9 : st = as.reverse ++ r := by rw [hl2]; rfl
  rw [h9, List.map_append, List.map_reverse]
theorem sx_kd_ok {a k : Nat} (h : sx_kd a k = true) {kd qc qi qs qn : Nat} (hmq : sx_mq[a]? = some (kd, (qc, (qi, (qs, qn))))) : kd = k := by
  unfold sx_kd at h
  rw [hmq] at h
  exact Nat.eq_of_beq_eq_true h
theorem sx_cls1_ok {ci : Nat} {y : MethodName} (h : sx_cls1 ci y = true) : ∃ r9, vwCl[ci]? = some r9 ∧ y.cls = r9.1 := by
  unfold sx_cls1 at h
  split at h
  · next C T N hc => exact ⟨_, hc, of_decide_eq_true h⟩
  · cases h
theorem sn_callV (hx : p.tables.exec = Jvm.exec) (hb : c.code = bs) (hown : s.vm.findClass own = some m.cls) (hts : ∀ w ∈ sx_goods, w.before args s = true) (hKK : sx_KK b scr L xs D s) (hokM : ∀ i e, sx_m[i]? = some e → sx_okM i = true) (hCon : ∀ mid as h out, call mid as h = some out → sx_LE h out ∧ sx_Cn l g b scr L xs D mid as h out) (hRf : fr ≤ R.frames) (hRl : lo ≤ R.locals) (hRc : out.2.2.2.1 ≤ h0.2.2.1 + R.cells) (hRs : out.2.2.2.2.1 ≤ h0.2.2.2.1 + R.slots) (hmono : ∀ ls st h, go cs ls st h = some out → h.2.2.1 ≤ out.2.2.2.1 ∧ h.2.2.2.1 ≤ out.2.2.2.2.1) (hThr : ∀ (t9 : Nat) (h' : sx_H I) (H : Heap) (locs : List Loc) (cells slots : Nat) (la : Array Slot) (pc : Nat) (rest : List Value) (q : Addr) (ce : Cell), out = ((t9 + 2, none), h') → sx_Rep g b scr D s h' H → va_S (fun q => b ≤ q) s.heap H locs → h0.2.2.1 + cells = h'.2.2.1 → h0.2.2.2.1 + slots = h'.2.2.2.1 → H[q]? = some ce → ce.vm = .none → s.vm.findClass (sx_en t9) = some ce.cls → vx_W p l e R s m args below meth c H locs cells slots Q (F0 m pc la rest) q)
    (hkd : sx_kd a 0 = true) (hok : sx_cal own bs (sx_xp x) fr lo (Nat.mod b9 16) 1 sx_m[a]? lw_tbl[q]? false .invokevirtual (sx_cls1 (Nat.div b9 16)) cs = true) (hgo : ∀ ls st h, go cs ls st h = some out → sx_Cm p l e R s m args below meth c Q g b scr D h0 cs ls st h) (er : sh_callV call go a b9 cs ls st h = some out) : sx_Cm p l e R s m args below meth c Q g b scr D h0 (x :: cs) ls st h := by
  obtain ⟨y, bs9, mL, ret, f9, l9, idx, he, hw, hpar, hfr, hlo, hmL, hd, hmore, hnx⟩ := sx_cal_ok hok
  obtain ⟨kd, qc, qi, qs, qn, hmq, -, -, -, hmh, hwk, -⟩ := sx_okM_ok (hokM a _ he) he
  have hk0 := sx_kd_ok hkd hmq
  subst hk0
  unfold sx_wk at hwk
  simp only [Bool.and_eq_true, decide_eq_true_eq] at hwk
  obtain ⟨wc, wn, wi, wl⟩ := hwk
  obtain ⟨r9, hc9, hyc⟩ := sx_cls1_ok hmore
  have hw' : lw_tbl[q]? = some (Jvm.Cond.methodLink own idx y) := by
    rcases hw with ⟨-, hw⟩ | ⟨hw, -⟩
    · exact hw
    · cases hw
  unfold sh_callV at er
  split at er
  · next as k9 r hpop =>
    split at er
    · next ci fs hg =>
      obtain ⟨hcd, er⟩ := sx_cond er
      simp only [Bool.and_eq_true] at hcd
      obtain ⟨hci, hsw, hn2⟩ := hcd
      have hci' : ci = Nat.div b9 16 := Nat.eq_of_beq_eq_true hci
      rw [← hci'] at hc9
      cases hres : call a (some (.inr (.inl k9)) :: as) h with
      | none => rw [hres] at er; cases er
      | some out9 =>
        rw [hres] at er
        obtain ⟨hle, hcn⟩ := hCon _ _ _ _ hres
        obtain ⟨hl1, hl2⟩ := sx_pop_ok _ _ _ _ _ hpop
        have hlen : as.length = Nat.mod b9 16 := by rw [hl1]; exact Nat.zero_add _
        obtain ⟨c1, c2, -⟩ := hcn y bs9 mL ret f9 l9 0 qc qi qs qn he hmq (by rw [List.length_cons, hlen]; exact hmL) hn2
        intro H locs cells slots la pc hpc hl hP hS hc hs
        have hpc' : sx_xp x = pc := Option.some.inj hpc
        subst hpc'
        have hbs := hKK.2.2.2.2.2.2.2.2
        have hrecv : ∃ cell : Cell, H[b + k9]? = some cell ∧ cell.vm.isStatics = false ∧ s.vm.findClass r9.1 = some cell.cls := va_recv (q0 := 0) (ws := [(b + k9, .inr (ci, fs.map (sx_c g b scr)))]) hKK.1 (sx_P1 (hP.1 k9 _ hg)) hc9 rfl
        have hCB : CallB R s args own idx y bs9 mL ret (Jvm.Cond.code y bs9 mL ret :: sx_goods) (sx_rm f9 l9 (out9.2.2.2.1 - h.2.2.1) (out9.2.2.2.2.1 - h.2.2.2.1)) (out9.2.2.2.1 - h.2.2.1) (out9.2.2.2.2.1 - h.2.2.2.1) (Nat.mod b9 16) :=
          ⟨rfl, rfl, Nat.le_trans hfr hRf, Nat.le_trans hlo hRl, sx_wsU hts (sx_gq wc rfl), List.mem_cons_self, hts _ (sx_gq wc rfl), hts _ (sx_gq wn rfl), hmh, sx_par hpar, sx_wg hts hw' rfl⟩
        have hCW : CallW R s args own r9.1 idx y bs9 mL ret (Jvm.Cond.code y bs9 mL ret :: sx_goods) (sx_rm f9 l9 (out9.2.2.2.1 - h.2.2.1) (out9.2.2.2.2.1 - h.2.2.2.1)) (out9.2.2.2.1 - h.2.2.1) (out9.2.2.2.2.1 - h.2.2.2.1) (Nat.mod b9 16) :=
          ⟨hCB, hts _ (sx_gq wi rfl), by rw [← hyc]; exact hts _ (sx_gq wl rfl)⟩
        have hsum : ((r.map (sx_c g b scr)).map fun v => v.category).sum ≤ 8 := by rw [sx_sw_sum]; exact Nat.le_of_ble_eq_true hsw
        rw [sx_stk hl2]
        exact sn_bk (a9 := (Value.ref (b + k9) :: as.map (sx_c g b scr)).toArray) hRc hRs hmono hle hgo hThr er hnx hl hS hc hs
          (fun ht hf => va_runV (C := r9.1) (b := b + k9) (As := as.map (sx_c g b scr)) (rest := r.map (sx_c g b scr)) ⟨hx, hb, rfl, hown, hts⟩ (c1 (by decide) ht) hCW ⟨sx_Pc_blind, hrecv, sx_PcU hbs hKK hP hS⟩ rfl (by rw [List.length_map]; exact hlen) hl.1 rfl (lv_room hsum) hd hf)
          (fun ht hf => vx_runV (C := r9.1) (b := b + k9) (As := as.map (sx_c g b scr)) (rest := r.map (sx_c g b scr)) ⟨hx, hb, rfl, hown, hts⟩ (c2 (by decide) ht) hCW ⟨sx_Pc_blind, hrecv, sx_PcU hbs hKK hP hS⟩ rfl (by rw [List.length_map]; exact hlen) hl.1 rfl (lv_room hsum) hd hf)
    · cases er
  · cases er
theorem sn_callS (hx : p.tables.exec = Jvm.exec) (hb : c.code = bs) (hown : s.vm.findClass own = some m.cls) (hts : ∀ w ∈ sx_goods, w.before args s = true) (hKK : sx_KK b scr L xs D s) (hokM : ∀ i e, sx_m[i]? = some e → sx_okM i = true) (hCon : ∀ mid as h out, call mid as h = some out → sx_LE h out ∧ sx_Cn l g b scr L xs D mid as h out) (hRf : fr ≤ R.frames) (hRl : lo ≤ R.locals) (hRc : out.2.2.2.1 ≤ h0.2.2.1 + R.cells) (hRs : out.2.2.2.2.1 ≤ h0.2.2.2.1 + R.slots) (hmono : ∀ ls st h, go cs ls st h = some out → h.2.2.1 ≤ out.2.2.2.1 ∧ h.2.2.2.1 ≤ out.2.2.2.2.1) (hThr : ∀ (t9 : Nat) (h' : sx_H I) (H : Heap) (locs : List Loc) (cells slots : Nat) (la : Array Slot) (pc : Nat) (rest : List Value) (q : Addr) (ce : Cell), out = ((t9 + 2, none), h') → sx_Rep g b scr D s h' H → va_S (fun q => b ≤ q) s.heap H locs → h0.2.2.1 + cells = h'.2.2.1 → h0.2.2.2.1 + slots = h'.2.2.2.1 → H[q]? = some ce → ce.vm = .none → s.vm.findClass (sx_en t9) = some ce.cls → vx_W p l e R s m args below meth c H locs cells slots Q (F0 m pc la rest) q)
    (hkd : sx_kd a 1 = true) (hok : sx_cal own bs (sx_xp x) fr lo (Nat.mod b9 16) 0 sx_m[a]? lw_tbl[q]? false .invokestatic (fun _ => true) cs = true) (hgo : ∀ ls st h, go cs ls st h = some out → sx_Cm p l e R s m args below meth c Q g b scr D h0 cs ls st h) (er : sh_callS call go a b9 cs ls st h = some out) : sx_Cm p l e R s m args below meth c Q g b scr D h0 (x :: cs) ls st h := by
  obtain ⟨y, bs9, mL, ret, f9, l9, idx, he, hw, hpar, hfr, hlo, hmL, hd, hmore, hnx⟩ := sx_cal_ok hok
  obtain ⟨kd, qc, qi, qs, qn, hmq, -, -, -, hmh, hwk, -⟩ := sx_okM_ok (hokM a _ he) he
  have hw' : lw_tbl[q]? = some (Jvm.Cond.methodLink own idx y) := by
    rcases hw with ⟨-, hw⟩ | ⟨hw, -⟩
    · exact hw
    · cases hw
  unfold sh_callS at er
  split at er
  · next as r hpop =>
    obtain ⟨hcd, er⟩ := sx_cond er
    simp only [Bool.and_eq_true] at hcd
    obtain ⟨hsw, hn2⟩ := hcd
    cases hres : call a as h with
    | none => rw [hres] at er; cases er
    | some out9 =>
      rw [hres] at er
      obtain ⟨hle, hcn⟩ := hCon _ _ _ _ hres
      obtain ⟨hl1, hl2⟩ := sx_pop_ok _ _ _ _ _ hpop
      have hlen : as.length = Nat.mod b9 16 := by rw [hl1]; exact Nat.zero_add _
      obtain ⟨c1, c2, c3⟩ := hcn y bs9 mL ret f9 l9 kd qc qi qs qn he hmq (by rw [hlen]; exact hmL) hn2
      intro H locs cells slots la pc hpc hl hP hS hc hs
      have hpc' : sx_xp x = pc := Option.some.inj hpc
      subst hpc'
      have hbs := hKK.2.2.2.2.2.2.2.2
      have hsum : ((r.map (sx_c g b scr)).map fun v => v.category).sum ≤ 8 := by rw [sx_sw_sum]; exact Nat.le_of_ble_eq_true hsw
      rw [sx_stk hl2]
      have hk0 := sx_kd_ok hkd hmq
      subst hk0
      unfold sx_wk at hwk
      simp only [Bool.and_eq_true, decide_eq_true_eq] at hwk
      obtain ⟨wc, wn, wi⟩ := hwk
      have hCB : CallB R s args own idx y bs9 mL ret (Jvm.Cond.code y bs9 mL ret :: sx_goods) (sx_rm f9 l9 (out9.2.2.2.1 - h.2.2.1) (out9.2.2.2.2.1 - h.2.2.2.1)) (out9.2.2.2.1 - h.2.2.1) (out9.2.2.2.2.1 - h.2.2.2.1) (Nat.mod b9 16) :=
        ⟨rfl, rfl, Nat.le_trans hfr hRf, Nat.le_trans hlo hRl, sx_wsU hts (sx_gq wc rfl), List.mem_cons_self, hts _ (sx_gq wc rfl), hts _ (sx_gq wn rfl), hmh, sx_par hpar, sx_wg hts hw' rfl⟩
      exact sn_bk (a9 := (as.map (sx_c g b scr)).toArray) hRc hRs hmono hle hgo hThr er hnx hl hS hc hs
        (fun ht hf => va_runS (As := as.map (sx_c g b scr)) (rest := r.map (sx_c g b scr)) ⟨hx, hb, rfl, hown, hts⟩ (c1 (by decide) ht) ⟨hCB, hts _ (sx_gq wi rfl)⟩ ⟨sx_Pc_blind, sx_PcU hbs hKK hP hS⟩ rfl (by rw [List.length_map]; exact hlen) hl.1 rfl (lv_room hsum) hd hf)
        (fun ht hf => vx_runS (As := as.map (sx_c g b scr)) (rest := r.map (sx_c g b scr)) ⟨hx, hb, rfl, hown, hts⟩ (c2 (by decide) ht) ⟨hCB, hts _ (sx_gq wi rfl)⟩ ⟨sx_Pc_blind, sx_PcU hbs hKK hP hS⟩ rfl (by rw [List.length_map]; exact hlen) hl.1 rfl (lv_room hsum) hd hf)
  · cases er
theorem sx_bkN_bk {r : List (sx_V I)} {res : sx_R I} (er : sx_bkN go cs ls r (some res) = some out) : sx_bk go cs ls r (some res) = some out ∧ res.1.1 ≤ 1 := by
  obtain ⟨⟨t, v⟩, h'⟩ := res
  match t, er with
  | 0, er => exact ⟨er, Nat.zero_le _⟩
  | 1, er => exact ⟨er, Nat.le_refl _⟩
  | t + 2, er => cases er
theorem sx_bkI_bk {r : List (sx_V I)} {res : sx_R I} (er : sx_bkI go cs ls r (some res) = some out) : sx_bk go cs ls r (some res) = some out ∧ res.1.1 ≤ 1 := by
  obtain ⟨⟨t, v⟩, h'⟩ := res
  match t, er with
  | 0, er => exact ⟨er, Nat.zero_le _⟩
  | t + 1, er => cases er
theorem sn_callN (hx : p.tables.exec = Jvm.exec) (hb : c.code = bs) (hown : s.vm.findClass own = some m.cls) (hts : ∀ w ∈ sx_goods, w.before args s = true) (hKK : sx_KK b scr L xs D s) (hokM : ∀ i e, sx_m[i]? = some e → sx_okM i = true) (hCon : ∀ mid as h out, call mid as h = some out → sx_LE h out ∧ sx_Cn l g b scr L xs D mid as h out) (hRf : fr ≤ R.frames) (hRl : lo ≤ R.locals) (hRc : out.2.2.2.1 ≤ h0.2.2.1 + R.cells) (hRs : out.2.2.2.2.1 ≤ h0.2.2.2.1 + R.slots) (hmono : ∀ ls st h, go cs ls st h = some out → h.2.2.1 ≤ out.2.2.2.1 ∧ h.2.2.2.1 ≤ out.2.2.2.2.1) (hThr : ∀ (t9 : Nat) (h' : sx_H I) (H : Heap) (locs : List Loc) (cells slots : Nat) (la : Array Slot) (pc : Nat) (rest : List Value) (q : Addr) (ce : Cell), out = ((t9 + 2, none), h') → sx_Rep g b scr D s h' H → va_S (fun q => b ≤ q) s.heap H locs → h0.2.2.1 + cells = h'.2.2.1 → h0.2.2.2.1 + slots = h'.2.2.2.1 → H[q]? = some ce → ce.vm = .none → s.vm.findClass (sx_en t9) = some ce.cls → vx_W p l e R s m args below meth c H locs cells slots Q (F0 m pc la rest) q)
    (hkd : sx_kd a 1 = true) (hok : sx_cal own bs (sx_xp x) fr lo (Nat.mod b9 16) 0 sx_m[a]? lw_tbl[q]? true .invokestatic (fun _ => true) cs = true) (hgo : ∀ ls st h, go cs ls st h = some out → sx_Cm p l e R s m args below meth c Q g b scr D h0 cs ls st h) (er : sh_callN call go a b9 cs ls st h = some out) : sx_Cm p l e R s m args below meth c Q g b scr D h0 (x :: cs) ls st h := by
  obtain ⟨y, bs9, mL, ret, f9, l9, idx, he, hw, hpar, hfr, hlo, hmL, hd, hmore, hnx⟩ := sx_cal_ok hok
  obtain ⟨kd, qc, qi, qs, qn, hmq, -, -, -, hmh, hwk, -⟩ := sx_okM_ok (hokM a _ he) he
  have hk0 := sx_kd_ok hkd hmq
  subst hk0
  unfold sx_wk at hwk
  simp only [Bool.and_eq_true, decide_eq_true_eq] at hwk
  obtain ⟨wc, wn, wi⟩ := hwk
  obtain ⟨host, hw'⟩ : ∃ host, lw_tbl[q]? = some (Jvm.Cond.methodLinkNest own idx y host) := by
    rcases hw with ⟨hw, -⟩ | ⟨-, hw⟩
    · cases hw
    · exact hw
  unfold sh_callN at er
  split at er
  · next as r hpop =>
    obtain ⟨hcd, er⟩ := sx_cond er
    simp only [Bool.and_eq_true] at hcd
    obtain ⟨hsw, hn2⟩ := hcd
    cases hres : call a as h with
    | none => rw [hres] at er; cases er
    | some out9 =>
      rw [hres] at er
      obtain ⟨er, ht9⟩ := sx_bkN_bk er
      obtain ⟨hle, hcn⟩ := hCon _ _ _ _ hres
      obtain ⟨hl1, hl2⟩ := sx_pop_ok _ _ _ _ _ hpop
      have hlen : as.length = Nat.mod b9 16 := by rw [hl1]; exact Nat.zero_add _
      obtain ⟨c1, -, -⟩ := hcn y bs9 mL ret f9 l9 1 qc qi qs qn he hmq (by rw [hlen]; exact hmL) hn2
      intro H locs cells slots la pc hpc hl hP hS hc hs
      have hpc' : sx_xp x = pc := Option.some.inj hpc
      subst hpc'
      have hbs := hKK.2.2.2.2.2.2.2.2
      have hsum : ((r.map (sx_c g b scr)).map fun v => v.category).sum ≤ 8 := by rw [sx_sw_sum]; exact Nat.le_of_ble_eq_true hsw
      rw [sx_stk hl2]
      exact sn_bk (a9 := (as.map (sx_c g b scr)).toArray) hRc hRs hmono hle hgo hThr er hnx hl hS hc hs
        (fun ht hf => va_runSN (host := host) (As := as.map (sx_c g b scr)) (rest := r.map (sx_c g b scr)) ⟨hx, hb, rfl, hown, hts⟩ (c1 (by decide) ht) ⟨⟨⟨rfl, rfl, Nat.le_trans hfr hRf, Nat.le_trans hlo hRl, sx_wsU hts (sx_gq wc rfl), List.mem_cons_self⟩, hts _ (sx_gq wc rfl), hts _ (sx_gq wn rfl), hmh, sx_par hpar, va_Nw.use rfl (sx_wn hKK.2.1 hw' rfl)⟩, hts _ (sx_gq wi rfl), trivial⟩ ⟨sx_Pc_blind, sx_PcU hbs hKK hP hS⟩ rfl (by rw [List.length_map]; exact hlen) hl.1 rfl (lv_room hsum) hd hf)
        (fun ht hf => absurd ht9 (by omega))
  · cases er
theorem sn_callX (hx : p.tables.exec = Jvm.exec) (hb : c.code = bs) (hown : s.vm.findClass own = some m.cls) (hts : ∀ w ∈ sx_goods, w.before args s = true) (hKK : sx_KK b scr L xs D s) (hokM : ∀ i e, sx_m[i]? = some e → sx_okM i = true) (hCon : ∀ mid as h out, call mid as h = some out → sx_LE h out ∧ sx_Cn l g b scr L xs D mid as h out) (hRf : fr ≤ R.frames) (hRl : lo ≤ R.locals) (hRc : out.2.2.2.1 ≤ h0.2.2.1 + R.cells) (hRs : out.2.2.2.2.1 ≤ h0.2.2.2.1 + R.slots) (hmono : ∀ ls st h, go cs ls st h = some out → h.2.2.1 ≤ out.2.2.2.1 ∧ h.2.2.2.1 ≤ out.2.2.2.2.1) (hThr : ∀ (t9 : Nat) (h' : sx_H I) (H : Heap) (locs : List Loc) (cells slots : Nat) (la : Array Slot) (pc : Nat) (rest : List Value) (q : Addr) (ce : Cell), out = ((t9 + 2, none), h') → sx_Rep g b scr D s h' H → va_S (fun q => b ≤ q) s.heap H locs → h0.2.2.1 + cells = h'.2.2.1 → h0.2.2.2.1 + slots = h'.2.2.2.1 → H[q]? = some ce → ce.vm = .none → s.vm.findClass (sx_en t9) = some ce.cls → vx_W p l e R s m args below meth c H locs cells slots Q (F0 m pc la rest) q)
    (hkd : sx_kd a 3 = true) (hok : sx_cal own bs (sx_xp x) fr lo (Nat.mod b9 16) 0 sx_m[a]? lw_tbl[q]? false .invokestatic (fun _ => true) cs = true) (hgo : ∀ ls st h, go cs ls st h = some out → sx_Cm p l e R s m args below meth c Q g b scr D h0 cs ls st h) (er : sh_callN call go a b9 cs ls st h = some out) : sx_Cm p l e R s m args below meth c Q g b scr D h0 (x :: cs) ls st h := by
  obtain ⟨y, bs9, mL, ret, f9, l9, idx, he, hw, hpar, hfr, hlo, hmL, hd, hmore, hnx⟩ := sx_cal_ok hok
  obtain ⟨kd, qc, qi, qs, qn, hmq, -, -, -, hmh, hwk, -⟩ := sx_okM_ok (hokM a _ he) he
  have hw' : lw_tbl[q]? = some (Jvm.Cond.methodLink own idx y) := by
    rcases hw with ⟨-, hw⟩ | ⟨hw, -⟩
    · exact hw
    · cases hw
  unfold sh_callN at er
  split at er
  · next as r hpop =>
    obtain ⟨hcd, er⟩ := sx_cond er
    simp only [Bool.and_eq_true] at hcd
    obtain ⟨hsw, hn2⟩ := hcd
    cases hres : call a as h with
    | none => rw [hres] at er; cases er
    | some out9 =>
      rw [hres] at er
      obtain ⟨er, ht9⟩ := sx_bkN_bk er
      obtain ⟨hle, hcn⟩ := hCon _ _ _ _ hres
      obtain ⟨hl1, hl2⟩ := sx_pop_ok _ _ _ _ _ hpop
      have hlen : as.length = Nat.mod b9 16 := by rw [hl1]; exact Nat.zero_add _
      obtain ⟨c1, c2, c3⟩ := hcn y bs9 mL ret f9 l9 kd qc qi qs qn he hmq (by rw [hlen]; exact hmL) hn2
      intro H locs cells slots la pc hpc hl hP hS hc hs
      have hpc' : sx_xp x = pc := Option.some.inj hpc
      subst hpc'
      have hbs := hKK.2.2.2.2.2.2.2.2
      have hsum : ((r.map (sx_c g b scr)).map fun v => v.category).sum ≤ 8 := by rw [sx_sw_sum]; exact Nat.le_of_ble_eq_true hsw
      rw [sx_stk hl2]
      have hk0 := sx_kd_ok hkd hmq
      subst hk0
      have c3' := c3 rfl ht9
      unfold sx_wk at hwk
      simp only [Bool.and_eq_true, decide_eq_true_eq] at hwk
      obtain ⟨wc, wn, wi⟩ := hwk
      split at wc
      · next y' bs' mL' ret' hh hqc =>
        simp only [Bool.and_eq_true, decide_eq_true_eq] at wc
        obtain ⟨e1, e2, e3, e4⟩ := wc
        subst e1; subst e2; subst e3; subst e4
        have hM := c3' hh hqc
        exact sn_bk (a9 := (as.map (sx_c g b scr)).toArray) hRc hRs hmono hle hgo hThr er hnx hl hS hc hs
          (fun ht hf => vx_runSW (hh := hh) (As := as.map (sx_c g b scr)) (rest := r.map (sx_c g b scr)) ⟨hx, hb, rfl, hown, hts⟩ hM ⟨⟨rfl, rfl, Nat.le_trans hfr hRf, Nat.le_trans hlo hRl, sx_wsU hts (sx_gq hqc rfl), List.mem_cons_self⟩, hts _ (sx_gq hqc rfl), hts _ (sx_gq wn rfl), hmh, sx_par hpar, sx_wg hts hw' rfl, hts _ (sx_gq wi rfl)⟩ ⟨sx_Pc_blind, sx_PcU hbs hKK hP hS⟩ rfl (by rw [List.length_map]; exact hlen) hl.1 rfl (lv_room hsum) hd hf)
          (fun ht hf => absurd ht9 (by omega))
      · cases wc
  · cases er
/-- a constructor, of the nest or not -/
theorem sn_callI (hx : p.tables.exec = Jvm.exec) (hb : c.code = bs) (hown : s.vm.findClass own = some m.cls) (hts : ∀ w ∈ sx_goods, w.before args s = true) (hKK : sx_KK b scr L xs D s) (hokM : ∀ i e, sx_m[i]? = some e → sx_okM i = true) (hCon : ∀ mid as h out, call mid as h = some out → sx_LE h out ∧ sx_Cn l g b scr L xs D mid as h out) (hRf : fr ≤ R.frames) (hRl : lo ≤ R.locals) (hRc : out.2.2.2.1 ≤ h0.2.2.1 + R.cells) (hRs : out.2.2.2.2.1 ≤ h0.2.2.2.1 + R.slots) (hmono : ∀ ls st h, go cs ls st h = some out → h.2.2.1 ≤ out.2.2.2.1 ∧ h.2.2.2.1 ≤ out.2.2.2.2.1) (hThr : ∀ (t9 : Nat) (h' : sx_H I) (H : Heap) (locs : List Loc) (cells slots : Nat) (la : Array Slot) (pc : Nat) (rest : List Value) (q : Addr) (ce : Cell), out = ((t9 + 2, none), h') → sx_Rep g b scr D s h' H → va_S (fun q => b ≤ q) s.heap H locs → h0.2.2.1 + cells = h'.2.2.1 → h0.2.2.2.1 + slots = h'.2.2.2.1 → H[q]? = some ce → ce.vm = .none → s.vm.findClass (sx_en t9) = some ce.cls → vx_W p l e R s m args below meth c H locs cells slots Q (F0 m pc la rest) q)
    (hkd : sx_kd a 2 = true) {nest : Bool} (hok : sx_cal own bs (sx_xp x) fr lo 0 1 sx_m[a]? lw_tbl[q]? nest .invokespecial (fun y => decide (y.name = "<init>")) cs = true) (hgo : ∀ ls st h, go cs ls st h = some out → sx_Cm p l e R s m args below meth c Q g b scr D h0 cs ls st h) (er : sh_callI call go a cs ls st h = some out) : sx_Cm p l e R s m args below meth c Q g b scr D h0 (x :: cs) ls st h := by
  obtain ⟨y, bs9, mL, ret, f9, l9, idx, he, hw, hpar, hfr, hlo, hmL, hd, hmore, hnx⟩ := sx_cal_ok hok
  obtain ⟨kd, qc, qi, qs, qn, hmq, hokL9, -, -, hmh, hwk, -⟩ := sx_okM_ok (hokM a _ he) he
  have hk0 := sx_kd_ok hkd hmq
  subst hk0
  unfold sx_wk at hwk
  simp only [Bool.and_eq_true, decide_eq_true_eq] at hwk
  obtain ⟨⟨wc, wn, wi⟩, wr⟩ := hwk
  subst wr
  have hini := of_decide_eq_true hmore
  unfold sh_callI at er
  split at er
  · next k9 r =>
    obtain ⟨hsw, er⟩ := sx_cond er
    cases hres : call a [some (.inr (.inl k9))] h with
    | none => rw [hres] at er; cases er
    | some out9 =>
      rw [hres] at er
      obtain ⟨er, ht9⟩ := sx_bkI_bk er
      obtain ⟨hle, hcn⟩ := hCon _ _ _ _ hres
      obtain ⟨c1, -, -⟩ := hcn y bs9 mL none f9 l9 2 qc qi qs qn he hmq hmL rfl
      intro H locs cells slots la pc hpc hl hP hS hc hs
      have hpc' : sx_xp x = pc := Option.some.inj hpc
      subst hpc'
      have hbs := hKK.2.2.2.2.2.2.2.2
      have hsum : ((r.map (sx_c g b scr)).map fun v => v.category).sum ≤ 8 := by rw [sx_sw_sum]; exact Nat.le_of_ble_eq_true hsw
      have hPU := sx_PcU (as := [some (.inr (.inl k9))]) hbs hKK hP hS
      refine sn_bk (a9 := (Value.ref (b + k9) :: []).toArray) hRc hRs hmono hle hgo hThr er hnx hl hS hc hs (fun ht hf => ?_) (fun ht hf => absurd ht9 (by omega))
      rcases hw with ⟨-, hw'⟩ | ⟨-, host, hw'⟩
      · exact va_runI (b := b + k9) (As := []) (n := 0) (rest := r.map (sx_c g b scr)) ⟨hx, hb, rfl, hown, hts⟩ (c1 (by decide) ht) ⟨⟨rfl, rfl, Nat.le_trans hfr hRf, Nat.le_trans hlo hRl, sx_wsU hts (sx_gq wc rfl), List.mem_cons_self, hts _ (sx_gq wc rfl), hts _ (sx_gq wn rfl), hmh, sx_par hpar, sx_wg hts hw' rfl⟩, hini, hts _ (sx_gq wi rfl)⟩ ⟨sx_Pc_blind, hPU⟩ rfl rfl hl.1 rfl (lv_room hsum) hd hf
      · exact va_runIN (host := host) (b := b + k9) (As := []) (n := 0) (rest := r.map (sx_c g b scr)) ⟨hx, hb, rfl, hown, hts⟩ (c1 (by decide) ht) ⟨⟨⟨rfl, rfl, Nat.le_trans hfr hRf, Nat.le_trans hlo hRl, sx_wsU hts (sx_gq wc rfl), List.mem_cons_self⟩, hts _ (sx_gq wc rfl), hts _ (sx_gq wn rfl), hmh, sx_par hpar, va_Nw.use rfl (sx_wn hKK.2.1 hw' rfl)⟩, hini, hts _ (sx_gq wi rfl)⟩ ⟨sx_Pc_blind, hPU⟩ rfl rfl hl.1 rfl (lv_room hsum) hd hf
  · cases er
/-- a wrapper's call -/
theorem sn_callW (hx : p.tables.exec = Jvm.exec) (hb : c.code = bs) (hown : s.vm.findClass own = some m.cls) (hts : ∀ w ∈ sx_goods, w.before args s = true) (hKK : sx_KK b scr L xs D s) (hokM : ∀ i e, sx_m[i]? = some e → sx_okM i = true) (hCon : ∀ mid as h out, call mid as h = some out → sx_LE h out ∧ sx_Cn l g b scr L xs D mid as h out) (hRf : fr ≤ R.frames) (hRl : lo ≤ R.locals) (hRc : out.2.2.2.1 ≤ h0.2.2.1 + R.cells) (hRs : out.2.2.2.2.1 ≤ h0.2.2.2.1 + R.slots) (hmono : ∀ ls st h, go cs ls st h = some out → h.2.2.1 ≤ out.2.2.2.1 ∧ h.2.2.2.1 ≤ out.2.2.2.2.1) (hThr : ∀ (t9 : Nat) (h' : sx_H I) (H : Heap) (locs : List Loc) (cells slots : Nat) (la : Array Slot) (pc : Nat) (rest : List Value) (q : Addr) (ce : Cell), out = ((t9 + 2, none), h') → sx_Rep g b scr D s h' H → va_S (fun q => b ≤ q) s.heap H locs → h0.2.2.1 + cells = h'.2.2.1 → h0.2.2.2.1 + slots = h'.2.2.2.1 → H[q]? = some ce → ce.vm = .none → s.vm.findClass (sx_en t9) = some ce.cls → vx_W p l e R s m args below meth c H locs cells slots Q (F0 m pc la rest) q) (hCat : ∀ (t9 v9 : Nat) (h' : sx_H I) (H : Heap) (locs : List Loc) (cells slots : Nat) (la : Array Slot) (rest : List Value) (q : Addr) (ce : Cell), out = ((1, some (.inl (o.1 v9))), h') → v9 = Nat.mod (Nat.div (Nat.div b9 256) (4 ^ t9)) 4 → v9 ≠ 0 → t9 < 3 → lv_has la c.maxLocals (ls.map (sx_cq g b scr)) → sx_Rep g b scr D s h' H → va_S (fun q => b ≤ q) s.heap H locs → h0.2.2.1 + cells = h'.2.2.1 → h0.2.2.2.1 + slots = h'.2.2.2.1 → H[q]? = some ce → ce.vm = .none → s.vm.findClass (sx_en t9) = some ce.cls → vx_W p l e R s m args below meth c H locs cells slots Q (F0 m (sx_xp x) la rest) q)
    (hkd : sx_kd a 0 = true) (hok : sx_cal own bs (sx_xp x) fr lo (Nat.mod b9 16) 1 sx_m[a]? lw_tbl[q]? false .invokevirtual (sx_cls1 (Nat.mod (Nat.div b9 16) 16)) cs = true) (hgo : ∀ ls st h, go cs ls st h = some out → sx_Cm p l e R s m args below meth c Q g b scr D h0 cs ls st h) (er : sh_callW o call go a b9 cs ls st h = some out) : sx_Cm p l e R s m args below meth c Q g b scr D h0 (x :: cs) ls st h := by
  obtain ⟨y, bs9, mL, ret, f9, l9, idx, he, hw, hpar, hfr, hlo, hmL, hd, hmore, hnx⟩ := sx_cal_ok hok
  obtain ⟨kd, qc, qi, qs, qn, hmq, -, -, -, hmh, hwk, -⟩ := sx_okM_ok (hokM a _ he) he
  have hk0 := sx_kd_ok hkd hmq
  subst hk0
  unfold sx_wk at hwk
  simp only [Bool.and_eq_true, decide_eq_true_eq] at hwk
  obtain ⟨wc, wn, wi, wl⟩ := hwk
  obtain ⟨r9, hc9, hyc⟩ := sx_cls1_ok hmore
  have hw' : lw_tbl[q]? = some (Jvm.Cond.methodLink own idx y) := by
    rcases hw with ⟨-, hw⟩ | ⟨hw, -⟩
    · exact hw
    · cases hw
  unfold sh_callW at er
  split at er
  · next as k9 r hpop =>
    split at er
    · next ci fs hg =>
      obtain ⟨hcd, er⟩ := sx_cond er
      simp only [Bool.and_eq_true] at hcd
      obtain ⟨hci, hsw, hn2⟩ := hcd
      have hci' : ci = Nat.mod (Nat.div b9 16) 16 := Nat.eq_of_beq_eq_true hci
      rw [← hci'] at hc9
      cases hres : call a (some (.inr (.inl k9)) :: as) h with
      | none => rw [hres] at er; cases er
      | some out9 =>
        rw [hres] at er
        obtain ⟨hle, hcn⟩ := hCon _ _ _ _ hres
        obtain ⟨hl1, hl2⟩ := sx_pop_ok _ _ _ _ _ hpop
        have hlen : as.length = Nat.mod b9 16 := by rw [hl1]; exact Nat.zero_add _
        obtain ⟨c1, c2, -⟩ := hcn y bs9 mL ret f9 l9 0 qc qi qs qn he hmq (by rw [List.length_cons, hlen]; exact hmL) hn2
        intro H locs cells slots la pc hpc hl hP hS hc hs
        have hpc' : sx_xp x = pc := Option.some.inj hpc
        subst hpc'
        have hbs := hKK.2.2.2.2.2.2.2.2
        have hrecv : ∃ cell : Cell, H[b + k9]? = some cell ∧ cell.vm.isStatics = false ∧ s.vm.findClass r9.1 = some cell.cls := va_recv (q0 := 0) (ws := [(b + k9, .inr (ci, fs.map (sx_c g b scr)))]) hKK.1 (sx_P1 (hP.1 k9 _ hg)) hc9 rfl
        have hCB : CallB R s args own idx y bs9 mL ret (Jvm.Cond.code y bs9 mL ret :: sx_goods) (sx_rm f9 l9 (out9.2.2.2.1 - h.2.2.1) (out9.2.2.2.2.1 - h.2.2.2.1)) (out9.2.2.2.1 - h.2.2.1) (out9.2.2.2.2.1 - h.2.2.2.1) (Nat.mod b9 16) :=
          ⟨rfl, rfl, Nat.le_trans hfr hRf, Nat.le_trans hlo hRl, sx_wsU hts (sx_gq wc rfl), List.mem_cons_self, hts _ (sx_gq wc rfl), hts _ (sx_gq wn rfl), hmh, sx_par hpar, sx_wg hts hw' rfl⟩
        have hCW : CallW R s args own r9.1 idx y bs9 mL ret (Jvm.Cond.code y bs9 mL ret :: sx_goods) (sx_rm f9 l9 (out9.2.2.2.1 - h.2.2.1) (out9.2.2.2.2.1 - h.2.2.2.1)) (out9.2.2.2.1 - h.2.2.1) (out9.2.2.2.2.1 - h.2.2.2.1) (Nat.mod b9 16) :=
          ⟨hCB, hts _ (sx_gq wi rfl), by rw [← hyc]; exact hts _ (sx_gq wl rfl)⟩
        have hsum : ((r.map (sx_c g b scr)).map fun v => v.category).sum ≤ 8 := by rw [sx_sw_sum]; exact Nat.le_of_ble_eq_true hsw
        rw [sx_stk hl2]
        have runN : out9.1.1 ≤ 1 → cells + (out9.2.2.2.1 - h.2.2.1) ≤ R.cells ∧ slots + (out9.2.2.2.2.1 - h.2.2.2.1) ≤ R.slots → va_Run p l e R s m args below meth c H locs cells slots (out9.2.2.2.1 - h.2.2.1) (out9.2.2.2.2.1 - h.2.2.2.1) (F0 m (sx_xp x) la ((as.map (sx_c g b scr)).reverse ++ (some (.inr (.inl k9)) :: r).map (sx_c g b scr))) (r.map (sx_c g b scr)) (sx_Qc g b scr D out9 (Value.ref (b + k9) :: as.map (sx_c g b scr)).toArray) (fun q => b ≤ q) := fun ht hf =>
          va_runV (C := r9.1) (b := b + k9) (As := as.map (sx_c g b scr)) (rest := r.map (sx_c g b scr)) ⟨hx, hb, rfl, hown, hts⟩ (c1 (by decide) ht) hCW ⟨sx_Pc_blind, hrecv, sx_PcU hbs hKK hP hS⟩ rfl (by rw [List.length_map]; exact hlen) hl.1 rfl (lv_room hsum) hd hf
        have runX : 2 ≤ out9.1.1 → cells + (out9.2.2.2.1 - h.2.2.1) ≤ R.cells ∧ slots + (out9.2.2.2.2.1 - h.2.2.2.1) ≤ R.slots → vx_Run p l e R s m args below meth c H locs cells slots (out9.2.2.2.1 - h.2.2.1) (out9.2.2.2.2.1 - h.2.2.2.1) (F0 m (sx_xp x) la ((as.map (sx_c g b scr)).reverse ++ (some (.inr (.inl k9)) :: r).map (sx_c g b scr))) (r.map (sx_c g b scr)) (sx_No (Value.ref (b + k9) :: as.map (sx_c g b scr)).toArray) (sx_XC g b scr D out9) (fun q => b ≤ q) := fun ht hf =>
          vx_runV (C := r9.1) (b := b + k9) (As := as.map (sx_c g b scr)) (rest := r.map (sx_c g b scr)) ⟨hx, hb, rfl, hown, hts⟩ (c2 (by decide) ht) hCW ⟨sx_Pc_blind, hrecv, sx_PcU hbs hKK hP hS⟩ rfl (by rw [List.length_map]; exact hlen) hl.1 rfl (lv_room hsum) hd hf
        clear hcn c1 c2 hCB hCW
        obtain ⟨⟨t, v⟩, h'⟩ := out9
        match t, er, runN, runX with
        | 0, er, runN, runX => exact sn_bk hRc hRs hmono hle hgo hThr (show sx_bk go cs ls r (some ((0, v), h')) = some out from er) hnx hl hS hc hs runN runX
        | 1, er, runN, runX => exact sn_bk hRc hRs hmono hle hgo hThr (show sx_bk go cs ls r (some ((1, v), h')) = some out from er) hnx hl hS hc hs runN runX
        | t + 2, er, runN, runX =>
          have hle1 : h.2.2.1 ≤ h'.2.2.1 := hle.1
          have hle2 : h.2.2.2.1 ≤ h'.2.2.2.1 := hle.2
          obtain ⟨hv9, er2⟩ := sx_condn er
          have er3 : out = ((1, some (.inl (o.1 (Nat.mod (Nat.div (Nat.div b9 256) (4 ^ t)) 4)))), h') := (Option.some.inj er2).symm
          have hq1 : out.2 = h' := by rw [er3]
          rw [hq1] at hRc hRs
          have hv0 : Nat.mod (Nat.div (Nat.div b9 256) (4 ^ t)) 4 ≠ 0 := fun z => by rw [z] at hv9; cases hv9
          have ht3 : t < 3 := by
            rcases Nat.lt_or_ge t 3 with z | z
            · exact z
            · rw [show Nat.ble 3 t = true from Nat.ble_eq_true_of_le z, Bool.or_true] at hv9; cases hv9
          refine sx_ofRunX (runX (by show 2 ≤ t + 2; omega) ⟨?_, ?_⟩) hS fun H1 locs1 q ce hP1 hS1 h1 h2 h3 => hCat t _ h' H1 locs1 _ _ la _ q ce er3 rfl hv0 ht3 hl hP1 hS1 ?_ ?_ h1 h2 h3
          · show cells + (h'.2.2.1 - h.2.2.1) ≤ R.cells
            omega
          · show slots + (h'.2.2.2.1 - h.2.2.2.1) ≤ R.slots
            omega
          · show h0.2.2.1 + (cells + (h'.2.2.1 - h.2.2.1)) = h'.2.2.1
            omega
          · show h0.2.2.2.1 + (slots + (h'.2.2.2.1 - h.2.2.2.1)) = h'.2.2.2.1
            omega
    · cases er
  · cases er
end SN
end
section
/-! ===== a frame's run, and a method's contract ===== -/
noncomputable def sx_FI {I : Type} (g : I → Int32) (b scr : Nat) (D : va_G) (s : State) (h0 h : sx_H I) (H : Heap) (locs : List Loc) (cells slots : Nat) : Prop := sx_Rep g b scr D s h H ∧ va_S (fun q => b ≤ q) s.heap H locs ∧ h0.2.2.1 + cells = h.2.2.1 ∧ h0.2.2.2.1 + slots = h.2.2.2.1
noncomputable def sx_FSg {I : Type} (l : Launch) (o1 : Nat → I) (g : I → Int32) (b scr L : Nat) (xs : Nat → Int32) (D : va_G) (rn : List Nat → sx_G I) : Prop :=
  ∀ (mid : Nat) (y : MethodName) (bs : ByteArray) (mL : Nat) (ret : Option FieldType) (f lo : Nat), sx_m[mid]? = some (y, (bs, (mL, (ret, (f, lo))))) →
  ∀ (p : Program) (e : Env) (R : Room) (s : State) (m : MethodId) (args : Array Value) (below : List Frame) (meth : Method) (c : Code) (Q : State → Prop) (h0 : sx_H I) (out : sx_R I) (wrp : Bool),
  p.tables.exec = Jvm.exec → c.code = bs → c.maxLocals = mL → s.vm.findClass y.cls = some m.cls → (∀ w ∈ sx_goods, w.before args s = true) → sx_KK b scr L xs D s → f ≤ R.frames → lo ≤ R.locals → (y.name = "<init>" → meth.name = "<init>") →
  out.2.2.2.1 ≤ h0.2.2.1 + R.cells → out.2.2.2.2.1 ≤ h0.2.2.2.1 + R.slots →
  (∀ (i : I) (h' : sx_H I) (H : Heap) (locs : List Loc) (cells slots : Nat) (la : Array Slot) (pc : Nat), out = ((1, some (.inl i)), h') → (ret = some .int ∨ (ret = some .boolean ∧ (g i = nI 0 ∨ g i = nI 1))) → decode bs pc = .ok (.ireturn, 1) → sx_FI g b scr D s h0 h' H locs cells slots → W p l e R s m args below meth c H locs cells slots Q (F0 m pc la [.int (g i)])) →
  (∀ (h' : sx_H I) (H : Heap) (locs : List Loc) (cells slots : Nat) (la : Array Slot) (pc : Nat), out = ((0, none), h') → ret = none → decode bs pc = .ok (.return_, 1) → sx_FI g b scr D s h0 h' H locs cells slots → W p l e R s m args below meth c H locs cells slots Q (F0 m pc la [])) →
  (∀ (v : sx_V I) (h' : sx_H I) (H : Heap) (locs : List Loc) (cells slots : Nat) (la : Array Slot) (pc : Nat), out = ((1, v), h') → (v = none ∨ ∃ k, v = some (.inr (.inl k))) → sx_rob ret = true → decode bs pc = .ok (.areturn, 1) → sx_FI g b scr D s h0 h' H locs cells slots → W p l e R s m args below meth c H locs cells slots Q (F0 m pc la [sx_c g b scr v])) →
  (∀ (t9 : Nat) (h' : sx_H I) (H : Heap) (locs : List Loc) (cells slots : Nat) (la : Array Slot) (pc : Nat) (rest : List Value) (q : Addr) (ce : Cell), out = ((t9 + 2, none), h') → sx_Rep g b scr D s h' H → va_S (fun q => b ≤ q) s.heap H locs → h0.2.2.1 + cells = h'.2.2.1 → h0.2.2.2.1 + slots = h'.2.2.2.1 → H[q]? = some ce → ce.vm = .none → s.vm.findClass (sx_en t9) = some ce.cls → vx_W p l e R s m args below meth c H locs cells slots Q (F0 m pc la rest) q) →
  (∀ (a b9 q k : Nat) (f9 : Nat → Instr) (h : sx_H I) (st : List (sx_V I)) (H : Heap) (locs : List Loc) (cells slots : Nat) (la : Array Slot) (pc : Nat), out = ((a + 2, none), sx_hx h) → ((f9 = .ldc ∧ k = 2) ∨ (f9 = .ldc_w ∧ k = 3)) → sx_thr y.cls bs pc f lo a b9 q f9 k = true → sx_sw st ≤ 8 → la.size = c.maxLocals → sx_FI g b scr D s h0 h H locs cells slots → W p l e R s m args below meth c H locs cells slots Q (F0 m pc la (st.map (sx_c g b scr)))) →
  (∀ (x b9 : Nat) (ls : sx_L I), wrp = true → x ∈ sx_cd mid → sx_xq x = 39 → b9 = sx_xb x → ∀ (t9 v9 : Nat) (h' : sx_H I) (H : Heap) (locs : List Loc) (cells slots : Nat) (la : Array Slot) (rest : List Value) (q : Addr) (ce : Cell), out = ((1, some (.inl (o1 v9))), h') → v9 = Nat.mod (Nat.div (Nat.div b9 256) (4 ^ t9)) 4 → v9 ≠ 0 → t9 < 3 → lv_has la c.maxLocals (ls.map (sx_cq g b scr)) → sx_Rep g b scr D s h' H → va_S (fun q => b ≤ q) s.heap H locs → h0.2.2.1 + cells = h'.2.2.1 → h0.2.2.2.1 + slots = h'.2.2.2.1 → H[q]? = some ce → ce.vm = .none → s.vm.findClass (sx_en t9) = some ce.cls → vx_W p l e R s m args below meth c H locs cells slots Q (F0 m (sx_xp x) la rest) q) →
  sx_okL y.cls (decide (y.name = "<init>")) wrp ret bs mL f lo (sx_cd mid) (sx_cd mid) = true →
  ∀ (cs : List Nat) (ls : sx_L I) (st : List (sx_V I)) (h : sx_H I), (∀ z ∈ cs, z ∈ sx_cd mid) → sx_okL y.cls (decide (y.name = "<init>")) wrp ret bs mL f lo (sx_cd mid) cs = true → rn (sx_cd mid) cs ls st h = some out → sx_Cm p l e R s m args below meth c Q g b scr D h0 cs ls st h
noncomputable def sx_FS {I : Type} (l : Launch) (o : sx_O I) (g : I → Int32) (b scr L : Nat) (xs : Nat → Int32) (D : va_G) (n : Nat) : Prop := sx_FSg l o.1 g b scr L xs D (sx_run sx_cd o n)
theorem sx_okL_drop {own : String} {ini wrp : Bool} {ret : Option FieldType} {bs : ByteArray} {mL f lo : Nat} {full : List Nat} (k : Nat) : ∀ (cs : List Nat), sx_okL own ini wrp ret bs mL f lo full cs = true → sx_okL own ini wrp ret bs mL f lo full (cs.drop k) = true := by
  induction k with
  | zero => intro cs h; exact h
  | succ k ih =>
    intro cs h
    cases cs with
    | nil => exact h
    | cons x r =>
      unfold sx_okL at h
      simp only [Bool.and_eq_true] at h
      exact ih r h.2
theorem sx_rl {own : String} {ini wrp : Bool} {ret : Option FieldType} {bs : ByteArray} {mL f lo : Nat} {full : List Nat} {x : Nat} {cs : List Nat} {k : Nat} {P : Bool} (h : sx_ok1 own ini wrp ret bs mL f lo full x cs k = true) (e : sx_ok1 own ini wrp ret bs mL f lo full x cs k = P) : P = true := e ▸ h
theorem sx_a2 {a b : Bool} (h : (a && b) = true) : a = true ∧ b = true := by
  cases a with
  | false => cases h
  | true => exact ⟨rfl, h⟩
set_option maxHeartbeats 8000000 in
set_option maxRecDepth 100000 in
theorem sx_step {I : Type} {l : Launch} {o : sx_O I} {g : I → Int32} {b scr L : Nat} {xs : Nat → Int32} {D : va_G} (hLw : sx_Law o g L xs) (hokM : ∀ i e, sx_m[i]? = some e → sx_okM i = true) {rn rn1 : List Nat → sx_G I} {call : sx_K I} (hCon : ∀ mid as h out, call mid as h = some out → sx_LE h out ∧ sx_Cn l g b scr L xs D mid as h out)
    (hMo : ∀ full cs ls st h out, rn full cs ls st h = some out → sx_LE h out) (hnil : ∀ full ls st h, rn1 full [] ls st h = none) (hcons : ∀ full x r ls st h, rn1 full (x :: r) ls st h = sx_hd (sx_xq x) o call (rn full) full (sx_xa x) (sx_xb x) (sx_xc x) r ls st h) (ih : sx_FSg l o.1 g b scr L xs D rn) : sx_FSg l o.1 g b scr L xs D rn1 := by
    intro mid y bs mL ret f lo he p e R s m args below meth c Q h0 out wrp hx hb hml hown hts hKK hRf hRl hini hRc hRs hI hV hA hThr hTh hCat hfull cs ls st h hsub hok er
    cases cs with
    | nil => rw [hnil] at er; cases er
    | cons x r =>
      rw [hcons] at er
      have hok2 : (sx_ok1 y.cls (decide (y.name = "<init>")) wrp ret bs mL f lo (sx_cd mid) x r (sx_xq x) && sx_okL y.cls (decide (y.name = "<init>")) wrp ret bs mL f lo (sx_cd mid) r) = true := hok
      simp only [Bool.and_eq_true] at hok2
      obtain ⟨hok1, hokr⟩ := hok2
      have hxm : x ∈ sx_cd mid := hsub x List.mem_cons_self
      have hgo0 : ∀ cs ls st h, (∀ z ∈ cs, z ∈ sx_cd mid) → sx_okL y.cls (decide (y.name = "<init>")) wrp ret bs mL f lo (sx_cd mid) cs = true → rn (sx_cd mid) cs ls st h = some out → sx_Cm p l e R s m args below meth c Q g b scr D h0 cs ls st h := fun cs ls st h h1 h2 h3 => ih mid y bs mL ret f lo he p e R s m args below meth c Q h0 out wrp hx hb hml hown hts hKK hRf hRl hini hRc hRs hI hV hA hThr hTh hCat hfull cs ls st h h1 h2 h3
      have hgo : ∀ ls st h, rn (sx_cd mid) r ls st h = some out → sx_Cm p l e R s m args below meth c Q g b scr D h0 r ls st h := fun ls st h => hgo0 r ls st h (fun z hz => hsub z (List.mem_cons_of_mem _ hz)) hokr
      have hmono : ∀ ls st h, rn (sx_cd mid) r ls st h = some out → h.2.2.1 ≤ out.2.2.2.1 ∧ h.2.2.2.1 ≤ out.2.2.2.2.1 := fun ls st h e9 => hMo _ _ _ _ _ _ e9
      have hgj : ∀ t9 ls st h, rn (sx_cd mid) ((sx_cd mid).drop t9) ls st h = some out → sx_Cm p l e R s m args below meth c Q g b scr D h0 ((sx_cd mid).drop t9) ls st h := fun t9 ls st h e9 => hgo0 _ ls st h (fun z hz => List.mem_of_mem_drop hz) (sx_okL_drop t9 _ hfull) e9
      have hbs := hKK.2.2.2.2.2.2.2.2
      have hX := hKK.2.2.2.2.2.1.1
      have hsb := hKK.2.2.2.2.2.1.2
      generalize hop : sx_xq x = op at hok1 er
      match op, hop, hok1, er with
      | 0, hop, hok1, er =>
        exact sn_aload (a := sx_xa x) hx hb hok1 hgo er
      | 1, hop, hok1, er =>
        exact sn_get (a := sx_xa x) (k := sx_xb x) (q := sx_xc x) hx hb hown hts hKK.1 hok1 hgo er
      | 2, hop, hok1, er =>
        exact sn_iload (a := sx_xa x) hx hb hok1 hgo er
      | 3, hop, hok1, er =>
        exact sn_const (a := sx_xa x) (b9 := sx_xb x) (c9 := sx_xc x) hx hb hLw.1 hok1 hgo er
      | 4, hop, hok1, er =>
        obtain ⟨h1, h2⟩ := sx_a2 hok1
        exact sn_callV (a := sx_xa x) (b9 := sx_xb x) (q := sx_xc x) hx hb hown hts hKK hokM hCon hRf hRl hRc hRs hmono hThr h1 h2 hgo er
      | 5, hop, hok1, er =>
        exact sn_goto (t9 := sx_xb x) hx hb hok1 (hgj _) er
      | 6, hop, hok1, er =>
        obtain ⟨h1, h2⟩ := sx_a2 hok1
        exact sn_ald (a := sx_xa x) hx hb hLw hX hsb hbs h1 h2 hgo er
      | 7, hop, hok1, er =>
        obtain ⟨h1, h2⟩ := sx_a2 hok1
        change sh_iret st h = some out at er
        unfold sh_iret at er
        split at er
        · next i _ =>
          intro H locs cells slots la pc hpc hl hP hS hc hs
          have hpc' : sx_xp x = pc := Option.some.inj hpc
          subst hpc'
          exact hI i h H locs cells slots la _ (Option.some.inj er).symm (Or.inl (of_decide_eq_true h1)) (sx_dk_ok h2) ⟨hP, hS, hc, hs⟩
        · cases er
      | 8, hop, hok1, er =>
        obtain ⟨h1, h2⟩ := sx_a2 hok1
        obtain ⟨h2, h3⟩ := sx_a2 h2
        exact sn_bin (a := sx_xa x) hx hb hLw (Nat.le_of_ble_eq_true h1) h2 h3 hgo er
      | 9, hop, hok1, er =>
        obtain ⟨h1, h2⟩ := sx_a2 hok1
        exact sn_istore (a := sx_xa x) hx hb (by rw [hml]; exact Nat.le_of_ble_eq_true h1) h2 hgo er
      | 10, hop, hok1, er =>
        obtain ⟨h1, h2⟩ := sx_a2 hok1
        obtain ⟨h2, h3⟩ := sx_a2 h2
        exact sn_if (a := sx_xa x) (t9 := sx_xb x) hx hb hLw (Nat.le_of_ble_eq_true h1) h2 h3 hgo (hgj _) er
      | 11, hop, hok1, er =>
        obtain ⟨h1, h2⟩ := sx_a2 hok1
        obtain ⟨h2, h3⟩ := sx_a2 h2
        exact sn_icmp (a := sx_xa x) (t9 := sx_xb x) hx hb hLw (Nat.le_of_ble_eq_true h1) h2 h3 hgo (hgj _) er
      | 12, hop, hok1, er =>
        exact sn_put (a := sx_xa x) (k := sx_xb x) (q := sx_xc x) (more := (fun T k => !(T k).2.2.2 && sx_tc (Nat.div (sx_xa x) 16) (T k).2.2.1)) hx hb hLw hown hts hKK.1 false (fun q => by cases q) (fun T k hm => by obtain ⟨m1, m2⟩ := sx_a2 hm; exact ⟨m2, by simpa using m1, fun q => by cases q⟩) hok1 hgo er
      | 13, hop, hok1, er =>
        obtain ⟨h1, h2⟩ := sx_a2 hok1
        exact sn_callS (a := sx_xa x) (b9 := sx_xb x) (q := sx_xc x) hx hb hown hts hKK hokM hCon hRf hRl hRc hRs hmono hThr h1 h2 hgo er
      | 14, hop, hok1, er =>
        obtain ⟨h1, h2⟩ := sx_a2 hok1
        obtain ⟨h2, h3⟩ := sx_a2 h2
        obtain ⟨h3, h4⟩ := sx_a2 h3
        exact sn_iinc (a := sx_xa x) (b9 := sx_xb x) (c9 := sx_xc x) hx hb hLw (by rw [hml]; exact Nat.le_of_ble_eq_true h1) h2 (of_decide_eq_true h3) h4 hgo er
      | 15, hop, hok1, er =>
        obtain ⟨h1, h2⟩ := sx_a2 hok1
        exact sn_ast (a := sx_xa x) hx hb hLw hKK.1 h1 h2 hgo er
      | 16, hop, hok1, er =>
        obtain ⟨h1, h2⟩ := sx_a2 hok1
        exact sn_dup hx hb h1 h2 hgo er
      | 17, hop, hok1, er =>
        obtain ⟨h1, h2⟩ := sx_a2 hok1
        change sh_vret st h = some out at er
        unfold sh_vret at er
        split at er
        · intro H locs cells slots la pc hpc hl hP hS hc hs
          have hpc' : sx_xp x = pc := Option.some.inj hpc
          subst hpc'
          exact hV h H locs cells slots la _ (Option.some.inj er).symm (of_decide_eq_true h1) (sx_dk_ok h2) ⟨hP, hS, hc, hs⟩
        · cases er
      | 18, hop, hok1, er =>
        obtain ⟨h1, h2⟩ := sx_a2 hok1
        exact sn_callI (nest := false) (a := sx_xa x) (q := sx_xc x) hx hb hown hts hKK hokM hCon hRf hRl hRc hRs hmono hThr h1 h2 hgo er
      | 19, hop, hok1, er =>
        obtain ⟨h1, h2⟩ := sx_a2 hok1
        change sh_zret o st h = some out at er
        unfold sh_zret at er
        split at er
        · next i _ =>
          obtain ⟨hz, er⟩ := sx_cond er
          have hz2 : (match o.2.2.2.1 i with
            | some n => Nat.beq n 0 || Nat.beq n 1
            | none => false) = true := hz
          split at hz2
          · next n9 hn9 =>
            have hg9 := hLw.2.2.2.1 _ _ hn9
            have hz3 : g i = nI 0 ∨ g i = nI 1 := by
              simp only [Bool.or_eq_true] at hz2
              rcases hz2 with hz2 | hz2
              · exact Or.inl (by rw [hg9, Nat.eq_of_beq_eq_true hz2])
              · exact Or.inr (by rw [hg9, Nat.eq_of_beq_eq_true hz2])
            intro H locs cells slots la pc hpc hl hP hS hc hs
            have hpc' : sx_xp x = pc := Option.some.inj hpc
            subst hpc'
            exact hI i h H locs cells slots la _ (Option.some.inj er).symm (Or.inr ⟨of_decide_eq_true h1, hz3⟩) (sx_dk_ok h2) ⟨hP, hS, hc, hs⟩
          · cases hz2
        · cases er
      | 20, hop, hok1, er =>
        obtain ⟨h1, h2⟩ := sx_a2 hok1
        exact sn_new (a := sx_xa x) (q := sx_xc x) hx hb hLw hown hts hKK.1 hRc hRs hmono (Nat.le_of_ble_eq_true h1) h2 hgo er
      | 21, hop, hok1, er =>
        obtain ⟨h1, h2⟩ := sx_a2 hok1
        exact sn_i2l hx hb h1 h2 hgo er
      | 22, hop, hok1, er =>
        obtain ⟨h1, h2⟩ := sx_a2 hok1
        exact sn_astore (a := sx_xa x) hx hb (by rw [hml]; exact Nat.le_of_ble_eq_true h1) h2 hgo er
      | 23, hop, hok1, er =>
        obtain ⟨h1, h2⟩ := sx_a2 hok1
        obtain ⟨h2, h3⟩ := sx_a2 h2
        obtain ⟨h3, h4⟩ := sx_a2 h3
        exact sn_newa (a := sx_xa x) (q := sx_xc x) hx hb hLw hts hRc hRs hmono (Nat.le_of_ble_eq_true h1) h2 (of_decide_eq_true h3) h4 hgo er
      | 24, hop, hok1, er =>
        obtain ⟨h1, h2⟩ := sx_a2 hok1
        exact sn_alen hx hb hLw hX hsb hbs h1 h2 hgo er
      | 25, hop, hok1, er =>
        change sh_throw (sx_xa x) st h = some out at er
        unfold sh_throw at er
        obtain ⟨hz, er⟩ := sx_cond er
        intro H locs cells slots la pc hpc hl hP hS hc hs
        have hpc' : sx_xp x = pc := Option.some.inj hpc
        subst hpc'
        exact hTh (sx_xa x) (sx_xb x) (sx_xc x) 2 .ldc h st H locs cells slots la _ (Option.some.inj er).symm (Or.inl ⟨rfl, rfl⟩) hok1 (Nat.le_of_ble_eq_true hz) hl.1 ⟨hP, hS, hc, hs⟩
      | 26, hop, hok1, er =>
        obtain ⟨h1, h2⟩ := sx_a2 hok1
        exact sn_lcmp hx hb hLw h1 h2 hgo er
      | 27, hop, hok1, er =>
        obtain ⟨h1, h2⟩ := sx_a2 hok1
        exact sn_null hx hb h1 h2 hgo er
      | 28, hop, hok1, er =>
        obtain ⟨h1, h2⟩ := sx_a2 hok1
        exact sn_dup2 hx hb h1 h2 hgo er
      | 29, hop, hok1, er =>
        exact sn_anew (a := sx_xa x) (q := sx_xc x) hx hb hLw hown hts hKK.2.2.1 hRc hRs hmono hok1 hgo er
      | 30, hop, hok1, er =>
        obtain ⟨h1, h2⟩ := sx_a2 hok1
        exact sn_put (a := sx_xa x) (k := sx_xb x) (q := sx_xc x) (more := (fun T k => (T k).2.2.2 && (decide ((T k).1 = y.cls) && sx_tc (Nat.div (sx_xa x) 16) (T k).2.2.1))) hx hb hLw hown hts hKK.1 true (fun _ => hini (of_decide_eq_true h1)) (fun T k hm => by obtain ⟨m1, m2⟩ := sx_a2 hm; obtain ⟨m2, m3⟩ := sx_a2 m2; exact ⟨m3, m1, fun _ => of_decide_eq_true m2⟩) h2 hgo er
      | 31, hop, hok1, er =>
        obtain ⟨h1, h2⟩ := sx_a2 hok1
        exact sn_ifnull (t9 := sx_xb x) hx hb h1 h2 hgo (hgj _) er
      | 32, hop, hok1, er =>
        obtain ⟨h1, h2⟩ := sx_a2 hok1
        exact sn_pop hx hb h1 h2 hgo er
      | 33, hop, hok1, er =>
        obtain ⟨h1, h2⟩ := sx_a2 hok1
        change sh_aret st h = some out at er
        unfold sh_aret at er
        split at er
        · next k9 _ =>
          intro H locs cells slots la pc hpc hl hP hS hc hs
          have hpc' : sx_xp x = pc := Option.some.inj hpc
          subst hpc'
          exact hA _ h H locs cells slots la _ (Option.some.inj er).symm (Or.inr ⟨k9, rfl⟩) h1 (sx_dk_ok h2) ⟨hP, hS, hc, hs⟩
        · intro H locs cells slots la pc hpc hl hP hS hc hs
          have hpc' : sx_xp x = pc := Option.some.inj hpc
          subst hpc'
          exact hA _ h H locs cells slots la _ (Option.some.inj er).symm (Or.inl rfl) h1 (sx_dk_ok h2) ⟨hP, hS, hc, hs⟩
        · cases er
      | 34, hop, hok1, er =>
        exact sn_max (q := sx_xc x) hx hb hLw hown hts hRf hRl hRc hRs hmono hok1 hgo er
      | 35, hop, hok1, er =>
        exact sn_min (q := sx_xc x) hx hb hLw hown hts hRf hRl hRc hRs hmono hok1 hgo er
      | 36, hop, hok1, er =>
        exact sn_clone (a := sx_xa x) (b9 := sx_xb x) (q := sx_xc x) hx hb hLw hown hts hKK hRf hRl hRc hRs hmono hok1 hgo er
      | 37, hop, hok1, er =>
        obtain ⟨h1, h2⟩ := sx_a2 hok1
        exact sn_switch (a := sx_xa x) (t9 := sx_xb x) (c9 := sx_xc x) hx hb hLw (by have := Nat.le_of_ble_eq_true h1; omega) h2 hgj er
      | 38, hop, hok1, er =>
        exact sn_obj (q := sx_xc x) hx hb hown hts hRf hRl hok1 hgo er
      | 39, hop, hok1, er =>
        obtain ⟨h1, h2⟩ := sx_a2 hok1
        obtain ⟨h2, h3⟩ := sx_a2 h2
        exact sn_callW (a := sx_xa x) (b9 := sx_xb x) (q := sx_xc x) hx hb hown hts hKK hokM hCon hRf hRl hRc hRs hmono hThr (hCat x (sx_xb x) ls h1 hxm hop rfl) h2 h3 hgo er
      | 40, hop, hok1, er =>
        obtain ⟨h1, h2⟩ := sx_a2 hok1
        exact sn_callI (nest := true) (a := sx_xa x) (q := sx_xc x) hx hb hown hts hKK hokM hCon hRf hRl hRc hRs hmono hThr h1 h2 hgo er
      | 41, hop, hok1, er =>
        obtain ⟨h1, h2⟩ := sx_a2 hok1
        exact sn_callN (a := sx_xa x) (b9 := sx_xb x) (q := sx_xc x) hx hb hown hts hKK hokM hCon hRf hRl hRc hRs hmono hThr h1 h2 hgo er
      | 42, hop, hok1, er =>
        change sh_throw (sx_xa x) st h = some out at er
        unfold sh_throw at er
        obtain ⟨hz, er⟩ := sx_cond er
        intro H locs cells slots la pc hpc hl hP hS hc hs
        have hpc' : sx_xp x = pc := Option.some.inj hpc
        subst hpc'
        exact hTh (sx_xa x) (sx_xb x) (sx_xc x) 3 .ldc_w h st H locs cells slots la _ (Option.some.inj er).symm (Or.inr ⟨rfl, rfl⟩) hok1 (Nat.le_of_ble_eq_true hz) hl.1 ⟨hP, hS, hc, hs⟩
      | 43, hop, hok1, er =>
        obtain ⟨h1, h2⟩ := sx_a2 hok1
        exact sn_callX (a := sx_xa x) (b9 := sx_xb x) (q := sx_xc x) hx hb hown hts hKK hokM hCon hRf hRl hRc hRs hmono hThr h1 h2 hgo er
      | n9 + 44, hop, hok1, er => cases er
theorem sx_frame {I : Type} {l : Launch} {o : sx_O I} {g : I → Int32} {b scr L : Nat} {xs : Nat → Int32} {D : va_G} (hLw : sx_Law o g L xs) (hokM : ∀ i e, sx_m[i]? = some e → sx_okM i = true) (hcon : ∀ n, sx_FS l o g b scr L xs D n → ∀ mid as h out, sx_ca sx_cd (sx_run sx_cd o n) mid as h = some out → sx_LE h out ∧ sx_Cn l g b scr L xs D mid as h out) (n : Nat) : sx_FS l o g b scr L xs D n := by
  induction n with
  | zero =>
    intro mid y bs mL ret f lo he p e R s m args below meth c Q h0 out wrp hx hb hml hown hts hKK hRf hRl hini hRc hRs hI hV hA hThr hTh hCat hfull cs ls st h hsub hok er
    cases er
  | succ n ih =>
    exact sx_step hLw hokM (call := sx_ca sx_cd (sx_run sx_cd o n)) (hcon n ih) (fun full cs ls st h out er => sx_mono n full cs ls st h out er) (fun full ls st h => by rw [sx_run_succ]; rfl) (fun full x r ls st h => by rw [sx_run_succ]; exact sx_b1_cons sx_cd o _ full x r ls st h) ih
end
section
/-! ===== from a frame's run to a method's contract ===== -/
theorem sx_slen {I : Type} {g : I → Int32} {b scr : Nat} (as : List (sx_V I)) (h : sx_n2 as = true) : (lg_sl (as.map (sx_c g b scr))).length = as.length := by
  induction as with
  | nil => rfl
  | cons v r ih =>
    have h1 : cond (sx_is2 v) false (sx_n2 r) = true := h
    cases hv : sx_is2 v with
    | true => rw [hv] at h1; cases h1
    | false =>
      rw [hv] at h1
      have h2 : (sx_c g b scr v).category = 1 := sx_cat1 hv
      have h3 : lg_sl ((v :: r).map (sx_c g b scr)) = [Slot.val (sx_c g b scr v)] ++ lg_sl (r.map (sx_c g b scr)) := by
        show List.flatMap _ (sx_c g b scr v :: r.map (sx_c g b scr)) = _
        rw [List.flatMap_cons, h2]; rfl
      rw [h3, List.length_append, ih h1, List.length_cons]
      show 1 + r.length = r.length + 1
      omega
theorem sx_Rep_hx {I : Type} {g : I → Int32} {b scr : Nat} {D : va_G} {s : State} {h : sx_H I} {H H1 : Heap} (hR : sx_Rep g b scr D s h H) (hz : H.size ≤ H1.size) (hq : ∀ q : Nat, q < H.size → H1[q]? = H[q]?) : sx_Rep g b scr D s (sx_hx h) H1 :=
  ⟨fun k e hk => have h1 := hR.1 k e hk; sx_cell_kept h1 (hq _ (sx_cell_lt h1)), Nat.le_trans hR.2.1 hz, (fun hx => absurd hx Bool.false_ne_true), hR.2.2.2⟩
def sx_nm2 : List String := ["java/lang/RuntimeException", "java/lang/Exception"]
theorem sx_atw (a : Nat) (ha : a ≤ 2) : (∀ w ∈ vx_atS RX6 (sx_ec a) (sx_en a) sx_nm2, w ∈ sx_goods ∨ (w ∈ sx_ng ∧ w.onTables = true)) ∧ (∀ w ∈ Jvm.Cond.classLink RX6 (sx_ek a) (sx_en a) :: Jvm.Cond.initialized (sx_en a) :: vx_atS RX6 (sx_ec a) (sx_en a) sx_nm2, vx_ot w = true) ∧ Jvm.Cond.classLink RX6 (sx_ek a) (sx_en a) ∈ sx_goods ∧ Jvm.Cond.initialized (sx_en a) ∈ sx_goods ∧ Bundle.fit (sx_en a) = true := by
  rcases (show a = 0 ∨ a = 1 ∨ a = 2 by omega) with rfl | rfl | rfl
  · exact ⟨by decide +kernel, by decide +kernel, by decide +kernel, by decide +kernel, by decide +kernel⟩
  · exact ⟨by decide +kernel, by decide +kernel, by decide +kernel, by decide +kernel, by decide +kernel⟩
  · exact ⟨by decide +kernel, by decide +kernel, by decide +kernel, by decide +kernel, by decide +kernel⟩
theorem sx_nm2_fit : ∀ n ∈ sx_nm2, Bundle.fit n = true := by decide +kernel
theorem sx_thr_ok {own : String} {bs : ByteArray} {pc fr lo a b9 q k : Nat} {f : Nat → Instr} (h : sx_thr own bs pc fr lo a b9 q f k = true) : ∃ (is : Nat) (tx : String), own = RX6 ∧ lw_tbl[q]? = some (Jvm.Cond.stringRef RX6 is tx) ∧ 6 ≤ fr ∧ 90 ≤ lo ∧ a ≤ 2 ∧ decode bs pc = .ok (.new (sx_ek a), 3) ∧ decode bs (pc + 3) = .ok (.dup, 1) ∧ decode bs (pc + 4) = .ok (f is, k) ∧ decode bs (pc + 4 + k) = .ok (.invokespecial (sx_ec a), 3) ∧ decode bs (pc + 4 + k + 3) = .ok (.athrow, 1) := by
  unfold sx_thr at h
  split at h
  · next own' is tx hq =>
    simp only [Bool.and_eq_true, decide_eq_true_eq] at h
    obtain ⟨h1, h2, h3, h4, h5, h6, h7, h8, h9, h10, h11⟩ := h
    subst h1; subst h2
    exact ⟨is, tx, rfl, hq, Nat.le_of_ble_eq_true h4, Nat.le_of_ble_eq_true h5, Nat.le_of_ble_eq_true h6, sx_dk_ok h7, sx_dk_ok h8, sx_dk_ok h9, sx_dk_ok h10, sx_dk_ok h11⟩
  · cases h
theorem sx_lx_ok {k t : Nat} (h : sx_lx k = some t) : k ≠ 0 ∧ t < 3 ∧ Jvm.Cond.classLink RL k (sx_en t) ∈ sx_goods := by
  unfold sx_lx at h
  split at h
  · cases h; exact ⟨by decide, by decide, by decide +kernel⟩
  · cases h; exact ⟨by decide, by decide, by decide +kernel⟩
  · cases h; exact ⟨by decide, by decide, by decide +kernel⟩
  · cases h
theorem sx_w_cas (t : Nat) (ht : t < 3) : Jvm.Cond.castable (sx_en t) (sx_en t) ∈ sx_ng := by
  rcases (show t = 0 ∨ t = 1 ∨ t = 2 by omega) with rfl | rfl | rfl <;> decide +kernel
section SN
variable {p : Program} {l : Launch} {e : Env} {R : Room} {s : State} {m : MethodId} {args : Array Value} {below : List Frame} {meth : Method} {c : Code} {Q : State → Prop}
variable {I : Type} {o : sx_O I} {g : I → Int32} {b scr L : Nat} {xs : Nat → Int32} {D : va_G} {h0 : sx_H I} {bs : ByteArray} {own : String} {full cs : List Nat} {x a k q : Nat} {ls : sx_L I} {st : List (sx_V I)} {h : sx_H I} {out : sx_R I} {go : sx_G I}
/-- an exception is caught by the wrapper's table, and its number is the answer -/
theorem sx_caught (hx : p.tables.exec = Jvm.exec) (hb : c.code = bs) (hown : s.vm.findClass RL = some m.cls) (hts : ∀ w ∈ sx_goods, w.before args s = true) (hKK : sx_KK b scr L xs D s) {t9 v9 mL pc : Nat} {H : Heap} {locs : List Loc} {cells slots : Nat} {la : Array Slot} {rest : List Value} {q : Addr} {ce : Cell} {lv : List (Nat × Value)} (ht : t9 < 3) (hv : v9 ≤ 3) (hml : c.maxLocals = mL) (hl : lv_has la mL lv) (hcell : H[q]? = some ce) (hcv : ce.vm = .none) (hcl : s.vm.findClass (sx_en t9) = some ce.cls)
    (kk : ∀ (la' : Array Slot) (pc' : Nat), decode bs pc' = .ok (.ireturn, 1) → W p l e R s m args below meth c H locs cells slots Q (F0 m pc' la' [.int (nI v9)])) :
    ∀ (r : List (Nat × Nat × Nat × Nat)) (pre : List ExceptionTableEntry), c.exceptionTable.toList = pre ++ tableOf r → (∀ z ∈ pre, covers z pc = false ∨ (z.catchType ≠ 0 ∧ ∃ nm : String, (Jvm.Cond.classLink RL z.catchType nm).before args s = true ∧ va_Nc (sx_en t9) nm s)) → sx_cth bs pc t9 v9 mL r = true → vx_W p l e R s m args below meth c H locs cells slots Q (F0 m pc la rest) q := by
  intro r
  induction r with
  | nil => intro pre _ _ h; cases h
  | cons z r ih =>
    intro pre hsp hpass h
    unfold sx_cth at h
    split at h
    · next t' ht' =>
      obtain ⟨hk0, ht3, hlk⟩ := sx_lx_ok ht'
      cases hbq : Nat.beq t' t9 with
      | true =>
        rw [hbq] at h
        have htt : t' = t9 := Nat.eq_of_beq_eq_true hbq
        subst htt
        obtain ⟨hcov, hh⟩ := sx_a2 h
        refine vx_catch (name := sx_en t') (own := RL) hown pre ⟨z.1, z.2.1, z.2.2.1, z.2.2.2⟩ (tableOf r) (by rw [hsp]; rfl) hpass hcov hk0 (hts _ hlk) (va_Nw.use rfl (hKK.2.1 _ (sx_w_cas t' ht3))) hcell hcv hcl ?_
        have hic : Int32.ofInt (v9 : Int) = nI v9 := rfl
        unfold sx_hnd at hh
        split at hh
        · next k9 hd =>
          obtain ⟨h1, h2⟩ := sx_a2 hh
          obtain ⟨h2, h3⟩ := sx_a2 h2
          exact lv_astore (x := q) hx hb hd hl (Nat.le_of_ble_eq_true h1) rfl (fun la' hl' => lv_iconst hx hb (sx_dk_ok h2) hic (kk la' _ (sx_dk_ok h3)))
        · next k9 hd =>
          obtain ⟨h1, h2⟩ := sx_a2 hh
          obtain ⟨h2, h3⟩ := sx_a2 h2
          exact lv_astore_n (x := q) hx hb hd rfl hl (Nat.le_of_ble_eq_true h1) rfl (fun la' hl' => lv_iconst hx hb (sx_dk_ok h2) hic (kk la' _ (sx_dk_ok h3)))
        · cases hh
      | false =>
        rw [hbq] at h
        have htt : t9 ≠ t' := fun e9 => by subst e9; rw [Nat.beq_refl] at hbq; cases hbq
        refine ih (pre ++ [⟨z.1, z.2.1, z.2.2.1, z.2.2.2⟩]) (by rw [hsp, List.append_assoc]; rfl) (fun y hy => ?_) h
        rcases List.mem_append.mp hy with hy | hy
        · exact hpass y hy
        · rw [List.mem_singleton.mp hy]
          exact Or.inr ⟨hk0, sx_en t', hts _ hlk, hKK.2.2.2.2.2.2.2.1 t9 t' ht ht3 htt⟩
    · cases h
end SN
theorem sx_rob_ok {ret : Option FieldType} (h : sx_rob ret = true) : ∃ nm : String, ret = some (.object nm) := by
  cases ret with
  | none => cases h
  | some t => cases t <;> first | exact ⟨_, rfl⟩ | (cases h; done)
theorem sx_con {I : Type} {l : Launch} {o : sx_O I} {g : I → Int32} {b scr L : Nat} {xs : Nat → Int32} {D : va_G} (hlt : l.stackTraces = false) (hLw : sx_Law o g L xs) (hokM : ∀ i e, sx_m[i]? = some e → sx_okM i = true) (n : Nat) (hFS : sx_FS l o g b scr L xs D n) (mid : Nat) (as : List (sx_V I)) (h : sx_H I) (out : sx_R I) (er : sx_ca sx_cd (sx_run sx_cd o n) mid as h = some out) : sx_LE h out ∧ sx_Cn l g b scr L xs D mid as h out := by
  have hle : sx_LE h out := sx_mono n _ _ _ _ _ _ er
  refine ⟨hle, ?_⟩
  intro y bs mL ret f lo kd qc qi qs qn he hmq hlen hn2
  obtain ⟨kd', qc', qi', qs', qn', hmq', hokL, hnx, hpl, hmh, hwk, hwr⟩ := sx_okM_ok (hokM mid _ he) he
  cases hmq.symm.trans hmq'
  have hslen : (lg_sl (as.map (sx_c g b scr))).length ≤ mL := by rw [sx_slen as hn2]; exact hlen
  have hle1 : h.2.2.1 ≤ out.2.2.2.1 := hle.1
  have hle2 : h.2.2.2.1 ≤ out.2.2.2.2.1 := hle.2
  -- the ends of a body that returns
  have endI : ∀ (p : Program) (e : Env) (R : Room) (s : State) (m : MethodId) (args : Array Value) (below : List Frame) (meth : Method) (c : Code), p.tables.exec = Jvm.exec → c.code = bs → meth.sig.returnType = ret → meth.locks = false → ∀ (i : I) (h' : sx_H I) (H : Heap) (locs : List Loc) (cells slots : Nat) (la : Array Slot) (pc : Nat), out = ((1, some (.inl i)), h') → (ret = some .int ∨ (ret = some .boolean ∧ (g i = nI 0 ∨ g i = nI 1))) → decode bs pc = .ok (.ireturn, 1) → sx_FI g b scr D s h h' H locs cells slots → W p l e R s m args below meth c H locs cells slots (MQ below (sx_Qc g b scr D out) args s (out.2.2.2.1 - h.2.2.1) (out.2.2.2.2.1 - h.2.2.2.1) (fun q => b ≤ q)) (F0 m pc la [.int (g i)]) := by
    intro p e R s m args below meth c hx hb hr hlk i h' H locs cells slots la pc ho hret hd hfi
    obtain ⟨hP, hS, hc, hs⟩ := hfi
    subst ho
    refine W.cs (show cells = h'.2.2.1 - h.2.2.1 by omega) (show slots = h'.2.2.2.1 - h.2.2.2.1 by omega) ?_
    have hq : ∀ t : State, t.heap = H → s.WarmedH t.vm → sx_Qc g b scr D ((1, some (.inl i)), h') args s (.returned (some (.int (g i)))) t := fun t ht hW => ⟨rfl, by rw [ht]; exact sx_Rep_moved hW.alike hP, va_S.F hS ht⟩
    rcases hret with hret | ⟨hret, hg⟩
    · exact W.iret (v := g i) hx hb (hr.trans hret) hq hS.2.2 hd hlk
    · exact W.zret (v := g i) (ty := .boolean) hx hb (hr.trans hret) (by rcases hg with hg | hg <;> rw [hg] <;> rfl) hq hS.2.2 hd hlk
  refine ⟨fun hk ht => ?_, fun hk ht => ?_, fun hk ht hh hqc => ?_⟩
  · have hkb : Nat.beq kd 3 = false := by
      rcases (show kd = 0 ∨ kd = 1 ∨ kd = 2 by omega) with rfl | rfl | rfl <;> rfl
    rw [hkb] at hokL
    refine Met.ofW (cc := bs) (maxL := mL) (ret := ret) hpl rfl ?_
    intro p e s m args below meth c s₁ B hml hv
    obtain ⟨rfl, hRep, hKK⟩ := hv
    have hts0 := atoms_spec (ws := Jvm.Cond.code y bs mL ret :: sx_goods) B.pre
    have hl := lv_entry (as.map (sx_c g b scr)) (n := mL) hslen
    rw [lg_entry_eq]
    rw [sx_args_map] at hl
    exact hFS mid y bs mL ret f lo he p e _ s m _ below meth c _ h out false B.exec B.bytes hml (findClass_of_methodNamed B.named) (fun w hw => hts0 w (List.mem_cons_of_mem _ hw)) hKK (Nat.le_refl _) (Nat.le_refl _) (fun hy => (name_of_methodNamed B.named B.method).1.trans hy)
      (by show out.2.2.2.1 ≤ h.2.2.1 + (out.2.2.2.1 - h.2.2.1); omega) (by show out.2.2.2.2.1 ≤ h.2.2.2.1 + (out.2.2.2.2.1 - h.2.2.2.1); omega)
      (endI p e _ s m _ below meth c B.exec B.bytes B.returns B.notSynchronized)
      (fun h' H locs cells slots la pc ho hret hd ⟨hP, hS, hc, hs⟩ => by
        subst ho
        refine W.cs (show cells = h'.2.2.1 - h.2.2.1 by omega) (show slots = h'.2.2.2.1 - h.2.2.2.1 by omega) ?_
        exact W.vret B.exec B.bytes (B.returns.trans hret) (fun t ht hW => ⟨rfl, by rw [ht]; exact sx_Rep_moved hW.alike hP, va_S.F hS ht⟩) hS.2.2 hd B.notSynchronized)
      (fun v h' H locs cells slots la pc ho hv9 hrob hd ⟨hP, hS, hc, hs⟩ => by
        subst ho
        refine W.cs (show cells = h'.2.2.1 - h.2.2.1 by omega) (show slots = h'.2.2.2.1 - h.2.2.2.1 by omega) ?_
        obtain ⟨nm, hret⟩ := sx_rob_ok hrob
        exact W.aret (rt := .object nm) B.exec B.bytes (B.returns.trans hret) (Or.inl ⟨nm, rfl⟩) (by rcases hv9 with rfl | ⟨k, rfl⟩; exact Or.inl rfl; exact Or.inr ⟨b + k, rfl⟩) (fun t ht hW => ⟨rfl, by rw [ht]; exact sx_Rep_moved hW.alike hP, va_S.F hS ht⟩) hS.2.2 hd B.notSynchronized)
      (fun t9 h' H locs cells slots la pc rest q ce ho => by subst ho; exact absurd ht (by show ¬ t9 + 2 ≤ 1; omega))
      (fun a b9 q k f9 h2 st H locs cells slots la pc ho => by subst ho; exact absurd ht (by show ¬ a + 2 ≤ 1; omega))
      (fun x b9 ls hw => by cases hw)
      hokL (sx_cd mid) (sx_args 0 as) [] h (fun z hz => hz) hokL er s.heap [] 0 0 _ 0 (sx_nx_pc hnx) (by rw [hml]; exact hl) hRep va_S.rf (Nat.add_zero _) (Nat.add_zero _)
  · have hkb : Nat.beq kd 3 = false := by
      rcases (show kd = 0 ∨ kd = 1 ∨ kd = 2 by omega) with rfl | rfl | rfl <;> rfl
    rw [hkb] at hokL
    refine vx_ofW (cc := bs) (maxL := mL) (ret := ret) hpl rfl ?_
    intro p e s m args below meth c s₁ B hml hex hv
    obtain ⟨rfl, hRep, hKK⟩ := hv
    have hts0 := atoms_spec (ws := Jvm.Cond.code y bs mL ret :: sx_goods) B.pre
    have hts : ∀ w ∈ sx_goods, w.before (as.map (sx_c g b scr)).toArray s = true := fun w hw => hts0 w (List.mem_cons_of_mem _ hw)
    have hl := lv_entry (as.map (sx_c g b scr)) (n := mL) hslen
    rw [lg_entry_eq]
    rw [sx_args_map] at hl
    have hown := findClass_of_methodNamed B.named
    exact hFS mid y bs mL ret f lo he p e _ s m _ below meth c _ h out false B.exec B.bytes hml hown hts hKK (Nat.le_refl _) (Nat.le_refl _) (fun hy => (name_of_methodNamed B.named B.method).1.trans hy)
      (by show out.2.2.2.1 ≤ h.2.2.1 + (out.2.2.2.1 - h.2.2.1); omega) (by show out.2.2.2.2.1 ≤ h.2.2.2.1 + (out.2.2.2.2.1 - h.2.2.2.1); omega)
      (fun i h' H locs cells slots la pc ho => by subst ho; exact absurd ht (by show ¬ 2 ≤ 1; omega))
      (fun h' H locs cells slots la pc ho => by subst ho; exact absurd ht (by show ¬ 2 ≤ 0; omega))
      (fun v h' H locs cells slots la pc ho => by subst ho; exact absurd ht (by show ¬ 2 ≤ 1; omega))
      (fun t9 h' H locs cells slots la pc rest q ce ho hP hS hc hs h1 h2 h3 => by
        subst ho
        exact vx_out (E := sx_en t9) (ce := ce) (fun z hz => (hex z hz).elim) B.notSynchronized h1 h2 h3 (fun t ht hW => ⟨rfl, by rw [ht]; exact sx_Rep_moved hW hP, va_S.F hS ht⟩) hS.2.2 (show cells ≤ h'.2.2.1 - h.2.2.1 by omega) (show slots ≤ h'.2.2.2.1 - h.2.2.2.1 by omega))
      (fun a b9 q k f9 h2 st H locs cells slots la pc ho hfk hthr hsw hsz ⟨hP, hS, hc, hs⟩ => by
        obtain ⟨is, tx, hown6, hq, hfr, hlo, ha2, d0, d3, d4, d6, d9⟩ := sx_thr_ok hthr
        rw [hown6] at hown
        obtain ⟨wat, wot, wcl, wini, wfit⟩ := sx_atw a ha2
        obtain ⟨sa, hsa⟩ := hKK.2.2.2.2.1 is tx (List.mem_of_getElem? hq)
        subst ho
        have hXC : ∀ t : State, s.vm.Alike t.vm → H.size ≤ t.heap.size → (∀ q : Nat, q < H.size → t.heap[q]? = H[q]?) → sx_XC g b scr D ((a + 2, none), sx_hx h2) (sx_en a) s t := fun t hvm hz hq9 =>
          ⟨rfl, sx_Rep_moved hvm (sx_Rep_hx hP hz hq9), Nat.le_trans hS.1 hz, fun q9 h1 h2 => (hq9 q9 (Nat.lt_of_lt_of_le h1 hS.1)).trans (hS.2.1 q9 h1 h2)⟩
        have hat : ∀ w ∈ vx_atS RX6 (sx_ec a) (sx_en a) sx_nm2, w.before (as.map (sx_c g b scr)).toArray s = true := fun w hw => (wat w hw).elim (fun h9 => hts w h9) (fun h9 => va_Nw.use h9.2 (hKK.2.1 w h9.1))
        have hsum : ((st.map (sx_c g b scr)).map fun v => v.category).sum + (13 * (sx_nm2.length + 1) + 43) ≤ lo := by rw [sx_sw_sum]; show sx_sw st + (13 * 3 + 43) ≤ lo; omega
        rcases hfk with ⟨rfl, rfl⟩ | ⟨rfl, rfl⟩
        · exact vx_throwS (A := fun q => b ≤ q) (names := sx_nm2) B.exec B.bytes hlt hown wfit sx_nm2_fit (hts _ wcl) (hts _ wini) hsa hat wot hKK.2.2.2.1.1 hKK.2.2.2.1.2 hS hsz d0 d3 d4 d6 d9 (fun z hz => (hex z hz).elim) (show 2 + 3 < f by omega) hsum
            (show cells + 1 ≤ (h2.2.2.1 + 1) - h.2.2.1 by omega) (show slots + 6 ≤ (h2.2.2.2.1 + 6) - h.2.2.2.1 by omega) B.notSynchronized hXC hS.2.2 (show cells + 1 ≤ (h2.2.2.1 + 1) - h.2.2.1 by omega) (show slots + 6 ≤ (h2.2.2.2.1 + 6) - h.2.2.2.1 by omega)
        · exact vx_throwSW (A := fun q => b ≤ q) (names := sx_nm2) B.exec B.bytes hlt hown wfit sx_nm2_fit (hts _ wcl) (hts _ wini) hsa hat wot hKK.2.2.2.1.1 hKK.2.2.2.1.2 hS hsz d0 d3 d4 d6 d9 (fun z hz => (hex z hz).elim) (show 2 + 3 < f by omega) hsum
            (show cells + 1 ≤ (h2.2.2.1 + 1) - h.2.2.1 by omega) (show slots + 6 ≤ (h2.2.2.2.1 + 6) - h.2.2.2.1 by omega) B.notSynchronized hXC hS.2.2 (show cells + 1 ≤ (h2.2.2.1 + 1) - h.2.2.1 by omega) (show slots + 6 ≤ (h2.2.2.2.1 + 6) - h.2.2.2.1 by omega))
      (fun x b9 ls hw => by cases hw)
      hokL (sx_cd mid) (sx_args 0 as) [] h (fun z hz => hz) hokL er s.heap [] 0 0 _ 0 (sx_nx_pc hnx) (by rw [hml]; exact hl) hRep va_S.rf (Nat.add_zero _) (Nat.add_zero _)
  · subst hk
    obtain ⟨hwrk, hRL, hri⟩ := hwr rfl
    refine va_MetW (cc := bs) (maxL := mL) (ret := ret) (hh := hh) hpl rfl ?_
    intro p e s m args below meth c s₁ B hml hv
    obtain ⟨rfl, hRep, hKK⟩ := hv
    have hts0 := atoms_spec (ws := Jvm.Cond.codeWith y bs mL ret hh :: sx_goods) B.pre
    have hts : ∀ w ∈ sx_goods, w.before (as.map (sx_c g b scr)).toArray s = true := fun w hw => hts0 w (List.mem_cons_of_mem _ hw)
    have htab := vx_table (x := y) B (hts0 _ List.mem_cons_self)
    have hl := lv_entry (as.map (sx_c g b scr)) (n := mL) hslen
    rw [lg_entry_eq]
    rw [sx_args_map] at hl
    have hown := findClass_of_methodNamed B.named
    have hownL : s.vm.findClass RL = some m.cls := by rw [← hRL]; exact hown
    exact hFS mid y bs mL ret f lo he p e _ s m _ below meth c _ h out true B.exec B.bytes hml hown hts hKK (Nat.le_refl _) (Nat.le_refl _) (fun hy => (name_of_methodNamed B.named B.method).1.trans hy)
      (by show out.2.2.2.1 ≤ h.2.2.1 + (out.2.2.2.1 - h.2.2.1); omega) (by show out.2.2.2.2.1 ≤ h.2.2.2.1 + (out.2.2.2.2.1 - h.2.2.2.1); omega)
      (endI p e _ s m _ below meth c B.exec B.bytes B.returns B.notSynchronized)
      (fun h' H locs cells slots la pc ho hret hd hfi => by rw [hri] at hret; cases hret)
      (fun v h' H locs cells slots la pc ho hv9 hrob hd hfi => by rw [hri] at hrob; cases hrob)
      (fun t9 h' H locs cells slots la pc rest q ce ho => by subst ho; exact absurd ht (by show ¬ t9 + 2 ≤ 1; omega))
      (fun a b9 q k f9 h2 st H locs cells slots la pc ho => by subst ho; exact absurd ht (by show ¬ a + 2 ≤ 1; omega))
      (fun x b9 ls _ hxm hxq hxb t9 v9 h' H locs cells slots la rest q ce ho hv9 hv0 ht3 hl9 hP hS hc hs h1 h2 h3 => by
        subst hxb
        unfold sx_wrk at hwrk
        rw [hqc] at hwrk
        have hw1 := List.all_eq_true.mp hwrk x hxm
        rw [hxq] at hw1
        have hw2 : (List.range 3).all (fun t => Nat.beq (Nat.mod (Nat.div (Nat.div (sx_xb x) 256) (4 ^ t)) 4) 0 || sx_cth bs (sx_xp x) t (Nat.mod (Nat.div (Nat.div (sx_xb x) 256) (4 ^ t)) 4) mL hh) = true := hw1
        have hv3 : v9 ≤ 3 := by
          have h9 : v9 = (Nat.div (Nat.div (sx_xb x) 256) (4 ^ t9)) % 4 := hv9
          omega
        have hw3 := List.all_eq_true.mp hw2 t9 (List.mem_range.mpr ht3)
        rw [← hv9] at hw3
        have hbz : Nat.beq v9 0 = false := by
          cases v9 with
          | zero => exact absurd rfl hv0
          | succ v9 => rfl
        rw [hbz] at hw3
        refine sx_caught (v9 := v9) B.exec B.bytes hownL hts hKK ht3 hv3 hml (hml ▸ hl9) h1 h2 h3 (fun la' pc' hd => ?_) hh [] htab (fun z hz => by cases hz) hw3
        rw [← hLw.1 v9]
        exact endI p e _ s m _ below meth c B.exec B.bytes B.returns B.notSynchronized (o.1 v9) h' H locs cells slots la' pc' ho (Or.inl hri) hd ⟨hP, hS, hc, hs⟩)
      hokL (sx_cd mid) (sx_args 0 as) [] h (fun z hz => hz) hokL er s.heap [] 0 0 _ 0 (sx_nx_pc hnx) (by rw [hml]; exact hl) hRep va_S.rf (Nat.add_zero _) (Nat.add_zero _)
end
section
/-! ===== the tables hold: each row against the method's bytes and the words ===== -/
theorem ok_0 : sx_okM 0 = true := by decide +kernel
theorem ok_1 : sx_okM 1 = true := by decide +kernel
theorem ok_2 : sx_okM 2 = true := by decide +kernel
theorem ok_3 : sx_okM 3 = true := by decide +kernel
theorem ok_4 : sx_okM 4 = true := by decide +kernel
theorem ok_5 : sx_okM 5 = true := by decide +kernel
theorem ok_6 : sx_okM 6 = true := by decide +kernel
theorem ok_7 : sx_okM 7 = true := by decide +kernel
theorem ok_8 : sx_okM 8 = true := by decide +kernel
theorem ok_9 : sx_okM 9 = true := by decide +kernel
theorem ok_10 : sx_okM 10 = true := by decide +kernel
theorem ok_11 : sx_okM 11 = true := by decide +kernel
theorem ok_12 : sx_okM 12 = true := by decide +kernel
theorem ok_13 : sx_okM 13 = true := by decide +kernel
theorem ok_14 : sx_okM 14 = true := by decide +kernel
theorem ok_15 : sx_okM 15 = true := by decide +kernel
end
section
/-! ===== the tables hold: each row against the method's bytes and the words ===== -/
theorem ok_16 : sx_okM 16 = true := by decide +kernel
theorem ok_17 : sx_okM 17 = true := by decide +kernel
theorem ok_18 : sx_okM 18 = true := by decide +kernel
theorem ok_19 : sx_okM 19 = true := by decide +kernel
theorem ok_20 : sx_okM 20 = true := by decide +kernel
theorem ok_21 : sx_okM 21 = true := by decide +kernel
theorem ok_22 : sx_okM 22 = true := by decide +kernel
theorem ok_23 : sx_okM 23 = true := by decide +kernel
theorem ok_24 : sx_okM 24 = true := by decide +kernel
theorem ok_25 : sx_okM 25 = true := by decide +kernel
theorem ok_26 : sx_okM 26 = true := by decide +kernel
theorem ok_27 : sx_okM 27 = true := by decide +kernel
theorem ok_28 : sx_okM 28 = true := by decide +kernel
theorem ok_29 : sx_okM 29 = true := by decide +kernel
theorem ok_30 : sx_okM 30 = true := by decide +kernel
end
section
/-! ===== the tables hold: each row against the method's bytes and the words ===== -/
theorem ok_31 : sx_okM 31 = true := by decide +kernel
theorem ok_32 : sx_okM 32 = true := by decide +kernel
theorem ok_33 : sx_okM 33 = true := by decide +kernel
theorem ok_34 : sx_okM 34 = true := by decide +kernel
theorem ok_35 : sx_okM 35 = true := by decide +kernel
theorem ok_36 : sx_okM 36 = true := by decide +kernel
theorem ok_37 : sx_okM 37 = true := by decide +kernel
theorem ok_38 : sx_okM 38 = true := by decide +kernel
theorem ok_39 : sx_okM 39 = true := by decide +kernel
theorem ok_40 : sx_okM 40 = true := by decide +kernel
theorem ok_41 : sx_okM 41 = true := by decide +kernel
theorem ok_42 : sx_okM 42 = true := by decide +kernel
theorem ok_43 : sx_okM 43 = true := by decide +kernel
theorem ok_44 : sx_okM 44 = true := by decide +kernel
theorem ok_45 : sx_okM 45 = true := by decide +kernel
theorem ok_46 : sx_okM 46 = true := by decide +kernel
theorem ok_47 : sx_okM 47 = true := by decide +kernel
theorem ok_48 : sx_okM 48 = true := by decide +kernel
theorem ok_49 : sx_okM 49 = true := by decide +kernel
theorem ok_50 : sx_okM 50 = true := by decide +kernel
theorem ok_51 : sx_okM 51 = true := by decide +kernel
theorem ok_52 : sx_okM 52 = true := by decide +kernel
end
section
/-! ===== the tables hold: each row against the method's bytes and the words ===== -/
theorem ok_53 : sx_okM 53 = true := by decide +kernel
theorem ok_54 : sx_okM 54 = true := by decide +kernel
theorem ok_55 : sx_okM 55 = true := by decide +kernel
theorem ok_56 : sx_okM 56 = true := by decide +kernel
theorem ok_57 : sx_okM 57 = true := by decide +kernel
theorem ok_58 : sx_okM 58 = true := by decide +kernel
theorem ok_59 : sx_okM 59 = true := by decide +kernel
theorem ok_60 : sx_okM 60 = true := by decide +kernel
theorem ok_61 : sx_okM 61 = true := by decide +kernel
theorem ok_62 : sx_okM 62 = true := by decide +kernel
theorem ok_63 : sx_okM 63 = true := by decide +kernel
theorem ok_64 : sx_okM 64 = true := by decide +kernel
theorem ok_65 : sx_okM 65 = true := by decide +kernel
theorem ok_66 : sx_okM 66 = true := by decide +kernel
theorem ok_67 : sx_okM 67 = true := by decide +kernel
theorem ok_68 : sx_okM 68 = true := by decide +kernel
theorem ok_69 : sx_okM 69 = true := by decide +kernel
theorem ok_70 : sx_okM 70 = true := by decide +kernel
theorem ok_71 : sx_okM 71 = true := by decide +kernel
theorem ok_72 : sx_okM 72 = true := by decide +kernel
theorem ok_73 : sx_okM 73 = true := by decide +kernel
theorem ok_74 : sx_okM 74 = true := by decide +kernel
theorem ok_75 : sx_okM 75 = true := by decide +kernel
theorem ok_76 : sx_okM 76 = true := by decide +kernel
end
section
/-! ===== the tables hold: each row against the method's bytes and the words ===== -/
theorem ok_77 : sx_okM 77 = true := by decide +kernel
theorem ok_78 : sx_okM 78 = true := by decide +kernel
theorem ok_79 : sx_okM 79 = true := by decide +kernel
theorem ok_80 : sx_okM 80 = true := by decide +kernel
theorem ok_81 : sx_okM 81 = true := by decide +kernel
theorem ok_82 : sx_okM 82 = true := by decide +kernel
theorem ok_83 : sx_okM 83 = true := by decide +kernel
theorem ok_84 : sx_okM 84 = true := by decide +kernel
theorem ok_85 : sx_okM 85 = true := by decide +kernel
theorem ok_86 : sx_okM 86 = true := by decide +kernel
theorem ok_87 : sx_okM 87 = true := by decide +kernel
theorem ok_88 : sx_okM 88 = true := by decide +kernel
theorem ok_89 : sx_okM 89 = true := by decide +kernel
theorem ok_90 : sx_okM 90 = true := by decide +kernel
theorem ok_91 : sx_okM 91 = true := by decide +kernel
theorem ok_92 : sx_okM 92 = true := by decide +kernel
theorem ok_93 : sx_okM 93 = true := by decide +kernel
theorem ok_94 : sx_okM 94 = true := by decide +kernel
theorem ok_95 : sx_okM 95 = true := by decide +kernel
end
section
/-! ===== the tables hold: each row against the method's bytes and the words ===== -/
theorem ok_96 : sx_okM 96 = true := by decide +kernel
theorem ok_97 : sx_okM 97 = true := by decide +kernel
theorem ok_98 : sx_okM 98 = true := by decide +kernel
theorem ok_99 : sx_okM 99 = true := by decide +kernel
theorem ok_100 : sx_okM 100 = true := by decide +kernel
theorem ok_101 : sx_okM 101 = true := by decide +kernel
theorem ok_102 : sx_okM 102 = true := by decide +kernel
theorem ok_103 : sx_okM 103 = true := by decide +kernel
theorem ok_104 : sx_okM 104 = true := by decide +kernel
theorem ok_105 : sx_okM 105 = true := by decide +kernel
theorem ok_106 : sx_okM 106 = true := by decide +kernel
theorem ok_107 : sx_okM 107 = true := by decide +kernel
end
section
/-! ===== the tables hold: each row against the method's bytes and the words ===== -/
theorem ok_108 : sx_okM 108 = true := by decide +kernel
theorem ok_109 : sx_okM 109 = true := by decide +kernel
theorem ok_110 : sx_okM 110 = true := by decide +kernel
theorem ok_111 : sx_okM 111 = true := by decide +kernel
theorem ok_112 : sx_okM 112 = true := by decide +kernel
theorem ok_113 : sx_okM 113 = true := by decide +kernel
theorem ok_114 : sx_okM 114 = true := by decide +kernel
theorem ok_115 : sx_okM 115 = true := by decide +kernel
theorem ok_116 : sx_okM 116 = true := by decide +kernel
theorem ok_117 : sx_okM 117 = true := by decide +kernel
end
section
/-! ===== the tables hold: each row against the method's bytes and the words ===== -/
theorem ok_118 : sx_okM 118 = true := by decide +kernel
theorem ok_119 : sx_okM 119 = true := by decide +kernel
theorem ok_120 : sx_okM 120 = true := by decide +kernel
theorem ok_121 : sx_okM 121 = true := by decide +kernel
theorem ok_122 : sx_okM 122 = true := by decide +kernel
theorem ok_123 : sx_okM 123 = true := by decide +kernel
theorem ok_124 : sx_okM 124 = true := by decide +kernel
theorem ok_125 : sx_okM 125 = true := by decide +kernel
theorem ok_126 : sx_okM 126 = true := by decide +kernel
theorem ok_127 : sx_okM 127 = true := by decide +kernel
theorem ok_128 : sx_okM 128 = true := by decide +kernel
theorem ok_129 : sx_okM 129 = true := by decide +kernel
theorem ok_130 : sx_okM 130 = true := by decide +kernel
theorem ok_131 : sx_okM 131 = true := by decide +kernel
theorem ok_132 : sx_okM 132 = true := by decide +kernel
end
section
/-! ===== the tables hold: each row against the method's bytes and the words ===== -/
theorem ok_133 : sx_okM 133 = true := by decide +kernel
theorem ok_134 : sx_okM 134 = true := by decide +kernel
theorem ok_135 : sx_okM 135 = true := by decide +kernel
theorem ok_136 : sx_okM 136 = true := by decide +kernel
theorem ok_137 : sx_okM 137 = true := by decide +kernel
theorem ok_138 : sx_okM 138 = true := by decide +kernel
theorem ok_139 : sx_okM 139 = true := by decide +kernel
theorem ok_140 : sx_okM 140 = true := by decide +kernel
theorem ok_141 : sx_okM 141 = true := by decide +kernel
end
section
/-! ===== the tables hold: each row against the method's bytes and the words ===== -/
theorem ok_142 : sx_okM 142 = true := by decide +kernel
theorem ok_143 : sx_okM 143 = true := by decide +kernel
theorem ok_144 : sx_okM 144 = true := by decide +kernel
theorem ok_145 : sx_okM 145 = true := by decide +kernel
theorem ok_146 : sx_okM 146 = true := by decide +kernel
theorem ok_147 : sx_okM 147 = true := by decide +kernel
theorem ok_148 : sx_okM 148 = true := by decide +kernel
theorem ok_149 : sx_okM 149 = true := by decide +kernel
theorem ok_150 : sx_okM 150 = true := by decide +kernel
theorem ok_151 : sx_okM 151 = true := by decide +kernel
theorem ok_152 : sx_okM 152 = true := by decide +kernel
theorem ok_153 : sx_okM 153 = true := by decide +kernel
theorem ok_154 : sx_okM 154 = true := by decide +kernel
theorem ok_155 : sx_okM 155 = true := by decide +kernel
theorem ok_156 : sx_okM 156 = true := by decide +kernel
end
section
/-! ===== the tables hold: each row against the method's bytes and the words ===== -/
theorem ok_157 : sx_okM 157 = true := by decide +kernel
theorem ok_158 : sx_okM 158 = true := by decide +kernel
theorem ok_159 : sx_okM 159 = true := by decide +kernel
theorem ok_160 : sx_okM 160 = true := by decide +kernel
theorem ok_161 : sx_okM 161 = true := by decide +kernel
theorem ok_162 : sx_okM 162 = true := by decide +kernel
theorem ok_163 : sx_okM 163 = true := by decide +kernel
theorem ok_164 : sx_okM 164 = true := by decide +kernel
theorem ok_165 : sx_okM 165 = true := by decide +kernel
theorem ok_166 : sx_okM 166 = true := by decide +kernel
theorem ok_167 : sx_okM 167 = true := by decide +kernel
theorem ok_168 : sx_okM 168 = true := by decide +kernel
theorem ok_169 : sx_okM 169 = true := by decide +kernel
theorem ok_170 : sx_okM 170 = true := by decide +kernel
theorem ok_171 : sx_okM 171 = true := by decide +kernel
theorem ok_172 : sx_okM 172 = true := by decide +kernel
theorem ok_173 : sx_okM 173 = true := by decide +kernel
theorem ok_174 : sx_okM 174 = true := by decide +kernel
theorem ok_175 : sx_okM 175 = true := by decide +kernel
theorem ok_176 : sx_okM 176 = true := by decide +kernel
theorem ok_177 : sx_okM 177 = true := by decide +kernel
theorem ok_178 : sx_okM 178 = true := by decide +kernel
theorem ok_179 : sx_okM 179 = true := by decide +kernel
theorem ok_180 : sx_okM 180 = true := by decide +kernel
end
section
/-! ===== the law's table, in pieces ===== -/
noncomputable def sx_okN (own : String) (ini wrp : Bool) (ret : Option FieldType) (bs : ByteArray) (maxL fr lo : Nat) (full : List Nat) : Nat → List Nat → Bool
  | 0, _ => true
  | _ + 1, [] => true
  | n + 1, x :: cs => sx_ok1 own ini wrp ret bs maxL fr lo full x cs (sx_xq x) && sx_okN own ini wrp ret bs maxL fr lo full n cs
theorem sx_okN_ok {own : String} {ini wrp : Bool} {ret : Option FieldType} {bs : ByteArray} {maxL fr lo : Nat} {full : List Nat} (n : Nat) : ∀ (cs : List Nat), sx_okN own ini wrp ret bs maxL fr lo full n cs = true → sx_okL own ini wrp ret bs maxL fr lo full (cs.drop n) = true → sx_okL own ini wrp ret bs maxL fr lo full cs = true := by
  induction n with
  | zero => intro cs _ h; exact h
  | succ n ih =>
    intro cs h1 h2
    cases cs with
    | nil => rfl
    | cons x r =>
      have h3 : (sx_ok1 own ini wrp ret bs maxL fr lo full x r (sx_xq x) && sx_okN own ini wrp ret bs maxL fr lo full n r) = true := h1
      obtain ⟨a, b⟩ := sx_a2 h3
      show (sx_ok1 own ini wrp ret bs maxL fr lo full x r (sx_xq x) && sx_okL own ini wrp ret bs maxL fr lo full r) = true
      rw [a, ih r b h2]; rfl
theorem sx_okM_of {i : Nat} {y : MethodName} {bs : ByteArray} {mL : Nat} {ret : Option FieldType} {f lo kd qc qi qs qn : Nat} (h1 : sx_m[i]? = some (y, (bs, (mL, (ret, (f, lo)))))) (h2 : sx_mq[i]? = some (kd, (qc, (qi, (qs, qn))))) (h3 : sx_okL y.cls (decide (y.name = "<init>")) (Nat.beq kd 3) ret bs mL f lo (sx_cd i) (sx_cd i) = true) (h4 : (sx_nx (sx_cd i) 0 && (plainName y.cls && (sx_mh y.cls && (sx_wk y bs mL ret qc qi qs qn kd && (!(Nat.beq kd 3) || (sx_wrk qc bs mL (sx_cd i) && (decide (y.cls = RL) && decide (ret = some .int)))))))) = true) : sx_okM i = true := by
  unfold sx_okM
  rw [h1, h2]
  show (sx_okL y.cls (decide (y.name = "<init>")) (Nat.beq kd 3) ret bs mL f lo (sx_cd i) (sx_cd i) && _) = true
  rw [h3]
  exact h4
theorem lk_0 : sx_okN yL_law.cls (decide (yL_law.name = "<init>")) (Nat.beq 4 3) ret cL_law 7 10 217 (sx_cd 181) 40 ((sx_cd 181).drop 0) = true := by decide +kernel
theorem lk_1 : sx_okN yL_law.cls (decide (yL_law.name = "<init>")) (Nat.beq 4 3) ret cL_law 7 10 217 (sx_cd 181) 40 ((sx_cd 181).drop 40) = true := by decide +kernel
theorem lk_2 : sx_okN yL_law.cls (decide (yL_law.name = "<init>")) (Nat.beq 4 3) ret cL_law 7 10 217 (sx_cd 181) 40 ((sx_cd 181).drop 80) = true := by decide +kernel
theorem lk_3 : sx_okN yL_law.cls (decide (yL_law.name = "<init>")) (Nat.beq 4 3) ret cL_law 7 10 217 (sx_cd 181) 40 ((sx_cd 181).drop 120) = true := by decide +kernel
theorem lk_4 : sx_okN yL_law.cls (decide (yL_law.name = "<init>")) (Nat.beq 4 3) ret cL_law 7 10 217 (sx_cd 181) 40 ((sx_cd 181).drop 160) = true := by decide +kernel
theorem lk_5 : sx_okN yL_law.cls (decide (yL_law.name = "<init>")) (Nat.beq 4 3) ret cL_law 7 10 217 (sx_cd 181) 40 ((sx_cd 181).drop 200) = true := by decide +kernel
theorem lk_6 : sx_okN yL_law.cls (decide (yL_law.name = "<init>")) (Nat.beq 4 3) ret cL_law 7 10 217 (sx_cd 181) 40 ((sx_cd 181).drop 240) = true := by decide +kernel
theorem lk_7 : sx_okN yL_law.cls (decide (yL_law.name = "<init>")) (Nat.beq 4 3) ret cL_law 7 10 217 (sx_cd 181) 40 ((sx_cd 181).drop 280) = true := by decide +kernel
theorem lk_8 : sx_okN yL_law.cls (decide (yL_law.name = "<init>")) (Nat.beq 4 3) ret cL_law 7 10 217 (sx_cd 181) 40 ((sx_cd 181).drop 320) = true := by decide +kernel
end
section
theorem lk_9 : sx_okN yL_law.cls (decide (yL_law.name = "<init>")) (Nat.beq 4 3) ret cL_law 7 10 217 (sx_cd 181) 40 ((sx_cd 181).drop 360) = true := by decide +kernel
theorem lk_10 : sx_okN yL_law.cls (decide (yL_law.name = "<init>")) (Nat.beq 4 3) ret cL_law 7 10 217 (sx_cd 181) 40 ((sx_cd 181).drop 400) = true := by decide +kernel
theorem lk_11 : sx_okN yL_law.cls (decide (yL_law.name = "<init>")) (Nat.beq 4 3) ret cL_law 7 10 217 (sx_cd 181) 40 ((sx_cd 181).drop 440) = true := by decide +kernel
theorem lk_12 : sx_okN yL_law.cls (decide (yL_law.name = "<init>")) (Nat.beq 4 3) ret cL_law 7 10 217 (sx_cd 181) 40 ((sx_cd 181).drop 480) = true := by decide +kernel
theorem lk_13 : sx_okN yL_law.cls (decide (yL_law.name = "<init>")) (Nat.beq 4 3) ret cL_law 7 10 217 (sx_cd 181) 40 ((sx_cd 181).drop 520) = true := by decide +kernel
theorem lk_14 : sx_okN yL_law.cls (decide (yL_law.name = "<init>")) (Nat.beq 4 3) ret cL_law 7 10 217 (sx_cd 181) 40 ((sx_cd 181).drop 560) = true := by decide +kernel
theorem lk_15 : sx_okN yL_law.cls (decide (yL_law.name = "<init>")) (Nat.beq 4 3) ret cL_law 7 10 217 (sx_cd 181) 40 ((sx_cd 181).drop 600) = true := by decide +kernel
theorem lk_16 : sx_okN yL_law.cls (decide (yL_law.name = "<init>")) (Nat.beq 4 3) ret cL_law 7 10 217 (sx_cd 181) 40 ((sx_cd 181).drop 640) = true := by decide +kernel
theorem lk_17 : sx_okN yL_law.cls (decide (yL_law.name = "<init>")) (Nat.beq 4 3) ret cL_law 7 10 217 (sx_cd 181) 40 ((sx_cd 181).drop 680) = true := by decide +kernel
end
section
theorem lk_end : sx_okL yL_law.cls (decide (yL_law.name = "<init>")) (Nat.beq 4 3) ret cL_law 7 10 217 (sx_cd 181) ((sx_cd 181).drop 720) = true := by decide +kernel
theorem lq_17 : sx_okL yL_law.cls (decide (yL_law.name = "<init>")) (Nat.beq 4 3) ret cL_law 7 10 217 (sx_cd 181) ((sx_cd 181).drop 680) = true := sx_okN_ok 40 _ lk_17 (by rw [List.drop_drop]; exact lk_end)
theorem lq_16 : sx_okL yL_law.cls (decide (yL_law.name = "<init>")) (Nat.beq 4 3) ret cL_law 7 10 217 (sx_cd 181) ((sx_cd 181).drop 640) = true := sx_okN_ok 40 _ lk_16 (by rw [List.drop_drop]; exact lq_17)
theorem lq_15 : sx_okL yL_law.cls (decide (yL_law.name = "<init>")) (Nat.beq 4 3) ret cL_law 7 10 217 (sx_cd 181) ((sx_cd 181).drop 600) = true := sx_okN_ok 40 _ lk_15 (by rw [List.drop_drop]; exact lq_16)
theorem lq_14 : sx_okL yL_law.cls (decide (yL_law.name = "<init>")) (Nat.beq 4 3) ret cL_law 7 10 217 (sx_cd 181) ((sx_cd 181).drop 560) = true := sx_okN_ok 40 _ lk_14 (by rw [List.drop_drop]; exact lq_15)
theorem lq_13 : sx_okL yL_law.cls (decide (yL_law.name = "<init>")) (Nat.beq 4 3) ret cL_law 7 10 217 (sx_cd 181) ((sx_cd 181).drop 520) = true := sx_okN_ok 40 _ lk_13 (by rw [List.drop_drop]; exact lq_14)
theorem lq_12 : sx_okL yL_law.cls (decide (yL_law.name = "<init>")) (Nat.beq 4 3) ret cL_law 7 10 217 (sx_cd 181) ((sx_cd 181).drop 480) = true := sx_okN_ok 40 _ lk_12 (by rw [List.drop_drop]; exact lq_13)
theorem lq_11 : sx_okL yL_law.cls (decide (yL_law.name = "<init>")) (Nat.beq 4 3) ret cL_law 7 10 217 (sx_cd 181) ((sx_cd 181).drop 440) = true := sx_okN_ok 40 _ lk_11 (by rw [List.drop_drop]; exact lq_12)
theorem lq_10 : sx_okL yL_law.cls (decide (yL_law.name = "<init>")) (Nat.beq 4 3) ret cL_law 7 10 217 (sx_cd 181) ((sx_cd 181).drop 400) = true := sx_okN_ok 40 _ lk_10 (by rw [List.drop_drop]; exact lq_11)
theorem lq_9 : sx_okL yL_law.cls (decide (yL_law.name = "<init>")) (Nat.beq 4 3) ret cL_law 7 10 217 (sx_cd 181) ((sx_cd 181).drop 360) = true := sx_okN_ok 40 _ lk_9 (by rw [List.drop_drop]; exact lq_10)
theorem lq_8 : sx_okL yL_law.cls (decide (yL_law.name = "<init>")) (Nat.beq 4 3) ret cL_law 7 10 217 (sx_cd 181) ((sx_cd 181).drop 320) = true := sx_okN_ok 40 _ lk_8 (by rw [List.drop_drop]; exact lq_9)
theorem lq_7 : sx_okL yL_law.cls (decide (yL_law.name = "<init>")) (Nat.beq 4 3) ret cL_law 7 10 217 (sx_cd 181) ((sx_cd 181).drop 280) = true := sx_okN_ok 40 _ lk_7 (by rw [List.drop_drop]; exact lq_8)
theorem lq_6 : sx_okL yL_law.cls (decide (yL_law.name = "<init>")) (Nat.beq 4 3) ret cL_law 7 10 217 (sx_cd 181) ((sx_cd 181).drop 240) = true := sx_okN_ok 40 _ lk_6 (by rw [List.drop_drop]; exact lq_7)
theorem lq_5 : sx_okL yL_law.cls (decide (yL_law.name = "<init>")) (Nat.beq 4 3) ret cL_law 7 10 217 (sx_cd 181) ((sx_cd 181).drop 200) = true := sx_okN_ok 40 _ lk_5 (by rw [List.drop_drop]; exact lq_6)
theorem lq_4 : sx_okL yL_law.cls (decide (yL_law.name = "<init>")) (Nat.beq 4 3) ret cL_law 7 10 217 (sx_cd 181) ((sx_cd 181).drop 160) = true := sx_okN_ok 40 _ lk_4 (by rw [List.drop_drop]; exact lq_5)
theorem lq_3 : sx_okL yL_law.cls (decide (yL_law.name = "<init>")) (Nat.beq 4 3) ret cL_law 7 10 217 (sx_cd 181) ((sx_cd 181).drop 120) = true := sx_okN_ok 40 _ lk_3 (by rw [List.drop_drop]; exact lq_4)
theorem lq_2 : sx_okL yL_law.cls (decide (yL_law.name = "<init>")) (Nat.beq 4 3) ret cL_law 7 10 217 (sx_cd 181) ((sx_cd 181).drop 80) = true := sx_okN_ok 40 _ lk_2 (by rw [List.drop_drop]; exact lq_3)
theorem lq_1 : sx_okL yL_law.cls (decide (yL_law.name = "<init>")) (Nat.beq 4 3) ret cL_law 7 10 217 (sx_cd 181) ((sx_cd 181).drop 40) = true := sx_okN_ok 40 _ lk_1 (by rw [List.drop_drop]; exact lq_2)
theorem lq_0 : sx_okL yL_law.cls (decide (yL_law.name = "<init>")) (Nat.beq 4 3) ret cL_law 7 10 217 (sx_cd 181) ((sx_cd 181).drop 0) = true := sx_okN_ok 40 _ lk_0 (by rw [List.drop_drop]; exact lq_1)
theorem ok_181 : sx_okM 181 = true := sx_okM_of (y := yL_law) (bs := cL_law) (mL := 7) (ret := ret) (f := 10) (lo := 217) (kd := 4) (qc := 0) (qi := 0) (qs := 0) (qn := 0) rfl rfl lq_0 (by decide +kernel)
end
section
set_option maxRecDepth 100000 in
theorem sx_okA : ∀ i ∈ [0, 1, 2, 3, 4, 5, 6, 7, 8, 9, 10, 11, 12, 13, 14, 15, 16, 17, 18, 19, 20, 21, 22, 23, 24, 25, 26, 27, 28, 29, 30, 31, 32, 33, 34, 35, 36, 37, 38, 39, 40, 41, 42, 43, 44, 45, 46, 47, 48, 49, 50, 51, 52, 53, 54, 55, 56, 57, 58, 59, 60, 61, 62, 63, 64, 65, 66, 67, 68, 69, 70, 71, 72, 73, 74, 75, 76, 77, 78, 79, 80, 81, 82, 83, 84, 85, 86, 87, 88, 89, 90, 91, 92, 93, 94, 95, 96, 97, 98, 99, 100, 101, 102, 103, 104, 105, 106, 107, 108, 109, 110, 111, 112, 113, 114, 115, 116, 117, 118, 119, 120, 121, 122, 123, 124, 125, 126, 127, 128, 129, 130, 131, 132, 133, 134, 135, 136, 137, 138, 139, 140, 141, 142, 143, 144, 145, 146, 147, 148, 149, 150, 151, 152, 153, 154, 155, 156, 157, 158, 159, 160, 161, 162, 163, 164, 165, 166, 167, 168, 169, 170, 171, 172, 173, 174, 175, 176, 177, 178, 179, 180, 181], sx_okM i = true := List.forall_mem_cons.mpr ⟨ok_0, List.forall_mem_cons.mpr ⟨ok_1, List.forall_mem_cons.mpr ⟨ok_2, List.forall_mem_cons.mpr ⟨ok_3, List.forall_mem_cons.mpr ⟨ok_4, List.forall_mem_cons.mpr ⟨ok_5, List.forall_mem_cons.mpr ⟨ok_6, List.forall_mem_cons.mpr ⟨ok_7, List.forall_mem_cons.mpr ⟨ok_8, List.forall_mem_cons.mpr ⟨ok_9, List.forall_mem_cons.mpr ⟨ok_10, List.forall_mem_cons.mpr ⟨ok_11, List.forall_mem_cons.mpr ⟨ok_12, List.forall_mem_cons.mpr ⟨ok_13, List.forall_mem_cons.mpr ⟨ok_14, List.forall_mem_cons.mpr ⟨ok_15, List.forall_mem_cons.mpr ⟨ok_16, List.forall_mem_cons.mpr ⟨ok_17, List.forall_mem_cons.mpr ⟨ok_18, List.forall_mem_cons.mpr ⟨ok_19, List.forall_mem_cons.mpr ⟨ok_20, List.forall_mem_cons.mpr ⟨ok_21, List.forall_mem_cons.mpr ⟨ok_22, List.forall_mem_cons.mpr ⟨ok_23, List.forall_mem_cons.mpr ⟨ok_24, List.forall_mem_cons.mpr ⟨ok_25, List.forall_mem_cons.mpr ⟨ok_26, List.forall_mem_cons.mpr ⟨ok_27, List.forall_mem_cons.mpr ⟨ok_28, List.forall_mem_cons.mpr ⟨ok_29, List.forall_mem_cons.mpr ⟨ok_30, List.forall_mem_cons.mpr ⟨ok_31, List.forall_mem_cons.mpr ⟨ok_32, List.forall_mem_cons.mpr ⟨ok_33, List.forall_mem_cons.mpr ⟨ok_34, List.forall_mem_cons.mpr ⟨ok_35, List.forall_mem_cons.mpr ⟨ok_36, List.forall_mem_cons.mpr ⟨ok_37, List.forall_mem_cons.mpr ⟨ok_38, List.forall_mem_cons.mpr ⟨ok_39, List.forall_mem_cons.mpr ⟨ok_40, List.forall_mem_cons.mpr ⟨ok_41, List.forall_mem_cons.mpr ⟨ok_42, List.forall_mem_cons.mpr ⟨ok_43, List.forall_mem_cons.mpr ⟨ok_44, List.forall_mem_cons.mpr ⟨ok_45, List.forall_mem_cons.mpr ⟨ok_46, List.forall_mem_cons.mpr ⟨ok_47, List.forall_mem_cons.mpr ⟨ok_48, List.forall_mem_cons.mpr ⟨ok_49, List.forall_mem_cons.mpr ⟨ok_50, List.forall_mem_cons.mpr ⟨ok_51, List.forall_mem_cons.mpr ⟨ok_52, List.forall_mem_cons.mpr ⟨ok_53, List.forall_mem_cons.mpr ⟨ok_54, List.forall_mem_cons.mpr ⟨ok_55, List.forall_mem_cons.mpr ⟨ok_56, List.forall_mem_cons.mpr ⟨ok_57, List.forall_mem_cons.mpr ⟨ok_58, List.forall_mem_cons.mpr ⟨ok_59, List.forall_mem_cons.mpr ⟨ok_60, List.forall_mem_cons.mpr ⟨ok_61, List.forall_mem_cons.mpr ⟨ok_62, List.forall_mem_cons.mpr ⟨ok_63, List.forall_mem_cons.mpr ⟨ok_64, List.forall_mem_cons.mpr ⟨ok_65, List.forall_mem_cons.mpr ⟨ok_66, List.forall_mem_cons.mpr ⟨ok_67, List.forall_mem_cons.mpr ⟨ok_68, List.forall_mem_cons.mpr ⟨ok_69, List.forall_mem_cons.mpr ⟨ok_70, List.forall_mem_cons.mpr ⟨ok_71, List.forall_mem_cons.mpr ⟨ok_72, List.forall_mem_cons.mpr ⟨ok_73, List.forall_mem_cons.mpr ⟨ok_74, List.forall_mem_cons.mpr ⟨ok_75, List.forall_mem_cons.mpr ⟨ok_76, List.forall_mem_cons.mpr ⟨ok_77, List.forall_mem_cons.mpr ⟨ok_78, List.forall_mem_cons.mpr ⟨ok_79, List.forall_mem_cons.mpr ⟨ok_80, List.forall_mem_cons.mpr ⟨ok_81, List.forall_mem_cons.mpr ⟨ok_82, List.forall_mem_cons.mpr ⟨ok_83, List.forall_mem_cons.mpr ⟨ok_84, List.forall_mem_cons.mpr ⟨ok_85, List.forall_mem_cons.mpr ⟨ok_86, List.forall_mem_cons.mpr ⟨ok_87, List.forall_mem_cons.mpr ⟨ok_88, List.forall_mem_cons.mpr ⟨ok_89, List.forall_mem_cons.mpr ⟨ok_90, List.forall_mem_cons.mpr ⟨ok_91, List.forall_mem_cons.mpr ⟨ok_92, List.forall_mem_cons.mpr ⟨ok_93, List.forall_mem_cons.mpr ⟨ok_94, List.forall_mem_cons.mpr ⟨ok_95, List.forall_mem_cons.mpr ⟨ok_96, List.forall_mem_cons.mpr ⟨ok_97, List.forall_mem_cons.mpr ⟨ok_98, List.forall_mem_cons.mpr ⟨ok_99, List.forall_mem_cons.mpr ⟨ok_100, List.forall_mem_cons.mpr ⟨ok_101, List.forall_mem_cons.mpr ⟨ok_102, List.forall_mem_cons.mpr ⟨ok_103, List.forall_mem_cons.mpr ⟨ok_104, List.forall_mem_cons.mpr ⟨ok_105, List.forall_mem_cons.mpr ⟨ok_106, List.forall_mem_cons.mpr ⟨ok_107, List.forall_mem_cons.mpr ⟨ok_108, List.forall_mem_cons.mpr ⟨ok_109, List.forall_mem_cons.mpr ⟨ok_110, List.forall_mem_cons.mpr ⟨ok_111, List.forall_mem_cons.mpr ⟨ok_112, List.forall_mem_cons.mpr ⟨ok_113, List.forall_mem_cons.mpr ⟨ok_114, List.forall_mem_cons.mpr ⟨ok_115, List.forall_mem_cons.mpr ⟨ok_116, List.forall_mem_cons.mpr ⟨ok_117, List.forall_mem_cons.mpr ⟨ok_118, List.forall_mem_cons.mpr ⟨ok_119, List.forall_mem_cons.mpr ⟨ok_120, List.forall_mem_cons.mpr ⟨ok_121, List.forall_mem_cons.mpr ⟨ok_122, List.forall_mem_cons.mpr ⟨ok_123, List.forall_mem_cons.mpr ⟨ok_124, List.forall_mem_cons.mpr ⟨ok_125, List.forall_mem_cons.mpr ⟨ok_126, List.forall_mem_cons.mpr ⟨ok_127, List.forall_mem_cons.mpr ⟨ok_128, List.forall_mem_cons.mpr ⟨ok_129, List.forall_mem_cons.mpr ⟨ok_130, List.forall_mem_cons.mpr ⟨ok_131, List.forall_mem_cons.mpr ⟨ok_132, List.forall_mem_cons.mpr ⟨ok_133, List.forall_mem_cons.mpr ⟨ok_134, List.forall_mem_cons.mpr ⟨ok_135, List.forall_mem_cons.mpr ⟨ok_136, List.forall_mem_cons.mpr ⟨ok_137, List.forall_mem_cons.mpr ⟨ok_138, List.forall_mem_cons.mpr ⟨ok_139, List.forall_mem_cons.mpr ⟨ok_140, List.forall_mem_cons.mpr ⟨ok_141, List.forall_mem_cons.mpr ⟨ok_142, List.forall_mem_cons.mpr ⟨ok_143, List.forall_mem_cons.mpr ⟨ok_144, List.forall_mem_cons.mpr ⟨ok_145, List.forall_mem_cons.mpr ⟨ok_146, List.forall_mem_cons.mpr ⟨ok_147, List.forall_mem_cons.mpr ⟨ok_148, List.forall_mem_cons.mpr ⟨ok_149, List.forall_mem_cons.mpr ⟨ok_150, List.forall_mem_cons.mpr ⟨ok_151, List.forall_mem_cons.mpr ⟨ok_152, List.forall_mem_cons.mpr ⟨ok_153, List.forall_mem_cons.mpr ⟨ok_154, List.forall_mem_cons.mpr ⟨ok_155, List.forall_mem_cons.mpr ⟨ok_156, List.forall_mem_cons.mpr ⟨ok_157, List.forall_mem_cons.mpr ⟨ok_158, List.forall_mem_cons.mpr ⟨ok_159, List.forall_mem_cons.mpr ⟨ok_160, List.forall_mem_cons.mpr ⟨ok_161, List.forall_mem_cons.mpr ⟨ok_162, List.forall_mem_cons.mpr ⟨ok_163, List.forall_mem_cons.mpr ⟨ok_164, List.forall_mem_cons.mpr ⟨ok_165, List.forall_mem_cons.mpr ⟨ok_166, List.forall_mem_cons.mpr ⟨ok_167, List.forall_mem_cons.mpr ⟨ok_168, List.forall_mem_cons.mpr ⟨ok_169, List.forall_mem_cons.mpr ⟨ok_170, List.forall_mem_cons.mpr ⟨ok_171, List.forall_mem_cons.mpr ⟨ok_172, List.forall_mem_cons.mpr ⟨ok_173, List.forall_mem_cons.mpr ⟨ok_174, List.forall_mem_cons.mpr ⟨ok_175, List.forall_mem_cons.mpr ⟨ok_176, List.forall_mem_cons.mpr ⟨ok_177, List.forall_mem_cons.mpr ⟨ok_178, List.forall_mem_cons.mpr ⟨ok_179, List.forall_mem_cons.mpr ⟨ok_180, List.forall_mem_cons.mpr ⟨ok_181, fun _ h => absurd h List.not_mem_nil⟩⟩⟩⟩⟩⟩⟩⟩⟩⟩⟩⟩⟩⟩⟩⟩⟩⟩⟩⟩⟩⟩⟩⟩⟩⟩⟩⟩⟩⟩⟩⟩⟩⟩⟩⟩⟩⟩⟩⟩⟩⟩⟩⟩⟩⟩⟩⟩⟩⟩⟩⟩⟩⟩⟩⟩⟩⟩⟩⟩⟩⟩⟩⟩⟩⟩⟩⟩⟩⟩⟩⟩⟩⟩⟩⟩⟩⟩⟩⟩⟩⟩⟩⟩⟩⟩⟩⟩⟩⟩⟩⟩⟩⟩⟩⟩⟩⟩⟩⟩⟩⟩⟩⟩⟩⟩⟩⟩⟩⟩⟩⟩⟩⟩⟩⟩⟩⟩⟩⟩⟩⟩⟩⟩⟩⟩⟩⟩⟩⟩⟩⟩⟩⟩⟩⟩⟩⟩⟩⟩⟩⟩⟩⟩⟩⟩⟩⟩⟩⟩⟩⟩⟩⟩⟩⟩⟩⟩⟩⟩⟩⟩⟩⟩⟩⟩⟩⟩⟩⟩⟩⟩⟩⟩⟩⟩⟩⟩⟩⟩⟩⟩
set_option maxRecDepth 100000 in
theorem sx_okAll : ∀ i e, sx_m[i]? = some e → sx_okM i = true := fun i e h => by
  have h1 : i < 182 := (List.getElem?_eq_some_iff.mp h).1
  have h2 : [0, 1, 2, 3, 4, 5, 6, 7, 8, 9, 10, 11, 12, 13, 14, 15, 16, 17, 18, 19, 20, 21, 22, 23, 24, 25, 26, 27, 28, 29, 30, 31, 32, 33, 34, 35, 36, 37, 38, 39, 40, 41, 42, 43, 44, 45, 46, 47, 48, 49, 50, 51, 52, 53, 54, 55, 56, 57, 58, 59, 60, 61, 62, 63, 64, 65, 66, 67, 68, 69, 70, 71, 72, 73, 74, 75, 76, 77, 78, 79, 80, 81, 82, 83, 84, 85, 86, 87, 88, 89, 90, 91, 92, 93, 94, 95, 96, 97, 98, 99, 100, 101, 102, 103, 104, 105, 106, 107, 108, 109, 110, 111, 112, 113, 114, 115, 116, 117, 118, 119, 120, 121, 122, 123, 124, 125, 126, 127, 128, 129, 130, 131, 132, 133, 134, 135, 136, 137, 138, 139, 140, 141, 142, 143, 144, 145, 146, 147, 148, 149, 150, 151, 152, 153, 154, 155, 156, 157, 158, 159, 160, 161, 162, 163, 164, 165, 166, 167, 168, 169, 170, 171, 172, 173, 174, 175, 176, 177, 178, 179, 180, 181] = List.range 182 := by decide +kernel
  exact sx_okA i (by rw [h2]; exact List.mem_range.mpr h1)
end
section
/-! ===== a domain of whole numbers: each stands for its rest among the machine's ints ===== -/
noncomputable def wr (x : Int) : Int := Int.bmod x 4294967296
noncomputable def ii_k (n : Nat) : Int := cond (Nat.ble n 2147483647) (Int.ofNat n) (Int.subNatNat n 4294967296)
noncomputable def ii_and (x y : Int) : Int := (Int32.ofInt x &&& Int32.ofInt y).toInt
noncomputable def ii_or (x y : Int) : Int := (Int32.ofInt x ||| Int32.ofInt y).toInt
noncomputable def ii_xor (x y : Int) : Int := (Int32.ofInt x ^^^ Int32.ofInt y).toInt
noncomputable def ii_shl (x y : Int) : Int := (Int32.ofInt x <<< (Int32.ofInt y &&& 31)).toInt
noncomputable def ii_shr (x y : Int) : Int := (Int32.ofInt x >>> (Int32.ofInt y &&& 31)).toInt
noncomputable def ii_rem (x y : Int) : Int := (Int32.ofInt x - Int32.ofInt x / Int32.ofInt y * Int32.ofInt y).toInt
noncomputable def ii_bin (k : Nat) (i j : Int) : Option Int := match k with
  | 0 => some (i + j)
  | 1 => some (i - j)
  | 2 => some (i * j)
  | 3 => some (ii_and i j)
  | 4 => some (ii_or i j)
  | 5 => some (ii_xor i j)
  | 6 => some (ii_shl i j)
  | 7 => some (ii_shr i j)
  | 8 => cond (decide (wr j = 0)) none (some (ii_rem i j))
  | _ => none
noncomputable def ii_tst (k : Nat) (i j : Int) : Bool := match k with
  | 0 => decide (wr i = wr j)
  | 1 => !(decide (wr i = wr j))
  | 2 => decide (wr i < wr j)
  | 3 => decide (wr j ≤ wr i)
  | 4 => decide (wr j < wr i)
  | _ => decide (wr i ≤ wr j)
noncomputable def ii_val (i : Int) : Option Nat := match wr i with
  | .ofNat n => some n
  | .negSucc _ => none
noncomputable def ii_o (L : Nat) (xs : Nat → Int32) : sx_O Int := (ii_k, (ii_bin, ((fun k i j => some (ii_tst k i j)), (ii_val, (L, fun j => (xs j).toInt)))))
theorem wr_of (x : Int) : (Int32.ofInt x).toInt = wr x := Int32.toInt_ofInt
theorem wr_eq {x : Int} (h1 : -2147483648 ≤ x) (h2 : x < 2147483648) : wr x = x := Int.bmod_eq_of_le (by omega) (by omega)
theorem wr_le (x : Int) : -2147483648 ≤ wr x := by
  rw [← wr_of]; exact Int32.le_toInt _
theorem wr_lt (x : Int) : wr x < 2147483648 := by
  rw [← wr_of]; exact Int32.toInt_lt _
theorem wr_wr (x : Int) : wr (wr x) = wr x := wr_eq (wr_le x) (wr_lt x)
theorem ii_k_ok (n : Nat) : Int32.ofInt (ii_k n) = nI n := by
  unfold ii_k
  cases h : Nat.ble n 2147483647 with
  | true => rfl
  | false =>
    show Int32.ofInt (Int.subNatNat n 4294967296) = nI n
    rw [Int.subNatNat_eq_coe, Int32.ofInt_sub]
    have h1 : Int32.ofInt ((4294967296 : Nat) : Int) = 0 := by decide +kernel
    rw [h1]
    have h2 : Int32.ofInt (n : Int) = nI n := rfl
    rw [h2]
    simp
theorem ii_bin_ok (k : Nat) (i j v : Int) (h : ii_bin k i j = some v) : sx_cb k (Int32.ofInt i) (Int32.ofInt j) (Int32.ofInt v) := by
  unfold ii_bin at h
  split at h
  · cases h; exact Int32.ofInt_add i j
  · cases h; exact Int32.ofInt_sub i j
  · cases h; exact Int32.ofInt_mul i j
  · cases h; exact Int32.ofInt_toInt _
  · cases h; exact Int32.ofInt_toInt _
  · cases h; exact Int32.ofInt_toInt _
  · cases h; exact Int32.ofInt_toInt _
  · cases h; exact Int32.ofInt_toInt _
  · obtain ⟨h1, h2⟩ := sx_condn h
    cases h2
    refine ⟨fun e => ?_, Int32.ofInt_toInt _⟩
    have h3 : wr j = 0 := by rw [← wr_of, e]; rfl
    exact absurd h3 (of_decide_eq_false h1)
  · cases h
theorem ii_tst_ok (k : Nat) (i j : Int) (v : Bool) (h : some (ii_tst k i j) = some v) : v = true ↔ sx_ct k (Int32.ofInt i) (Int32.ofInt j) := by
  cases h
  have e : (Int32.ofInt i = Int32.ofInt j) ↔ wr i = wr j := by
    rw [← wr_of, ← wr_of]; exact Int32.toInt_inj.symm
  have l : ∀ a b : Int, (Int32.ofInt a < Int32.ofInt b) ↔ wr a < wr b := fun a b => by
    rw [← wr_of, ← wr_of]; exact Int32.lt_iff_toInt_lt
  have g : ∀ a b : Int, (Int32.ofInt a ≤ Int32.ofInt b) ↔ wr a ≤ wr b := fun a b => by
    rw [← wr_of, ← wr_of]; exact Int32.le_iff_toInt_le
  unfold ii_tst sx_ct
  split
  · exact decide_eq_true_iff.trans e.symm
  · rw [Bool.not_eq_true', decide_eq_false_iff_not]
    exact not_congr e.symm
  · exact decide_eq_true_iff.trans (l _ _).symm
  · exact decide_eq_true_iff.trans (g _ _).symm
  · exact decide_eq_true_iff.trans (l _ _).symm
  · rename_i k0 h0 h1 h2 h3 h4
    split
    · exact absurd rfl h0
    · exact absurd rfl h1
    · exact absurd rfl h2
    · exact absurd rfl h3
    · exact absurd rfl h4
    · exact decide_eq_true_iff.trans (g _ _).symm
theorem ii_val_ok (i : Int) (n : Nat) (h : ii_val i = some n) : Int32.ofInt i = nI n := by
  unfold ii_val at h
  split at h
  · next m hm =>
    cases h
    have h1 : Int32.ofInt (Int32.ofInt i).toInt = Int32.ofInt i := Int32.ofInt_toInt _
    rw [← h1, wr_of, hm]
    rfl
  · cases h
theorem ii_law {L : Nat} (hL : L < 2 ^ 31) (xs : Nat → Int32) : sx_Law (ii_o L xs) Int32.ofInt L xs :=
  ⟨ii_k_ok, ii_bin_ok, fun k i j v h => ii_tst_ok k i j v h, ii_val_ok, rfl, hL, fun _ _ => Int32.ofInt_toInt _⟩
theorem ii_val_of {i : Int} {n : Nat} (h : wr i = (n : Int)) : ii_val i = some n := by
  unfold ii_val
  rw [h]
end
section
/-! ===== the pictures of all cells: which class, how long, what the fixed references are ===== -/
abbrev vi (x : Int) : sx_V Int := some (.inl x)
abbrev vr (k : Nat) : sx_V Int := some (.inr (.inl k))
abbrev vl (x : Int) : sx_V Int := some (.inr (.inr (.inl x)))
abbrev vu : sx_V Int := some (.inr (.inr (.inl 0)))
abbrev vs : sx_V Int := some (.inr (.inr (.inr ())))
abbrev mem : Type := Nat → Int → Int
noncomputable def ly_T : List (Nat × (Nat × List Nat)) := [(6, (15, [1, 6, 8, 0, 9, 10, 11, 0, 12, 20, 22, 24, 25, 30, 31])), (1, (4, [2, 3, 4, 5])), (8, (18, [])), (8, (18, [])), (8, (61, [])), (8, (61, [])), (5, (2, [7])), (8, (60, [])), (11, (60, [32, 40, 48, 56, 64, 72, 80, 88, 96, 104, 112, 120, 128, 136, 144, 152, 160, 168, 176, 184, 192, 200, 208, 216, 224, 232, 240, 248, 256, 264, 272, 280, 288, 296, 304, 312, 320, 328, 336, 344, 352, 360, 368, 376, 384, 392, 400, 408, 416, 424, 432, 440, 448, 456, 464, 472, 480, 488, 496, 504])), (12, (3, [592, 680, 768])), (8, (10, [])), (8, (10, [])), (4, (11, [0, 0, 0, 0, 0, 0, 13, 14, 15, 16, 18])), (8, (2, [])), (8, (2, [])), (8, (2, [])), (5, (2, [17])), (8, (60, [])), (5, (2, [19])), (8, (60, [])), (5, (2, [21])), (8, (60, [])), (5, (2, [23])), (8, (60, [])), (11, (10, [512, 520, 528, 536, 544, 552, 560, 568, 576, 584])), (2, (5, [26, 27, 28, 0, 29])), (13, (80, [])), (9, (80, [])), (8, (80, [])), (3, (7, [])), (3, (7, [])), (8, (60, [])), (4, (11, [0, 0, 0, 0, 0, 0, 33, 34, 35, 36, 38])), (8, (2, [])), (8, (2, [])), (8, (2, [])), (5, (2, [37])), (8, (60, [])), (5, (2, [39])), (8, (60, [])), (4, (11, [0, 0, 0, 0, 0, 0, 41, 42, 43, 44, 46])), (8, (2, [])), (8, (2, [])), (8, (2, [])), (5, (2, [45])), (8, (60, [])), (5, (2, [47])), (8, (60, [])), (4, (11, [0, 0, 0, 0, 0, 0, 49, 50, 51, 52, 54])), (8, (2, [])), (8, (2, [])), (8, (2, [])), (5, (2, [53])), (8, (60, [])), (5, (2, [55])), (8, (60, [])), (4, (11, [0, 0, 0, 0, 0, 0, 57, 58, 59, 60, 62])), (8, (2, [])), (8, (2, [])), (8, (2, [])), (5, (2, [61])), (8, (60, [])), (5, (2, [63])), (8, (60, [])), (4, (11, [0, 0, 0, 0, 0, 0, 65, 66, 67, 68, 70])), (8, (2, [])), (8, (2, [])), (8, (2, [])), (5, (2, [69])), (8, (60, [])), (5, (2, [71])), (8, (60, [])), (4, (11, [0, 0, 0, 0, 0, 0, 73, 74, 75, 76, 78])), (8, (2, [])), (8, (2, [])), (8, (2, [])), (5, (2, [77])), (8, (60, [])), (5, (2, [79])), (8, (60, [])), (4, (11, [0, 0, 0, 0, 0, 0, 81, 82, 83, 84, 86])), (8, (2, [])), (8, (2, [])), (8, (2, [])), (5, (2, [85])), (8, (60, [])), (5, (2, [87])), (8, (60, [])), (4, (11, [0, 0, 0, 0, 0, 0, 89, 90, 91, 92, 94])), (8, (2, [])), (8, (2, [])), (8, (2, [])), (5, (2, [93])), (8, (60, [])), (5, (2, [95])), (8, (60, [])), (4, (11, [0, 0, 0, 0, 0, 0, 97, 98, 99, 100, 102])), (8, (2, [])), (8, (2, [])), (8, (2, [])), (5, (2, [101])), (8, (60, [])), (5, (2, [103])), (8, (60, [])), (4, (11, [0, 0, 0, 0, 0, 0, 105, 106, 107, 108, 110])), (8, (2, [])), (8, (2, [])), (8, (2, [])), (5, (2, [109])), (8, (60, [])), (5, (2, [111])), (8, (60, [])), (4, (11, [0, 0, 0, 0, 0, 0, 113, 114, 115, 116, 118])), (8, (2, [])), (8, (2, [])), (8, (2, [])), (5, (2, [117])), (8, (60, [])), (5, (2, [119])), (8, (60, [])), (4, (11, [0, 0, 0, 0, 0, 0, 121, 122, 123, 124, 126])), (8, (2, [])), (8, (2, [])), (8, (2, [])), (5, (2, [125])), (8, (60, [])), (5, (2, [127])), (8, (60, [])), (4, (11, [0, 0, 0, 0, 0, 0, 129, 130, 131, 132, 134])), (8, (2, [])), (8, (2, [])), (8, (2, [])), (5, (2, [133])), (8, (60, [])), (5, (2, [135])), (8, (60, [])), (4, (11, [0, 0, 0, 0, 0, 0, 137, 138, 139, 140, 142])), (8, (2, [])), (8, (2, [])), (8, (2, [])), (5, (2, [141])), (8, (60, [])), (5, (2, [143])), (8, (60, [])), (4, (11, [0, 0, 0, 0, 0, 0, 145, 146, 147, 148, 150])), (8, (2, [])), (8, (2, [])), (8, (2, [])), (5, (2, [149])), (8, (60, [])), (5, (2, [151])), (8, (60, [])), (4, (11, [0, 0, 0, 0, 0, 0, 153, 154, 155, 156, 158])), (8, (2, [])), (8, (2, [])), (8, (2, [])), (5, (2, [157])), (8, (60, [])), (5, (2, [159])), (8, (60, [])), (4, (11, [0, 0, 0, 0, 0, 0, 161, 162, 163, 164, 166])), (8, (2, [])), (8, (2, [])), (8, (2, [])), (5, (2, [165])), (8, (60, [])), (5, (2, [167])), (8, (60, [])), (4, (11, [0, 0, 0, 0, 0, 0, 169, 170, 171, 172, 174])), (8, (2, [])), (8, (2, [])), (8, (2, [])), (5, (2, [173])), (8, (60, [])), (5, (2, [175])), (8, (60, [])), (4, (11, [0, 0, 0, 0, 0, 0, 177, 178, 179, 180, 182])), (8, (2, [])), (8, (2, [])), (8, (2, [])), (5, (2, [181])), (8, (60, [])), (5, (2, [183])), (8, (60, [])), (4, (11, [0, 0, 0, 0, 0, 0, 185, 186, 187, 188, 190])), (8, (2, [])), (8, (2, [])), (8, (2, [])), (5, (2, [189])), (8, (60, [])), (5, (2, [191])), (8, (60, [])), (4, (11, [0, 0, 0, 0, 0, 0, 193, 194, 195, 196, 198])), (8, (2, [])), (8, (2, [])), (8, (2, [])), (5, (2, [197])), (8, (60, [])), (5, (2, [199])), (8, (60, [])), (4, (11, [0, 0, 0, 0, 0, 0, 201, 202, 203, 204, 206])), (8, (2, [])), (8, (2, [])), (8, (2, [])), (5, (2, [205])), (8, (60, [])), (5, (2, [207])), (8, (60, [])), (4, (11, [0, 0, 0, 0, 0, 0, 209, 210, 211, 212, 214])), (8, (2, [])), (8, (2, [])), (8, (2, [])), (5, (2, [213])), (8, (60, [])), (5, (2, [215])), (8, (60, [])), (4, (11, [0, 0, 0, 0, 0, 0, 217, 218, 219, 220, 222])), (8, (2, [])), (8, (2, [])), (8, (2, [])), (5, (2, [221])), (8, (60, [])), (5, (2, [223])), (8, (60, [])), (4, (11, [0, 0, 0, 0, 0, 0, 225, 226, 227, 228, 230])), (8, (2, [])), (8, (2, [])), (8, (2, [])), (5, (2, [229])), (8, (60, [])), (5, (2, [231])), (8, (60, [])), (4, (11, [0, 0, 0, 0, 0, 0, 233, 234, 235, 236, 238])), (8, (2, [])), (8, (2, [])), (8, (2, [])), (5, (2, [237])), (8, (60, [])), (5, (2, [239])), (8, (60, [])), (4, (11, [0, 0, 0, 0, 0, 0, 241, 242, 243, 244, 246])), (8, (2, [])), (8, (2, [])), (8, (2, [])), (5, (2, [245])), (8, (60, [])), (5, (2, [247])), (8, (60, [])), (4, (11, [0, 0, 0, 0, 0, 0, 249, 250, 251, 252, 254])), (8, (2, [])), (8, (2, [])), (8, (2, [])), (5, (2, [253])), (8, (60, [])), (5, (2, [255])), (8, (60, [])), (4, (11, [0, 0, 0, 0, 0, 0, 257, 258, 259, 260, 262])), (8, (2, [])), (8, (2, [])), (8, (2, [])), (5, (2, [261])), (8, (60, [])), (5, (2, [263])), (8, (60, [])), (4, (11, [0, 0, 0, 0, 0, 0, 265, 266, 267, 268, 270])), (8, (2, [])), (8, (2, [])), (8, (2, [])), (5, (2, [269])), (8, (60, [])), (5, (2, [271])), (8, (60, [])), (4, (11, [0, 0, 0, 0, 0, 0, 273, 274, 275, 276, 278])), (8, (2, [])), (8, (2, [])), (8, (2, [])), (5, (2, [277])), (8, (60, [])), (5, (2, [279])), (8, (60, [])), (4, (11, [0, 0, 0, 0, 0, 0, 281, 282, 283, 284, 286])), (8, (2, [])), (8, (2, [])), (8, (2, [])), (5, (2, [285])), (8, (60, [])), (5, (2, [287])), (8, (60, [])), (4, (11, [0, 0, 0, 0, 0, 0, 289, 290, 291, 292, 294])), (8, (2, [])), (8, (2, [])), (8, (2, [])), (5, (2, [293])), (8, (60, [])), (5, (2, [295])), (8, (60, [])), (4, (11, [0, 0, 0, 0, 0, 0, 297, 298, 299, 300, 302])), (8, (2, [])), (8, (2, [])), (8, (2, [])), (5, (2, [301])), (8, (60, [])), (5, (2, [303])), (8, (60, [])), (4, (11, [0, 0, 0, 0, 0, 0, 305, 306, 307, 308, 310])), (8, (2, [])), (8, (2, [])), (8, (2, [])), (5, (2, [309])), (8, (60, [])), (5, (2, [311])), (8, (60, [])), (4, (11, [0, 0, 0, 0, 0, 0, 313, 314, 315, 316, 318])), (8, (2, [])), (8, (2, [])), (8, (2, [])), (5, (2, [317])), (8, (60, [])), (5, (2, [319])), (8, (60, [])), (4, (11, [0, 0, 0, 0, 0, 0, 321, 322, 323, 324, 326])), (8, (2, [])), (8, (2, [])), (8, (2, [])), (5, (2, [325])), (8, (60, [])), (5, (2, [327])), (8, (60, [])), (4, (11, [0, 0, 0, 0, 0, 0, 329, 330, 331, 332, 334])), (8, (2, [])), (8, (2, [])), (8, (2, [])), (5, (2, [333])), (8, (60, [])), (5, (2, [335])), (8, (60, [])), (4, (11, [0, 0, 0, 0, 0, 0, 337, 338, 339, 340, 342])), (8, (2, [])), (8, (2, [])), (8, (2, [])), (5, (2, [341])), (8, (60, [])), (5, (2, [343])), (8, (60, [])), (4, (11, [0, 0, 0, 0, 0, 0, 345, 346, 347, 348, 350])), (8, (2, [])), (8, (2, [])), (8, (2, [])), (5, (2, [349])), (8, (60, [])), (5, (2, [351])), (8, (60, [])), (4, (11, [0, 0, 0, 0, 0, 0, 353, 354, 355, 356, 358])), (8, (2, [])), (8, (2, [])), (8, (2, [])), (5, (2, [357])), (8, (60, [])), (5, (2, [359])), (8, (60, [])), (4, (11, [0, 0, 0, 0, 0, 0, 361, 362, 363, 364, 366])), (8, (2, [])), (8, (2, [])), (8, (2, [])), (5, (2, [365])), (8, (60, [])), (5, (2, [367])), (8, (60, [])), (4, (11, [0, 0, 0, 0, 0, 0, 369, 370, 371, 372, 374])), (8, (2, [])), (8, (2, [])), (8, (2, [])), (5, (2, [373])), (8, (60, [])), (5, (2, [375])), (8, (60, [])), (4, (11, [0, 0, 0, 0, 0, 0, 377, 378, 379, 380, 382])), (8, (2, [])), (8, (2, [])), (8, (2, [])), (5, (2, [381])), (8, (60, [])), (5, (2, [383])), (8, (60, [])), (4, (11, [0, 0, 0, 0, 0, 0, 385, 386, 387, 388, 390])), (8, (2, [])), (8, (2, [])), (8, (2, [])), (5, (2, [389])), (8, (60, [])), (5, (2, [391])), (8, (60, [])), (4, (11, [0, 0, 0, 0, 0, 0, 393, 394, 395, 396, 398])), (8, (2, [])), (8, (2, [])), (8, (2, [])), (5, (2, [397])), (8, (60, [])), (5, (2, [399])), (8, (60, [])), (4, (11, [0, 0, 0, 0, 0, 0, 401, 402, 403, 404, 406])), (8, (2, [])), (8, (2, [])), (8, (2, [])), (5, (2, [405])), (8, (60, [])), (5, (2, [407])), (8, (60, [])), (4, (11, [0, 0, 0, 0, 0, 0, 409, 410, 411, 412, 414])), (8, (2, [])), (8, (2, [])), (8, (2, [])), (5, (2, [413])), (8, (60, [])), (5, (2, [415])), (8, (60, [])), (4, (11, [0, 0, 0, 0, 0, 0, 417, 418, 419, 420, 422])), (8, (2, [])), (8, (2, [])), (8, (2, [])), (5, (2, [421])), (8, (60, [])), (5, (2, [423])), (8, (60, [])), (4, (11, [0, 0, 0, 0, 0, 0, 425, 426, 427, 428, 430])), (8, (2, [])), (8, (2, [])), (8, (2, [])), (5, (2, [429])), (8, (60, [])), (5, (2, [431])), (8, (60, [])), (4, (11, [0, 0, 0, 0, 0, 0, 433, 434, 435, 436, 438])), (8, (2, [])), (8, (2, [])), (8, (2, [])), (5, (2, [437])), (8, (60, [])), (5, (2, [439])), (8, (60, [])), (4, (11, [0, 0, 0, 0, 0, 0, 441, 442, 443, 444, 446])), (8, (2, [])), (8, (2, [])), (8, (2, [])), (5, (2, [445])), (8, (60, [])), (5, (2, [447])), (8, (60, [])), (4, (11, [0, 0, 0, 0, 0, 0, 449, 450, 451, 452, 454])), (8, (2, [])), (8, (2, [])), (8, (2, [])), (5, (2, [453])), (8, (60, [])), (5, (2, [455])), (8, (60, [])), (4, (11, [0, 0, 0, 0, 0, 0, 457, 458, 459, 460, 462])), (8, (2, [])), (8, (2, [])), (8, (2, [])), (5, (2, [461])), (8, (60, [])), (5, (2, [463])), (8, (60, [])), (4, (11, [0, 0, 0, 0, 0, 0, 465, 466, 467, 468, 470])), (8, (2, [])), (8, (2, [])), (8, (2, [])), (5, (2, [469])), (8, (60, [])), (5, (2, [471])), (8, (60, [])), (4, (11, [0, 0, 0, 0, 0, 0, 473, 474, 475, 476, 478])), (8, (2, [])), (8, (2, [])), (8, (2, [])), (5, (2, [477])), (8, (60, [])), (5, (2, [479])), (8, (60, [])), (4, (11, [0, 0, 0, 0, 0, 0, 481, 482, 483, 484, 486])), (8, (2, [])), (8, (2, [])), (8, (2, [])), (5, (2, [485])), (8, (60, [])), (5, (2, [487])), (8, (60, [])), (4, (11, [0, 0, 0, 0, 0, 0, 489, 490, 491, 492, 494])), (8, (2, [])), (8, (2, [])), (8, (2, [])), (5, (2, [493])), (8, (60, [])), (5, (2, [495])), (8, (60, [])), (4, (11, [0, 0, 0, 0, 0, 0, 497, 498, 499, 500, 502])), (8, (2, [])), (8, (2, [])), (8, (2, [])), (5, (2, [501])), (8, (60, [])), (5, (2, [503])), (8, (60, [])), (4, (11, [0, 0, 0, 0, 0, 0, 505, 506, 507, 508, 510])), (8, (2, [])), (8, (2, [])), (8, (2, [])), (5, (2, [509])), (8, (60, [])), (5, (2, [511])), (8, (60, [])), (4, (11, [0, 0, 0, 0, 0, 0, 513, 514, 515, 516, 518])), (8, (2, [])), (8, (2, [])), (8, (2, [])), (5, (2, [517])), (8, (60, [])), (5, (2, [519])), (8, (60, [])), (4, (11, [0, 0, 0, 0, 0, 0, 521, 522, 523, 524, 526])), (8, (2, [])), (8, (2, [])), (8, (2, [])), (5, (2, [525])), (8, (60, [])), (5, (2, [527])), (8, (60, [])), (4, (11, [0, 0, 0, 0, 0, 0, 529, 530, 531, 532, 534])), (8, (2, [])), (8, (2, [])), (8, (2, [])), (5, (2, [533])), (8, (60, [])), (5, (2, [535])), (8, (60, [])), (4, (11, [0, 0, 0, 0, 0, 0, 537, 538, 539, 540, 542])), (8, (2, [])), (8, (2, [])), (8, (2, [])), (5, (2, [541])), (8, (60, [])), (5, (2, [543])), (8, (60, [])), (4, (11, [0, 0, 0, 0, 0, 0, 545, 546, 547, 548, 550])), (8, (2, [])), (8, (2, [])), (8, (2, [])), (5, (2, [549])), (8, (60, [])), (5, (2, [551])), (8, (60, [])), (4, (11, [0, 0, 0, 0, 0, 0, 553, 554, 555, 556, 558])), (8, (2, [])), (8, (2, [])), (8, (2, [])), (5, (2, [557])), (8, (60, [])), (5, (2, [559])), (8, (60, [])), (4, (11, [0, 0, 0, 0, 0, 0, 561, 562, 563, 564, 566])), (8, (2, [])), (8, (2, [])), (8, (2, [])), (5, (2, [565])), (8, (60, [])), (5, (2, [567])), (8, (60, [])), (4, (11, [0, 0, 0, 0, 0, 0, 569, 570, 571, 572, 574])), (8, (2, [])), (8, (2, [])), (8, (2, [])), (5, (2, [573])), (8, (60, [])), (5, (2, [575])), (8, (60, [])), (4, (11, [0, 0, 0, 0, 0, 0, 577, 578, 579, 580, 582])), (8, (2, [])), (8, (2, [])), (8, (2, [])), (5, (2, [581])), (8, (60, [])), (5, (2, [583])), (8, (60, [])), (4, (11, [0, 0, 0, 0, 0, 0, 585, 586, 587, 588, 590])), (8, (2, [])), (8, (2, [])), (8, (2, [])), (5, (2, [589])), (8, (60, [])), (5, (2, [591])), (8, (60, [])), (0, (7, [0, 0, 0, 593, 594, 596, 598])), (11, (10, [600, 608, 616, 624, 632, 640, 648, 656, 664, 672])), (5, (2, [595])), (8, (60, [])), (5, (2, [597])), (8, (60, [])), (5, (2, [599])), (8, (60, [])), (4, (11, [0, 0, 0, 0, 0, 0, 601, 602, 603, 604, 606])), (8, (2, [])), (8, (2, [])), (8, (2, [])), (5, (2, [605])), (8, (60, [])), (5, (2, [607])), (8, (60, [])), (4, (11, [0, 0, 0, 0, 0, 0, 609, 610, 611, 612, 614])), (8, (2, [])), (8, (2, [])), (8, (2, [])), (5, (2, [613])), (8, (60, [])), (5, (2, [615])), (8, (60, [])), (4, (11, [0, 0, 0, 0, 0, 0, 617, 618, 619, 620, 622])), (8, (2, [])), (8, (2, [])), (8, (2, [])), (5, (2, [621])), (8, (60, [])), (5, (2, [623])), (8, (60, [])), (4, (11, [0, 0, 0, 0, 0, 0, 625, 626, 627, 628, 630])), (8, (2, [])), (8, (2, [])), (8, (2, [])), (5, (2, [629])), (8, (60, [])), (5, (2, [631])), (8, (60, [])), (4, (11, [0, 0, 0, 0, 0, 0, 633, 634, 635, 636, 638])), (8, (2, [])), (8, (2, [])), (8, (2, [])), (5, (2, [637])), (8, (60, [])), (5, (2, [639])), (8, (60, [])), (4, (11, [0, 0, 0, 0, 0, 0, 641, 642, 643, 644, 646])), (8, (2, [])), (8, (2, [])), (8, (2, [])), (5, (2, [645])), (8, (60, [])), (5, (2, [647])), (8, (60, [])), (4, (11, [0, 0, 0, 0, 0, 0, 649, 650, 651, 652, 654])), (8, (2, [])), (8, (2, [])), (8, (2, [])), (5, (2, [653])), (8, (60, [])), (5, (2, [655])), (8, (60, [])), (4, (11, [0, 0, 0, 0, 0, 0, 657, 658, 659, 660, 662])), (8, (2, [])), (8, (2, [])), (8, (2, [])), (5, (2, [661])), (8, (60, [])), (5, (2, [663])), (8, (60, [])), (4, (11, [0, 0, 0, 0, 0, 0, 665, 666, 667, 668, 670])), (8, (2, [])), (8, (2, [])), (8, (2, [])), (5, (2, [669])), (8, (60, [])), (5, (2, [671])), (8, (60, [])), (4, (11, [0, 0, 0, 0, 0, 0, 673, 674, 675, 676, 678])), (8, (2, [])), (8, (2, [])), (8, (2, [])), (5, (2, [677])), (8, (60, [])), (5, (2, [679])), (8, (60, [])), (0, (7, [0, 0, 0, 681, 682, 684, 686])), (11, (10, [688, 696, 704, 712, 720, 728, 736, 744, 752, 760])), (5, (2, [683])), (8, (60, [])), (5, (2, [685])), (8, (60, [])), (5, (2, [687])), (8, (60, [])), (4, (11, [0, 0, 0, 0, 0, 0, 689, 690, 691, 692, 694])), (8, (2, [])), (8, (2, [])), (8, (2, [])), (5, (2, [693])), (8, (60, [])), (5, (2, [695])), (8, (60, [])), (4, (11, [0, 0, 0, 0, 0, 0, 697, 698, 699, 700, 702])), (8, (2, [])), (8, (2, [])), (8, (2, [])), (5, (2, [701])), (8, (60, [])), (5, (2, [703])), (8, (60, [])), (4, (11, [0, 0, 0, 0, 0, 0, 705, 706, 707, 708, 710])), (8, (2, [])), (8, (2, [])), (8, (2, [])), (5, (2, [709])), (8, (60, [])), (5, (2, [711])), (8, (60, [])), (4, (11, [0, 0, 0, 0, 0, 0, 713, 714, 715, 716, 718])), (8, (2, [])), (8, (2, [])), (8, (2, [])), (5, (2, [717])), (8, (60, [])), (5, (2, [719])), (8, (60, [])), (4, (11, [0, 0, 0, 0, 0, 0, 721, 722, 723, 724, 726])), (8, (2, [])), (8, (2, [])), (8, (2, [])), (5, (2, [725])), (8, (60, [])), (5, (2, [727])), (8, (60, [])), (4, (11, [0, 0, 0, 0, 0, 0, 729, 730, 731, 732, 734])), (8, (2, [])), (8, (2, [])), (8, (2, [])), (5, (2, [733])), (8, (60, [])), (5, (2, [735])), (8, (60, [])), (4, (11, [0, 0, 0, 0, 0, 0, 737, 738, 739, 740, 742])), (8, (2, [])), (8, (2, [])), (8, (2, [])), (5, (2, [741])), (8, (60, [])), (5, (2, [743])), (8, (60, [])), (4, (11, [0, 0, 0, 0, 0, 0, 745, 746, 747, 748, 750])), (8, (2, [])), (8, (2, [])), (8, (2, [])), (5, (2, [749])), (8, (60, [])), (5, (2, [751])), (8, (60, [])), (4, (11, [0, 0, 0, 0, 0, 0, 753, 754, 755, 756, 758])), (8, (2, [])), (8, (2, [])), (8, (2, [])), (5, (2, [757])), (8, (60, [])), (5, (2, [759])), (8, (60, [])), (4, (11, [0, 0, 0, 0, 0, 0, 761, 762, 763, 764, 766])), (8, (2, [])), (8, (2, [])), (8, (2, [])), (5, (2, [765])), (8, (60, [])), (5, (2, [767])), (8, (60, [])), (0, (7, [0, 0, 0, 769, 770, 772, 774])), (11, (10, [776, 784, 792, 800, 808, 816, 824, 832, 840, 848])), (5, (2, [771])), (8, (60, [])), (5, (2, [773])), (8, (60, [])), (5, (2, [775])), (8, (60, [])), (4, (11, [0, 0, 0, 0, 0, 0, 777, 778, 779, 780, 782])), (8, (2, [])), (8, (2, [])), (8, (2, [])), (5, (2, [781])), (8, (60, [])), (5, (2, [783])), (8, (60, [])), (4, (11, [0, 0, 0, 0, 0, 0, 785, 786, 787, 788, 790])), (8, (2, [])), (8, (2, [])), (8, (2, [])), (5, (2, [789])), (8, (60, [])), (5, (2, [791])), (8, (60, [])), (4, (11, [0, 0, 0, 0, 0, 0, 793, 794, 795, 796, 798])), (8, (2, [])), (8, (2, [])), (8, (2, [])), (5, (2, [797])), (8, (60, [])), (5, (2, [799])), (8, (60, [])), (4, (11, [0, 0, 0, 0, 0, 0, 801, 802, 803, 804, 806])), (8, (2, [])), (8, (2, [])), (8, (2, [])), (5, (2, [805])), (8, (60, [])), (5, (2, [807])), (8, (60, [])), (4, (11, [0, 0, 0, 0, 0, 0, 809, 810, 811, 812, 814])), (8, (2, [])), (8, (2, [])), (8, (2, [])), (5, (2, [813])), (8, (60, [])), (5, (2, [815])), (8, (60, [])), (4, (11, [0, 0, 0, 0, 0, 0, 817, 818, 819, 820, 822])), (8, (2, [])), (8, (2, [])), (8, (2, [])), (5, (2, [821])), (8, (60, [])), (5, (2, [823])), (8, (60, [])), (4, (11, [0, 0, 0, 0, 0, 0, 825, 826, 827, 828, 830])), (8, (2, [])), (8, (2, [])), (8, (2, [])), (5, (2, [829])), (8, (60, [])), (5, (2, [831])), (8, (60, [])), (4, (11, [0, 0, 0, 0, 0, 0, 833, 834, 835, 836, 838])), (8, (2, [])), (8, (2, [])), (8, (2, [])), (5, (2, [837])), (8, (60, [])), (5, (2, [839])), (8, (60, [])), (4, (11, [0, 0, 0, 0, 0, 0, 841, 842, 843, 844, 846])), (8, (2, [])), (8, (2, [])), (8, (2, [])), (5, (2, [845])), (8, (60, [])), (5, (2, [847])), (8, (60, [])), (4, (11, [0, 0, 0, 0, 0, 0, 849, 850, 851, 852, 854])), (8, (2, [])), (8, (2, [])), (8, (2, [])), (5, (2, [853])), (8, (60, [])), (5, (2, [855])), (8, (60, [])), (7, (32, [857, 858, 859, 860, 861, 862, 863, 864, 865, 866, 867, 868, 869, 0, 870, 871, 872, 873, 874, 0, 875, 876, 877, 0, 0, 878, 879, 880, 0, 881, 882])), (8, (18, [])), (8, (18, [])), (8, (240, [])), (8, (4, [])), (9, (101, [])), (9, (101, [])), (8, (101, [])), (8, (101, [])), (8, (202, [])), (8, (202, [])), (8, (202, [])), (8, (6060, [])), (8, (6060, [])), (8, (3, [])), (8, (3, [])), (8, (3, [])), (8, (180, [])), (8, (3, [])), (8, (10, [])), (8, (10, [])), (8, (128, [])), (8, (84, [])), (9, (84, [])), (8, (84, [])), (8, (64, [])), (8, (64, [])), (10, (1, []))]
/-- 0 to 7: an object's class; 8, 9, 10: ints, booleans, longs; 11, 12: fixed steps, clients; 13: steps; 99: none -/
noncomputable def ly_c (k : Nat) : Nat := (ly_T.getD k (99, (0, []))).1
noncomputable def ly_n (k : Nat) : Nat := (ly_T.getD k (99, (0, []))).2.1
noncomputable def ly_t (k : Nat) (j : Int) : Nat := (ly_T.getD k (99, (0, []))).2.2.getD j.toNat 0
/-- of a class or kind of array: 0 an int, 1 a boolean, 2 a fixed reference, 3 a long, 4 a step or nothing -/
noncomputable def ly_k (c j : Nat) : Nat := match c with
  | 8 => 0
  | 9 => 1
  | 10 => 3
  | 11 => 2
  | 12 => 2
  | 13 => 4
  | c => (sx_nff c).getD j 9
noncomputable def ly_a (c : Nat) : Nat := match c with
  | 8 => 0
  | 9 => 1
  | 10 => 2
  | 12 => 4
  | _ => 3
noncomputable def ly_v (k : Nat) (j x : Int) : sx_V Int := match ly_k (ly_c k) j.toNat with
  | 0 => vi x
  | 1 => vi x
  | 2 => vr (ly_t k j)
  | 3 => vl x
  | _ => cond (decide (x < 0)) none (vr x.toNat)
noncomputable def um (M : mem) (k : Nat) (j v : Int) : mem := fun k' j' => if k' = k ∧ j' = j then v else M k' j'
theorem um_eq (M : mem) (k : Nat) (j v : Int) : um M k j v k j = v := by unfold um; rw [if_pos ⟨rfl, rfl⟩]
theorem um_k {M : mem} {k k' : Nat} {j v j' : Int} (h : k' ≠ k) : um M k j v k' j' = M k' j' := by unfold um; rw [if_neg (fun e => h e.1)]
theorem um_j {M : mem} {k k' : Nat} {j v j' : Int} (h : j' ≠ j) : um M k j v k' j' = M k' j' := by unfold um; rw [if_neg (fun e => h e.2)]
noncomputable def hp_R (M : mem) (h : sx_H Int) : Prop :=
  (∀ k, ly_c k ≤ 7 → sx_hg h k = some (.inl (ly_c k, (List.range (ly_n k)).map (fun j : Nat => ly_v k j (M k j))))) ∧
  (∀ k, 8 ≤ ly_c k → ly_c k ≤ 13 → ∃ tr, sx_hg h k = some (.inr (ly_a (ly_c k), (ly_n k, tr))) ∧ ∀ j : Nat, j < ly_n k → sx_tg 13 tr j = some (ly_v k j (M k j))) ∧
  (∀ (k j : Nat), ly_k (ly_c k) j = 1 → M k j = 0 ∨ M k j = 1) ∧
  (∀ (k j : Nat), ly_c k = 13 → 0 ≤ M k j → ly_c (M k j).toNat = 4)
noncomputable def ly_ok (k : Nat) : Bool := match ly_c k with
  | 8 => Nat.ble (ly_n k) 8192
  | 9 => Nat.ble (ly_n k) 8192
  | 10 => Nat.ble (ly_n k) 8192
  | 11 => Nat.ble (ly_n k) 8192
  | 12 => Nat.ble (ly_n k) 8192
  | 13 => Nat.ble (ly_n k) 8192
  | c => Nat.beq (ly_n k) (sx_nff c).length
theorem ly_okA : ∀ k ∈ List.range 884, ly_ok k = true := by decide +kernel
theorem ly_len : ly_T.length = 884 := by decide +kernel
theorem ly_big {k : Nat} (h : ly_c k ≤ 13) : k < 884 := by
  by_cases hk : k < 884
  · exact hk
  · exfalso
    have h1 : ly_T[k]? = none := by rw [List.getElem?_eq_none_iff, ly_len]; omega
    have h2 : ly_c k = 99 := by
      unfold ly_c
      rw [List.getD_eq_getElem?_getD, h1]
      rfl
    omega
theorem ly_n8 {k : Nat} (h1 : 8 ≤ ly_c k) (h2 : ly_c k ≤ 13) : ly_n k ≤ 8192 := by
  have h := ly_okA k (List.mem_range.mpr (ly_big h2))
  unfold ly_ok at h
  rcases (show ly_c k = 8 ∨ ly_c k = 9 ∨ ly_c k = 10 ∨ ly_c k = 11 ∨ ly_c k = 12 ∨ ly_c k = 13 by omega) with e | e | e | e | e | e <;> rw [e] at h <;> exact Nat.le_of_ble_eq_true h
theorem ly_n7 {k : Nat} (h2 : ly_c k ≤ 7) : ly_n k = (sx_nff (ly_c k)).length := by
  have h := ly_okA k (List.mem_range.mpr (ly_big (by omega)))
  unfold ly_ok at h
  rcases (show ly_c k = 0 ∨ ly_c k = 1 ∨ ly_c k = 2 ∨ ly_c k = 3 ∨ ly_c k = 4 ∨ ly_c k = 5 ∨ ly_c k = 6 ∨ ly_c k = 7 by omega) with e | e | e | e | e | e | e | e <;> rw [e] at h ⊢ <;> exact Nat.eq_of_beq_eq_true h
/-! ===== locals ===== -/
noncomputable def ldl : List (sx_V Int) → Nat → Option (sx_V Int)
  | [], _ => none
  | v :: _, 0 => some v
  | _ :: r, n + 1 => ldl r n
noncomputable def stl : List (sx_V Int) → Nat → sx_V Int → List (sx_V Int)
  | [], 0, v => [v]
  | [], n + 1, v => vu :: stl [] n v
  | _ :: r, 0, v => v :: r
  | x :: r, n + 1, v => x :: stl r n v
noncomputable def lsR (ls : List (sx_V Int)) (lx : sx_L Int) : Prop := ∀ (j : Nat) (v : sx_V Int), ldl ls j = some v → sx_is2 v = false → sx_lk lx j = some v
theorem ldl_stl_eq (ls : List (sx_V Int)) : ∀ (a : Nat) (v : sx_V Int), ldl (stl ls a v) a = some v := by
  induction ls with
  | nil =>
    intro a
    induction a with
    | zero => intro v; rfl
    | succ a ih => intro v; exact ih v
  | cons x r ih =>
    intro a v
    cases a with
    | zero => rfl
    | succ a => exact ih a v
theorem ldl_nil (j : Nat) : ldl [] j = none := by
  cases j <;> rfl
theorem ldl_stl_ne (ls : List (sx_V Int)) : ∀ (a j : Nat) (v w : sx_V Int), j ≠ a → ldl (stl ls a v) j = some w → sx_is2 w = false → ldl ls j = some w := by
  induction ls with
  | nil =>
    intro a
    induction a with
    | zero =>
      intro j v w hj h hw
      cases j with
      | zero => exact absurd rfl hj
      | succ j =>
        have h1 : ldl [] j = some w := h
        rw [ldl_nil] at h1
        cases h1
    | succ a ih =>
      intro j v w hj h hw
      cases j with
      | zero =>
        have h1 : some vu = some w := h
        cases h1
        cases hw
      | succ j =>
        have h1 := ih j v w (by omega) h hw
        rw [ldl_nil] at h1
        cases h1
  | cons x r ih =>
    intro a j v w hj h hw
    cases a with
    | zero =>
      cases j with
      | zero => exact absurd rfl hj
      | succ j => exact h
    | succ a =>
      cases j with
      | zero => exact h
      | succ j => exact ih a j v w (by omega) h hw
theorem sx_lk_flt (a : Nat) (j : Nat) (w : sx_V Int) (hj : j ≠ a) (hw : sx_is2 w = false) (lx : sx_L Int) : sx_lk lx j = some w → sx_lk (lx.filter (fun q => !(q.1 == a) && !(q.1 + 1 == a && sx_is2 q.2))) j = some w := by
  induction lx with
  | nil => intro h; cases h
  | cons q r ih =>
    intro h
    have h1 : cond (Nat.beq q.1 j) (some q.2) (sx_lk r j) = some w := h
    cases hb : Nat.beq q.1 j with
    | true =>
      rw [hb] at h1
      have e1 : q.1 = j := Nat.eq_of_beq_eq_true hb
      have e2 : q.2 = w := Option.some.inj h1
      have e3 : (!(q.1 == a) && !(q.1 + 1 == a && sx_is2 q.2)) = true := by
        rw [e2, hw, e1]
        simp [hj]
      rw [List.filter_cons, if_pos e3]
      show cond (Nat.beq q.1 j) (some q.2) _ = some w
      rw [hb, e2]
      rfl
    | false =>
      rw [hb] at h1
      rw [List.filter_cons]
      split
      · show cond (Nat.beq q.1 j) (some q.2) _ = some w
        rw [hb]
        exact ih h1
      · exact ih h1
theorem lsR_st {ls : List (sx_V Int)} {lx : sx_L Int} (h : lsR ls lx) (a : Nat) (v : sx_V Int) : lsR (stl ls a v) (sx_st lx a v) := by
  intro j w hj hw
  show cond (Nat.beq a j) (some v) (sx_lk (lx.filter _) j) = some w
  cases hb : Nat.beq a j with
  | true =>
    have e1 : a = j := Nat.eq_of_beq_eq_true hb
    subst e1
    rw [ldl_stl_eq] at hj
    cases hj
    rfl
  | false =>
    have e1 : j ≠ a := fun e => by subst e; rw [Nat.beq_refl] at hb; cases hb
    exact sx_lk_flt a j w e1 hw lx (h j w (ldl_stl_ne ls a j v w e1 hj hw) hw)
theorem lsR_args (as : List (sx_V Int)) : ∀ (i : Nat), sx_n2 as = true → ∀ (j : Nat) (v : sx_V Int), ldl as j = some v → sx_lk (sx_args i as) (i + j) = some v := by
  induction as with
  | nil => intro i _ j v h; rw [ldl_nil] at h; cases h
  | cons x r ih =>
    intro i h2 j v h
    have h3 : cond (sx_is2 x) false (sx_n2 r) = true := h2
    cases hx : sx_is2 x with
    | true => rw [hx] at h3; cases h3
    | false =>
      rw [hx] at h3
      show cond (Nat.beq i (i + j)) (some x) (sx_lk (sx_args (cond (sx_is2 x) (i + 2) (i + 1)) r) (i + j)) = some v
      rw [hx]
      cases j with
      | zero =>
        have h4 : some x = some v := h
        rw [Nat.add_zero, Nat.beq_refl, h4]
        rfl
      | succ j =>
        have h5 : Nat.beq i (i + (j + 1)) = false := by
          cases h6 : Nat.beq i (i + (j + 1)) with
          | false => rfl
          | true => have := Nat.eq_of_beq_eq_true h6; omega
        rw [h5]
        have h7 := ih (i + 1) h3 j v h
        rw [show i + (j + 1) = i + 1 + j by omega]
        exact h7
theorem lsR_entry {as : List (sx_V Int)} (h : sx_n2 as = true) : lsR as (sx_args 0 as) := fun j v hj _ => by
  have h1 := lsR_args as 0 h j v hj
  rw [Nat.zero_add] at h1
  exact h1
/-! ===== what a place of a method comes to ===== -/
noncomputable def ac (t : Nat) : Nat := match t with
  | 0 => 0
  | 1 => 0
  | _ => 1
abbrev scr : Type := Nat × (Nat → Int32)
noncomputable abbrev oI (X : scr) : sx_O Int := ii_o X.1 X.2
noncomputable def Ou (X : scr) (w m i : Nat) (lx : sx_L Int) (st : List (sx_V Int)) (h : sx_H Int) (Q : Nat → sx_V Int → mem → Prop) : Prop :=
  ∃ (n0 : Nat) (out : sx_R Int), (∀ n, n0 ≤ n → sx_run sx_cd (oI X) n (sx_cd m) ((sx_cd m).drop i) lx st h = some out) ∧ ∃ M' : mem, hp_R M' out.2 ∧ out.2.2.2.1 ≤ h.2.2.1 + (w + ac out.1.1) ∧ out.2.2.2.2.1 ≤ h.2.2.2.1 + 6 * (w + ac out.1.1) ∧ Q out.1.1 out.1.2 M'
noncomputable def At (X : scr) (w m i : Nat) (ls : List (sx_V Int)) (st : List (sx_V Int)) (M : mem) (Q : Nat → sx_V Int → mem → Prop) : Prop :=
  ∀ (lx : sx_L Int) (h : sx_H Int), lsR ls lx → hp_R M h → Ou X w m i lx st h Q
noncomputable def cdx (m i : Nat) : Nat × (Nat × Nat) := match (sx_cd m)[i]? with
  | some x => (sx_xq x, (sx_xa x, sx_xb x))
  | none => (99, (0, 0))
theorem cdx_ok {m i q a b : Nat} (h : cdx m i = (q, (a, b))) (hq : q ≠ 99) : ∃ x, (sx_cd m).drop i = x :: (sx_cd m).drop (i + 1) ∧ sx_xq x = q ∧ sx_xa x = a ∧ sx_xb x = b := by
  unfold cdx at h
  split at h
  · next x hx =>
    cases h
    refine ⟨x, ?_, rfl, rfl, rfl⟩
    obtain ⟨h1, h2⟩ := List.getElem?_eq_some_iff.mp hx
    rw [← h2]
    exact List.drop_eq_getElem_cons h1
  · cases h
    exact absurd rfl hq
section OU
variable {X : scr} {w m i i' q a b : Nat} {lx lx' : sx_L Int} {st st' : List (sx_V Int)} {h h' : sx_H Int} {Q : Nat → sx_V Int → mem → Prop}
theorem run_row {n : Nat} {x : Nat} {r : List Nat} {full : List Nat} : sx_run sx_cd (oI X) (n + 1) full (x :: r) lx st h = sx_hd (sx_xq x) (oI X) (sx_ca sx_cd (sx_run sx_cd (oI X) n)) (sx_run sx_cd (oI X) n full) full (sx_xa x) (sx_xb x) (sx_xc x) r lx st h := by
  rw [sx_run_succ]
  exact sx_b1_cons sx_cd (oI X) _ full x r lx st h
theorem ou_next (hd : cdx m i = (q, (a, b))) (hq : q ≠ 99) (h1 : ∀ (call : sx_K Int) (go : sx_G Int) (c : Nat), sx_hd q (oI X) call go (sx_cd m) a b c ((sx_cd m).drop (i + 1)) lx st h = go ((sx_cd m).drop i') lx' st' h') (hc : h'.2.2.1 = h.2.2.1) (hs : h'.2.2.2.1 = h.2.2.2.1) (K : Ou X w m i' lx' st' h' Q) : Ou X w m i lx st h Q := by
  obtain ⟨x, e1, rfl, rfl, rfl⟩ := cdx_ok hd hq
  obtain ⟨n0, out, k1, M', k2, k3, k4, k5⟩ := K
  refine ⟨n0 + 1, out, fun n hn => ?_, M', k2, hc ▸ k3, hs ▸ k4, k5⟩
  obtain ⟨n, rfl⟩ : ∃ n', n = n' + 1 := ⟨n - 1, by omega⟩
  rw [e1, run_row, h1]
  exact k1 n (by omega)
theorem ou_ret (hd : cdx m i = (q, (a, b))) (hq : q ≠ 99) {out : sx_R Int} (h1 : ∀ (call : sx_K Int) (go : sx_G Int) (c : Nat), sx_hd q (oI X) call go (sx_cd m) a b c ((sx_cd m).drop (i + 1)) lx st h = some out) {M' : mem} (k2 : hp_R M' out.2) (k3 : out.2.2.2.1 ≤ h.2.2.1 + (w + ac out.1.1)) (k4 : out.2.2.2.2.1 ≤ h.2.2.2.1 + 6 * (w + ac out.1.1)) (k5 : Q out.1.1 out.1.2 M') : Ou X w m i lx st h Q := by
  obtain ⟨x, e1, rfl, rfl, rfl⟩ := cdx_ok hd hq
  refine ⟨1, out, fun n hn => ?_, M', k2, k3, k4, k5⟩
  obtain ⟨n, rfl⟩ : ∃ n', n = n' + 1 := ⟨n - 1, by omega⟩
  rw [e1, run_row, h1]
end OU
end
section
/-! ===== a row for each instruction ===== -/
section RU
variable {X : scr} {w m i q a b c n : Nat} {ls r : List (sx_V Int)} {st : List (sx_V Int)} {M : mem} {Q : Nat → sx_V Int → mem → Prop} {x y : Int} {k : Nat}
theorem sx_hd_out {o : sx_O Int} {call : sx_K Int} {go : sx_G Int} {full : List Nat} : True := trivial
theorem at_iload (hd : cdx m i = (2, (a, b))) (he : ldl ls a = some (vi x)) (K : At X w m (i + 1) ls (vi x :: st) M Q) : At X w m i ls st M Q := fun lx h hl hM =>
  ou_next hd (by decide) (fun call go c => by
    show sh_iload go a _ lx st h = _
    unfold sh_iload
    rw [hl a _ he rfl]) rfl rfl (K lx h hl hM)
theorem at_aload (hd : cdx m i = (0, (a, b))) (he : ldl ls a = some (vr k)) (K : At X w m (i + 1) ls (vr k :: st) M Q) : At X w m i ls st M Q := fun lx h hl hM =>
  ou_next hd (by decide) (fun call go c => by
    show sh_aload go a _ lx st h = _
    unfold sh_aload
    rw [hl a _ he rfl]) rfl rfl (K lx h hl hM)
theorem at_aload0 (hd : cdx m i = (0, (a, b))) (he : ldl ls a = some none) (K : At X w m (i + 1) ls (none :: st) M Q) : At X w m i ls st M Q := fun lx h hl hM =>
  ou_next hd (by decide) (fun call go c => by
    show sh_aload go a _ lx st h = _
    unfold sh_aload
    rw [hl a _ he rfl]) rfl rfl (K lx h hl hM)
theorem at_aloads (hd : cdx m i = (0, (a, b))) (he : ldl ls a = some vs) (K : At X w m (i + 1) ls (vs :: st) M Q) : At X w m i ls st M Q := fun lx h hl hM =>
  ou_next hd (by decide) (fun call go c => by
    show sh_aload go a _ lx st h = _
    unfold sh_aload
    rw [hl a _ he rfl]) rfl rfl (K lx h hl hM)
theorem at_const (hd : cdx m i = (3, (a, b))) (hc : ii_k a = x) (K : At X w m (i + 1) ls (vi x :: st) M Q) : At X w m i ls st M Q := fun lx h hl hM =>
  ou_next hd (by decide) (fun call go c => by subst hc; rfl) rfl rfl (K lx h hl hM)
theorem at_istore (hd : cdx m i = (9, (a, b))) (K : At X w m (i + 1) (stl ls a (vi x)) st M Q) : At X w m i ls (vi x :: st) M Q := fun lx h hl hM =>
  ou_next hd (by decide) (fun call go c => rfl) rfl rfl (K (sx_st lx a (vi x)) h (lsR_st hl _ _) hM)
theorem at_astore (hd : cdx m i = (22, (a, b))) (K : At X w m (i + 1) (stl ls a (vr k)) st M Q) : At X w m i ls (vr k :: st) M Q := fun lx h hl hM =>
  ou_next hd (by decide) (fun call go c => rfl) rfl rfl (K (sx_st lx a (vr k)) h (lsR_st hl _ _) hM)
theorem at_astore0 (hd : cdx m i = (22, (a, b))) (K : At X w m (i + 1) (stl ls a none) st M Q) : At X w m i ls (none :: st) M Q := fun lx h hl hM =>
  ou_next hd (by decide) (fun call go c => rfl) rfl rfl (K (sx_st lx a none) h (lsR_st hl _ _) hM)
theorem at_iinc (hd : cdx m i = (14, (a, b))) (he : ldl ls a = some (vi x)) (hc : ii_k b = y) (K : At X w m (i + 1) (stl ls a (vi (x + y))) st M Q) : At X w m i ls st M Q := fun lx h hl hM =>
  ou_next hd (by decide) (fun call go c => by
    show sh_iinc (oI X) go a b _ lx st h = _
    unfold sh_iinc
    rw [hl a _ he rfl]
    subst hc
    rfl) rfl rfl (K (sx_st lx a (vi (x + y))) h (lsR_st hl _ _) hM)
theorem at_dup {v : sx_V Int} (hd : cdx m i = (16, (a, b))) (h2 : sx_is2 v = false) (K : At X w m (i + 1) ls (v :: v :: st) M Q) : At X w m i ls (v :: st) M Q := fun lx h hl hM =>
  ou_next hd (by decide) (fun call go c => by
    show sh_dup go _ lx (v :: st) h = _
    unfold sh_dup
    show cond (sx_is2 v) none (go _ lx (v :: v :: st) h) = _
    rw [h2]
    rfl) rfl rfl (K lx h hl hM)
theorem at_dup2 {v u : sx_V Int} (hd : cdx m i = (28, (a, b))) (h2 : sx_is2 v = false) (h3 : sx_is2 u = false) (K : At X w m (i + 1) ls (v :: u :: v :: u :: st) M Q) : At X w m i ls (v :: u :: st) M Q := fun lx h hl hM =>
  ou_next hd (by decide) (fun call go c => by
    show sh_dup2 go _ lx (v :: u :: st) h = _
    unfold sh_dup2
    show cond (sx_is2 v || sx_is2 u) none (go _ lx (v :: u :: v :: u :: st) h) = _
    rw [h2, h3]
    rfl) rfl rfl (K lx h hl hM)
theorem at_pop {v : sx_V Int} (hd : cdx m i = (32, (a, b))) (h2 : sx_is2 v = false) (K : At X w m (i + 1) ls st M Q) : At X w m i ls (v :: st) M Q := fun lx h hl hM =>
  ou_next hd (by decide) (fun call go c => by
    show sh_pop go _ lx (v :: st) h = _
    unfold sh_pop
    show cond (sx_is2 v) none (go _ lx st h) = _
    rw [h2]
    rfl) rfl rfl (K lx h hl hM)
theorem at_null (hd : cdx m i = (27, (a, b))) (K : At X w m (i + 1) ls (none :: st) M Q) : At X w m i ls st M Q := fun lx h hl hM =>
  ou_next hd (by decide) (fun call go c => rfl) rfl rfl (K lx h hl hM)
theorem at_i2l (hd : cdx m i = (21, (a, b))) (K : At X w m (i + 1) ls (vl x :: st) M Q) : At X w m i ls (vi x :: st) M Q := fun lx h hl hM =>
  ou_next hd (by decide) (fun call go c => rfl) rfl rfl (K lx h hl hM)
theorem at_goto (hd : cdx m i = (5, (a, b))) (K : At X w m b ls st M Q) : At X w m i ls st M Q := fun lx h hl hM =>
  ou_next hd (by decide) (fun call go c => rfl) rfl rfl (K lx h hl hM)
theorem at_bin (hd : cdx m i = (8, (a, b))) {z : Int} (hz : ii_bin a x y = some z) (K : At X w m (i + 1) ls (vi z :: st) M Q) : At X w m i ls (vi y :: vi x :: st) M Q := fun lx h hl hM =>
  ou_next hd (by decide) (fun call go c => by
    show sh_bin (oI X) go a _ lx (vi y :: vi x :: st) h = _
    unfold sh_bin
    simp only [show (oI X).2.1 a x y = some z from hz]) rfl rfl (K lx h hl hM)
theorem at_add (hd : cdx m i = (8, (0, b))) (K : At X w m (i + 1) ls (vi (x + y) :: st) M Q) : At X w m i ls (vi y :: vi x :: st) M Q := at_bin hd rfl K
theorem at_sub (hd : cdx m i = (8, (1, b))) (K : At X w m (i + 1) ls (vi (x - y) :: st) M Q) : At X w m i ls (vi y :: vi x :: st) M Q := at_bin hd rfl K
theorem at_mul (hd : cdx m i = (8, (2, b))) (K : At X w m (i + 1) ls (vi (x * y) :: st) M Q) : At X w m i ls (vi y :: vi x :: st) M Q := at_bin hd rfl K
theorem at_and (hd : cdx m i = (8, (3, b))) (K : At X w m (i + 1) ls (vi (ii_and x y) :: st) M Q) : At X w m i ls (vi y :: vi x :: st) M Q := at_bin hd rfl K
theorem at_or (hd : cdx m i = (8, (4, b))) (K : At X w m (i + 1) ls (vi (ii_or x y) :: st) M Q) : At X w m i ls (vi y :: vi x :: st) M Q := at_bin hd rfl K
theorem at_xor (hd : cdx m i = (8, (5, b))) (K : At X w m (i + 1) ls (vi (ii_xor x y) :: st) M Q) : At X w m i ls (vi y :: vi x :: st) M Q := at_bin hd rfl K
theorem at_shl (hd : cdx m i = (8, (6, b))) (K : At X w m (i + 1) ls (vi (ii_shl x y) :: st) M Q) : At X w m i ls (vi y :: vi x :: st) M Q := at_bin hd rfl K
theorem at_shr (hd : cdx m i = (8, (7, b))) (K : At X w m (i + 1) ls (vi (ii_shr x y) :: st) M Q) : At X w m i ls (vi y :: vi x :: st) M Q := at_bin hd rfl K
theorem at_rem (hd : cdx m i = (8, (8, b))) (hy : ¬ wr y = 0) (K : At X w m (i + 1) ls (vi (ii_rem x y) :: st) M Q) : At X w m i ls (vi y :: vi x :: st) M Q := at_bin hd (show cond (decide (wr y = 0)) none (some (ii_rem x y)) = some (ii_rem x y) by rw [decide_eq_false hy]; rfl) K
theorem at_icmp (hd : cdx m i = (11, (a, b))) (K1 : ii_tst a x y = true → At X w m b ls st M Q) (K2 : ii_tst a x y = false → At X w m (i + 1) ls st M Q) : At X w m i ls (vi y :: vi x :: st) M Q := fun lx h hl hM => by
  cases ht : ii_tst a x y with
  | true => exact ou_next hd (by decide) (fun call go c => by
      show sh_icmp (oI X) go _ a b _ lx (vi y :: vi x :: st) h = _
      unfold sh_icmp
      show (match some (ii_tst a x y) with
        | some true => go _ lx st h
        | some false => go _ lx st h
        | none => none) = _
      rw [ht]) rfl rfl (K1 ht lx h hl hM)
  | false => exact ou_next hd (by decide) (fun call go c => by
      show sh_icmp (oI X) go _ a b _ lx (vi y :: vi x :: st) h = _
      unfold sh_icmp
      show (match some (ii_tst a x y) with
        | some true => go _ lx st h
        | some false => go _ lx st h
        | none => none) = _
      rw [ht]) rfl rfl (K2 ht lx h hl hM)
theorem at_if (hd : cdx m i = (10, (a, b))) (K1 : ii_tst a x 0 = true → At X w m b ls st M Q) (K2 : ii_tst a x 0 = false → At X w m (i + 1) ls st M Q) : At X w m i ls (vi x :: st) M Q := fun lx h hl hM => by
  cases ht : ii_tst a x 0 with
  | true => exact ou_next hd (by decide) (fun call go c => by
      show sh_if (oI X) go _ a b _ lx (vi x :: st) h = _
      unfold sh_if
      show (match some (ii_tst a x 0) with
        | some true => go _ lx st h
        | some false => go _ lx st h
        | none => none) = _
      rw [ht]) rfl rfl (K1 ht lx h hl hM)
  | false => exact ou_next hd (by decide) (fun call go c => by
      show sh_if (oI X) go _ a b _ lx (vi x :: st) h = _
      unfold sh_if
      show (match some (ii_tst a x 0) with
        | some true => go _ lx st h
        | some false => go _ lx st h
        | none => none) = _
      rw [ht]) rfl rfl (K2 ht lx h hl hM)
abbrev inR (x : Int) : Prop := -2147483648 ≤ x ∧ x < 2147483648
theorem wr_R {x : Int} (h : inR x) : wr x = x := wr_eq h.1 h.2
theorem inR_wr (x : Int) : inR (wr x) := ⟨wr_le x, wr_lt x⟩
theorem at_ceqR (hd : cdx m i = (11, (0, b))) (hx : inR x) (hy : inR y) (K1 : x = y → At X w m b ls st M Q) (K2 : ¬ x = y → At X w m (i + 1) ls st M Q) : At X w m i ls (vi y :: vi x :: st) M Q := by
  refine at_icmp hd (fun h => K1 ?_) (fun h => K2 ?_)
  · have h1 : wr x = wr y := of_decide_eq_true h
    rw [wr_R hx, wr_R hy] at h1
    exact h1
  · have h1 : ¬ wr x = wr y := of_decide_eq_false h
    rw [wr_R hx, wr_R hy] at h1
    exact h1
theorem at_zeqR (hd : cdx m i = (10, (0, b))) (hx : inR x) (K1 : x = 0 → At X w m b ls st M Q) (K2 : ¬ x = 0 → At X w m (i + 1) ls st M Q) : At X w m i ls (vi x :: st) M Q := by
  refine at_if hd (fun h => K1 ?_) (fun h => K2 ?_)
  · have h1 : wr x = wr 0 := of_decide_eq_true h
    rw [wr_R hx, wr_R (show inR 0 by decide)] at h1
    exact h1
  · have h1 : ¬ wr x = wr 0 := of_decide_eq_false h
    rw [wr_R hx, wr_R (show inR 0 by decide)] at h1
    exact h1
theorem at_ceqW (hd : cdx m i = (11, (0, b))) (K1 : (wr x) = (wr y) → At X w m b ls st M Q) (K2 : ¬ (wr x) = (wr y) → At X w m (i + 1) ls st M Q) : At X w m i ls (vi y :: vi x :: st) M Q := by
  refine at_icmp hd (fun h => K1 ?_) (fun h => K2 ?_)
  · have h1 : wr x = wr y := of_decide_eq_true h
    exact h1
  · have h1 : ¬ wr x = wr y := of_decide_eq_false h
    exact h1
theorem at_zeqW (hd : cdx m i = (10, (0, b))) (K1 : (wr x) = 0 → At X w m b ls st M Q) (K2 : ¬ (wr x) = 0 → At X w m (i + 1) ls st M Q) : At X w m i ls (vi x :: st) M Q := by
  refine at_if hd (fun h => K1 ?_) (fun h => K2 ?_)
  · have h1 : wr x = wr 0 := of_decide_eq_true h
    rw [wr_R (show inR 0 by decide)] at h1
    exact h1
  · have h1 : ¬ wr x = wr 0 := of_decide_eq_false h
    rw [wr_R (show inR 0 by decide)] at h1
    exact h1
theorem at_cneR (hd : cdx m i = (11, (1, b))) (hx : inR x) (hy : inR y) (K1 : ¬ x = y → At X w m b ls st M Q) (K2 : x = y → At X w m (i + 1) ls st M Q) : At X w m i ls (vi y :: vi x :: st) M Q := by
  refine at_icmp hd (fun h => K1 ?_) (fun h => K2 ?_)
  · have h2 : (!(decide (wr x = wr y))) = true := h
    have h1 : ¬ wr x = wr y := fun e => by rw [decide_eq_true e] at h2; cases h2
    rw [wr_R hx, wr_R hy] at h1
    exact h1
  · have h2 : (!(decide (wr x = wr y))) = false := h
    have h1 : wr x = wr y := by
      cases hz : decide (wr x = wr y) with
      | true => exact of_decide_eq_true hz
      | false => rw [hz] at h2; cases h2
    rw [wr_R hx, wr_R hy] at h1
    exact h1
theorem at_zneR (hd : cdx m i = (10, (1, b))) (hx : inR x) (K1 : ¬ x = 0 → At X w m b ls st M Q) (K2 : x = 0 → At X w m (i + 1) ls st M Q) : At X w m i ls (vi x :: st) M Q := by
  refine at_if hd (fun h => K1 ?_) (fun h => K2 ?_)
  · have h2 : (!(decide (wr x = wr 0))) = true := h
    have h1 : ¬ wr x = wr 0 := fun e => by rw [decide_eq_true e] at h2; cases h2
    rw [wr_R hx, wr_R (show inR 0 by decide)] at h1
    exact h1
  · have h2 : (!(decide (wr x = wr 0))) = false := h
    have h1 : wr x = wr 0 := by
      cases hz : decide (wr x = wr 0) with
      | true => exact of_decide_eq_true hz
      | false => rw [hz] at h2; cases h2
    rw [wr_R hx, wr_R (show inR 0 by decide)] at h1
    exact h1
theorem at_cneW (hd : cdx m i = (11, (1, b))) (K1 : ¬ (wr x) = (wr y) → At X w m b ls st M Q) (K2 : (wr x) = (wr y) → At X w m (i + 1) ls st M Q) : At X w m i ls (vi y :: vi x :: st) M Q := by
  refine at_icmp hd (fun h => K1 ?_) (fun h => K2 ?_)
  · have h2 : (!(decide (wr x = wr y))) = true := h
    have h1 : ¬ wr x = wr y := fun e => by rw [decide_eq_true e] at h2; cases h2
    exact h1
  · have h2 : (!(decide (wr x = wr y))) = false := h
    have h1 : wr x = wr y := by
      cases hz : decide (wr x = wr y) with
      | true => exact of_decide_eq_true hz
      | false => rw [hz] at h2; cases h2
    exact h1
theorem at_zneW (hd : cdx m i = (10, (1, b))) (K1 : ¬ (wr x) = 0 → At X w m b ls st M Q) (K2 : (wr x) = 0 → At X w m (i + 1) ls st M Q) : At X w m i ls (vi x :: st) M Q := by
  refine at_if hd (fun h => K1 ?_) (fun h => K2 ?_)
  · have h2 : (!(decide (wr x = wr 0))) = true := h
    have h1 : ¬ wr x = wr 0 := fun e => by rw [decide_eq_true e] at h2; cases h2
    rw [wr_R (show inR 0 by decide)] at h1
    exact h1
  · have h2 : (!(decide (wr x = wr 0))) = false := h
    have h1 : wr x = wr 0 := by
      cases hz : decide (wr x = wr 0) with
      | true => exact of_decide_eq_true hz
      | false => rw [hz] at h2; cases h2
    rw [wr_R (show inR 0 by decide)] at h1
    exact h1
theorem at_cltR (hd : cdx m i = (11, (2, b))) (hx : inR x) (hy : inR y) (K1 : x < y → At X w m b ls st M Q) (K2 : x ≥ y → At X w m (i + 1) ls st M Q) : At X w m i ls (vi y :: vi x :: st) M Q := by
  refine at_icmp hd (fun h => K1 ?_) (fun h => K2 ?_)
  · have h1 : wr x < wr y := of_decide_eq_true h
    rw [wr_R hx, wr_R hy] at h1
    exact h1
  · have h1 : wr y ≤ wr x := Int.not_lt.mp (of_decide_eq_false h)
    rw [wr_R hx, wr_R hy] at h1
    exact h1
theorem at_zltR (hd : cdx m i = (10, (2, b))) (hx : inR x) (K1 : x < 0 → At X w m b ls st M Q) (K2 : x ≥ 0 → At X w m (i + 1) ls st M Q) : At X w m i ls (vi x :: st) M Q := by
  refine at_if hd (fun h => K1 ?_) (fun h => K2 ?_)
  · have h1 : wr x < wr 0 := of_decide_eq_true h
    rw [wr_R hx, wr_R (show inR 0 by decide)] at h1
    exact h1
  · have h1 : wr 0 ≤ wr x := Int.not_lt.mp (of_decide_eq_false h)
    rw [wr_R hx, wr_R (show inR 0 by decide)] at h1
    exact h1
theorem at_cltW (hd : cdx m i = (11, (2, b))) (K1 : (wr x) < (wr y) → At X w m b ls st M Q) (K2 : (wr x) ≥ (wr y) → At X w m (i + 1) ls st M Q) : At X w m i ls (vi y :: vi x :: st) M Q := by
  refine at_icmp hd (fun h => K1 ?_) (fun h => K2 ?_)
  · have h1 : wr x < wr y := of_decide_eq_true h
    exact h1
  · have h1 : wr y ≤ wr x := Int.not_lt.mp (of_decide_eq_false h)
    exact h1
theorem at_zltW (hd : cdx m i = (10, (2, b))) (K1 : (wr x) < 0 → At X w m b ls st M Q) (K2 : (wr x) ≥ 0 → At X w m (i + 1) ls st M Q) : At X w m i ls (vi x :: st) M Q := by
  refine at_if hd (fun h => K1 ?_) (fun h => K2 ?_)
  · have h1 : wr x < wr 0 := of_decide_eq_true h
    rw [wr_R (show inR 0 by decide)] at h1
    exact h1
  · have h1 : wr 0 ≤ wr x := Int.not_lt.mp (of_decide_eq_false h)
    rw [wr_R (show inR 0 by decide)] at h1
    exact h1
theorem at_cgeR (hd : cdx m i = (11, (3, b))) (hx : inR x) (hy : inR y) (K1 : x ≥ y → At X w m b ls st M Q) (K2 : x < y → At X w m (i + 1) ls st M Q) : At X w m i ls (vi y :: vi x :: st) M Q := by
  refine at_icmp hd (fun h => K1 ?_) (fun h => K2 ?_)
  · have h1 : wr y ≤ wr x := of_decide_eq_true h
    rw [wr_R hx, wr_R hy] at h1
    exact h1
  · have h1 : wr x < wr y := Int.not_le.mp (of_decide_eq_false h)
    rw [wr_R hx, wr_R hy] at h1
    exact h1
theorem at_zgeR (hd : cdx m i = (10, (3, b))) (hx : inR x) (K1 : x ≥ 0 → At X w m b ls st M Q) (K2 : x < 0 → At X w m (i + 1) ls st M Q) : At X w m i ls (vi x :: st) M Q := by
  refine at_if hd (fun h => K1 ?_) (fun h => K2 ?_)
  · have h1 : wr 0 ≤ wr x := of_decide_eq_true h
    rw [wr_R hx, wr_R (show inR 0 by decide)] at h1
    exact h1
  · have h1 : wr x < wr 0 := Int.not_le.mp (of_decide_eq_false h)
    rw [wr_R hx, wr_R (show inR 0 by decide)] at h1
    exact h1
theorem at_cgeW (hd : cdx m i = (11, (3, b))) (K1 : (wr x) ≥ (wr y) → At X w m b ls st M Q) (K2 : (wr x) < (wr y) → At X w m (i + 1) ls st M Q) : At X w m i ls (vi y :: vi x :: st) M Q := by
  refine at_icmp hd (fun h => K1 ?_) (fun h => K2 ?_)
  · have h1 : wr y ≤ wr x := of_decide_eq_true h
    exact h1
  · have h1 : wr x < wr y := Int.not_le.mp (of_decide_eq_false h)
    exact h1
theorem at_zgeW (hd : cdx m i = (10, (3, b))) (K1 : (wr x) ≥ 0 → At X w m b ls st M Q) (K2 : (wr x) < 0 → At X w m (i + 1) ls st M Q) : At X w m i ls (vi x :: st) M Q := by
  refine at_if hd (fun h => K1 ?_) (fun h => K2 ?_)
  · have h1 : wr 0 ≤ wr x := of_decide_eq_true h
    rw [wr_R (show inR 0 by decide)] at h1
    exact h1
  · have h1 : wr x < wr 0 := Int.not_le.mp (of_decide_eq_false h)
    rw [wr_R (show inR 0 by decide)] at h1
    exact h1
theorem at_cgtR (hd : cdx m i = (11, (4, b))) (hx : inR x) (hy : inR y) (K1 : x > y → At X w m b ls st M Q) (K2 : x ≤ y → At X w m (i + 1) ls st M Q) : At X w m i ls (vi y :: vi x :: st) M Q := by
  refine at_icmp hd (fun h => K1 ?_) (fun h => K2 ?_)
  · have h1 : wr y < wr x := of_decide_eq_true h
    rw [wr_R hx, wr_R hy] at h1
    exact h1
  · have h1 : wr x ≤ wr y := Int.not_lt.mp (of_decide_eq_false h)
    rw [wr_R hx, wr_R hy] at h1
    exact h1
theorem at_zgtR (hd : cdx m i = (10, (4, b))) (hx : inR x) (K1 : x > 0 → At X w m b ls st M Q) (K2 : x ≤ 0 → At X w m (i + 1) ls st M Q) : At X w m i ls (vi x :: st) M Q := by
  refine at_if hd (fun h => K1 ?_) (fun h => K2 ?_)
  · have h1 : wr 0 < wr x := of_decide_eq_true h
    rw [wr_R hx, wr_R (show inR 0 by decide)] at h1
    exact h1
  · have h1 : wr x ≤ wr 0 := Int.not_lt.mp (of_decide_eq_false h)
    rw [wr_R hx, wr_R (show inR 0 by decide)] at h1
    exact h1
theorem at_cgtW (hd : cdx m i = (11, (4, b))) (K1 : (wr x) > (wr y) → At X w m b ls st M Q) (K2 : (wr x) ≤ (wr y) → At X w m (i + 1) ls st M Q) : At X w m i ls (vi y :: vi x :: st) M Q := by
  refine at_icmp hd (fun h => K1 ?_) (fun h => K2 ?_)
  · have h1 : wr y < wr x := of_decide_eq_true h
    exact h1
  · have h1 : wr x ≤ wr y := Int.not_lt.mp (of_decide_eq_false h)
    exact h1
theorem at_zgtW (hd : cdx m i = (10, (4, b))) (K1 : (wr x) > 0 → At X w m b ls st M Q) (K2 : (wr x) ≤ 0 → At X w m (i + 1) ls st M Q) : At X w m i ls (vi x :: st) M Q := by
  refine at_if hd (fun h => K1 ?_) (fun h => K2 ?_)
  · have h1 : wr 0 < wr x := of_decide_eq_true h
    rw [wr_R (show inR 0 by decide)] at h1
    exact h1
  · have h1 : wr x ≤ wr 0 := Int.not_lt.mp (of_decide_eq_false h)
    rw [wr_R (show inR 0 by decide)] at h1
    exact h1
theorem at_cleR (hd : cdx m i = (11, (5, b))) (hx : inR x) (hy : inR y) (K1 : x ≤ y → At X w m b ls st M Q) (K2 : x > y → At X w m (i + 1) ls st M Q) : At X w m i ls (vi y :: vi x :: st) M Q := by
  refine at_icmp hd (fun h => K1 ?_) (fun h => K2 ?_)
  · have h1 : wr x ≤ wr y := of_decide_eq_true h
    rw [wr_R hx, wr_R hy] at h1
    exact h1
  · have h1 : wr y < wr x := Int.not_le.mp (of_decide_eq_false h)
    rw [wr_R hx, wr_R hy] at h1
    exact h1
theorem at_zleR (hd : cdx m i = (10, (5, b))) (hx : inR x) (K1 : x ≤ 0 → At X w m b ls st M Q) (K2 : x > 0 → At X w m (i + 1) ls st M Q) : At X w m i ls (vi x :: st) M Q := by
  refine at_if hd (fun h => K1 ?_) (fun h => K2 ?_)
  · have h1 : wr x ≤ wr 0 := of_decide_eq_true h
    rw [wr_R hx, wr_R (show inR 0 by decide)] at h1
    exact h1
  · have h1 : wr 0 < wr x := Int.not_le.mp (of_decide_eq_false h)
    rw [wr_R hx, wr_R (show inR 0 by decide)] at h1
    exact h1
theorem at_cleW (hd : cdx m i = (11, (5, b))) (K1 : (wr x) ≤ (wr y) → At X w m b ls st M Q) (K2 : (wr x) > (wr y) → At X w m (i + 1) ls st M Q) : At X w m i ls (vi y :: vi x :: st) M Q := by
  refine at_icmp hd (fun h => K1 ?_) (fun h => K2 ?_)
  · have h1 : wr x ≤ wr y := of_decide_eq_true h
    exact h1
  · have h1 : wr y < wr x := Int.not_le.mp (of_decide_eq_false h)
    exact h1
theorem at_zleW (hd : cdx m i = (10, (5, b))) (K1 : (wr x) ≤ 0 → At X w m b ls st M Q) (K2 : (wr x) > 0 → At X w m (i + 1) ls st M Q) : At X w m i ls (vi x :: st) M Q := by
  refine at_if hd (fun h => K1 ?_) (fun h => K2 ?_)
  · have h1 : wr x ≤ wr 0 := of_decide_eq_true h
    rw [wr_R (show inR 0 by decide)] at h1
    exact h1
  · have h1 : wr 0 < wr x := Int.not_le.mp (of_decide_eq_false h)
    rw [wr_R (show inR 0 by decide)] at h1
    exact h1
theorem at_nullY (hd : cdx m i = (31, (a, b))) (K : At X w m b ls st M Q) : At X w m i ls (none :: st) M Q := fun lx h hl hM =>
  ou_next hd (by decide) (fun call go c => rfl) rfl rfl (K lx h hl hM)
theorem at_nullN (hd : cdx m i = (31, (a, b))) (K : At X w m (i + 1) ls st M Q) : At X w m i ls (vr k :: st) M Q := fun lx h hl hM =>
  ou_next hd (by decide) (fun call go c => rfl) rfl rfl (K lx h hl hM)
theorem at_max (hd : cdx m i = (34, (a, b))) (hs : Nat.ble (sx_sw st) 8 = true) (K1 : wr x < wr y → At X w m (i + 1) ls (vi y :: st) M Q) (K2 : wr y ≤ wr x → At X w m (i + 1) ls (vi x :: st) M Q) : At X w m i ls (vi y :: vi x :: st) M Q := fun lx h hl hM => by
  by_cases ht : wr x < wr y
  · exact ou_next hd (by decide) (fun call go c => by
      show sh_max (oI X) go _ lx (vi y :: vi x :: st) h = _
      unfold sh_max
      show cond (Nat.ble (sx_sw st) 8) (match some (decide (wr x < wr y)) with
        | some true => go _ lx (vi y :: st) h
        | some false => go _ lx (vi x :: st) h
        | none => none) none = _
      rw [hs, decide_eq_true ht]
      rfl) rfl rfl (K1 ht lx h hl hM)
  · exact ou_next hd (by decide) (fun call go c => by
      show sh_max (oI X) go _ lx (vi y :: vi x :: st) h = _
      unfold sh_max
      show cond (Nat.ble (sx_sw st) 8) (match some (decide (wr x < wr y)) with
        | some true => go _ lx (vi y :: st) h
        | some false => go _ lx (vi x :: st) h
        | none => none) none = _
      rw [hs, decide_eq_false ht]
      rfl) rfl rfl (K2 (Int.not_lt.mp ht) lx h hl hM)
theorem at_min (hd : cdx m i = (35, (a, b))) (hs : Nat.ble (sx_sw st) 8 = true) (K1 : wr x < wr y → At X w m (i + 1) ls (vi x :: st) M Q) (K2 : wr y ≤ wr x → At X w m (i + 1) ls (vi y :: st) M Q) : At X w m i ls (vi y :: vi x :: st) M Q := fun lx h hl hM => by
  by_cases ht : wr x < wr y
  · exact ou_next hd (by decide) (fun call go c => by
      show sh_min (oI X) go _ lx (vi y :: vi x :: st) h = _
      unfold sh_min
      show cond (Nat.ble (sx_sw st) 8) (match some (decide (wr x < wr y)) with
        | some true => go _ lx (vi x :: st) h
        | some false => go _ lx (vi y :: st) h
        | none => none) none = _
      rw [hs, decide_eq_true ht]
      rfl) rfl rfl (K1 ht lx h hl hM)
  · exact ou_next hd (by decide) (fun call go c => by
      show sh_min (oI X) go _ lx (vi y :: vi x :: st) h = _
      unfold sh_min
      show cond (Nat.ble (sx_sw st) 8) (match some (decide (wr x < wr y)) with
        | some true => go _ lx (vi x :: st) h
        | some false => go _ lx (vi y :: st) h
        | none => none) none = _
      rw [hs, decide_eq_false ht]
      rfl) rfl rfl (K2 (Int.not_lt.mp ht) lx h hl hM)
theorem at_bits (K : (∀ (k j : Nat), ly_k (ly_c k) j = 1 → M k j = 0 ∨ M k j = 1) → At X w m i ls st M Q) : At X w m i ls st M Q := fun lx h hl hM => K hM.2.2.1 lx h hl hM
/-! ===== ends ===== -/
theorem at_ireturn (hd : cdx m i = (7, (a, b))) (hq : Q 1 (vi x) M) : At X w m i ls [vi x] M Q := fun lx h hl hM =>
  ou_ret (out := ((1, vi x), h)) hd (by decide) (fun call go c => rfl) hM (Nat.le_add_right _ _) (Nat.le_add_right _ _) hq
theorem at_zreturn (hd : cdx m i = (19, (a, b))) (hx : x = 0 ∨ x = 1) (hq : Q 1 (vi x) M) : At X w m i ls [vi x] M Q := fun lx h hl hM =>
  ou_ret (out := ((1, vi x), h)) hd (by decide) (fun call go c => by rcases hx with rfl | rfl <;> rfl) hM (Nat.le_add_right _ _) (Nat.le_add_right _ _) hq
theorem at_vreturn (hd : cdx m i = (17, (a, b))) (hq : Q 0 none M) : At X w m i ls [] M Q := fun lx h hl hM =>
  ou_ret (out := ((0, none), h)) hd (by decide) (fun call go c => rfl) hM (Nat.le_add_right _ _) (Nat.le_add_right _ _) hq
theorem at_areturn (hd : cdx m i = (33, (a, b))) (hq : Q 1 (vr k) M) : At X w m i ls [vr k] M Q := fun lx h hl hM =>
  ou_ret (out := ((1, vr k), h)) hd (by decide) (fun call go c => rfl) hM (Nat.le_add_right _ _) (Nat.le_add_right _ _) hq
theorem hp_R_hx {h : sx_H Int} (hM : hp_R M h) : hp_R M (sx_hx h) := hM
theorem at_throw (hd : cdx m i = (25, (a, b))) (hs : Nat.ble (sx_sw st) 8 = true) (hq : Q (a + 2) none M) : At X w m i ls st M Q := fun lx h hl hM =>
  ou_ret (out := ((a + 2, none), sx_hx h)) hd (by decide) (fun call go c => by
    show sh_throw a st h = _
    unfold sh_throw
    rw [hs]
    rfl) hM (by show h.2.2.1 + 1 ≤ h.2.2.1 + (w + 1); omega) (by show h.2.2.2.1 + 6 ≤ h.2.2.2.1 + 6 * (w + 1); omega) hq
theorem at_throwW (hd : cdx m i = (42, (a, b))) (hs : Nat.ble (sx_sw st) 8 = true) (hq : Q (a + 2) none M) : At X w m i ls st M Q := fun lx h hl hM =>
  ou_ret (out := ((a + 2, none), sx_hx h)) hd (by decide) (fun call go c => by
    show sh_throw a st h = _
    unfold sh_throw
    rw [hs]
    rfl) hM (by show h.2.2.1 + 1 ≤ h.2.2.1 + (w + 1); omega) (by show h.2.2.2.1 + 6 ≤ h.2.2.2.1 + 6 * (w + 1); omega) hq
end RU
end
section
/-! ===== fields, arrays, calls ===== -/
section ME
variable {X : scr} {w m i q a b c n : Nat} {ls r : List (sx_V Int)} {st : List (sx_V Int)} {M : mem} {Q : Nat → sx_V Int → mem → Prop} {x y : Int} {k : Nat}
theorem hp_obj {h : sx_H Int} (hM : hp_R M h) (hk : ly_c k = c) (hc : c ≤ 7) (hb : b < (sx_nff c).length) : ∃ fs, sx_hg h k = some (.inl (c, fs)) ∧ fs[b]? = some (ly_v k b (M k b)) ∧ fs = (List.range (ly_n k)).map (fun j : Nat => ly_v k j (M k j)) := by
  subst hk
  refine ⟨_, hM.1 k hc, ?_, rfl⟩
  rw [List.getElem?_map, List.getElem?_range (by rw [ly_n7 hc]; exact hb)]
  rfl
theorem ly_vI {j : Int} (h : ly_k (ly_c k) j.toNat ≤ 1) : ly_v k j x = vi x := by
  unfold ly_v
  rcases (show ly_k (ly_c k) j.toNat = 0 ∨ ly_k (ly_c k) j.toNat = 1 by omega) with h | h <;> rw [h] <;> rfl
theorem ly_vR {j : Int} (h : ly_k (ly_c k) j.toNat = 2) : ly_v k j x = vr (ly_t k j) := by
  unfold ly_v
  rw [h]
  rfl
theorem ly_vL {j : Int} (h : ly_k (ly_c k) j.toNat = 3) : ly_v k j x = vl x := by
  unfold ly_v
  rw [h]
  rfl
theorem ly_vS {j : Int} (h : ly_k (ly_c k) j.toNat = 4) : ly_v k j x = cond (decide (x < 0)) none (vr x.toNat) := by
  unfold ly_v
  rw [h]
  rfl
theorem at_getI (bi : Int) (hd : cdx m i = (1, (c, b))) (hk : ly_c k = c) (hf : (Nat.ble c 7 && (Nat.ble (b + 1) (sx_nff c).length && Nat.ble (ly_k c b) 1)) = true) (hb : (b : Int) = bi) (K : At X w m (i + 1) ls (vi (M k bi) :: st) M Q) : At X w m i ls (vr k :: st) M Q := fun lx h hl hM => by
  obtain ⟨h1, h2⟩ := sx_a2 hf
  obtain ⟨h2, h3⟩ := sx_a2 h2
  have hc := Nat.le_of_ble_eq_true h1
  obtain ⟨fs, e1, e2, -⟩ := hp_obj (b := b) hM hk hc (Nat.le_of_ble_eq_true h2)
  rw [ly_vI (by subst hk; exact Nat.le_of_ble_eq_true h3), hb] at e2
  exact ou_next hd (by decide) (fun call go c9 => by
    show sh_get go c b _ lx (vr k :: st) h = _
    unfold sh_get
    have e9 : Nat.beq c (Nat.mod c 16) = true := by
      have e8 : Nat.mod c 16 = c := Nat.mod_eq_of_lt (by omega)
      rw [e8]
      exact Nat.beq_refl c
    simp only [e1, e2, e9, cond_true]) rfl rfl (K lx h hl hM)
theorem at_getR {t : Nat} (hd : cdx m i = (1, (c, b))) (hk : ly_c k = c) (hf : (Nat.ble c 7 && (Nat.ble (b + 1) (sx_nff c).length && Nat.beq (ly_k c b) 2)) = true) (ht : ly_t k b = t) (K : At X w m (i + 1) ls (vr t :: st) M Q) : At X w m i ls (vr k :: st) M Q := fun lx h hl hM => by
  obtain ⟨h1, h2⟩ := sx_a2 hf
  obtain ⟨h2, h3⟩ := sx_a2 h2
  have hc := Nat.le_of_ble_eq_true h1
  obtain ⟨fs, e1, e2, -⟩ := hp_obj (b := b) hM hk hc (Nat.le_of_ble_eq_true h2)
  rw [ly_vR (by subst hk; exact Nat.eq_of_beq_eq_true h3), ht] at e2
  exact ou_next hd (by decide) (fun call go c9 => by
    show sh_get go c b _ lx (vr k :: st) h = _
    unfold sh_get
    have e9 : Nat.beq c (Nat.mod c 16) = true := by
      have e8 : Nat.mod c 16 = c := Nat.mod_eq_of_lt (by omega)
      rw [e8]
      exact Nat.beq_refl c
    simp only [e1, e2, e9, cond_true]) rfl rfl (K lx h hl hM)
theorem hp_set_obj {h : sx_H Int} (hM : hp_R M h) (hk : ly_c k = c) (hc : c ≤ 7) (hb : b < (sx_nff c).length) (hf : ly_k c b ≤ 1) (hz : ly_k c b = 1 → x = 0 ∨ x = 1) {fs : List (sx_V Int)} (e1 : sx_hg h k = some (.inl (c, fs))) (e3 : fs = (List.range (ly_n k)).map (fun j : Nat => ly_v k j (M k j))) : hp_R (um M k b x) (sx_hs h k (.inl (c, fs.set b (vi x)))) := by
  subst hk
  refine ⟨fun k' h7 => ?_, fun k' h8 h13 => ?_, fun k' j hj => ?_, fun k' j hj h0 => ?_⟩
  · by_cases e : k' = k
    · subst e
      rw [sx_hg_hs _ e1, e3]
      congr 2
      congr 1
      apply List.ext_getElem?
      intro j
      by_cases hj : j = b
      · subst hj
        rw [List.getElem?_set_self (by simp [ly_n7 hc]; exact hb), List.getElem?_map, List.getElem?_range (by rw [ly_n7 hc]; exact hb)]
        show some (vi x) = some (ly_v k' j (um M k' j x k' j))
        rw [um_eq, ly_vI (j := (j : Int)) hf]
      · rw [List.getElem?_set_ne (fun e => hj e.symm), List.getElem?_map, List.getElem?_map]
        cases hr : (List.range (ly_n k'))[j]? with
        | none => rfl
        | some j' =>
          have hj' : j' = j := by
            obtain ⟨h1, h2⟩ := List.getElem?_eq_some_iff.mp hr
            rw [← h2]
            exact List.getElem_range _
          subst hj'
          show some (ly_v k' j' (M k' j')) = some (ly_v k' j' (um M k' b x k' j'))
          rw [um_j (by omega)]
    · rw [sx_hg_hs_ne _ e, hM.1 k' h7]
      congr 2
      congr 1
      apply List.map_congr_left
      intro j _
      rw [um_k e]
  · have e : k' ≠ k := fun e => by subst e; omega
    obtain ⟨tr, h1, h2⟩ := hM.2.1 k' h8 h13
    exact ⟨tr, by rw [sx_hg_hs_ne _ e, h1], fun j hj => by rw [h2 j hj, um_k e]⟩
  · by_cases e : k' = k
    · subst e
      by_cases e2 : j = b
      · subst e2
        rw [um_eq]
        exact hz hj
      · rw [um_j (by omega)]
        exact hM.2.2.1 k' j hj
    · rw [um_k e]
      exact hM.2.2.1 k' j hj
  · have e : k' ≠ k := fun e => by subst e; omega
    rw [um_k e] at h0 ⊢
    exact hM.2.2.2 k' j hj h0
theorem at_put9 {op : Nat} (ho : op = 12 ∨ op = 30) (bi : Int) (hd : cdx m i = (op, (a, b))) (hk : ly_c k = Nat.mod a 16) (hf : (Nat.ble (Nat.mod a 16) 7 && (Nat.ble (b + 1) (sx_nff (Nat.mod a 16)).length && (Nat.beq (ly_k (Nat.mod a 16) b) (Nat.div a 16) && Nat.ble (Nat.div a 16) 1))) = true) (hb : (b : Int) = bi) (hz : Nat.div a 16 = 1 → x = 0 ∨ x = 1) (K : At X w m (i + 1) ls st (um M k bi x) Q) : At X w m i ls (vi x :: vr k :: st) M Q := fun lx h hl hM => by
  obtain ⟨h1, h2⟩ := sx_a2 hf
  obtain ⟨h2, h3⟩ := sx_a2 h2
  obtain ⟨h3, h4⟩ := sx_a2 h3
  have hc := Nat.le_of_ble_eq_true h1
  have h5 := Nat.le_of_ble_eq_true h4
  have h6 := Nat.eq_of_beq_eq_true h3
  obtain ⟨fs, e1, e2, e3⟩ := hp_obj (b := b) hM hk hc (Nat.le_of_ble_eq_true h2)
  have hM2 := hp_set_obj (x := x) hM hk hc (Nat.le_of_ble_eq_true h2) (by omega) (fun e => hz (by omega)) e1 e3
  rw [hb] at hM2
  have hlen : Nat.ble (b + 1) fs.length = true := by
    rw [e3, List.length_map, List.length_range, ly_n7 (by rw [hk]; exact hc), hk]
    exact h2
  have hfit : sx_fit (oI X) (Nat.div a 16) (vi x) = true := by
    rcases (show Nat.div a 16 = 0 ∨ Nat.div a 16 = 1 by omega) with e | e
    · rw [e]; rfl
    · rw [e]
      rcases hz e with rfl | rfl <;> rfl
  have hmm : Nat.mod (Nat.mod a 16) 16 = Nat.mod a 16 := Nat.mod_mod a 16
  exact ou_next (h' := sx_hs h k (.inl (Nat.mod a 16, fs.set b (vi x)))) hd (by rcases ho with rfl | rfl <;> decide) (fun call go c9 => by
    have e9 : sh_put (oI X) go a b ((sx_cd m).drop (i + 1)) lx (vi x :: vr k :: st) h = go ((sx_cd m).drop (i + 1)) lx st (sx_hs h k (.inl (Nat.mod a 16, fs.set b (vi x)))) := by
      unfold sh_put
      simp only [e1, Nat.beq_refl, hlen, hfit, Bool.and_self, cond_true]
    rcases ho with rfl | rfl
    · exact e9
    · exact e9) rfl rfl (K lx _ hl hM2)
theorem at_putI (bi : Int) (hd : cdx m i = (12, (a, b))) (hk : ly_c k = Nat.mod a 16) (hf : (Nat.ble (Nat.mod a 16) 7 && (Nat.ble (b + 1) (sx_nff (Nat.mod a 16)).length && (Nat.beq (ly_k (Nat.mod a 16) b) (Nat.div a 16) && Nat.beq (Nat.div a 16) 0))) = true) (hb : (b : Int) = bi) (K : At X w m (i + 1) ls st (um M k bi x) Q) : At X w m i ls (vi x :: vr k :: st) M Q := by
  obtain ⟨h1, h2⟩ := sx_a2 hf
  obtain ⟨h2, h3⟩ := sx_a2 h2
  obtain ⟨h3, h4⟩ := sx_a2 h3
  have h5 := Nat.eq_of_beq_eq_true h4
  refine at_put9 (Or.inl rfl) bi hd hk ?_ hb (fun e => absurd (h5.symm.trans e) (by decide)) K
  rw [h1, h2, h3, h5]
  rfl
theorem at_putZ (bi : Int) (hd : cdx m i = (12, (a, b))) (hk : ly_c k = Nat.mod a 16) (hf : (Nat.ble (Nat.mod a 16) 7 && (Nat.ble (b + 1) (sx_nff (Nat.mod a 16)).length && (Nat.beq (ly_k (Nat.mod a 16) b) (Nat.div a 16) && Nat.ble (Nat.div a 16) 1))) = true) (hb : (b : Int) = bi) (hz : x = 0 ∨ x = 1) (K : At X w m (i + 1) ls st (um M k bi x) Q) : At X w m i ls (vi x :: vr k :: st) M Q :=
  at_put9 (Or.inl rfl) bi hd hk hf hb (fun _ => hz) K
/-! ===== arrays ===== -/
theorem wr_ix {N : Nat} (h0 : 0 ≤ x) (h1 : x < N) (hN : N ≤ 8192) : sx_ix (oI X) x N = some x.toNat := by
  unfold sx_ix
  have h2 : ii_val x = some x.toNat := ii_val_of (by rw [wr_eq (by omega) (by omega)]; omega)
  show (match ii_val x with
    | some k => cond (Nat.ble (k + 1) N && Nat.ble (k + 1) 8192) (some k) none
    | none => none) = _
  rw [h2]
  show cond (Nat.ble (x.toNat + 1) N && Nat.ble (x.toNat + 1) 8192) (some x.toNat) none = _
  rw [Nat.ble_eq_true_of_le (show x.toNat + 1 ≤ N by omega), Nat.ble_eq_true_of_le (show x.toNat + 1 ≤ 8192 by omega)]
  rfl
theorem hp_arr {h : sx_H Int} {N : Nat} (hM : hp_R M h) (hk : ly_c k = c) (hc : 8 ≤ c) (hc2 : c ≤ 13) (hn : ly_n k = N) (h0 : 0 ≤ x) (h1 : x < N) : ∃ tr, sx_hg h k = some (.inr (ly_a c, (N, tr))) ∧ sx_tg 13 tr x.toNat = some (ly_v k x (M k x)) ∧ ∀ j : Nat, j < N → sx_tg 13 tr j = some (ly_v k j (M k j)) := by
  subst hk
  subst hn
  obtain ⟨tr, e1, e2⟩ := hM.2.1 k hc hc2
  refine ⟨tr, e1, ?_, e2⟩
  have h3 := e2 x.toNat (by omega)
  rw [Int.toNat_of_nonneg h0] at h3
  exact h3
theorem at_ald9 {N : Nat} {v : sx_V Int} (hd : cdx m i = (6, (a, b))) (hk : ly_c k = c) (hc : 8 ≤ c) (hc2 : c ≤ 13) (ha : ly_a c = a) (hn : ly_n k = N) (h0 : 0 ≤ x) (h1 : x < N) (hv : ly_v k x (M k x) = v) (K : At X w m (i + 1) ls (v :: st) M Q) : At X w m i ls (vi x :: vr k :: st) M Q := fun lx h hl hM => by
  obtain ⟨tr, e1, e2, -⟩ := hp_arr hM hk hc hc2 hn h0 h1
  rw [hv] at e2
  have hN : N ≤ 8192 := by
    have := ly_n8 (k := k) (by omega) (by omega)
    omega
  subst ha
  exact ou_next hd (by decide) (fun call go c9 => by
    show sh_ald (oI X) go (ly_a c) _ lx (vi x :: vr k :: st) h = _
    unfold sh_ald
    simp only [e1, e2, Nat.beq_refl, cond_true, wr_ix h0 h1 hN]) rfl rfl (K lx h hl hM)
theorem at_aldI {N : Nat} (hd : cdx m i = (6, (0, b))) (hk : ly_c k = 8) (hn : ly_n k = N) (h0 : 0 ≤ x) (h1 : x < N) (K : At X w m (i + 1) ls (vi (M k x) :: st) M Q) : At X w m i ls (vi x :: vr k :: st) M Q :=
  at_ald9 hd hk (by decide) (by decide) rfl hn h0 h1 (ly_vI (by rw [hk]; exact Nat.zero_le _)) K
theorem at_aldZ {N : Nat} (hd : cdx m i = (6, (1, b))) (hk : ly_c k = 9) (hn : ly_n k = N) (h0 : 0 ≤ x) (h1 : x < N) (K : At X w m (i + 1) ls (vi (M k x) :: st) M Q) : At X w m i ls (vi x :: vr k :: st) M Q :=
  at_ald9 hd hk (by decide) (by decide) rfl hn h0 h1 (ly_vI (by rw [hk]; exact Nat.le_refl _)) K
theorem at_aldS {N : Nat} {t : Nat} (hd : cdx m i = (6, (3, b))) (hk : ly_c k = 11) (hn : ly_n k = N) (h0 : 0 ≤ x) (h1 : x < N) (ht : ly_t k x = t) (K : At X w m (i + 1) ls (vr t :: st) M Q) : At X w m i ls (vi x :: vr k :: st) M Q :=
  at_ald9 hd hk (by decide) (by decide) rfl hn h0 h1 (by rw [ly_vR (by rw [hk]; rfl), ht]) K
theorem at_aldC {N : Nat} {t : Nat} (hd : cdx m i = (6, (4, b))) (hk : ly_c k = 12) (hn : ly_n k = N) (h0 : 0 ≤ x) (h1 : x < N) (ht : ly_t k x = t) (K : At X w m (i + 1) ls (vr t :: st) M Q) : At X w m i ls (vi x :: vr k :: st) M Q :=
  at_ald9 hd hk (by decide) (by decide) rfl hn h0 h1 (by rw [ly_vR (by rw [hk]; rfl), ht]) K
theorem at_aldD {N : Nat} (hd : cdx m i = (6, (3, b))) (hk : ly_c k = 13) (hn : ly_n k = N) (h0 : 0 ≤ x) (h1 : x < N) (K1 : M k x < 0 → At X w m (i + 1) ls (none :: st) M Q) (K2 : 0 ≤ M k x → ly_c (M k x).toNat = 4 → At X w m (i + 1) ls (vr (M k x).toNat :: st) M Q) : At X w m i ls (vi x :: vr k :: st) M Q := by
  have hv : ly_v k x (M k x) = cond (decide (M k x < 0)) none (vr (M k x).toNat) := ly_vS (by rw [hk]; rfl)
  by_cases hx : M k x < 0
  · rw [decide_eq_true hx] at hv
    exact at_ald9 hd hk (by decide) (by decide) rfl hn h0 h1 hv (K1 hx)
  · rw [decide_eq_false hx] at hv
    intro lx h hl hM
    have h3 := hM.2.2.2 k x.toNat hk
    rw [Int.toNat_of_nonneg h0] at h3
    exact at_ald9 hd hk (by decide) (by decide) rfl hn h0 h1 hv (K2 (Int.not_lt.mp hx) (h3 (Int.not_lt.mp hx))) lx h hl hM
theorem hp_set_arr {h : sx_H Int} {N : Nat} {v : sx_V Int} {y : Int} (hM : hp_R M h) (hk : ly_c k = c) (hc : 8 ≤ c) (hc2 : c ≤ 13) (hn : ly_n k = N) (h0 : 0 ≤ x) (h1 : x < N) (hv : ly_v k x y = v) (hz : c = 9 → y = 0 ∨ y = 1) (hs : c = 13 → 0 ≤ y → ly_c y.toNat = 4) {tr : sx_T (sx_V Int) 13} (e1 : sx_hg h k = some (.inr (ly_a c, (N, tr)))) (e3 : ∀ j : Nat, j < N → sx_tg 13 tr j = some (ly_v k j (M k j))) : hp_R (um M k x y) (sx_hs h k (.inr (ly_a c, (N, sx_ts 13 tr x.toNat v)))) := by
  subst hk
  subst hn
  have hx : ((x.toNat : Nat) : Int) = x := Int.toNat_of_nonneg h0
  refine ⟨fun k' h7 => ?_, fun k' h8 h13 => ?_, fun k' j hj => ?_, fun k' j hj h0' => ?_⟩
  · have e : k' ≠ k := fun e => by subst e; omega
    rw [sx_hg_hs_ne _ e, hM.1 k' h7]
    congr 2
    congr 1
    apply List.map_congr_left
    intro j _
    rw [um_k e]
  · by_cases e : k' = k
    · subst e
      refine ⟨_, sx_hg_hs _ e1, fun j hj => ?_⟩
      by_cases e2 : j = x.toNat
      · subst e2
        rw [sx_tg_same 13 tr x.toNat _ v (e3 _ hj), hx, um_eq, hv]
      · rw [sx_tg_ne 13 tr x.toNat j v e2, e3 j hj, um_j (by omega)]
    · obtain ⟨tr', h1', h2'⟩ := hM.2.1 k' h8 h13
      exact ⟨tr', by rw [sx_hg_hs_ne _ e, h1'], fun j hj => by rw [h2' j hj, um_k e]⟩
  · by_cases e : k' = k
    · subst e
      by_cases e2 : (j : Int) = x
      · subst e2
        rw [um_eq]
        refine hz ?_
        rcases (show ly_c k' = 8 ∨ ly_c k' = 9 ∨ ly_c k' = 10 ∨ ly_c k' = 11 ∨ ly_c k' = 12 ∨ ly_c k' = 13 by omega) with e | e | e | e | e | e
        · rw [e] at hj; exact absurd (show (0 : Nat) = 1 from hj) (by decide)
        · exact e
        · rw [e] at hj; exact absurd (show (3 : Nat) = 1 from hj) (by decide)
        · rw [e] at hj; exact absurd (show (2 : Nat) = 1 from hj) (by decide)
        · rw [e] at hj; exact absurd (show (2 : Nat) = 1 from hj) (by decide)
        · rw [e] at hj; exact absurd (show (4 : Nat) = 1 from hj) (by decide)
      · rw [um_j e2]
        exact hM.2.2.1 k' j hj
    · rw [um_k e]
      exact hM.2.2.1 k' j hj
  · by_cases e : k' = k
    · subst e
      by_cases e2 : (j : Int) = x
      · subst e2
        rw [um_eq] at h0' ⊢
        exact hs hj h0'
      · rw [um_j e2] at h0' ⊢
        exact hM.2.2.2 k' j hj h0'
    · rw [um_k e] at h0' ⊢
      exact hM.2.2.2 k' j hj h0'
theorem at_ast9 {N : Nat} {v : sx_V Int} {y : Int} (hd : cdx m i = (15, (a, b))) (hk : ly_c k = c) (hc : 8 ≤ c) (hc2 : c ≤ 13) (ha : ly_a c = a) (hn : ly_n k = N) (h0 : 0 ≤ x) (h1 : x < N) (hv : ly_v k x y = v) (hz : c = 9 → y = 0 ∨ y = 1) (hs : c = 13 → 0 ≤ y → ly_c y.toNat = 4) (hfit : ∀ h : sx_H Int, hp_R M h → sx_afit (oI X) h a v = true) (K : At X w m (i + 1) ls st (um M k x y) Q) : At X w m i ls (v :: vi x :: vr k :: st) M Q := fun lx h hl hM => by
  obtain ⟨tr, e1, e2, e3⟩ := hp_arr hM hk hc hc2 hn h0 h1
  have hN : N ≤ 8192 := by
    have := ly_n8 (k := k) (by omega) (by omega)
    omega
  have hM2 := hp_set_arr hM hk hc hc2 hn h0 h1 hv hz hs e1 e3
  have hf := hfit h hM
  subst ha
  exact ou_next (h' := sx_hs h k (.inr (ly_a c, (N, sx_ts 13 tr x.toNat v)))) hd (by decide) (fun call go c9 => by
    show sh_ast (oI X) go (ly_a c) _ lx (v :: vi x :: vr k :: st) h = _
    unfold sh_ast
    simp only [e1, e2, Nat.beq_refl, hf, Bool.and_self, cond_true, wr_ix h0 h1 hN]) rfl rfl (K lx _ hl hM2)
theorem at_astI {N : Nat} (hd : cdx m i = (15, (0, b))) (hk : ly_c k = 8) (hn : ly_n k = N) (h0 : 0 ≤ x) (h1 : x < N) (K : At X w m (i + 1) ls st (um M k x y) Q) : At X w m i ls (vi y :: vi x :: vr k :: st) M Q :=
  at_ast9 hd hk (by decide) (by decide) rfl hn h0 h1 (ly_vI (by rw [hk]; exact Nat.zero_le _)) (fun e => absurd e (by decide)) (fun e => absurd e (by decide)) (fun _ _ => rfl) K
theorem at_astZ {N : Nat} (hd : cdx m i = (15, (1, b))) (hk : ly_c k = 9) (hn : ly_n k = N) (h0 : 0 ≤ x) (h1 : x < N) (hy : y = 0 ∨ y = 1) (K : At X w m (i + 1) ls st (um M k x y) Q) : At X w m i ls (vi y :: vi x :: vr k :: st) M Q :=
  at_ast9 hd hk (by decide) (by decide) rfl hn h0 h1 (ly_vI (by rw [hk]; exact Nat.le_refl _)) (fun _ => hy) (fun e => absurd e (by decide)) (fun _ _ => by rcases hy with rfl | rfl <;> rfl) K
theorem at_astL {N : Nat} (hd : cdx m i = (15, (2, b))) (hk : ly_c k = 10) (hn : ly_n k = N) (h0 : 0 ≤ x) (h1 : x < N) (K : At X w m (i + 1) ls st (um M k x y) Q) : At X w m i ls (vl y :: vi x :: vr k :: st) M Q :=
  at_ast9 hd hk (by decide) (by decide) rfl hn h0 h1 (ly_vL (by rw [hk]; rfl)) (fun e => absurd e (by decide)) (fun e => absurd e (by decide)) (fun _ _ => rfl) K
theorem at_astD {N t : Nat} (hd : cdx m i = (15, (3, b))) (hk : ly_c k = 13) (hn : ly_n k = N) (h0 : 0 ≤ x) (h1 : x < N) (ht : ly_c t = 4) (K : At X w m (i + 1) ls st (um M k x t) Q) : At X w m i ls (vr t :: vi x :: vr k :: st) M Q :=
  at_ast9 (y := (t : Int)) hd hk (by decide) (by decide) rfl hn h0 h1 (by
    rw [ly_vS (by rw [hk]; rfl), decide_eq_false (by omega)]
    rfl) (fun e => absurd e (by decide)) (fun _ _ => ht) (fun h hM => by
    have e1 := hM.1 t (by omega)
    rw [ht] at e1
    unfold sx_afit
    simp only [e1]
    rfl) K
theorem at_alen {N : Nat} (hd : cdx m i = (24, (a, b))) (hk : ly_c k = c) (hc : (Nat.ble 8 c && Nat.ble c 13) = true) (hn : ly_n k = N) (K : At X w m (i + 1) ls (vi (N : Int) :: st) M Q) : At X w m i ls (vr k :: st) M Q := fun lx h hl hM => by
  obtain ⟨h1, h2⟩ := sx_a2 hc
  have h8 := Nat.le_of_ble_eq_true h1
  have h13 := Nat.le_of_ble_eq_true h2
  subst hk
  subst hn
  obtain ⟨tr, e1, -⟩ := hM.2.1 k h8 h13
  have hN := ly_n8 h8 h13
  exact ou_next hd (by decide) (fun call go c9 => by
    show sh_alen (oI X) go ((sx_cd m).drop (i + 1)) lx (vr k :: st) h = _
    unfold sh_alen
    have e2 : ii_k (ly_n k) = (ly_n k : Int) := by
      unfold ii_k
      rw [Nat.ble_eq_true_of_le (show ly_n k ≤ 2147483647 by omega)]
      rfl
    simp only [e1]
    show go ((sx_cd m).drop (i + 1)) lx (vi (ii_k (ly_n k)) :: st) h = _
    rw [e2]) rfl rfl (K lx h hl hM)
/-! ===== calls ===== -/
noncomputable def qI (P : Int → mem → Prop) : Nat → sx_V Int → mem → Prop := fun t v M => t = 1 ∧ ∃ x, v = vi x ∧ P x M
noncomputable def qV (P : mem → Prop) : Nat → sx_V Int → mem → Prop := fun t v M => t = 0 ∧ v = none ∧ P M
noncomputable def qR (P : Nat → mem → Prop) : Nat → sx_V Int → mem → Prop := fun t v M => t = 1 ∧ ∃ k, v = vr k ∧ P k M
noncomputable def qT (Q : Nat → sx_V Int → mem → Prop) (E : Nat → mem → Prop) : Nat → sx_V Int → mem → Prop := fun t v M => Q t v M ∨ ∃ e, t = e + 2 ∧ v = none ∧ E e M
theorem at_call9 {as : List (sx_V Int)} {mid : Nat} {r : List (sx_V Int)} {Qc : Nat → sx_V Int → mem → Prop} (hd : cdx m i = (q, (a, b))) (hq : q ≠ 99) (hn : sx_n2 as = true)
    (h1 : ∀ h : sx_H Int, hp_R M h → ∀ (call : sx_K Int) (go : sx_G Int) (c : Nat) (lx : sx_L Int), sx_hd q (oI X) call go (sx_cd m) a b c ((sx_cd m).drop (i + 1)) lx st h = sx_bk go ((sx_cd m).drop (i + 1)) lx r (call mid as h))
    (C : At X 0 mid 0 as [] M Qc) (K0 : ∀ v M', Qc 0 v M' → At X w m (i + 1) ls r M' Q) (K1 : ∀ v M', Qc 1 v M' → At X w m (i + 1) ls (v :: r) M' Q) (K2 : ∀ e v M', Qc (e + 2) v M' → Q (e + 2) none M') : At X w m i ls st M Q := fun lx h hl hM => by
  obtain ⟨x, e1, rfl, rfl, rfl⟩ := cdx_ok hd hq
  obtain ⟨n0, out, c1, M1, c2, c3, c4, c5⟩ := C (sx_args 0 as) h (lsR_entry hn) hM
  obtain ⟨⟨t, v⟩, h'⟩ := out
  have hcall : ∀ n, n0 ≤ n → sx_ca sx_cd (sx_run sx_cd (oI X) n) mid as h = some ((t, v), h') := c1
  match t, hcall, c2, c3, c4, c5 with
  | 0, hcall, c2, c3, c4, c5 =>
    obtain ⟨n1, out, k1, M2, k2, k3, k4, k5⟩ := K0 v M1 c5 lx h' hl c2
    refine ⟨max n0 n1 + 1, out, fun n hn => ?_, M2, k2, ?_, ?_, k5⟩
    · obtain ⟨n, rfl⟩ : ∃ n', n = n' + 1 := ⟨n - 1, by omega⟩
      rw [e1, run_row, h1 h hM, hcall n (by omega)]
      exact k1 n (by omega)
    · have c3' : h'.2.2.1 ≤ h.2.2.1 + 0 := c3
      omega
    · have c4' : h'.2.2.2.1 ≤ h.2.2.2.1 + 0 := c4
      omega
  | 1, hcall, c2, c3, c4, c5 =>
    obtain ⟨n1, out, k1, M2, k2, k3, k4, k5⟩ := K1 v M1 c5 lx h' hl c2
    refine ⟨max n0 n1 + 1, out, fun n hn => ?_, M2, k2, ?_, ?_, k5⟩
    · obtain ⟨n, rfl⟩ : ∃ n', n = n' + 1 := ⟨n - 1, by omega⟩
      rw [e1, run_row, h1 h hM, hcall n (by omega)]
      exact k1 n (by omega)
    · have c3' : h'.2.2.1 ≤ h.2.2.1 + 0 := c3
      omega
    · have c4' : h'.2.2.2.1 ≤ h.2.2.2.1 + 0 := c4
      omega
  | e + 2, hcall, c2, c3, c4, c5 =>
    refine ⟨n0 + 1, ((e + 2, none), h'), fun n hn => ?_, M1, c2, ?_, ?_, K2 e v M1 c5⟩
    · obtain ⟨n, rfl⟩ : ∃ n', n = n' + 1 := ⟨n - 1, by omega⟩
      rw [e1, run_row, h1 h hM, hcall n (by omega)]
      rfl
    · have c3' : h'.2.2.1 ≤ h.2.2.1 + (0 + 1) := c3
      show h'.2.2.1 ≤ h.2.2.1 + (w + 1)
      omega
    · have c4' : h'.2.2.2.1 ≤ h.2.2.2.1 + 6 * (0 + 1) := c4
      show h'.2.2.2.1 ≤ h.2.2.2.1 + 6 * (w + 1)
      omega
theorem at_callS {as : List (sx_V Int)} {r : List (sx_V Int)} {Qc : Nat → sx_V Int → mem → Prop} (hd : cdx m i = (13, (a, b))) (hp : sx_pop (Nat.mod b 16) [] st = some (as, r)) (hs : (Nat.ble (sx_sw r) 8 && sx_n2 as) = true)
    (C : At X 0 a 0 as [] M Qc) (K0 : ∀ v M', Qc 0 v M' → At X w m (i + 1) ls r M' Q) (K1 : ∀ v M', Qc 1 v M' → At X w m (i + 1) ls (v :: r) M' Q) (K2 : ∀ e v M', Qc (e + 2) v M' → Q (e + 2) none M') : At X w m i ls st M Q :=
  at_call9 hd (by decide) (sx_a2 hs).2 (fun h _ call go c lx => by
    show sh_callS call go a b _ lx st h = _
    unfold sh_callS
    simp only [hp, hs, cond_true]) C K0 K1 K2
theorem at_callV {as : List (sx_V Int)} {r : List (sx_V Int)} {Qc : Nat → sx_V Int → mem → Prop} (hd : cdx m i = (4, (a, b))) (hp : sx_pop (Nat.mod b 16) [] st = some (as, vr k :: r)) (hk : ly_c k = Nat.div b 16) (hs : (Nat.ble (Nat.div b 16) 7 && (Nat.ble (sx_sw r) 8 && sx_n2 as)) = true)
    (C : At X 0 a 0 (vr k :: as) [] M Qc) (K0 : ∀ v M', Qc 0 v M' → At X w m (i + 1) ls r M' Q) (K1 : ∀ v M', Qc 1 v M' → At X w m (i + 1) ls (v :: r) M' Q) (K2 : ∀ e v M', Qc (e + 2) v M' → Q (e + 2) none M') : At X w m i ls st M Q :=
  at_call9 hd (by decide) (show sx_n2 (vr k :: as) = true from (sx_a2 (sx_a2 hs).2).2) (fun h hM call go c lx => by
    show sh_callV call go a b _ lx st h = _
    unfold sh_callV
    have e1 := hM.1 k (by rw [hk]; exact Nat.le_of_ble_eq_true (sx_a2 hs).1)
    rw [hk] at e1
    simp only [hp, e1, Nat.beq_refl, (sx_a2 hs).2, Bool.and_self, cond_true]) C K0 K1 K2
theorem q_no {P : Prop} {t u : Nat} (h : t = u) (hn : t ≠ u) : P := absurd h hn
theorem at_callSI {as : List (sx_V Int)} {r : List (sx_V Int)} {P : Int → mem → Prop} (hd : cdx m i = (13, (a, b))) (hp : sx_pop (Nat.mod b 16) [] st = some (as, r)) (hs : (Nat.ble (sx_sw r) 8 && sx_n2 as) = true) (C : At X 0 a 0 as [] M (qI P)) (K : ∀ x M', P x M' → At X w m (i + 1) ls (vi x :: r) M' Q) : At X w m i ls st M Q :=
  at_callS hd hp hs C (fun v M' h => absurd h.1 (by decide)) (fun v M' h => by obtain ⟨-, x, rfl, hx⟩ := h; exact K x M' hx) (fun e v M' h => absurd h.1 (by omega))
theorem at_callVI {as : List (sx_V Int)} {r : List (sx_V Int)} {P : Int → mem → Prop} (hd : cdx m i = (4, (a, b))) (hp : sx_pop (Nat.mod b 16) [] st = some (as, vr k :: r)) (hk : ly_c k = Nat.div b 16) (hs : (Nat.ble (Nat.div b 16) 7 && (Nat.ble (sx_sw r) 8 && sx_n2 as)) = true) (C : At X 0 a 0 (vr k :: as) [] M (qI P)) (K : ∀ x M', P x M' → At X w m (i + 1) ls (vi x :: r) M' Q) : At X w m i ls st M Q :=
  at_callV hd hp hk hs C (fun v M' h => absurd h.1 (by decide)) (fun v M' h => by obtain ⟨-, x, rfl, hx⟩ := h; exact K x M' hx) (fun e v M' h => absurd h.1 (by omega))
theorem at_callSV {as : List (sx_V Int)} {r : List (sx_V Int)} {P : mem → Prop} (hd : cdx m i = (13, (a, b))) (hp : sx_pop (Nat.mod b 16) [] st = some (as, r)) (hs : (Nat.ble (sx_sw r) 8 && sx_n2 as) = true) (C : At X 0 a 0 as [] M (qV P)) (K : ∀ M', P M' → At X w m (i + 1) ls r M' Q) : At X w m i ls st M Q :=
  at_callS hd hp hs C (fun v M' h => K M' h.2.2) (fun v M' h => absurd h.1 (by decide)) (fun e v M' h => absurd h.1 (by omega))
theorem at_callVV {as : List (sx_V Int)} {r : List (sx_V Int)} {P : mem → Prop} (hd : cdx m i = (4, (a, b))) (hp : sx_pop (Nat.mod b 16) [] st = some (as, vr k :: r)) (hk : ly_c k = Nat.div b 16) (hs : (Nat.ble (Nat.div b 16) 7 && (Nat.ble (sx_sw r) 8 && sx_n2 as)) = true) (C : At X 0 a 0 (vr k :: as) [] M (qV P)) (K : ∀ M', P M' → At X w m (i + 1) ls r M' Q) : At X w m i ls st M Q :=
  at_callV hd hp hk hs C (fun v M' h => K M' h.2.2) (fun v M' h => absurd h.1 (by decide)) (fun e v M' h => absurd h.1 (by omega))
theorem at_callVIT {as : List (sx_V Int)} {r : List (sx_V Int)} {P : Int → mem → Prop} {E : Nat → mem → Prop} (hd : cdx m i = (4, (a, b))) (hp : sx_pop (Nat.mod b 16) [] st = some (as, vr k :: r)) (hk : ly_c k = Nat.div b 16) (hs : (Nat.ble (Nat.div b 16) 7 && (Nat.ble (sx_sw r) 8 && sx_n2 as)) = true) (C : At X 0 a 0 (vr k :: as) [] M (qT (qI P) E)) (K : ∀ x M', P x M' → At X w m (i + 1) ls (vi x :: r) M' Q) (K2 : ∀ e M', E e M' → Q (e + 2) none M') : At X w m i ls st M Q :=
  at_callV hd hp hk hs C (fun v M' h => by rcases h with h | ⟨e, h, -⟩; exact absurd h.1 (by decide); omega) (fun v M' h => by rcases h with ⟨-, x, rfl, hx⟩ | ⟨e, h, -⟩; exact K x M' hx; omega) (fun e v M' h => by rcases h with ⟨h, -⟩ | ⟨e', h, -, h2⟩; omega; exact K2 e M' (by rw [show e = e' by omega]; exact h2))
theorem at_callVVT {as : List (sx_V Int)} {r : List (sx_V Int)} {P : mem → Prop} {E : Nat → mem → Prop} (hd : cdx m i = (4, (a, b))) (hp : sx_pop (Nat.mod b 16) [] st = some (as, vr k :: r)) (hk : ly_c k = Nat.div b 16) (hs : (Nat.ble (Nat.div b 16) 7 && (Nat.ble (sx_sw r) 8 && sx_n2 as)) = true) (C : At X 0 a 0 (vr k :: as) [] M (qT (qV P) E)) (K : ∀ M', P M' → At X w m (i + 1) ls r M' Q) (K2 : ∀ e M', E e M' → Q (e + 2) none M') : At X w m i ls st M Q :=
  at_callV hd hp hk hs C (fun v M' h => by rcases h with ⟨-, -, hx⟩ | ⟨e, h, -⟩; exact K M' hx; omega) (fun v M' h => by rcases h with ⟨h, -⟩ | ⟨e, h, -⟩; exact absurd h (by decide); omega) (fun e v M' h => by rcases h with ⟨h, -⟩ | ⟨e', h, -, h2⟩; omega; exact K2 e M' (by rw [show e = e' by omega]; exact h2))
theorem at_callVRT {as : List (sx_V Int)} {r : List (sx_V Int)} {P : Nat → mem → Prop} {E : Nat → mem → Prop} (hd : cdx m i = (4, (a, b))) (hp : sx_pop (Nat.mod b 16) [] st = some (as, vr k :: r)) (hk : ly_c k = Nat.div b 16) (hs : (Nat.ble (Nat.div b 16) 7 && (Nat.ble (sx_sw r) 8 && sx_n2 as)) = true) (C : At X 0 a 0 (vr k :: as) [] M (qT (qR P) E)) (K : ∀ t M', P t M' → At X w m (i + 1) ls (vr t :: r) M' Q) (K2 : ∀ e M', E e M' → Q (e + 2) none M') : At X w m i ls st M Q :=
  at_callV hd hp hk hs C (fun v M' h => by rcases h with h | ⟨e, h, -⟩; exact absurd h.1 (by decide); omega) (fun v M' h => by rcases h with ⟨-, x, rfl, hx⟩ | ⟨e, h, -⟩; exact K x M' hx; omega) (fun e v M' h => by rcases h with ⟨h, -⟩ | ⟨e', h, -, h2⟩; omega; exact K2 e M' (by rw [show e = e' by omega]; exact h2))
theorem at_callSVT {as : List (sx_V Int)} {r : List (sx_V Int)} {P : mem → Prop} {E : Nat → mem → Prop} (hd : cdx m i = (13, (a, b))) (hp : sx_pop (Nat.mod b 16) [] st = some (as, r)) (hs : (Nat.ble (sx_sw r) 8 && sx_n2 as) = true) (C : At X 0 a 0 as [] M (qT (qV P) E)) (K : ∀ M', P M' → At X w m (i + 1) ls r M' Q) (K2 : ∀ e M', E e M' → Q (e + 2) none M') : At X w m i ls st M Q :=
  at_callS hd hp hs C (fun v M' h => by rcases h with ⟨-, -, hx⟩ | ⟨e, h, -⟩; exact K M' hx; omega) (fun v M' h => by rcases h with ⟨h, -⟩ | ⟨e, h, -⟩; exact absurd h (by decide); omega) (fun e v M' h => by rcases h with ⟨h, -⟩ | ⟨e', h, -, h2⟩; omega; exact K2 e M' (by rw [show e = e' by omega]; exact h2))
theorem at_callNI {as : List (sx_V Int)} {r : List (sx_V Int)} {P : Int → mem → Prop} (hd : cdx m i = (41, (a, b))) (hp : sx_pop (Nat.mod b 16) [] st = some (as, r)) (hs : (Nat.ble (sx_sw r) 8 && sx_n2 as) = true) (C : At X 0 a 0 as [] M (qI P)) (K : ∀ x M', P x M' → At X w m (i + 1) ls (vi x :: r) M' Q) : At X w m i ls st M Q := fun lx h hl hM => by
  obtain ⟨x, e1, h41, rfl, rfl⟩ := cdx_ok hd (by decide)
  obtain ⟨n0, out, c1, M1, c2, c3, c4, c5⟩ := C (sx_args 0 as) h (lsR_entry (sx_a2 hs).2) hM
  obtain ⟨⟨t, v⟩, h'⟩ := out
  obtain ⟨ht, y, hv, hP⟩ := c5
  have ht : t = 1 := ht
  have hv : v = vi y := hv
  subst ht
  subst hv
  have hcall : ∀ n, n0 ≤ n → sx_ca sx_cd (sx_run sx_cd (oI X) n) (sx_xa x) as h = some ((1, vi y), h') := c1
  obtain ⟨n1, out, k1, M2, k2, k3, k4, k5⟩ := K y M1 hP lx h' hl c2
  refine ⟨max n0 n1 + 1, out, fun n hn => ?_, M2, k2, ?_, ?_, k5⟩
  · obtain ⟨n, rfl⟩ : ∃ n', n = n' + 1 := ⟨n - 1, by omega⟩
    rw [e1, run_row, h41]
    show sh_callN (sx_ca sx_cd (sx_run sx_cd (oI X) n)) _ (sx_xa x) (sx_xb x) _ lx st h = _
    unfold sh_callN
    simp only [hp, hs, cond_true, hcall n (by omega)]
    exact k1 n (by omega)
  · have c3' : h'.2.2.1 ≤ h.2.2.1 + 0 := c3
    omega
  · have c4' : h'.2.2.2.1 ≤ h.2.2.2.1 + 0 := c4
    omega
/-! ===== weaker ends ===== -/
theorem At.mono {Q2 : Nat → sx_V Int → mem → Prop} (A : At X w m i ls st M Q) (hQ : ∀ t v M', Q t v M' → Q2 t v M') : At X w m i ls st M Q2 := fun lx h hl hM => by
  obtain ⟨n0, out, c1, M1, c2, c3, c4, c5⟩ := A lx h hl hM
  exact ⟨n0, out, c1, M1, c2, c3, c4, hQ _ _ _ c5⟩
end ME
end
