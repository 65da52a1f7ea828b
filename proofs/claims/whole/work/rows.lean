section
-- ===== PART A: goes FIRST, ahead of the names: the tables' words, and 'selects' of the private methods out of them =====
/-- a private method of a class that the tables say can be made, by its rows of tables_1 -/
def lw_okq (q : MethodName × Nat) : Prop := (q.1.cls ≠ "java/lang/invoke/MethodHandle" ∧ q.1.cls ≠ "java/lang/invoke/VarHandle") ∧ Cond.instantiable q.1.cls q.2 ∈ tables_1 ∧ Cond.privateMethod q.1 ∈ tables_1 ∧ Cond.instanceMethod q.1 ∈ tables_1
theorem lw_p0 : lw_okq (⟨"NoughtSums$Division", "makeDivisor", "()V"⟩, 7) := ⟨⟨by decide +kernel, by decide +kernel⟩, List.mem_of_getElem? (i := 105) (by decide +kernel), List.mem_of_getElem? (i := 379) (by decide +kernel), List.mem_of_getElem? (i := 380) (by decide +kernel)⟩
theorem lw_p1 : lw_okq (⟨"NoughtSums$Division", "multiplyDivisor", "(II)V"⟩, 7) := ⟨⟨by decide +kernel, by decide +kernel⟩, List.mem_of_getElem? (i := 105) (by decide +kernel), List.mem_of_getElem? (i := 387) (by decide +kernel), List.mem_of_getElem? (i := 388) (by decide +kernel)⟩
theorem lw_p2 : lw_okq (⟨"NoughtSums$Division", "reduce", "()V"⟩, 7) := ⟨⟨by decide +kernel, by decide +kernel⟩, List.mem_of_getElem? (i := 105) (by decide +kernel), List.mem_of_getElem? (i := 403) (by decide +kernel), List.mem_of_getElem? (i := 404) (by decide +kernel)⟩
theorem lw_p3 : lw_okq (⟨"NoughtSums", "isNought", "(LNoughtSums$Row;)Z"⟩, 14) := ⟨⟨by decide +kernel, by decide +kernel⟩, List.mem_of_getElem? (i := 19) (by decide +kernel), List.mem_of_getElem? (i := 411) (by decide +kernel), List.mem_of_getElem? (i := 412) (by decide +kernel)⟩
theorem lw_p4 : lw_okq (⟨"NoughtSums$Division", "makePacked", "()V"⟩, 7) := ⟨⟨by decide +kernel, by decide +kernel⟩, List.mem_of_getElem? (i := 105) (by decide +kernel), List.mem_of_getElem? (i := 449) (by decide +kernel), List.mem_of_getElem? (i := 450) (by decide +kernel)⟩
theorem lw_p5 : lw_okq (⟨"NoughtSums$Parts", "note", "()V"⟩, 7) := ⟨⟨by decide +kernel, by decide +kernel⟩, List.mem_of_getElem? (i := 167) (by decide +kernel), List.mem_of_getElem? (i := 470) (by decide +kernel), List.mem_of_getElem? (i := 471) (by decide +kernel)⟩
theorem lw_p6 : lw_okq (⟨"NoughtSums$Parts", "becomeFirst", "()V"⟩, 7) := ⟨⟨by decide +kernel, by decide +kernel⟩, List.mem_of_getElem? (i := 167) (by decide +kernel), List.mem_of_getElem? (i := 474) (by decide +kernel), List.mem_of_getElem? (i := 475) (by decide +kernel)⟩
theorem lw_p7 : lw_okq (⟨"NoughtSums$Parts", "isAheadOfFirst", "()Z"⟩, 7) := ⟨⟨by decide +kernel, by decide +kernel⟩, List.mem_of_getElem? (i := 167) (by decide +kernel), List.mem_of_getElem? (i := 479) (by decide +kernel), List.mem_of_getElem? (i := 480) (by decide +kernel)⟩
theorem lw_p8 : lw_okq (⟨"NoughtSums", "loseFirstPart", "(LNoughtSums$Row;)Z"⟩, 14) := ⟨⟨by decide +kernel, by decide +kernel⟩, List.mem_of_getElem? (i := 19) (by decide +kernel), List.mem_of_getElem? (i := 495) (by decide +kernel), List.mem_of_getElem? (i := 496) (by decide +kernel)⟩
theorem lw_p9 : lw_okq (⟨"NoughtSums", "change", "(II)Z"⟩, 14) := ⟨⟨by decide +kernel, by decide +kernel⟩, List.mem_of_getElem? (i := 19) (by decide +kernel), List.mem_of_getElem? (i := 508) (by decide +kernel), List.mem_of_getElem? (i := 509) (by decide +kernel)⟩
theorem lw_p10 : lw_okq (⟨"NoughtSums", "firstOddLayer", "(LNoughtSums$Row;I)I"⟩, 14) := ⟨⟨by decide +kernel, by decide +kernel⟩, List.mem_of_getElem? (i := 19) (by decide +kernel), List.mem_of_getElem? (i := 593) (by decide +kernel), List.mem_of_getElem? (i := 594) (by decide +kernel)⟩
theorem lw_p11 : lw_okq (⟨"NoughtSums", "countWays", "()V"⟩, 14) := ⟨⟨by decide +kernel, by decide +kernel⟩, List.mem_of_getElem? (i := 19) (by decide +kernel), List.mem_of_getElem? (i := 605) (by decide +kernel), List.mem_of_getElem? (i := 606) (by decide +kernel)⟩
theorem lw_p12 : lw_okq (⟨"NoughtSums$BitRows", "splits", "(I)Z"⟩, 5) := ⟨⟨by decide +kernel, by decide +kernel⟩, List.mem_of_getElem? (i := 201) (by decide +kernel), List.mem_of_getElem? (i := 640) (by decide +kernel), List.mem_of_getElem? (i := 641) (by decide +kernel)⟩
theorem lw_p13 : lw_okq (⟨"NoughtSums$BitRows", "isLeastTurned", "(I)Z"⟩, 5) := ⟨⟨by decide +kernel, by decide +kernel⟩, List.mem_of_getElem? (i := 201) (by decide +kernel), List.mem_of_getElem? (i := 644) (by decide +kernel), List.mem_of_getElem? (i := 645) (by decide +kernel)⟩
theorem lw_p14 : lw_okq (⟨"NoughtSums$Tape", "number", "()I"⟩, 5) := ⟨⟨by decide +kernel, by decide +kernel⟩, List.mem_of_getElem? (i := 241) (by decide +kernel), List.mem_of_getElem? (i := 763) (by decide +kernel), List.mem_of_getElem? (i := 764) (by decide +kernel)⟩
theorem lw_p15 : lw_okq (⟨"NoughtSums$Tape", "figure", "()I"⟩, 5) := ⟨⟨by decide +kernel, by decide +kernel⟩, List.mem_of_getElem? (i := 241) (by decide +kernel), List.mem_of_getElem? (i := 767) (by decide +kernel), List.mem_of_getElem? (i := 768) (by decide +kernel)⟩
def lw_privs_1 : List (MethodName × Nat) := [(⟨"NoughtSums$Division", "makeDivisor", "()V"⟩, 7), (⟨"NoughtSums$Division", "multiplyDivisor", "(II)V"⟩, 7), (⟨"NoughtSums$Division", "reduce", "()V"⟩, 7), (⟨"NoughtSums", "isNought", "(LNoughtSums$Row;)Z"⟩, 14), (⟨"NoughtSums$Division", "makePacked", "()V"⟩, 7), (⟨"NoughtSums$Parts", "note", "()V"⟩, 7), (⟨"NoughtSums$Parts", "becomeFirst", "()V"⟩, 7), (⟨"NoughtSums$Parts", "isAheadOfFirst", "()Z"⟩, 7), (⟨"NoughtSums", "loseFirstPart", "(LNoughtSums$Row;)Z"⟩, 14), (⟨"NoughtSums", "change", "(II)Z"⟩, 14), (⟨"NoughtSums", "firstOddLayer", "(LNoughtSums$Row;I)I"⟩, 14), (⟨"NoughtSums", "countWays", "()V"⟩, 14), (⟨"NoughtSums$BitRows", "splits", "(I)Z"⟩, 5), (⟨"NoughtSums$BitRows", "isLeastTurned", "(I)Z"⟩, 5), (⟨"NoughtSums$Tape", "number", "()I"⟩, 5), (⟨"NoughtSums$Tape", "figure", "()I"⟩, 5)]
theorem lw_r1 : ∀ q ∈ lw_privs_1, lw_okq q := List.forall_mem_cons.mpr ⟨lw_p0, List.forall_mem_cons.mpr ⟨lw_p1, List.forall_mem_cons.mpr ⟨lw_p2, List.forall_mem_cons.mpr ⟨lw_p3, List.forall_mem_cons.mpr ⟨lw_p4, List.forall_mem_cons.mpr ⟨lw_p5, List.forall_mem_cons.mpr ⟨lw_p6, List.forall_mem_cons.mpr ⟨lw_p7, List.forall_mem_cons.mpr ⟨lw_p8, List.forall_mem_cons.mpr ⟨lw_p9, List.forall_mem_cons.mpr ⟨lw_p10, List.forall_mem_cons.mpr ⟨lw_p11, List.forall_mem_cons.mpr ⟨lw_p12, List.forall_mem_cons.mpr ⟨lw_p13, List.forall_mem_cons.mpr ⟨lw_p14, List.forall_mem_cons.mpr ⟨lw_p15, fun _ h => absurd h List.not_mem_nil⟩⟩⟩⟩⟩⟩⟩⟩⟩⟩⟩⟩⟩⟩⟩⟩
theorem lw_p16 : lw_okq (⟨"NoughtSums$Tape", "passes", "(C)Z"⟩, 5) := ⟨⟨by decide +kernel, by decide +kernel⟩, List.mem_of_getElem? (i := 241) (by decide +kernel), List.mem_of_getElem? (i := 771) (by decide +kernel), List.mem_of_getElem? (i := 772) (by decide +kernel)⟩
theorem lw_p17 : lw_okq (⟨"NoughtSums$Tape", "item", "()Z"⟩, 5) := ⟨⟨by decide +kernel, by decide +kernel⟩, List.mem_of_getElem? (i := 241) (by decide +kernel), List.mem_of_getElem? (i := 777) (by decide +kernel), List.mem_of_getElem? (i := 778) (by decide +kernel)⟩
theorem lw_p18 : lw_okq (⟨"NoughtSums$Spelling", "number", "(I)V"⟩, 2) := ⟨⟨by decide +kernel, by decide +kernel⟩, List.mem_of_getElem? (i := 268) (by decide +kernel), List.mem_of_getElem? (i := 794) (by decide +kernel), List.mem_of_getElem? (i := 795) (by decide +kernel)⟩
theorem lw_p19 : lw_okq (⟨"NoughtSums$Spelling", "append", "(I)V"⟩, 2) := ⟨⟨by decide +kernel, by decide +kernel⟩, List.mem_of_getElem? (i := 268) (by decide +kernel), List.mem_of_getElem? (i := 798) (by decide +kernel), List.mem_of_getElem? (i := 799) (by decide +kernel)⟩
theorem lw_p20 : lw_okq (⟨"NoughtSums$Spelling", "item", "(II)V"⟩, 2) := ⟨⟨by decide +kernel, by decide +kernel⟩, List.mem_of_getElem? (i := 268) (by decide +kernel), List.mem_of_getElem? (i := 802) (by decide +kernel), List.mem_of_getElem? (i := 803) (by decide +kernel)⟩
theorem lw_p21 : lw_okq (⟨"NoughtSums", "listsThere", "()I"⟩, 14) := ⟨⟨by decide +kernel, by decide +kernel⟩, List.mem_of_getElem? (i := 19) (by decide +kernel), List.mem_of_getElem? (i := 836) (by decide +kernel), List.mem_of_getElem? (i := 837) (by decide +kernel)⟩
theorem lw_p22 : lw_okq (⟨"NoughtSumsModel", "divides", "(II)V"⟩, 37) := ⟨⟨by decide +kernel, by decide +kernel⟩, List.mem_of_getElem? (i := 840) (by decide +kernel), List.mem_of_getElem? (i := 846) (by decide +kernel), List.mem_of_getElem? (i := 847) (by decide +kernel)⟩
theorem lw_p23 : lw_okq (⟨"NoughtSumsModel", "isRoot", "(I)Z"⟩, 37) := ⟨⟨by decide +kernel, by decide +kernel⟩, List.mem_of_getElem? (i := 840) (by decide +kernel), List.mem_of_getElem? (i := 976) (by decide +kernel), List.mem_of_getElem? (i := 977) (by decide +kernel)⟩
theorem lw_p24 : lw_okq (⟨"NoughtSumsModel", "divided", "([I)V"⟩, 37) := ⟨⟨by decide +kernel, by decide +kernel⟩, List.mem_of_getElem? (i := 840) (by decide +kernel), List.mem_of_getElem? (i := 1010) (by decide +kernel), List.mem_of_getElem? (i := 1011) (by decide +kernel)⟩
theorem lw_p25 : lw_okq (⟨"NoughtSumsModel", "isNought", "([I)Z"⟩, 37) := ⟨⟨by decide +kernel, by decide +kernel⟩, List.mem_of_getElem? (i := 840) (by decide +kernel), List.mem_of_getElem? (i := 1018) (by decide +kernel), List.mem_of_getElem? (i := 1019) (by decide +kernel)⟩
theorem lw_p26 : lw_okq (⟨"NoughtSumsModel", "isNothing", "()Z"⟩, 37) := ⟨⟨by decide +kernel, by decide +kernel⟩, List.mem_of_getElem? (i := 840) (by decide +kernel), List.mem_of_getElem? (i := 1022) (by decide +kernel), List.mem_of_getElem? (i := 1023) (by decide +kernel)⟩
theorem lw_p27 : lw_okq (⟨"NoughtSumsModel", "isDear", "()Z"⟩, 37) := ⟨⟨by decide +kernel, by decide +kernel⟩, List.mem_of_getElem? (i := 840) (by decide +kernel), List.mem_of_getElem? (i := 1030) (by decide +kernel), List.mem_of_getElem? (i := 1031) (by decide +kernel)⟩
theorem lw_p28 : lw_okq (⟨"NoughtSumsModel", "looksAtRow", "()V"⟩, 37) := ⟨⟨by decide +kernel, by decide +kernel⟩, List.mem_of_getElem? (i := 840) (by decide +kernel), List.mem_of_getElem? (i := 1035) (by decide +kernel), List.mem_of_getElem? (i := 1036) (by decide +kernel)⟩
theorem lw_p29 : lw_okq (⟨"NoughtSumsModel", "tellsLeaves", "()V"⟩, 37) := ⟨⟨by decide +kernel, by decide +kernel⟩, List.mem_of_getElem? (i := 840) (by decide +kernel), List.mem_of_getElem? (i := 1039) (by decide +kernel), List.mem_of_getElem? (i := 1040) (by decide +kernel)⟩
theorem lw_p30 : lw_okq (⟨"NoughtSumsModel", "looks", "()V"⟩, 37) := ⟨⟨by decide +kernel, by decide +kernel⟩, List.mem_of_getElem? (i := 840) (by decide +kernel), List.mem_of_getElem? (i := 1043) (by decide +kernel), List.mem_of_getElem? (i := 1044) (by decide +kernel)⟩
theorem lw_p31 : lw_okq (⟨"NoughtSumsModel", "goes", "(II)V"⟩, 37) := ⟨⟨by decide +kernel, by decide +kernel⟩, List.mem_of_getElem? (i := 840) (by decide +kernel), List.mem_of_getElem? (i := 1047) (by decide +kernel), List.mem_of_getElem? (i := 1048) (by decide +kernel)⟩
def lw_privs_2 : List (MethodName × Nat) := [(⟨"NoughtSums$Tape", "passes", "(C)Z"⟩, 5), (⟨"NoughtSums$Tape", "item", "()Z"⟩, 5), (⟨"NoughtSums$Spelling", "number", "(I)V"⟩, 2), (⟨"NoughtSums$Spelling", "append", "(I)V"⟩, 2), (⟨"NoughtSums$Spelling", "item", "(II)V"⟩, 2), (⟨"NoughtSums", "listsThere", "()I"⟩, 14), (⟨"NoughtSumsModel", "divides", "(II)V"⟩, 37), (⟨"NoughtSumsModel", "isRoot", "(I)Z"⟩, 37), (⟨"NoughtSumsModel", "divided", "([I)V"⟩, 37), (⟨"NoughtSumsModel", "isNought", "([I)Z"⟩, 37), (⟨"NoughtSumsModel", "isNothing", "()Z"⟩, 37), (⟨"NoughtSumsModel", "isDear", "()Z"⟩, 37), (⟨"NoughtSumsModel", "looksAtRow", "()V"⟩, 37), (⟨"NoughtSumsModel", "tellsLeaves", "()V"⟩, 37), (⟨"NoughtSumsModel", "looks", "()V"⟩, 37), (⟨"NoughtSumsModel", "goes", "(II)V"⟩, 37)]
theorem lw_r2 : ∀ q ∈ lw_privs_2, lw_okq q := List.forall_mem_cons.mpr ⟨lw_p16, List.forall_mem_cons.mpr ⟨lw_p17, List.forall_mem_cons.mpr ⟨lw_p18, List.forall_mem_cons.mpr ⟨lw_p19, List.forall_mem_cons.mpr ⟨lw_p20, List.forall_mem_cons.mpr ⟨lw_p21, List.forall_mem_cons.mpr ⟨lw_p22, List.forall_mem_cons.mpr ⟨lw_p23, List.forall_mem_cons.mpr ⟨lw_p24, List.forall_mem_cons.mpr ⟨lw_p25, List.forall_mem_cons.mpr ⟨lw_p26, List.forall_mem_cons.mpr ⟨lw_p27, List.forall_mem_cons.mpr ⟨lw_p28, List.forall_mem_cons.mpr ⟨lw_p29, List.forall_mem_cons.mpr ⟨lw_p30, List.forall_mem_cons.mpr ⟨lw_p31, fun _ h => absurd h List.not_mem_nil⟩⟩⟩⟩⟩⟩⟩⟩⟩⟩⟩⟩⟩⟩⟩⟩
theorem lw_p32 : lw_okq (⟨"NoughtSumsModel", "areNothing", "()Z"⟩, 37) := ⟨⟨by decide +kernel, by decide +kernel⟩, List.mem_of_getElem? (i := 840) (by decide +kernel), List.mem_of_getElem? (i := 1051) (by decide +kernel), List.mem_of_getElem? (i := 1052) (by decide +kernel)⟩
theorem lw_p33 : lw_okq (⟨"NoughtSumsModel", "adds", "(II)V"⟩, 37) := ⟨⟨by decide +kernel, by decide +kernel⟩, List.mem_of_getElem? (i := 840) (by decide +kernel), List.mem_of_getElem? (i := 1055) (by decide +kernel), List.mem_of_getElem? (i := 1056) (by decide +kernel)⟩
theorem lw_p34 : lw_okq (⟨"NoughtSumsModel", "changes", "(II)Z"⟩, 37) := ⟨⟨by decide +kernel, by decide +kernel⟩, List.mem_of_getElem? (i := 840) (by decide +kernel), List.mem_of_getElem? (i := 1079) (by decide +kernel), List.mem_of_getElem? (i := 1080) (by decide +kernel)⟩
theorem lw_p35 : lw_okq (⟨"NoughtSumsModel", "comesTo", "(III)I"⟩, 37) := ⟨⟨by decide +kernel, by decide +kernel⟩, List.mem_of_getElem? (i := 840) (by decide +kernel), List.mem_of_getElem? (i := 1083) (by decide +kernel), List.mem_of_getElem? (i := 1084) (by decide +kernel)⟩
theorem lw_p36 : lw_okq (⟨"NoughtSumsModel", "can", "(II)Z"⟩, 37) := ⟨⟨by decide +kernel, by decide +kernel⟩, List.mem_of_getElem? (i := 840) (by decide +kernel), List.mem_of_getElem? (i := 1092) (by decide +kernel), List.mem_of_getElem? (i := 1093) (by decide +kernel)⟩
theorem lw_p37 : lw_okq (⟨"NoughtSumsModel", "isPrime", "(I)Z"⟩, 37) := ⟨⟨by decide +kernel, by decide +kernel⟩, List.mem_of_getElem? (i := 840) (by decide +kernel), List.mem_of_getElem? (i := 1099) (by decide +kernel), List.mem_of_getElem? (i := 1100) (by decide +kernel)⟩
theorem lw_p38 : lw_okq (⟨"NoughtSumsModel", "stays", "(IZ)Z"⟩, 37) := ⟨⟨by decide +kernel, by decide +kernel⟩, List.mem_of_getElem? (i := 840) (by decide +kernel), List.mem_of_getElem? (i := 1115) (by decide +kernel), List.mem_of_getElem? (i := 1116) (by decide +kernel)⟩
theorem lw_p39 : lw_okq (⟨"NoughtSumsModel", "turned", "(II)I"⟩, 37) := ⟨⟨by decide +kernel, by decide +kernel⟩, List.mem_of_getElem? (i := 840) (by decide +kernel), List.mem_of_getElem? (i := 1119) (by decide +kernel), List.mem_of_getElem? (i := 1120) (by decide +kernel)⟩
theorem lw_p40 : lw_okq (⟨"NoughtSumsModel", "isAhead", "(II)Z"⟩, 37) := ⟨⟨by decide +kernel, by decide +kernel⟩, List.mem_of_getElem? (i := 840) (by decide +kernel), List.mem_of_getElem? (i := 1127) (by decide +kernel), List.mem_of_getElem? (i := 1128) (by decide +kernel)⟩
theorem lw_p41 : lw_okq (⟨"NoughtSumsModel", "tellsLayer", "(II)V"⟩, 37) := ⟨⟨by decide +kernel, by decide +kernel⟩, List.mem_of_getElem? (i := 840) (by decide +kernel), List.mem_of_getElem? (i := 1146) (by decide +kernel), List.mem_of_getElem? (i := 1147) (by decide +kernel)⟩
theorem lw_p42 : lw_okq (⟨"NoughtSumsModel", "unit", "(I)I"⟩, 37) := ⟨⟨by decide +kernel, by decide +kernel⟩, List.mem_of_getElem? (i := 840) (by decide +kernel), List.mem_of_getElem? (i := 1150) (by decide +kernel), List.mem_of_getElem? (i := 1151) (by decide +kernel)⟩
theorem lw_p43 : lw_okq (⟨"NoughtSumsModel", "tellsWays", "()V"⟩, 37) := ⟨⟨by decide +kernel, by decide +kernel⟩, List.mem_of_getElem? (i := 840) (by decide +kernel), List.mem_of_getElem? (i := 1163) (by decide +kernel), List.mem_of_getElem? (i := 1164) (by decide +kernel)⟩
theorem lw_p44 : lw_okq (⟨"NoughtSumsModel", "tellsSets", "()V"⟩, 37) := ⟨⟨by decide +kernel, by decide +kernel⟩, List.mem_of_getElem? (i := 840) (by decide +kernel), List.mem_of_getElem? (i := 1180) (by decide +kernel), List.mem_of_getElem? (i := 1181) (by decide +kernel)⟩
theorem lw_p45 : lw_okq (⟨"NoughtSumsModel", "isLeast", "(I)Z"⟩, 37) := ⟨⟨by decide +kernel, by decide +kernel⟩, List.mem_of_getElem? (i := 840) (by decide +kernel), List.mem_of_getElem? (i := 1185) (by decide +kernel), List.mem_of_getElem? (i := 1186) (by decide +kernel)⟩
theorem lw_p46 : lw_okq (⟨"NoughtSumsModel", "isPrimitive", "(I)Z"⟩, 37) := ⟨⟨by decide +kernel, by decide +kernel⟩, List.mem_of_getElem? (i := 840) (by decide +kernel), List.mem_of_getElem? (i := 1189) (by decide +kernel), List.mem_of_getElem? (i := 1190) (by decide +kernel)⟩
theorem lw_p47 : lw_okq (⟨"NoughtSumsModel", "isKept", "(II)Z"⟩, 37) := ⟨⟨by decide +kernel, by decide +kernel⟩, List.mem_of_getElem? (i := 840) (by decide +kernel), List.mem_of_getElem? (i := 1228) (by decide +kernel), List.mem_of_getElem? (i := 1229) (by decide +kernel)⟩
def lw_privs_3 : List (MethodName × Nat) := [(⟨"NoughtSumsModel", "areNothing", "()Z"⟩, 37), (⟨"NoughtSumsModel", "adds", "(II)V"⟩, 37), (⟨"NoughtSumsModel", "changes", "(II)Z"⟩, 37), (⟨"NoughtSumsModel", "comesTo", "(III)I"⟩, 37), (⟨"NoughtSumsModel", "can", "(II)Z"⟩, 37), (⟨"NoughtSumsModel", "isPrime", "(I)Z"⟩, 37), (⟨"NoughtSumsModel", "stays", "(IZ)Z"⟩, 37), (⟨"NoughtSumsModel", "turned", "(II)I"⟩, 37), (⟨"NoughtSumsModel", "isAhead", "(II)Z"⟩, 37), (⟨"NoughtSumsModel", "tellsLayer", "(II)V"⟩, 37), (⟨"NoughtSumsModel", "unit", "(I)I"⟩, 37), (⟨"NoughtSumsModel", "tellsWays", "()V"⟩, 37), (⟨"NoughtSumsModel", "tellsSets", "()V"⟩, 37), (⟨"NoughtSumsModel", "isLeast", "(I)Z"⟩, 37), (⟨"NoughtSumsModel", "isPrimitive", "(I)Z"⟩, 37), (⟨"NoughtSumsModel", "isKept", "(II)Z"⟩, 37)]
theorem lw_r3 : ∀ q ∈ lw_privs_3, lw_okq q := List.forall_mem_cons.mpr ⟨lw_p32, List.forall_mem_cons.mpr ⟨lw_p33, List.forall_mem_cons.mpr ⟨lw_p34, List.forall_mem_cons.mpr ⟨lw_p35, List.forall_mem_cons.mpr ⟨lw_p36, List.forall_mem_cons.mpr ⟨lw_p37, List.forall_mem_cons.mpr ⟨lw_p38, List.forall_mem_cons.mpr ⟨lw_p39, List.forall_mem_cons.mpr ⟨lw_p40, List.forall_mem_cons.mpr ⟨lw_p41, List.forall_mem_cons.mpr ⟨lw_p42, List.forall_mem_cons.mpr ⟨lw_p43, List.forall_mem_cons.mpr ⟨lw_p44, List.forall_mem_cons.mpr ⟨lw_p45, List.forall_mem_cons.mpr ⟨lw_p46, List.forall_mem_cons.mpr ⟨lw_p47, fun _ h => absurd h List.not_mem_nil⟩⟩⟩⟩⟩⟩⟩⟩⟩⟩⟩⟩⟩⟩⟩⟩
theorem lw_p48 : lw_okq (⟨"NoughtSumsModel", "copies", "(II)V"⟩, 37) := ⟨⟨by decide +kernel, by decide +kernel⟩, List.mem_of_getElem? (i := 840) (by decide +kernel), List.mem_of_getElem? (i := 1236) (by decide +kernel), List.mem_of_getElem? (i := 1237) (by decide +kernel)⟩
theorem lw_p49 : lw_okq (⟨"NoughtSumsModel", "weightAt", "(II)I"⟩, 37) := ⟨⟨by decide +kernel, by decide +kernel⟩, List.mem_of_getElem? (i := 840) (by decide +kernel), List.mem_of_getElem? (i := 1244) (by decide +kernel), List.mem_of_getElem? (i := 1245) (by decide +kernel)⟩
theorem lw_p50 : lw_okq (⟨"NoughtSumsModel", "readsNumber", "()I"⟩, 37) := ⟨⟨by decide +kernel, by decide +kernel⟩, List.mem_of_getElem? (i := 840) (by decide +kernel), List.mem_of_getElem? (i := 1286) (by decide +kernel), List.mem_of_getElem? (i := 1287) (by decide +kernel)⟩
theorem lw_p51 : lw_okq (⟨"NoughtSumsModel", "here", "()I"⟩, 37) := ⟨⟨by decide +kernel, by decide +kernel⟩, List.mem_of_getElem? (i := 840) (by decide +kernel), List.mem_of_getElem? (i := 1290) (by decide +kernel), List.mem_of_getElem? (i := 1291) (by decide +kernel)⟩
theorem lw_p52 : lw_okq (⟨"NoughtSumsModel", "readsItem", "(I)Z"⟩, 37) := ⟨⟨by decide +kernel, by decide +kernel⟩, List.mem_of_getElem? (i := 840) (by decide +kernel), List.mem_of_getElem? (i := 1296) (by decide +kernel), List.mem_of_getElem? (i := 1297) (by decide +kernel)⟩
theorem lw_p53 : lw_okq (⟨"NoughtSumsModel", "spellsNumber", "(I)V"⟩, 37) := ⟨⟨by decide +kernel, by decide +kernel⟩, List.mem_of_getElem? (i := 840) (by decide +kernel), List.mem_of_getElem? (i := 1305) (by decide +kernel), List.mem_of_getElem? (i := 1306) (by decide +kernel)⟩
theorem lw_p54 : lw_okq (⟨"NoughtSumsModel", "spells", "(I)V"⟩, 37) := ⟨⟨by decide +kernel, by decide +kernel⟩, List.mem_of_getElem? (i := 840) (by decide +kernel), List.mem_of_getElem? (i := 1309) (by decide +kernel), List.mem_of_getElem? (i := 1310) (by decide +kernel)⟩
theorem lw_p55 : lw_okq (⟨"NoughtSumsModel", "taken", "()I"⟩, 37) := ⟨⟨by decide +kernel, by decide +kernel⟩, List.mem_of_getElem? (i := 840) (by decide +kernel), List.mem_of_getElem? (i := 1328) (by decide +kernel), List.mem_of_getElem? (i := 1329) (by decide +kernel)⟩
def lw_privs_4 : List (MethodName × Nat) := [(⟨"NoughtSumsModel", "copies", "(II)V"⟩, 37), (⟨"NoughtSumsModel", "weightAt", "(II)I"⟩, 37), (⟨"NoughtSumsModel", "readsNumber", "()I"⟩, 37), (⟨"NoughtSumsModel", "here", "()I"⟩, 37), (⟨"NoughtSumsModel", "readsItem", "(I)Z"⟩, 37), (⟨"NoughtSumsModel", "spellsNumber", "(I)V"⟩, 37), (⟨"NoughtSumsModel", "spells", "(I)V"⟩, 37), (⟨"NoughtSumsModel", "taken", "()I"⟩, 37)]
theorem lw_r4 : ∀ q ∈ lw_privs_4, lw_okq q := List.forall_mem_cons.mpr ⟨lw_p48, List.forall_mem_cons.mpr ⟨lw_p49, List.forall_mem_cons.mpr ⟨lw_p50, List.forall_mem_cons.mpr ⟨lw_p51, List.forall_mem_cons.mpr ⟨lw_p52, List.forall_mem_cons.mpr ⟨lw_p53, List.forall_mem_cons.mpr ⟨lw_p54, List.forall_mem_cons.mpr ⟨lw_p55, fun _ h => absurd h List.not_mem_nil⟩⟩⟩⟩⟩⟩⟩⟩
def lw_privs : List (MethodName × Nat) := lw_privs_1 ++ (lw_privs_2 ++ (lw_privs_3 ++ (lw_privs_4)))
def lw_tbl : List Cond := k2_sels lw_privs ++ tables_1
theorem lw_privs_ok : ∀ q ∈ lw_privs, lw_okq q := by
  show ∀ q ∈ lw_privs_1 ++ (lw_privs_2 ++ (lw_privs_3 ++ (lw_privs_4))), lw_okq q
  exact List.forall_mem_append.mpr ⟨lw_r1, List.forall_mem_append.mpr ⟨lw_r2, List.forall_mem_append.mpr ⟨lw_r3, lw_r4⟩⟩⟩
end
section
def RX0 : String := "NoughtSums$BitRows"
def TX0 : u_T := fun k => match k with
  | 0 => ("NoughtSums$BitRows", "walk", "LNoughtSums$Walk;", true)
  | 1 => ("NoughtSums$BitRows", "ones", "[I", true)
  | 2 => ("NoughtSums$BitRows", "n", "I", false)
  | 3 => ("NoughtSums$BitRows", "rows", "[I", true)
  | _ => ("NoughtSums$BitRows", "size", "I", false)
def tyX0 : Nat → FieldType := fun k => match k with
  | 0 => .object "NoughtSums$Walk"
  | 1 => .array .int
  | 2 => .int
  | 3 => .array .int
  | _ => .int
theorem nmX0 : ∀ a, a < 5 → ∀ b, b < 5 → a ≠ b → (TX0 a).2.1 ≠ (TX0 b).2.1 := by decide +kernel
theorem tyX0_ok : ∀ k, k < 5 → parseFieldDescriptor (TX0 k).2.2.1 = some (tyX0 k) := by decide +kernel
abbrev cX0_init : ByteArray := prog_2_method_1_code
def yX0_init : MethodName := ⟨RX0, "<init>", "(LNoughtSums$Walk;)V"⟩
abbrev cX0_prepare : ByteArray := prog_2_method_2_code
def yX0_prepare : MethodName := ⟨RX0, "prepare", "(I)V"⟩
abbrev cX0_isListed : ByteArray := prog_2_method_3_code
def yX0_isListed : MethodName := ⟨RX0, "isListed", "(II)Z"⟩
abbrev cX0_splits : ByteArray := prog_2_method_4_code
def yX0_splits : MethodName := ⟨RX0, "splits", "(I)Z"⟩
abbrev cX0_isLeastTurned : ByteArray := prog_2_method_5_code
def yX0_isLeastTurned : MethodName := ⟨RX0, "isLeastTurned", "(I)Z"⟩
abbrev cX0_lightestWith : ByteArray := prog_2_method_6_code
def yX0_lightestWith : MethodName := ⟨RX0, "lightestWith", "(I)I"⟩
def RX1 : String := "NoughtSums$Division"
def TX1 : u_T := fun k => match k with
  | 0 => ("NoughtSums$Division", "n", "I", false)
  | 1 => ("NoughtSums$Division", "packedN", "I", false)
  | 2 => ("NoughtSums$Division", "words", "I", false)
  | 3 => ("NoughtSums$Division", "degree", "I", false)
  | 4 => ("NoughtSums$Division", "divisor", "[I", true)
  | 5 => ("NoughtSums$Division", "left", "[I", true)
  | _ => ("NoughtSums$Division", "packed", "[J", true)
def tyX1 : Nat → FieldType := fun k => match k with
  | 0 => .int
  | 1 => .int
  | 2 => .int
  | 3 => .int
  | 4 => .array .int
  | 5 => .array .int
  | _ => .array .long
theorem nmX1 : ∀ a, a < 7 → ∀ b, b < 7 → a ≠ b → (TX1 a).2.1 ≠ (TX1 b).2.1 := by decide +kernel
theorem tyX1_ok : ∀ k, k < 7 → parseFieldDescriptor (TX1 k).2.2.1 = some (tyX1 k) := by decide +kernel
abbrev cX1_init : ByteArray := prog_3_method_1_code
def yX1_init : MethodName := ⟨RX1, "<init>", "()V"⟩
abbrev cX1_prepare : ByteArray := prog_3_method_2_code
def yX1_prepare : MethodName := ⟨RX1, "prepare", "(I)V"⟩
abbrev cX1_preparePacked : ByteArray := prog_3_method_3_code
def yX1_preparePacked : MethodName := ⟨RX1, "preparePacked", "(I)V"⟩
abbrev cX1_makeDivisor : ByteArray := prog_3_method_4_code
def yX1_makeDivisor : MethodName := ⟨RX1, "makeDivisor", "()V"⟩
abbrev cX1_multiplyDivisor : ByteArray := prog_3_method_5_code
def yX1_multiplyDivisor : MethodName := ⟨RX1, "multiplyDivisor", "(II)V"⟩
abbrev cX1_moebius : ByteArray := prog_3_method_6_code
def yX1_moebius : MethodName := ⟨RX1, "moebius", "(I)I"⟩
abbrev cX1_makePacked : ByteArray := prog_3_method_7_code
def yX1_makePacked : MethodName := ⟨RX1, "makePacked", "()V"⟩
abbrev cX1_divide : ByteArray := prog_3_method_8_code
def yX1_divide : MethodName := ⟨RX1, "divide", "([I)V"⟩
abbrev cX1_reduce : ByteArray := prog_3_method_9_code
def yX1_reduce : MethodName := ⟨RX1, "reduce", "()V"⟩
abbrev cX1_leavesNothing : ByteArray := prog_3_method_10_code
def yX1_leavesNothing : MethodName := ⟨RX1, "leavesNothing", "()Z"⟩
abbrev cX1_leaves : ByteArray := prog_3_method_11_code
def yX1_leaves : MethodName := ⟨RX1, "leaves", "([I)Z"⟩
abbrev cX1_addPacked : ByteArray := prog_3_method_12_code
def yX1_addPacked : MethodName := ⟨RX1, "addPacked", "([JII)V"⟩
def RX2 : String := "NoughtSums$LongList"
def TX2 : u_T := fun k => match k with
  | 0 => ("NoughtSums$LongList", "size", "I", false)
  | _ => ("NoughtSums$LongList", "values", "[J", true)
def tyX2 : Nat → FieldType := fun k => match k with
  | 0 => .int
  | _ => .array .long
theorem nmX2 : ∀ a, a < 2 → ∀ b, b < 2 → a ≠ b → (TX2 a).2.1 ≠ (TX2 b).2.1 := by decide +kernel
theorem tyX2_ok : ∀ k, k < 2 → parseFieldDescriptor (TX2 k).2.2.1 = some (tyX2 k) := by decide +kernel
abbrev cX2_init : ByteArray := prog_4_method_1_code
def yX2_init : MethodName := ⟨RX2, "<init>", "()V"⟩
abbrev cX2_renew : ByteArray := prog_4_method_2_code
def yX2_renew : MethodName := ⟨RX2, "renew", "(I)V"⟩
abbrev cX2_isMissing : ByteArray := prog_4_method_3_code
def yX2_isMissing : MethodName := ⟨RX2, "isMissing", "()Z"⟩
abbrev cX2_has : ByteArray := prog_4_method_4_code
def yX2_has : MethodName := ⟨RX2, "has", "(I)Z"⟩
def RX3 : String := "NoughtSums$Parts"
def TX3 : u_T := fun k => match k with
  | 0 => ("NoughtSums$Parts", "walk", "LNoughtSums$Walk;", true)
  | 1 => ("NoughtSums$Parts", "known", "LNoughtSums$Row;", true)
  | 2 => ("NoughtSums$Parts", "hasLooked", "Z", false)
  | 3 => ("NoughtSums$Parts", "first", "[I", true)
  | 4 => ("NoughtSums$Parts", "all", "I", false)
  | 5 => ("NoughtSums$Parts", "least", "I", false)
  | _ => ("NoughtSums$Parts", "ofLeast", "I", false)
def tyX3 : Nat → FieldType := fun k => match k with
  | 0 => .object "NoughtSums$Walk"
  | 1 => .object "NoughtSums$Row"
  | 2 => .boolean
  | 3 => .array .int
  | 4 => .int
  | 5 => .int
  | _ => .int
theorem nmX3 : ∀ a, a < 7 → ∀ b, b < 7 → a ≠ b → (TX3 a).2.1 ≠ (TX3 b).2.1 := by decide +kernel
theorem tyX3_ok : ∀ k, k < 7 → parseFieldDescriptor (TX3 k).2.2.1 = some (tyX3 k) := by decide +kernel
abbrev cX3_init : ByteArray := prog_5_method_1_code
def yX3_init : MethodName := ⟨RX3, "<init>", "(LNoughtSums$Walk;)V"⟩
abbrev cX3_lookThrough : ByteArray := prog_5_method_2_code
def yX3_lookThrough : MethodName := ⟨RX3, "lookThrough", "(LNoughtSums$Row;)V"⟩
abbrev cX3_note : ByteArray := prog_5_method_3_code
def yX3_note : MethodName := ⟨RX3, "note", "()V"⟩
abbrev cX3_isAheadOfFirst : ByteArray := prog_5_method_4_code
def yX3_isAheadOfFirst : MethodName := ⟨RX3, "isAheadOfFirst", "()Z"⟩
abbrev cX3_becomeFirst : ByteArray := prog_5_method_5_code
def yX3_becomeFirst : MethodName := ⟨RX3, "becomeFirst", "()V"⟩
def RX4 : String := "NoughtSums$Plan"
def TX4 : u_T := fun k => match k with
  | 0 => ("NoughtSums$Plan", "size", "I", false)
  | 1 => ("NoughtSums$Plan", "kinds", "[I", true)
  | _ => ("NoughtSums$Plan", "values", "[I", true)
def tyX4 : Nat → FieldType := fun k => match k with
  | 0 => .int
  | 1 => .array .int
  | _ => .array .int
theorem nmX4 : ∀ a, a < 3 → ∀ b, b < 3 → a ≠ b → (TX4 a).2.1 ≠ (TX4 b).2.1 := by decide +kernel
theorem tyX4_ok : ∀ k, k < 3 → parseFieldDescriptor (TX4 k).2.2.1 = some (tyX4 k) := by decide +kernel
abbrev cX4_init : ByteArray := prog_6_method_1_code
def yX4_init : MethodName := ⟨RX4, "<init>", "()V"⟩
abbrev cX4_append : ByteArray := prog_6_method_2_code
def yX4_append : MethodName := ⟨RX4, "append", "(II)V"⟩
abbrev cX4_become : ByteArray := prog_6_method_3_code
def yX4_become : MethodName := ⟨RX4, "become", "(LNoughtSums$Plan;)V"⟩
def RX5 : String := "NoughtSums$Row"
def TX5 : u_T := fun k => match k with
  | 0 => ("NoughtSums$Row", "n", "I", false)
  | _ => ("NoughtSums$Row", "counts", "[I", true)
def tyX5 : Nat → FieldType := fun k => match k with
  | 0 => .int
  | _ => .array .int
theorem nmX5 : ∀ a, a < 2 → ∀ b, b < 2 → a ≠ b → (TX5 a).2.1 ≠ (TX5 b).2.1 := by decide +kernel
theorem tyX5_ok : ∀ k, k < 2 → parseFieldDescriptor (TX5 k).2.2.1 = some (tyX5 k) := by decide +kernel
abbrev cX5_init : ByteArray := prog_7_method_1_code
def yX5_init : MethodName := ⟨RX5, "<init>", "()V"⟩
abbrev cX5_renew : ByteArray := prog_7_method_2_code
def yX5_renew : MethodName := ⟨RX5, "renew", "(I)V"⟩
abbrev cX5_become : ByteArray := prog_7_method_3_code
def yX5_become : MethodName := ⟨RX5, "become", "(LNoughtSums$Row;)V"⟩
abbrev cX5_has : ByteArray := prog_7_method_4_code
def yX5_has : MethodName := ⟨RX5, "has", "(I)Z"⟩
abbrev cX5_isSame : ByteArray := prog_7_method_5_code
def yX5_isSame : MethodName := ⟨RX5, "isSame", "(LNoughtSums$Row;)Z"⟩
abbrev cX5_total : ByteArray := prog_7_method_6_code
def yX5_total : MethodName := ⟨RX5, "total", "()I"⟩
abbrev cX5_rootsTaken : ByteArray := prog_7_method_7_code
def yX5_rootsTaken : MethodName := ⟨RX5, "rootsTaken", "()I"⟩
abbrev cX5_isDear : ByteArray := prog_7_method_8_code
def yX5_isDear : MethodName := ⟨RX5, "isDear", "()Z"⟩
abbrev cX5_turnedAt : ByteArray := prog_7_method_9_code
def yX5_turnedAt : MethodName := ⟨RX5, "turnedAt", "(II)I"⟩
abbrev cX5_compareTurned : ByteArray := prog_7_method_10_code
def yX5_compareTurned : MethodName := ⟨RX5, "compareTurned", "(II)I"⟩
abbrev cX5_isToldTurned : ByteArray := prog_7_method_11_code
def yX5_isToldTurned : MethodName := ⟨RX5, "isToldTurned", "(I[J)Z"⟩
def RX6 : String := "NoughtSums$Shelf"
def TX6 : u_T := fun k => match k with
  | 0 => ("NoughtSums$Shelf", "size", "I", false)
  | _ => ("NoughtSums$Shelf", "rows", "[LNoughtSums$Row;", true)
def tyX6 : Nat → FieldType := fun k => match k with
  | 0 => .int
  | _ => .array (.object "NoughtSums$Row")
theorem nmX6 : ∀ a, a < 2 → ∀ b, b < 2 → a ≠ b → (TX6 a).2.1 ≠ (TX6 b).2.1 := by decide +kernel
theorem tyX6_ok : ∀ k, k < 2 → parseFieldDescriptor (TX6 k).2.2.1 = some (tyX6 k) := by decide +kernel
abbrev cX6_init : ByteArray := prog_8_method_1_code
def yX6_init : MethodName := ⟨RX6, "<init>", "()V"⟩
abbrev cX6_has : ByteArray := prog_8_method_2_code
def yX6_has : MethodName := ⟨RX6, "has", "(I)Z"⟩
abbrev cX6_append : ByteArray := prog_8_method_3_code
def yX6_append : MethodName := ⟨RX6, "append", "(LNoughtSums$Row;)V"⟩
abbrev cX6_remove : ByteArray := prog_8_method_4_code
def yX6_remove : MethodName := ⟨RX6, "remove", "(I)V"⟩
abbrev cX6_become : ByteArray := prog_8_method_5_code
def yX6_become : MethodName := ⟨RX6, "become", "(LNoughtSums$Shelf;)V"⟩
def RX7 : String := "NoughtSums$Spelling"
def TX7 : u_T := fun k => match k with
  | 0 => ("NoughtSums$Spelling", "size", "I", false)
  | _ => ("NoughtSums$Spelling", "bytes", "[I", true)
def tyX7 : Nat → FieldType := fun k => match k with
  | 0 => .int
  | _ => .array .int
theorem nmX7 : ∀ a, a < 2 → ∀ b, b < 2 → a ≠ b → (TX7 a).2.1 ≠ (TX7 b).2.1 := by decide +kernel
theorem tyX7_ok : ∀ k, k < 2 → parseFieldDescriptor (TX7 k).2.2.1 = some (tyX7 k) := by decide +kernel
abbrev cX7_init : ByteArray := prog_9_method_1_code
def yX7_init : MethodName := ⟨RX7, "<init>", "()V"⟩
abbrev cX7_spell : ByteArray := prog_9_method_2_code
def yX7_spell : MethodName := ⟨RX7, "spell", "(LNoughtSums$Row;)V"⟩
abbrev cX7_item : ByteArray := prog_9_method_3_code
def yX7_item : MethodName := ⟨RX7, "item", "(II)V"⟩
abbrev cX7_number : ByteArray := prog_9_method_4_code
def yX7_number : MethodName := ⟨RX7, "number", "(I)V"⟩
abbrev cX7_append : ByteArray := prog_9_method_5_code
def yX7_append : MethodName := ⟨RX7, "append", "(I)V"⟩
def RX8 : String := "NoughtSums$State"
def TX8 : u_T := fun k => match k with
  | 0 => ("NoughtSums$State", "row", "LNoughtSums$Row;", true)
  | 1 => ("NoughtSums$State", "plan", "LNoughtSums$Plan;", true)
  | _ => ("NoughtSums$State", "shelves", "[LNoughtSums$Shelf;", true)
def tyX8 : Nat → FieldType := fun k => match k with
  | 0 => .object "NoughtSums$Row"
  | 1 => .object "NoughtSums$Plan"
  | _ => .array (.object "NoughtSums$Shelf")
theorem nmX8 : ∀ a, a < 3 → ∀ b, b < 3 → a ≠ b → (TX8 a).2.1 ≠ (TX8 b).2.1 := by decide +kernel
theorem tyX8_ok : ∀ k, k < 3 → parseFieldDescriptor (TX8 k).2.2.1 = some (tyX8 k) := by decide +kernel
abbrev cX8_init : ByteArray := prog_10_method_1_code
def yX8_init : MethodName := ⟨RX8, "<init>", "()V"⟩
abbrev cX8_become : ByteArray := prog_10_method_2_code
def yX8_become : MethodName := ⟨RX8, "become", "(LNoughtSums$State;)V"⟩
def RX9 : String := "NoughtSums$Tape"
def TX9 : u_T := fun k => match k with
  | 0 => ("NoughtSums$Tape", "bytes", "[I", true)
  | 1 => ("NoughtSums$Tape", "tellsWrong", "Z", false)
  | 2 => ("NoughtSums$Tape", "size", "I", false)
  | 3 => ("NoughtSums$Tape", "at", "I", false)
  | _ => ("NoughtSums$Tape", "told", "LNoughtSums$Row;", true)
def tyX9 : Nat → FieldType := fun k => match k with
  | 0 => .array .int
  | 1 => .boolean
  | 2 => .int
  | 3 => .int
  | _ => .object "NoughtSums$Row"
theorem nmX9 : ∀ a, a < 5 → ∀ b, b < 5 → a ≠ b → (TX9 a).2.1 ≠ (TX9 b).2.1 := by decide +kernel
theorem tyX9_ok : ∀ k, k < 5 → parseFieldDescriptor (TX9 k).2.2.1 = some (tyX9 k) := by decide +kernel
abbrev cX9_init : ByteArray := prog_11_method_1_code
def yX9_init : MethodName := ⟨RX9, "<init>", "()V"⟩
abbrev cX9_append : ByteArray := prog_11_method_2_code
def yX9_append : MethodName := ⟨RX9, "append", "(I)V"⟩
abbrev cX9_isWrong : ByteArray := prog_11_method_3_code
def yX9_isWrong : MethodName := ⟨RX9, "isWrong", "()Z"⟩
abbrev cX9_scan : ByteArray := prog_11_method_4_code
def yX9_scan : MethodName := ⟨RX9, "scan", "()Z"⟩
abbrev cX9_item : ByteArray := prog_11_method_5_code
def yX9_item : MethodName := ⟨RX9, "item", "()Z"⟩
abbrev cX9_number : ByteArray := prog_11_method_6_code
def yX9_number : MethodName := ⟨RX9, "number", "()I"⟩
abbrev cX9_figure : ByteArray := prog_11_method_7_code
def yX9_figure : MethodName := ⟨RX9, "figure", "()I"⟩
abbrev cX9_passes : ByteArray := prog_11_method_8_code
def yX9_passes : MethodName := ⟨RX9, "passes", "(C)Z"⟩
def RX10 : String := "NoughtSums$Walk"
def TX10 : u_T := fun k => match k with
  | 0 => ("NoughtSums$Walk", "division", "LNoughtSums$Division;", true)
  | 1 => ("NoughtSums$Walk", "roots", "[I", true)
  | 2 => ("NoughtSums$Walk", "most", "[I", true)
  | 3 => ("NoughtSums$Walk", "sum", "[J", true)
  | 4 => ("NoughtSums$Walk", "size", "I", false)
  | 5 => ("NoughtSums$Walk", "taken", "[I", true)
  | _ => ("NoughtSums$Walk", "total", "I", false)
def tyX10 : Nat → FieldType := fun k => match k with
  | 0 => .object "NoughtSums$Division"
  | 1 => .array .int
  | 2 => .array .int
  | 3 => .array .long
  | 4 => .int
  | 5 => .array .int
  | _ => .int
theorem nmX10 : ∀ a, a < 7 → ∀ b, b < 7 → a ≠ b → (TX10 a).2.1 ≠ (TX10 b).2.1 := by decide +kernel
theorem tyX10_ok : ∀ k, k < 7 → parseFieldDescriptor (TX10 k).2.2.1 = some (tyX10 k) := by decide +kernel
abbrev cX10_init : ByteArray := prog_12_method_1_code
def yX10_init : MethodName := ⟨RX10, "<init>", "(LNoughtSums$Division;)V"⟩
abbrev cX10_begin : ByteArray := prog_12_method_2_code
def yX10_begin : MethodName := ⟨RX10, "begin", "(I[I)V"⟩
abbrev cX10_goesOn : ByteArray := prog_12_method_3_code
def yX10_goesOn : MethodName := ⟨RX10, "goesOn", "()Z"⟩
abbrev cX10_isAtNought : ByteArray := prog_12_method_4_code
def yX10_isAtNought : MethodName := ⟨RX10, "isAtNought", "()Z"⟩
def RX11 : String := "NoughtSums"
def TX11 : u_T := fun k => match k with
  | 0 => ("NoughtSums", "state", "LNoughtSums$State;", true)
  | 1 => ("NoughtSums", "kept", "LNoughtSums$State;", true)
  | 2 => ("NoughtSums", "hasImage", "Z", false)
  | 3 => ("NoughtSums", "division", "LNoughtSums$Division;", true)
  | 4 => ("NoughtSums", "walk", "LNoughtSums$Walk;", true)
  | 5 => ("NoughtSums", "found", "LNoughtSums$Parts;", true)
  | 6 => ("NoughtSums", "bitRows", "LNoughtSums$BitRows;", true)
  | 7 => ("NoughtSums", "lists", "[LNoughtSums$LongList;", true)
  | 8 => ("NoughtSums", "tape", "LNoughtSums$Tape;", true)
  | 9 => ("NoughtSums", "spelling", "LNoughtSums$Spelling;", true)
  | 10 => ("NoughtSums", "remaining", "LNoughtSums$Row;", true)
  | 11 => ("NoughtSums", "spare", "[I", true)
  | 12 => ("NoughtSums", "leftByFirst", "[I", true)
  | _ => ("NoughtSums", "waysTo", "[I", true)
def tyX11 : Nat → FieldType := fun k => match k with
  | 0 => .object "NoughtSums$State"
  | 1 => .object "NoughtSums$State"
  | 2 => .boolean
  | 3 => .object "NoughtSums$Division"
  | 4 => .object "NoughtSums$Walk"
  | 5 => .object "NoughtSums$Parts"
  | 6 => .object "NoughtSums$BitRows"
  | 7 => .array (.object "NoughtSums$LongList")
  | 8 => .object "NoughtSums$Tape"
  | 9 => .object "NoughtSums$Spelling"
  | 10 => .object "NoughtSums$Row"
  | 11 => .array .int
  | 12 => .array .int
  | _ => .array .int
theorem nmX11 : ∀ a, a < 14 → ∀ b, b < 14 → a ≠ b → (TX11 a).2.1 ≠ (TX11 b).2.1 := by decide +kernel
theorem tyX11_ok : ∀ k, k < 14 → parseFieldDescriptor (TX11 k).2.2.1 = some (tyX11 k) := by decide +kernel
abbrev cX11_init : ByteArray := prog_1_method_1_code
def yX11_init : MethodName := ⟨RX11, "<init>", "()V"⟩
abbrev cX11_base : ByteArray := prog_1_method_2_code
def yX11_base : MethodName := ⟨RX11, "base", "(I)I"⟩
abbrev cX11_set : ByteArray := prog_1_method_3_code
def yX11_set : MethodName := ⟨RX11, "set", "(II)I"⟩
abbrev cX11_add : ByteArray := prog_1_method_4_code
def yX11_add : MethodName := ⟨RX11, "add", "(I)I"⟩
abbrev cX11_of : ByteArray := prog_1_method_5_code
def yX11_of : MethodName := ⟨RX11, "of", "(I)I"⟩
abbrev cX11_weight : ByteArray := prog_1_method_6_code
def yX11_weight : MethodName := ⟨RX11, "weight", "()I"⟩
abbrev cX11_clear : ByteArray := prog_1_method_7_code
def yX11_clear : MethodName := ⟨RX11, "clear", "()I"⟩
abbrev cX11_phi : ByteArray := prog_1_method_8_code
def yX11_phi : MethodName := ⟨RX11, "phi", "(I)J"⟩
abbrev cX11_rest : ByteArray := prog_1_method_9_code
def yX11_rest : MethodName := ⟨RX11, "rest", "(I)J"⟩
abbrev cX11_nought : ByteArray := prog_1_method_10_code
def yX11_nought : MethodName := ⟨RX11, "nought", "()I"⟩
abbrev cX11_primitive : ByteArray := prog_1_method_11_code
def yX11_primitive : MethodName := ⟨RX11, "primitive", "()I"⟩
abbrev cX11_parts : ByteArray := prog_1_method_12_code
def yX11_parts : MethodName := ⟨RX11, "parts", "(I)I"⟩
abbrev cX11_part : ByteArray := prog_1_method_13_code
def yX11_part : MethodName := ⟨RX11, "part", "(I)I"⟩
abbrev cX11_take : ByteArray := prog_1_method_14_code
def yX11_take : MethodName := ⟨RX11, "take", "()I"⟩
abbrev cX11_pieces : ByteArray := prog_1_method_15_code
def yX11_pieces : MethodName := ⟨RX11, "pieces", "()I"⟩
abbrev cX11_turn : ByteArray := prog_1_method_16_code
def yX11_turn : MethodName := ⟨RX11, "turn", "(I)I"⟩
abbrev cX11_times : ByteArray := prog_1_method_17_code
def yX11_times : MethodName := ⟨RX11, "times", "(I)I"⟩
abbrev cX11_mirror : ByteArray := prog_1_method_18_code
def yX11_mirror : MethodName := ⟨RX11, "mirror", "()I"⟩
abbrev cX11_raise : ByteArray := prog_1_method_19_code
def yX11_raise : MethodName := ⟨RX11, "raise", "(I)I"⟩
abbrev cX11_stays : ByteArray := prog_1_method_20_code
def yX11_stays : MethodName := ⟨RX11, "stays", "(I)I"⟩
abbrev cX11_best : ByteArray := prog_1_method_21_code
def yX11_best : MethodName := ⟨RX11, "best", "()I"⟩
abbrev cX11_alike : ByteArray := prog_1_method_22_code
def yX11_alike : MethodName := ⟨RX11, "alike", "(I)I"⟩
abbrev cX11_prime : ByteArray := prog_1_method_23_code
def yX11_prime : MethodName := ⟨RX11, "prime", "(I)I"⟩
abbrev cX11_layer : ByteArray := prog_1_method_24_code
def yX11_layer : MethodName := ⟨RX11, "layer", "(III)I"⟩
abbrev cX11_layers : ByteArray := prog_1_method_25_code
def yX11_layers : MethodName := ⟨RX11, "layers", "(II)I"⟩
abbrev cX11_possible : ByteArray := prog_1_method_26_code
def yX11_possible : MethodName := ⟨RX11, "possible", "(I)I"⟩
abbrev cX11_ways : ByteArray := prog_1_method_27_code
def yX11_ways : MethodName := ⟨RX11, "ways", "(I)I"⟩
abbrev cX11_hole : ByteArray := prog_1_method_28_code
def yX11_hole : MethodName := ⟨RX11, "hole", "(I)I"⟩
abbrev cX11_listed : ByteArray := prog_1_method_29_code
def yX11_listed : MethodName := ⟨RX11, "listed", "(II)I"⟩
abbrev cX11_filled : ByteArray := prog_1_method_30_code
def yX11_filled : MethodName := ⟨RX11, "filled", "(II)I"⟩
abbrev cX11_plan : ByteArray := prog_1_method_31_code
def yX11_plan : MethodName := ⟨RX11, "plan", "(II)I"⟩
abbrev cX11_unplan : ByteArray := prog_1_method_32_code
def yX11_unplan : MethodName := ⟨RX11, "unplan", "()I"⟩
abbrev cX11_where : ByteArray := prog_1_method_33_code
def yX11_where : MethodName := ⟨RX11, "where", "(I)I"⟩
abbrev cX11_run : ByteArray := prog_1_method_34_code
def yX11_run : MethodName := ⟨RX11, "run", "()I"⟩
abbrev cX11_keep : ByteArray := prog_1_method_35_code
def yX11_keep : MethodName := ⟨RX11, "keep", "(I)I"⟩
abbrev cX11_lay : ByteArray := prog_1_method_36_code
def yX11_lay : MethodName := ⟨RX11, "lay", "(II)I"⟩
abbrev cX11_drop : ByteArray := prog_1_method_37_code
def yX11_drop : MethodName := ⟨RX11, "drop", "(II)I"⟩
abbrev cX11_lightest : ByteArray := prog_1_method_38_code
def yX11_lightest : MethodName := ⟨RX11, "lightest", "(I)I"⟩
abbrev cX11_pour : ByteArray := prog_1_method_39_code
def yX11_pour : MethodName := ⟨RX11, "pour", "(II)I"⟩
abbrev cX11_held : ByteArray := prog_1_method_40_code
def yX11_held : MethodName := ⟨RX11, "held", "(II)I"⟩
abbrev cX11_list : ByteArray := prog_1_method_41_code
def yX11_list : MethodName := ⟨RX11, "list", "(II)I"⟩
abbrev cX11_put : ByteArray := prog_1_method_42_code
def yX11_put : MethodName := ⟨RX11, "put", "(IIJ)I"⟩
abbrev cX11_get : ByteArray := prog_1_method_43_code
def yX11_get : MethodName := ⟨RX11, "get", "(II)J"⟩
abbrev cX11_film : ByteArray := prog_1_method_44_code
def yX11_film : MethodName := ⟨RX11, "film", "(I)I"⟩
abbrev cX11_feed : ByteArray := prog_1_method_45_code
def yX11_feed : MethodName := ⟨RX11, "feed", "(I)I"⟩
abbrev cX11_wipe : ByteArray := prog_1_method_46_code
def yX11_wipe : MethodName := ⟨RX11, "wipe", "()I"⟩
abbrev cX11_read : ByteArray := prog_1_method_47_code
def yX11_read : MethodName := ⟨RX11, "read", "()I"⟩
abbrev cX11_spelled : ByteArray := prog_1_method_48_code
def yX11_spelled : MethodName := ⟨RX11, "spelled", "(I)I"⟩
abbrev cX11_image : ByteArray := prog_1_method_49_code
def yX11_image : MethodName := ⟨RX11, "image", "()I"⟩
abbrev cX11_undo : ByteArray := prog_1_method_50_code
def yX11_undo : MethodName := ⟨RX11, "undo", "()I"⟩
abbrev cX11_count : ByteArray := prog_1_method_51_code
def yX11_count : MethodName := ⟨RX11, "count", "(I)I"⟩
abbrev cX11_isBase : ByteArray := prog_1_method_52_code
def yX11_isBase : MethodName := ⟨RX11, "isBase", "(I)Z"⟩
abbrev cX11_isShelf : ByteArray := prog_1_method_53_code
def yX11_isShelf : MethodName := ⟨RX11, "isShelf", "(I)Z"⟩
abbrev cX11_isList : ByteArray := prog_1_method_54_code
def yX11_isList : MethodName := ⟨RX11, "isList", "(I)Z"⟩
abbrev cX11_isPrimeOf : ByteArray := prog_1_method_55_code
def yX11_isPrimeOf : MethodName := ⟨RX11, "isPrimeOf", "(II)Z"⟩
abbrev cX11_shareDivisor : ByteArray := prog_1_method_56_code
def yX11_shareDivisor : MethodName := ⟨RX11, "shareDivisor", "(II)Z"⟩
abbrev cX11_isNought : ByteArray := prog_1_method_57_code
def yX11_isNought : MethodName := ⟨RX11, "isNought", "(LNoughtSums$Row;)Z"⟩
abbrev cX11_loseFirstPart : ByteArray := prog_1_method_58_code
def yX11_loseFirstPart : MethodName := ⟨RX11, "loseFirstPart", "(LNoughtSums$Row;)Z"⟩
abbrev cX11_canChange : ByteArray := prog_1_method_59_code
def yX11_canChange : MethodName := ⟨RX11, "canChange", "(III)Z"⟩
abbrev cX11_rootBehind : ByteArray := prog_1_method_60_code
def yX11_rootBehind : MethodName := ⟨RX11, "rootBehind", "(IIII)I"⟩
abbrev cX11_change : ByteArray := prog_1_method_61_code
def yX11_change : MethodName := ⟨RX11, "change", "(II)Z"⟩
abbrev cX11_squareDivides : ByteArray := prog_1_method_62_code
def yX11_squareDivides : MethodName := ⟨RX11, "squareDivides", "(II)Z"⟩
abbrev cX11_layerStep : ByteArray := prog_1_method_63_code
def yX11_layerStep : MethodName := ⟨RX11, "layerStep", "(II)I"⟩
abbrev cX11_countInLayer : ByteArray := prog_1_method_64_code
def yX11_countInLayer : MethodName := ⟨RX11, "countInLayer", "(LNoughtSums$Row;III)I"⟩
abbrev cX11_firstOddLayer : ByteArray := prog_1_method_65_code
def yX11_firstOddLayer : MethodName := ⟨RX11, "firstOddLayer", "(LNoughtSums$Row;I)I"⟩
abbrev cX11_countWays : ByteArray := prog_1_method_66_code
def yX11_countWays : MethodName := ⟨RX11, "countWays", "()V"⟩
abbrev cX11_listsThere : ByteArray := prog_1_method_67_code
def yX11_listsThere : MethodName := ⟨RX11, "listsThere", "()I"⟩
def RX12 : String := "NoughtSumsModel"
def TX12 : u_T := fun k => match k with
  | 0 => ("NoughtSumsModel", "n", "I", false)
  | 1 => ("NoughtSumsModel", "row", "[I", true)
  | 2 => ("NoughtSumsModel", "plan", "[I", true)
  | 3 => ("NoughtSumsModel", "planned", "I", false)
  | 4 => ("NoughtSumsModel", "keptMany", "[I", true)
  | 5 => ("NoughtSumsModel", "kept", "[I", true)
  | 6 => ("NoughtSumsModel", "phis", "[I", true)
  | 7 => ("NoughtSumsModel", "degrees", "[I", true)
  | 8 => ("NoughtSumsModel", "left", "[I", true)
  | 9 => ("NoughtSumsModel", "leaves", "[I", true)
  | 10 => ("NoughtSumsModel", "sums", "[I", true)
  | 11 => ("NoughtSumsModel", "one", "[I", true)
  | 12 => ("NoughtSumsModel", "tried", "[I", true)
  | 13 => ("NoughtSumsModel", "best", "[I", true)
  | 14 => ("NoughtSumsModel", "from", "[I", true)
  | 15 => ("NoughtSumsModel", "partMany", "I", false)
  | 16 => ("NoughtSumsModel", "bestWeight", "I", false)
  | 17 => ("NoughtSumsModel", "bestMany", "I", false)
  | 18 => ("NoughtSumsModel", "changed", "[I", true)
  | 19 => ("NoughtSumsModel", "sizes", "[I", true)
  | 20 => ("NoughtSumsModel", "items", "[J", true)
  | 21 => ("NoughtSumsModel", "layered", "[I", true)
  | 22 => ("NoughtSumsModel", "waysOf", "[I", true)
  | 23 => ("NoughtSumsModel", "isNought", "[Z", true)
  | 24 => ("NoughtSumsModel", "tape", "[I", true)
  | 25 => ("NoughtSumsModel", "taped", "I", false)
  | 26 => ("NoughtSumsModel", "at", "I", false)
  | 27 => ("NoughtSumsModel", "isWrong", "Z", false)
  | 28 => ("NoughtSumsModel", "spelling", "[I", true)
  | 29 => ("NoughtSumsModel", "spelledMany", "I", false)
  | 30 => ("NoughtSumsModel", "hasImage", "Z", false)
  | 31 => ("NoughtSumsModel", "imageN", "I", false)
  | 32 => ("NoughtSumsModel", "imagePlanned", "I", false)
  | 33 => ("NoughtSumsModel", "imageRow", "[I", true)
  | 34 => ("NoughtSumsModel", "imagePlan", "[I", true)
  | 35 => ("NoughtSumsModel", "imageMany", "[I", true)
  | _ => ("NoughtSumsModel", "imageKept", "[I", true)
def tyX12 : Nat → FieldType := fun k => match k with
  | 0 => .int
  | 1 => .array .int
  | 2 => .array .int
  | 3 => .int
  | 4 => .array .int
  | 5 => .array .int
  | 6 => .array .int
  | 7 => .array .int
  | 8 => .array .int
  | 9 => .array .int
  | 10 => .array .int
  | 11 => .array .int
  | 12 => .array .int
  | 13 => .array .int
  | 14 => .array .int
  | 15 => .int
  | 16 => .int
  | 17 => .int
  | 18 => .array .int
  | 19 => .array .int
  | 20 => .array .long
  | 21 => .array .int
  | 22 => .array .int
  | 23 => .array .boolean
  | 24 => .array .int
  | 25 => .int
  | 26 => .int
  | 27 => .boolean
  | 28 => .array .int
  | 29 => .int
  | 30 => .boolean
  | 31 => .int
  | 32 => .int
  | 33 => .array .int
  | 34 => .array .int
  | 35 => .array .int
  | _ => .array .int
theorem nmX12 : ∀ a, a < 37 → ∀ b, b < 37 → a ≠ b → (TX12 a).2.1 ≠ (TX12 b).2.1 := by decide +kernel
theorem tyX12_ok : ∀ k, k < 37 → parseFieldDescriptor (TX12 k).2.2.1 = some (tyX12 k) := by decide +kernel
abbrev cX12_init : ByteArray := prog_14_method_1_code
def yX12_init : MethodName := ⟨RX12, "<init>", "()V"⟩
abbrev cX12_divides : ByteArray := prog_14_method_2_code
def yX12_divides : MethodName := ⟨RX12, "divides", "(II)V"⟩
abbrev cX12_in : ByteArray := prog_14_method_3_code
def yX12_in : MethodName := ⟨RX12, "in", "(JJJ)Z"⟩
abbrev cX12_isRoot : ByteArray := prog_14_method_4_code
def yX12_isRoot : MethodName := ⟨RX12, "isRoot", "(I)Z"⟩
abbrev cX12_weightOf : ByteArray := prog_14_method_5_code
def yX12_weightOf : MethodName := ⟨RX12, "weightOf", "([III)I"⟩
abbrev cX12_base : ByteArray := prog_14_method_6_code
def yX12_base : MethodName := ⟨RX12, "base", "(I)I"⟩
abbrev cX12_set : ByteArray := prog_14_method_7_code
def yX12_set : MethodName := ⟨RX12, "set", "(II)I"⟩
abbrev cX12_add : ByteArray := prog_14_method_8_code
def yX12_add : MethodName := ⟨RX12, "add", "(I)I"⟩
abbrev cX12_of : ByteArray := prog_14_method_9_code
def yX12_of : MethodName := ⟨RX12, "of", "(I)I"⟩
abbrev cX12_weight : ByteArray := prog_14_method_10_code
def yX12_weight : MethodName := ⟨RX12, "weight", "()I"⟩
abbrev cX12_clear : ByteArray := prog_14_method_11_code
def yX12_clear : MethodName := ⟨RX12, "clear", "()I"⟩
abbrev cX12_phi : ByteArray := prog_14_method_12_code
def yX12_phi : MethodName := ⟨RX12, "phi", "(I)J"⟩
abbrev cX12_divided : ByteArray := prog_14_method_13_code
def yX12_divided : MethodName := ⟨RX12, "divided", "([I)V"⟩
abbrev cX12_rest : ByteArray := prog_14_method_14_code
def yX12_rest : MethodName := ⟨RX12, "rest", "(I)J"⟩
abbrev cX12_isNothing : ByteArray := prog_14_method_15_code
def yX12_isNothing : MethodName := ⟨RX12, "isNothing", "()Z"⟩
abbrev cX12_isNought : ByteArray := prog_14_method_16_code
def yX12_isNought : MethodName := ⟨RX12, "isNought", "([I)Z"⟩
abbrev cX12_nought : ByteArray := prog_14_method_17_code
def yX12_nought : MethodName := ⟨RX12, "nought", "()I"⟩
abbrev cX12_tellsLeaves : ByteArray := prog_14_method_18_code
def yX12_tellsLeaves : MethodName := ⟨RX12, "tellsLeaves", "()V"⟩
abbrev cX12_isDear : ByteArray := prog_14_method_19_code
def yX12_isDear : MethodName := ⟨RX12, "isDear", "()Z"⟩
abbrev cX12_adds : ByteArray := prog_14_method_20_code
def yX12_adds : MethodName := ⟨RX12, "adds", "(II)V"⟩
abbrev cX12_areNothing : ByteArray := prog_14_method_21_code
def yX12_areNothing : MethodName := ⟨RX12, "areNothing", "()Z"⟩
abbrev cX12_goes : ByteArray := prog_14_method_22_code
def yX12_goes : MethodName := ⟨RX12, "goes", "(II)V"⟩
abbrev cX12_looks : ByteArray := prog_14_method_23_code
def yX12_looks : MethodName := ⟨RX12, "looks", "()V"⟩
abbrev cX12_looksAtRow : ByteArray := prog_14_method_24_code
def yX12_looksAtRow : MethodName := ⟨RX12, "looksAtRow", "()V"⟩
abbrev cX12_primitive : ByteArray := prog_14_method_25_code
def yX12_primitive : MethodName := ⟨RX12, "primitive", "()I"⟩
abbrev cX12_parts : ByteArray := prog_14_method_26_code
def yX12_parts : MethodName := ⟨RX12, "parts", "(I)I"⟩
abbrev cX12_part : ByteArray := prog_14_method_27_code
def yX12_part : MethodName := ⟨RX12, "part", "(I)I"⟩
abbrev cX12_take : ByteArray := prog_14_method_28_code
def yX12_take : MethodName := ⟨RX12, "take", "()I"⟩
abbrev cX12_pieces : ByteArray := prog_14_method_29_code
def yX12_pieces : MethodName := ⟨RX12, "pieces", "()I"⟩
abbrev cX12_common : ByteArray := prog_14_method_30_code
def yX12_common : MethodName := ⟨RX12, "common", "(II)I"⟩
abbrev cX12_isPrime : ByteArray := prog_14_method_31_code
def yX12_isPrime : MethodName := ⟨RX12, "isPrime", "(I)Z"⟩
abbrev cX12_can : ByteArray := prog_14_method_32_code
def yX12_can : MethodName := ⟨RX12, "can", "(II)Z"⟩
abbrev cX12_comesTo : ByteArray := prog_14_method_33_code
def yX12_comesTo : MethodName := ⟨RX12, "comesTo", "(III)I"⟩
abbrev cX12_changes : ByteArray := prog_14_method_34_code
def yX12_changes : MethodName := ⟨RX12, "changes", "(II)Z"⟩
abbrev cX12_turn : ByteArray := prog_14_method_35_code
def yX12_turn : MethodName := ⟨RX12, "turn", "(I)I"⟩
abbrev cX12_times : ByteArray := prog_14_method_36_code
def yX12_times : MethodName := ⟨RX12, "times", "(I)I"⟩
abbrev cX12_mirror : ByteArray := prog_14_method_37_code
def yX12_mirror : MethodName := ⟨RX12, "mirror", "()I"⟩
abbrev cX12_raise : ByteArray := prog_14_method_38_code
def yX12_raise : MethodName := ⟨RX12, "raise", "(I)I"⟩
abbrev cX12_turned : ByteArray := prog_14_method_39_code
def yX12_turned : MethodName := ⟨RX12, "turned", "(II)I"⟩
abbrev cX12_stays : ByteArray := prog_14_method_40_code
def yX12_stays : MethodName := ⟨RX12, "stays", "(IZ)Z"⟩
abbrev cX12_stays_ : ByteArray := prog_14_method_41_code
def yX12_stays_ : MethodName := ⟨RX12, "stays", "(I)I"⟩
abbrev cX12_isAhead : ByteArray := prog_14_method_42_code
def yX12_isAhead : MethodName := ⟨RX12, "isAhead", "(II)Z"⟩
abbrev cX12_best : ByteArray := prog_14_method_43_code
def yX12_best : MethodName := ⟨RX12, "best", "()I"⟩
abbrev cX12_isList : ByteArray := prog_14_method_44_code
def yX12_isList : MethodName := ⟨RX12, "isList", "(I)Z"⟩
abbrev cX12_alike : ByteArray := prog_14_method_45_code
def yX12_alike : MethodName := ⟨RX12, "alike", "(I)I"⟩
abbrev cX12_prime : ByteArray := prog_14_method_46_code
def yX12_prime : MethodName := ⟨RX12, "prime", "(I)I"⟩
abbrev cX12_unit : ByteArray := prog_14_method_47_code
def yX12_unit : MethodName := ⟨RX12, "unit", "(I)I"⟩
abbrev cX12_tellsLayer : ByteArray := prog_14_method_48_code
def yX12_tellsLayer : MethodName := ⟨RX12, "tellsLayer", "(II)V"⟩
abbrev cX12_layer : ByteArray := prog_14_method_49_code
def yX12_layer : MethodName := ⟨RX12, "layer", "(III)I"⟩
abbrev cX12_layers : ByteArray := prog_14_method_50_code
def yX12_layers : MethodName := ⟨RX12, "layers", "(II)I"⟩
abbrev cX12_tellsWays : ByteArray := prog_14_method_51_code
def yX12_tellsWays : MethodName := ⟨RX12, "tellsWays", "()V"⟩
abbrev cX12_possible : ByteArray := prog_14_method_52_code
def yX12_possible : MethodName := ⟨RX12, "possible", "(I)I"⟩
abbrev cX12_ways : ByteArray := prog_14_method_53_code
def yX12_ways : MethodName := ⟨RX12, "ways", "(I)I"⟩
abbrev cX12_hole : ByteArray := prog_14_method_54_code
def yX12_hole : MethodName := ⟨RX12, "hole", "(I)I"⟩
abbrev cX12_tellsSets : ByteArray := prog_14_method_55_code
def yX12_tellsSets : MethodName := ⟨RX12, "tellsSets", "()V"⟩
abbrev cX12_isPrimitive : ByteArray := prog_14_method_56_code
def yX12_isPrimitive : MethodName := ⟨RX12, "isPrimitive", "(I)Z"⟩
abbrev cX12_isLeast : ByteArray := prog_14_method_57_code
def yX12_isLeast : MethodName := ⟨RX12, "isLeast", "(I)Z"⟩
abbrev cX12_listed : ByteArray := prog_14_method_58_code
def yX12_listed : MethodName := ⟨RX12, "listed", "(II)I"⟩
abbrev cX12_filled : ByteArray := prog_14_method_59_code
def yX12_filled : MethodName := ⟨RX12, "filled", "(II)I"⟩
abbrev cX12_plan : ByteArray := prog_14_method_60_code
def yX12_plan : MethodName := ⟨RX12, "plan", "(II)I"⟩
abbrev cX12_unplan : ByteArray := prog_14_method_61_code
def yX12_unplan : MethodName := ⟨RX12, "unplan", "()I"⟩
abbrev cX12_where : ByteArray := prog_14_method_62_code
def yX12_where : MethodName := ⟨RX12, "where", "(I)I"⟩
abbrev cX12_run : ByteArray := prog_14_method_63_code
def yX12_run : MethodName := ⟨RX12, "run", "()I"⟩
abbrev cX12_isShelf : ByteArray := prog_14_method_64_code
def yX12_isShelf : MethodName := ⟨RX12, "isShelf", "(I)Z"⟩
abbrev cX12_isKept : ByteArray := prog_14_method_65_code
def yX12_isKept : MethodName := ⟨RX12, "isKept", "(II)Z"⟩
abbrev cX12_place : ByteArray := prog_14_method_66_code
def yX12_place : MethodName := ⟨RX12, "place", "(II)I"⟩
abbrev cX12_keep : ByteArray := prog_14_method_67_code
def yX12_keep : MethodName := ⟨RX12, "keep", "(I)I"⟩
abbrev cX12_lay : ByteArray := prog_14_method_68_code
def yX12_lay : MethodName := ⟨RX12, "lay", "(II)I"⟩
abbrev cX12_copies : ByteArray := prog_14_method_69_code
def yX12_copies : MethodName := ⟨RX12, "copies", "(II)V"⟩
abbrev cX12_drop : ByteArray := prog_14_method_70_code
def yX12_drop : MethodName := ⟨RX12, "drop", "(II)I"⟩
abbrev cX12_weightAt : ByteArray := prog_14_method_71_code
def yX12_weightAt : MethodName := ⟨RX12, "weightAt", "(II)I"⟩
abbrev cX12_lightest : ByteArray := prog_14_method_72_code
def yX12_lightest : MethodName := ⟨RX12, "lightest", "(I)I"⟩
abbrev cX12_pour : ByteArray := prog_14_method_73_code
def yX12_pour : MethodName := ⟨RX12, "pour", "(II)I"⟩
abbrev cX12_held : ByteArray := prog_14_method_74_code
def yX12_held : MethodName := ⟨RX12, "held", "(II)I"⟩
abbrev cX12_list : ByteArray := prog_14_method_75_code
def yX12_list : MethodName := ⟨RX12, "list", "(II)I"⟩
abbrev cX12_put : ByteArray := prog_14_method_76_code
def yX12_put : MethodName := ⟨RX12, "put", "(IIJ)I"⟩
abbrev cX12_get : ByteArray := prog_14_method_77_code
def yX12_get : MethodName := ⟨RX12, "get", "(II)J"⟩
abbrev cX12_film : ByteArray := prog_14_method_78_code
def yX12_film : MethodName := ⟨RX12, "film", "(I)I"⟩
abbrev cX12_feed : ByteArray := prog_14_method_79_code
def yX12_feed : MethodName := ⟨RX12, "feed", "(I)I"⟩
abbrev cX12_wipe : ByteArray := prog_14_method_80_code
def yX12_wipe : MethodName := ⟨RX12, "wipe", "()I"⟩
abbrev cX12_here : ByteArray := prog_14_method_81_code
def yX12_here : MethodName := ⟨RX12, "here", "()I"⟩
abbrev cX12_readsNumber : ByteArray := prog_14_method_82_code
def yX12_readsNumber : MethodName := ⟨RX12, "readsNumber", "()I"⟩
abbrev cX12_readsItem : ByteArray := prog_14_method_83_code
def yX12_readsItem : MethodName := ⟨RX12, "readsItem", "(I)Z"⟩
abbrev cX12_read : ByteArray := prog_14_method_84_code
def yX12_read : MethodName := ⟨RX12, "read", "()I"⟩
abbrev cX12_spells : ByteArray := prog_14_method_85_code
def yX12_spells : MethodName := ⟨RX12, "spells", "(I)V"⟩
abbrev cX12_spellsNumber : ByteArray := prog_14_method_86_code
def yX12_spellsNumber : MethodName := ⟨RX12, "spellsNumber", "(I)V"⟩
abbrev cX12_spelled : ByteArray := prog_14_method_87_code
def yX12_spelled : MethodName := ⟨RX12, "spelled", "(I)I"⟩
abbrev cX12_lays : ByteArray := prog_14_method_88_code
def yX12_lays : MethodName := ⟨RX12, "lays", "([I[I)V"⟩
abbrev cX12_image : ByteArray := prog_14_method_89_code
def yX12_image : MethodName := ⟨RX12, "image", "()I"⟩
abbrev cX12_undo : ByteArray := prog_14_method_90_code
def yX12_undo : MethodName := ⟨RX12, "undo", "()I"⟩
abbrev cX12_taken : ByteArray := prog_14_method_91_code
def yX12_taken : MethodName := ⟨RX12, "taken", "()I"⟩
abbrev cX12_count : ByteArray := prog_14_method_92_code
def yX12_count : MethodName := ⟨RX12, "count", "(I)I"⟩
def RJ6 : String := "java/lang/Integer"
def TJ6 : u_T := fun k => match k with
  | _ => ("", "", "", false)
def tyJ6 : Nat → FieldType := fun k => match k with
  | _ => .int
theorem nmJ6 : ∀ a, a < 0 → ∀ b, b < 0 → a ≠ b → (TJ6 a).2.1 ≠ (TJ6 b).2.1 := by decide +kernel
theorem tyJ6_ok : ∀ k, k < 0 → parseFieldDescriptor (TJ6 k).2.2.1 = some (tyJ6 k) := by decide +kernel
abbrev cJ6_bitCount_0f7a4 : ByteArray := prog_15_method_49_code
def yJ6_bitCount_0f7a4 : MethodName := ⟨RJ6, "bitCount", "(I)I"⟩
def RJ9 : String := "java/lang/Math"
def TJ9 : u_T := fun k => match k with
  | _ => ("", "", "", false)
def tyJ9 : Nat → FieldType := fun k => match k with
  | _ => .int
theorem nmJ9 : ∀ a, a < 0 → ∀ b, b < 0 → a ≠ b → (TJ9 a).2.1 ≠ (TJ9 b).2.1 := by decide +kernel
theorem tyJ9_ok : ∀ k, k < 0 → parseFieldDescriptor (TJ9 k).2.2.1 = some (tyJ9 k) := by decide +kernel
abbrev cJ9_floorMod_7cf53 : ByteArray := prog_16_method_50_code
def yJ9_floorMod_7cf53 : MethodName := ⟨RJ9, "floorMod", "(II)I"⟩
def RJ10 : String := "java/lang/System"
def TJ10 : u_T := fun k => match k with
  | _ => ("", "", "", false)
def tyJ10 : Nat → FieldType := fun k => match k with
  | _ => .int
theorem nmJ10 : ∀ a, a < 0 → ∀ b, b < 0 → a ≠ b → (TJ10 a).2.1 ≠ (TJ10 b).2.1 := by decide +kernel
theorem tyJ10_ok : ∀ k, k < 0 → parseFieldDescriptor (TJ10 k).2.2.1 = some (tyJ10 k) := by decide +kernel
def RJ7 : String := "java/util/Arrays"
def TJ7 : u_T := fun k => match k with
  | _ => ("", "", "", false)
def tyJ7 : Nat → FieldType := fun k => match k with
  | _ => .int
theorem nmJ7 : ∀ a, a < 0 → ∀ b, b < 0 → a ≠ b → (TJ7 a).2.1 ≠ (TJ7 b).2.1 := by decide +kernel
theorem tyJ7_ok : ∀ k, k < 0 → parseFieldDescriptor (TJ7 k).2.2.1 = some (tyJ7 k) := by decide +kernel
abbrev cJ7_fill_d0a16 : ByteArray := prog_18_method_101_code
def yJ7_fill_d0a16 : MethodName := ⟨RJ7, "fill", "([JJ)V"⟩
abbrev cJ7_fill_53178 : ByteArray := prog_18_method_103_code
def yJ7_fill_53178 : MethodName := ⟨RJ7, "fill", "([II)V"⟩
def RL : String := "NoughtSumsLaw"
abbrev cL_law : ByteArray := code
def yL_law : MethodName := ⟨RL, "law", "([I)Z"⟩
abbrev vwCl : List vw_C := [(RX0, TX0, 5), (RX1, TX1, 7), (RX2, TX2, 2), (RX3, TX3, 7), (RX4, TX4, 3), (RX5, TX5, 2), (RX6, TX6, 2), (RX7, TX7, 2), (RX8, TX8, 3), (RX9, TX9, 5), (RX10, TX10, 7), (RX11, TX11, 14), (RX12, TX12, 37)]
end
section
/-! the words that every method is given -/
def mS : List Cond := lw_tbl.filter goodWord
theorem mS_at (i : Nat) {w : Cond} (h : (lw_tbl[i]?).any (fun v => decide (v = w)) = true) (hg : goodWord w = true) : w ∈ mS := by
  refine List.mem_filter.mpr ⟨?_, hg⟩
  cases hv : lw_tbl[i]? with
  | none => rw [hv] at h; simp at h
  | some v => rw [hv] at h; simp at h; subst h; exact List.mem_of_getElem? hv
theorem inT1 : ∀ w ∈ tables_1_1, w ∈ lw_tbl := fun w h => List.mem_append_right _ (show w ∈ tables_1_1 ++ (tables_1_2 ++ (tables_1_3 ++ (tables_1_4 ++ (tables_1_5 ++ tables_1_6)))) from List.mem_append_left _ h)
theorem inT2 : ∀ w ∈ tables_1_2, w ∈ lw_tbl := fun w h => List.mem_append_right _ (show w ∈ tables_1_1 ++ (tables_1_2 ++ (tables_1_3 ++ (tables_1_4 ++ (tables_1_5 ++ tables_1_6)))) from List.mem_append_right _ (List.mem_append_left _ h))
theorem inT3 : ∀ w ∈ tables_1_3, w ∈ lw_tbl := fun w h => List.mem_append_right _ (show w ∈ tables_1_1 ++ (tables_1_2 ++ (tables_1_3 ++ (tables_1_4 ++ (tables_1_5 ++ tables_1_6)))) from List.mem_append_right _ (List.mem_append_right _ (List.mem_append_left _ h)))
theorem inT4 : ∀ w ∈ tables_1_4, w ∈ lw_tbl := fun w h => List.mem_append_right _ (show w ∈ tables_1_1 ++ (tables_1_2 ++ (tables_1_3 ++ (tables_1_4 ++ (tables_1_5 ++ tables_1_6)))) from List.mem_append_right _ (List.mem_append_right _ (List.mem_append_right _ (List.mem_append_left _ h))))
theorem inT5 : ∀ w ∈ tables_1_5, w ∈ lw_tbl := fun w h => List.mem_append_right _ (show w ∈ tables_1_1 ++ (tables_1_2 ++ (tables_1_3 ++ (tables_1_4 ++ (tables_1_5 ++ tables_1_6)))) from List.mem_append_right _ (List.mem_append_right _ (List.mem_append_right _ (List.mem_append_right _ (List.mem_append_left _ h)))))
theorem inT6 : ∀ w ∈ tables_1_6, w ∈ lw_tbl := fun w h => List.mem_append_right _ (show w ∈ tables_1_1 ++ (tables_1_2 ++ (tables_1_3 ++ (tables_1_4 ++ (tables_1_5 ++ tables_1_6)))) from List.mem_append_right _ (List.mem_append_right _ (List.mem_append_right _ (List.mem_append_right _ (List.mem_append_right _ (h))))))
theorem mS_in {L : List Cond} (hL : ∀ w ∈ L, w ∈ lw_tbl) (i : Nat) {w : Cond} (h : L[i]? = some w) (hg : goodWord w = true) : w ∈ mS := List.mem_filter.mpr ⟨hL w (List.mem_of_getElem? h), hg⟩
theorem kw56 : (Cond.initialized RL) ∈ mS := mS_in inT1 0 rfl rfl
theorem kw57 : (Cond.initialized RX11) ∈ mS := mS_in inT1 1 rfl rfl
theorem kw58 : (Cond.initialized RX8) ∈ mS := mS_in inT1 2 rfl rfl
theorem kw59 : (Cond.initialized RX5) ∈ mS := mS_in inT1 3 rfl rfl
theorem kw60 : (Cond.initialized RX4) ∈ mS := mS_in inT1 4 rfl rfl
theorem kw61 : (Cond.initialized RX6) ∈ mS := mS_in inT1 5 rfl rfl
theorem kw62 : (Cond.initialized RX1) ∈ mS := mS_in inT1 6 rfl rfl
theorem kw63 : (Cond.initialized RX10) ∈ mS := mS_in inT1 7 rfl rfl
theorem kw64 : (Cond.initialized RX3) ∈ mS := mS_in inT1 8 rfl rfl
theorem kw65 : (Cond.initialized RX0) ∈ mS := mS_in inT1 9 rfl rfl
theorem kw66 : (Cond.initialized RX2) ∈ mS := mS_in inT1 10 rfl rfl
theorem kw67 : (Cond.initialized RX9) ∈ mS := mS_in inT1 11 rfl rfl
theorem kw68 : (Cond.initialized RX7) ∈ mS := mS_in inT1 12 rfl rfl
theorem kw69 : (Cond.initialized RX12) ∈ mS := mS_in inT1 13 rfl rfl
theorem kw70 : (Cond.initialized RJ7) ∈ mS := mS_in inT1 14 rfl rfl
theorem kw71 : (Cond.initialized RJ10) ∈ mS := mS_in inT1 15 rfl rfl
theorem kw72 : (Cond.initialized RJ9) ∈ mS := mS_in inT1 16 rfl rfl
theorem kw73 : (Cond.initialized RJ6) ∈ mS := mS_in inT1 17 rfl rfl
theorem kw74 : (Cond.classLink RL 7 RX11) ∈ mS := mS_in inT1 18 rfl rfl
theorem kw75 : (Cond.instantiable RX11 14) ∈ mS := mS_in inT1 19 rfl rfl
theorem kw76 : (Cond.methodLink RL 9 yX11_init) ∈ mS := mS_in inT1 20 rfl rfl
theorem kw77 : (Cond.instanceMethod yX11_init) ∈ mS := mS_in inT1 21 rfl rfl
theorem kw78 : (Cond.code yX11_init prog_1_method_1_code 1 none) ∈ mS := mS_in inT1 22 rfl rfl
theorem kw79 : (Cond.methodLink RX11 3 objectInit) ∈ mS := mS_in inT1 23 rfl rfl
theorem kw80 : (Cond.instanceMethod objectInit) ∈ mS := mS_in inT1 24 rfl rfl
theorem kw81 : (Cond.code objectInit object_method_1_code 1 none) ∈ mS := mS_in inT1 25 rfl rfl
theorem kw82 : (Cond.classLink RX11 9 RX8) ∈ mS := mS_in inT1 26 rfl rfl
theorem kw83 : (Cond.instantiable RX8 3) ∈ mS := mS_in inT1 27 rfl rfl
theorem kw85 : (Cond.instanceMethod yX8_init) ∈ mS := mS_in inT1 29 rfl rfl
theorem kw86 : (Cond.code yX8_init prog_10_method_1_code 1 none) ∈ mS := mS_in inT1 30 rfl rfl
theorem kw87 : (Cond.methodLink RX8 3 objectInit) ∈ mS := mS_in inT1 31 rfl rfl
theorem kw88 : (Cond.classLink RX8 9 RX5) ∈ mS := mS_in inT1 32 rfl rfl
theorem kw89 : (Cond.instantiable RX5 2) ∈ mS := mS_in inT1 33 rfl rfl
theorem kw91 : (Cond.instanceMethod yX5_init) ∈ mS := mS_in inT1 35 rfl rfl
theorem kw92 : (Cond.code yX5_init prog_7_method_1_code 1 none) ∈ mS := mS_in inT1 36 rfl rfl
theorem kw93 : (Cond.methodLink RX5 3 objectInit) ∈ mS := mS_in inT1 37 rfl rfl
theorem kw94 : (Cond.fieldLink RX5 9 RX5 "n" "I") ∈ mS := mS_in inT1 38 rfl rfl
theorem kw95 : (Cond.fieldLink RX7 19 RX5 "n" "I") ∈ mS := mS_in inT1 39 rfl rfl
theorem kw96 : (Cond.fieldLink RX11 98 RX5 "n" "I") ∈ mS := mS_in inT1 40 rfl rfl
theorem kw97 : (Cond.fieldLink RX3 48 RX5 "n" "I") ∈ mS := mS_in inT1 41 rfl rfl
theorem kw98 : (Cond.fieldLink RX5 15 RX5 "counts" "[I") ∈ mS := mS_in inT1 42 rfl rfl
theorem kw99 : (Cond.fieldLink RX7 31 RX5 "counts" "[I") ∈ mS := mS_in inT1 43 rfl rfl
theorem kw100 : (Cond.fieldLink RX3 51 RX5 "counts" "[I") ∈ mS := mS_in inT1 44 rfl rfl
theorem kw101 : (Cond.fieldLink RX11 109 RX5 "counts" "[I") ∈ mS := mS_in inT1 45 rfl rfl
theorem kw102 : (Cond.fieldLink RX9 59 RX5 "counts" "[I") ∈ mS := mS_in inT1 46 rfl rfl
theorem kw108 : (Cond.arrayClass FieldType.int) ∈ mS := mS_in inT1 52 rfl rfl
theorem kw109 : (Cond.classLink RX8 18 RX4) ∈ mS := mS_in inT1 53 rfl rfl
theorem kw110 : (Cond.instantiable RX4 3) ∈ mS := mS_in inT1 54 rfl rfl
theorem kw112 : (Cond.instanceMethod yX4_init) ∈ mS := mS_in inT1 56 rfl rfl
theorem kw113 : (Cond.code yX4_init prog_6_method_1_code 1 none) ∈ mS := mS_in inT1 57 rfl rfl
theorem kw114 : (Cond.methodLink RX4 3 objectInit) ∈ mS := mS_in inT1 58 rfl rfl
theorem kw115 : (Cond.fieldLink RX4 18 RX4 "size" "I") ∈ mS := mS_in inT1 59 rfl rfl
theorem kw116 : (Cond.fieldLink RX11 227 RX4 "size" "I") ∈ mS := mS_in inT1 60 rfl rfl
theorem kw117 : (Cond.fieldLink RX4 9 RX4 "kinds" "[I") ∈ mS := mS_in inT1 61 rfl rfl
theorem kw118 : (Cond.fieldLink RX11 234 RX4 "kinds" "[I") ∈ mS := mS_in inT1 62 rfl rfl
theorem kw119 : (Cond.fieldLink RX4 15 RX4 "values" "[I") ∈ mS := mS_in inT1 63 rfl rfl
theorem kw120 : (Cond.fieldLink RX11 237 RX4 "values" "[I") ∈ mS := mS_in inT1 64 rfl rfl
theorem kw128 : (Cond.classLink RX8 25 RX6) ∈ mS := mS_in inT1 72 rfl rfl
theorem kw130 : (Cond.instantiable RX6 2) ∈ mS := mS_in inT1 74 rfl rfl
theorem kw131 : (Cond.methodLink RX8 27 yX6_init) ∈ mS := mS_in inT1 75 rfl rfl
theorem kw132 : (Cond.instanceMethod yX6_init) ∈ mS := mS_in inT1 76 rfl rfl
theorem kw133 : (Cond.code yX6_init prog_8_method_1_code 2 none) ∈ mS := mS_in inT1 77 rfl rfl
theorem kw134 : (Cond.methodLink RX6 3 objectInit) ∈ mS := mS_in inT1 78 rfl rfl
theorem kw135 : (Cond.classLink RX6 9 RX5) ∈ mS := mS_in inT1 79 rfl rfl
theorem kw138 : (Cond.fieldLink RX6 18 RX6 "size" "I") ∈ mS := mS_in inT1 82 rfl rfl
theorem kw139 : (Cond.fieldLink RX11 254 RX6 "size" "I") ∈ mS := mS_in inT1 83 rfl rfl
theorem kw140 : (Cond.fieldLink RX6 11 RX6 "rows" "[LNoughtSums$Row;") ∈ mS := mS_in inT1 84 rfl rfl
theorem kw141 : (Cond.fieldLink RX11 260 RX6 "rows" "[LNoughtSums$Row;") ∈ mS := mS_in inT1 85 rfl rfl
theorem kw147 : (Cond.fieldLink RX8 12 RX8 "row" "LNoughtSums$Row;") ∈ mS := mS_in inT1 91 rfl rfl
theorem kw148 : (Cond.fieldLink RX11 95 RX8 "row" "LNoughtSums$Row;") ∈ mS := mS_in inT1 92 rfl rfl
theorem kw149 : (Cond.fieldLink RX8 21 RX8 "plan" "LNoughtSums$Plan;") ∈ mS := mS_in inT1 93 rfl rfl
theorem kw150 : (Cond.fieldLink RX11 223 RX8 "plan" "LNoughtSums$Plan;") ∈ mS := mS_in inT1 94 rfl rfl
theorem kw151 : (Cond.fieldLink RX8 28 RX8 "shelves" "[LNoughtSums$Shelf;") ∈ mS := mS_in inT1 95 rfl rfl
theorem kw152 : (Cond.fieldLink RX11 250 RX8 "shelves" "[LNoughtSums$Shelf;") ∈ mS := mS_in inT1 96 rfl rfl
theorem kw160 : (Cond.classLink RX11 21 RX1) ∈ mS := mS_in inT1 104 rfl rfl
theorem kw161 : (Cond.instantiable RX1 7) ∈ mS := mS_in inT1 105 rfl rfl
theorem kw163 : (Cond.instanceMethod yX1_init) ∈ mS := mS_in inT1 107 rfl rfl
theorem kw164 : (Cond.code yX1_init prog_3_method_1_code 1 none) ∈ mS := mS_in inT1 108 rfl rfl
theorem kw165 : (Cond.methodLink RX1 3 objectInit) ∈ mS := mS_in inT1 109 rfl rfl
theorem kw166 : (Cond.fieldLink RX1 22 RX1 "n" "I") ∈ mS := mS_in inT1 110 rfl rfl
theorem kw167 : (Cond.fieldLink RX1 37 RX1 "packedN" "I") ∈ mS := mS_in inT1 111 rfl rfl
theorem kw168 : (Cond.fieldLink RX1 60 RX1 "words" "I") ∈ mS := mS_in inT1 112 rfl rfl
theorem kw169 : (Cond.fieldLink RX1 57 RX1 "degree" "I") ∈ mS := mS_in inT1 113 rfl rfl
theorem kw170 : (Cond.fieldLink RX11 119 RX1 "degree" "I") ∈ mS := mS_in inT1 114 rfl rfl
theorem kw171 : (Cond.fieldLink RX1 9 RX1 "divisor" "[I") ∈ mS := mS_in inT1 115 rfl rfl
theorem kw172 : (Cond.fieldLink RX11 124 RX1 "divisor" "[I") ∈ mS := mS_in inT1 116 rfl rfl
theorem kw173 : (Cond.fieldLink RX1 15 RX1 "left" "[I") ∈ mS := mS_in inT1 117 rfl rfl
theorem kw174 : (Cond.fieldLink RX11 131 RX1 "left" "[I") ∈ mS := mS_in inT1 118 rfl rfl
theorem kw175 : (Cond.fieldLink RX1 18 RX1 "packed" "[J") ∈ mS := mS_in inT1 119 rfl rfl
theorem kw191 : (Cond.arrayClass FieldType.long) ∈ mS := mS_in inT1 135 rfl rfl
theorem kw192 : (Cond.classLink RX11 28 RX10) ∈ mS := mS_in inT1 136 rfl rfl
theorem kw193 : (Cond.instantiable RX10 7) ∈ mS := mS_in inT1 137 rfl rfl
theorem kw194 : (Cond.methodLink RX11 30 yX10_init) ∈ mS := mS_in inT1 138 rfl rfl
theorem kw195 : (Cond.instanceMethod yX10_init) ∈ mS := mS_in inT1 139 rfl rfl
theorem kw196 : (Cond.code yX10_init prog_12_method_1_code 2 none) ∈ mS := mS_in inT1 140 rfl rfl
theorem kw197 : (Cond.methodLink RX10 3 objectInit) ∈ mS := mS_in inT1 141 rfl rfl
theorem kw198 : (Cond.fieldLink RX10 25 RX10 "division" "LNoughtSums$Division;") ∈ mS := mS_in inT1 142 rfl rfl
theorem kw199 : (Cond.fieldLink RX10 9 RX10 "roots" "[I") ∈ mS := mS_in inT1 143 rfl rfl
theorem kw200 : (Cond.fieldLink RX10 15 RX10 "most" "[I") ∈ mS := mS_in inT1 144 rfl rfl
theorem kw201 : (Cond.fieldLink RX10 18 RX10 "sum" "[J") ∈ mS := mS_in inT1 145 rfl rfl
theorem kw202 : (Cond.fieldLink RX10 35 RX10 "size" "I") ∈ mS := mS_in inT1 146 rfl rfl
theorem kw203 : (Cond.fieldLink RX10 22 RX10 "taken" "[I") ∈ mS := mS_in inT1 147 rfl rfl
theorem kw204 : (Cond.fieldLink RX3 79 RX10 "taken" "[I") ∈ mS := mS_in inT1 148 rfl rfl
theorem kw205 : (Cond.fieldLink RX10 39 RX10 "total" "I") ∈ mS := mS_in inT1 149 rfl rfl
theorem kw206 : (Cond.fieldLink RX3 70 RX10 "total" "I") ∈ mS := mS_in inT1 150 rfl rfl
theorem kw222 : (Cond.classLink RX11 37 RX3) ∈ mS := mS_in inT1 166 rfl rfl
theorem kw223 : (Cond.instantiable RX3 7) ∈ mS := mS_in inT1 167 rfl rfl
theorem kw224 : (Cond.methodLink RX11 39 yX3_init) ∈ mS := mS_in inT1 168 rfl rfl
theorem kw225 : (Cond.instanceMethod yX3_init) ∈ mS := mS_in inT1 169 rfl rfl
theorem kw226 : (Cond.code yX3_init prog_5_method_1_code 2 none) ∈ mS := mS_in inT1 170 rfl rfl
theorem kw227 : (Cond.methodLink RX3 3 objectInit) ∈ mS := mS_in inT1 171 rfl rfl
theorem kw228 : (Cond.classLink RX3 9 RX5) ∈ mS := mS_in inT1 172 rfl rfl
theorem kw230 : (Cond.fieldLink RX3 22 RX3 "walk" "LNoughtSums$Walk;") ∈ mS := mS_in inT1 174 rfl rfl
theorem kw231 : (Cond.fieldLink RX3 12 RX3 "known" "LNoughtSums$Row;") ∈ mS := mS_in inT1 175 rfl rfl
theorem kw232 : (Cond.fieldLink RX3 26 RX3 "hasLooked" "Z") ∈ mS := mS_in inT1 176 rfl rfl
theorem kw233 : (Cond.fieldLink RX3 18 RX3 "first" "[I") ∈ mS := mS_in inT1 177 rfl rfl
theorem kw234 : (Cond.fieldLink RX11 155 RX3 "first" "[I") ∈ mS := mS_in inT1 178 rfl rfl
theorem kw235 : (Cond.fieldLink RX3 38 RX3 "all" "I") ∈ mS := mS_in inT1 179 rfl rfl
theorem kw236 : (Cond.fieldLink RX11 146 RX3 "all" "I") ∈ mS := mS_in inT1 180 rfl rfl
theorem kw237 : (Cond.fieldLink RX3 42 RX3 "least" "I") ∈ mS := mS_in inT1 181 rfl rfl
theorem kw238 : (Cond.fieldLink RX11 149 RX3 "least" "I") ∈ mS := mS_in inT1 182 rfl rfl
theorem kw239 : (Cond.fieldLink RX3 45 RX3 "ofLeast" "I") ∈ mS := mS_in inT1 183 rfl rfl
theorem kw240 : (Cond.fieldLink RX11 152 RX3 "ofLeast" "I") ∈ mS := mS_in inT1 184 rfl rfl
theorem kw256 : (Cond.classLink RX11 46 RX0) ∈ mS := mS_in inT1 200 rfl rfl
theorem kw257 : (Cond.instantiable RX0 5) ∈ mS := mS_in inT1 201 rfl rfl
theorem kw258 : (Cond.methodLink RX11 48 yX0_init) ∈ mS := mS_in inT1 202 rfl rfl
theorem kw259 : (Cond.instanceMethod yX0_init) ∈ mS := mS_in inT1 203 rfl rfl
theorem kw260 : (Cond.code yX0_init prog_2_method_1_code 2 none) ∈ mS := mS_in inT1 204 rfl rfl
theorem kw261 : (Cond.methodLink RX0 3 objectInit) ∈ mS := mS_in inT1 205 rfl rfl
theorem kw262 : (Cond.fieldLink RX0 18 RX0 "walk" "LNoughtSums$Walk;") ∈ mS := mS_in inT1 206 rfl rfl
theorem kw263 : (Cond.fieldLink RX0 9 RX0 "ones" "[I") ∈ mS := mS_in inT1 207 rfl rfl
theorem kw264 : (Cond.fieldLink RX0 22 RX0 "n" "I") ∈ mS := mS_in inT1 208 rfl rfl
theorem kw265 : (Cond.fieldLink RX0 15 RX0 "rows" "[I") ∈ mS := mS_in inT1 209 rfl rfl
theorem kw266 : (Cond.fieldLink RX11 211 RX0 "rows" "[I") ∈ mS := mS_in inT1 210 rfl rfl
theorem kw267 : (Cond.fieldLink RX0 30 RX0 "size" "I") ∈ mS := mS_in inT1 211 rfl rfl
theorem kw268 : (Cond.fieldLink RX11 207 RX0 "size" "I") ∈ mS := mS_in inT1 212 rfl rfl
theorem kw280 : (Cond.classLink RX11 53 RX2) ∈ mS := mS_in inT1 224 rfl rfl
theorem kw282 : (Cond.instantiable RX2 2) ∈ mS := mS_in inT1 226 rfl rfl
theorem kw284 : (Cond.instanceMethod yX2_init) ∈ mS := mS_in inT1 228 rfl rfl
theorem kw285 : (Cond.code yX2_init prog_4_method_1_code 1 none) ∈ mS := mS_in inT1 229 rfl rfl
theorem kw286 : (Cond.methodLink RX2 3 objectInit) ∈ mS := mS_in inT1 230 rfl rfl
theorem kw287 : (Cond.fieldLink RX2 9 RX2 "size" "I") ∈ mS := mS_in inT1 231 rfl rfl
theorem kw288 : (Cond.fieldLink RX11 181 RX2 "size" "I") ∈ mS := mS_in inT1 232 rfl rfl
theorem kw289 : (Cond.fieldLink RX2 15 RX2 "values" "[J") ∈ mS := mS_in inT1 233 rfl rfl
theorem kw290 : (Cond.fieldLink RX11 184 RX2 "values" "[J") ∈ mS := mS_in inT1 234 rfl rfl
theorem kw296 : (Cond.classLink RX11 60 RX9) ∈ mS := mS_in inT2 0 rfl rfl
theorem kw297 : (Cond.instantiable RX9 5) ∈ mS := mS_in inT2 1 rfl rfl
theorem kw299 : (Cond.instanceMethod yX9_init) ∈ mS := mS_in inT2 3 rfl rfl
theorem kw300 : (Cond.code yX9_init prog_11_method_1_code 1 none) ∈ mS := mS_in inT2 4 rfl rfl
theorem kw301 : (Cond.methodLink RX9 3 objectInit) ∈ mS := mS_in inT2 5 rfl rfl
theorem kw302 : (Cond.classLink RX9 15 RX5) ∈ mS := mS_in inT2 6 rfl rfl
theorem kw304 : (Cond.fieldLink RX9 9 RX9 "bytes" "[I") ∈ mS := mS_in inT2 8 rfl rfl
theorem kw305 : (Cond.fieldLink RX9 26 RX9 "tellsWrong" "Z") ∈ mS := mS_in inT2 9 rfl rfl
theorem kw306 : (Cond.fieldLink RX9 22 RX9 "size" "I") ∈ mS := mS_in inT2 10 rfl rfl
theorem kw307 : (Cond.fieldLink RX11 268 RX9 "size" "I") ∈ mS := mS_in inT2 11 rfl rfl
theorem kw308 : (Cond.fieldLink RX9 30 RX9 "at" "I") ∈ mS := mS_in inT2 12 rfl rfl
theorem kw309 : (Cond.fieldLink RX11 274 RX9 "at" "I") ∈ mS := mS_in inT2 13 rfl rfl
theorem kw310 : (Cond.fieldLink RX9 18 RX9 "told" "LNoughtSums$Row;") ∈ mS := mS_in inT2 14 rfl rfl
theorem kw311 : (Cond.fieldLink RX11 280 RX9 "told" "LNoughtSums$Row;") ∈ mS := mS_in inT2 15 rfl rfl
theorem kw323 : (Cond.classLink RX11 67 RX7) ∈ mS := mS_in inT2 27 rfl rfl
theorem kw324 : (Cond.instantiable RX7 2) ∈ mS := mS_in inT2 28 rfl rfl
theorem kw326 : (Cond.instanceMethod yX7_init) ∈ mS := mS_in inT2 30 rfl rfl
theorem kw327 : (Cond.code yX7_init prog_9_method_1_code 1 none) ∈ mS := mS_in inT2 31 rfl rfl
theorem kw328 : (Cond.methodLink RX7 3 objectInit) ∈ mS := mS_in inT2 32 rfl rfl
theorem kw329 : (Cond.fieldLink RX7 15 RX7 "size" "I") ∈ mS := mS_in inT2 33 rfl rfl
theorem kw330 : (Cond.fieldLink RX11 286 RX7 "size" "I") ∈ mS := mS_in inT2 34 rfl rfl
theorem kw331 : (Cond.fieldLink RX7 9 RX7 "bytes" "[I") ∈ mS := mS_in inT2 35 rfl rfl
theorem kw332 : (Cond.fieldLink RX11 287 RX7 "bytes" "[I") ∈ mS := mS_in inT2 36 rfl rfl
theorem kw338 : (Cond.classLink RX11 74 RX5) ∈ mS := mS_in inT2 42 rfl rfl
theorem kw340 : (Cond.fieldLink RX11 12 RX11 "state" "LNoughtSums$State;") ∈ mS := mS_in inT2 44 rfl rfl
theorem kw341 : (Cond.fieldLink RX11 18 RX11 "kept" "LNoughtSums$State;") ∈ mS := mS_in inT2 45 rfl rfl
theorem kw342 : (Cond.fieldLink RX11 293 RX11 "hasImage" "Z") ∈ mS := mS_in inT2 46 rfl rfl
theorem kw343 : (Cond.fieldLink RX11 24 RX11 "division" "LNoughtSums$Division;") ∈ mS := mS_in inT2 47 rfl rfl
theorem kw344 : (Cond.fieldLink RX11 33 RX11 "walk" "LNoughtSums$Walk;") ∈ mS := mS_in inT2 48 rfl rfl
theorem kw345 : (Cond.fieldLink RX11 42 RX11 "found" "LNoughtSums$Parts;") ∈ mS := mS_in inT2 49 rfl rfl
theorem kw346 : (Cond.fieldLink RX11 49 RX11 "bitRows" "LNoughtSums$BitRows;") ∈ mS := mS_in inT2 50 rfl rfl
theorem kw347 : (Cond.fieldLink RX11 56 RX11 "lists" "[LNoughtSums$LongList;") ∈ mS := mS_in inT2 51 rfl rfl
theorem kw348 : (Cond.fieldLink RX11 63 RX11 "tape" "LNoughtSums$Tape;") ∈ mS := mS_in inT2 52 rfl rfl
theorem kw349 : (Cond.fieldLink RX11 70 RX11 "spelling" "LNoughtSums$Spelling;") ∈ mS := mS_in inT2 53 rfl rfl
theorem kw350 : (Cond.fieldLink RX11 77 RX11 "remaining" "LNoughtSums$Row;") ∈ mS := mS_in inT2 54 rfl rfl
theorem kw351 : (Cond.fieldLink RX11 81 RX11 "spare" "[I") ∈ mS := mS_in inT2 55 rfl rfl
theorem kw352 : (Cond.fieldLink RX11 85 RX11 "leftByFirst" "[I") ∈ mS := mS_in inT2 56 rfl rfl
theorem kw353 : (Cond.fieldLink RX11 88 RX11 "waysTo" "[I") ∈ mS := mS_in inT2 57 rfl rfl
theorem kw383 : (Cond.methodLink RL 13 yX11_base) ∈ mS := mS_in inT2 87 rfl rfl
theorem kw384 : (Cond.instanceMethod yX11_base) ∈ mS := mS_in inT2 88 rfl rfl
theorem kw385 : (Cond.selects RX11 yX11_base yX11_base) ∈ mS := mS_in inT2 89 rfl rfl
theorem kw386 : (Cond.code yX11_base prog_1_method_2_code 3 (some .int)) ∈ mS := mS_in inT2 90 rfl rfl
theorem kw387 : (Cond.methodLink RX11 91 yX11_isBase) ∈ mS := mS_in inT2 91 rfl rfl
theorem kw388 : (Cond.static yX11_isBase) ∈ mS := mS_in inT2 92 rfl rfl
theorem kw389 : (Cond.code yX11_isBase prog_1_method_52_code 1 (some .boolean)) ∈ mS := mS_in inT2 93 rfl rfl
theorem kw390 : (Cond.methodLink RX11 102 yX5_renew) ∈ mS := mS_in inT2 94 rfl rfl
theorem kw391 : (Cond.instanceMethod yX5_renew) ∈ mS := mS_in inT2 95 rfl rfl
theorem kw392 : (Cond.selects RX5 yX5_renew yX5_renew) ∈ mS := mS_in inT2 96 rfl rfl
theorem kw393 : (Cond.code yX5_renew prog_7_method_2_code 2 none) ∈ mS := mS_in inT2 97 rfl rfl
theorem kw394 : (Cond.methodLink RX5 19 yJ7_fill_53178) ∈ mS := mS_in inT2 98 rfl rfl
theorem kw395 : (Cond.static yJ7_fill_53178) ∈ mS := mS_in inT2 99 rfl rfl
theorem kw396 : (Cond.code yJ7_fill_53178 prog_18_method_103_code 4 none) ∈ mS := mS_in inT2 100 rfl rfl
theorem kw397 : (Cond.methodLink RL 18 yX11_set) ∈ mS := mS_in inT2 101 rfl rfl
theorem kw398 : (Cond.instanceMethod yX11_set) ∈ mS := mS_in inT2 102 rfl rfl
theorem kw399 : (Cond.selects RX11 yX11_set yX11_set) ∈ mS := mS_in inT2 103 rfl rfl
theorem kw400 : (Cond.code yX11_set prog_1_method_3_code 5 (some .int)) ∈ mS := mS_in inT2 104 rfl rfl
theorem kw401 : (Cond.methodLink RX11 106 yX5_has) ∈ mS := mS_in inT2 105 rfl rfl
theorem kw402 : (Cond.instanceMethod yX5_has) ∈ mS := mS_in inT2 106 rfl rfl
theorem kw403 : (Cond.selects RX5 yX5_has yX5_has) ∈ mS := mS_in inT2 107 rfl rfl
theorem kw404 : (Cond.code yX5_has prog_7_method_4_code 2 (some .boolean)) ∈ mS := mS_in inT2 108 rfl rfl
theorem kw405 : (Cond.methodLink RL 23 yX11_add) ∈ mS := mS_in inT2 109 rfl rfl
theorem kw406 : (Cond.instanceMethod yX11_add) ∈ mS := mS_in inT2 110 rfl rfl
theorem kw407 : (Cond.selects RX11 yX11_add yX11_add) ∈ mS := mS_in inT2 111 rfl rfl
theorem kw408 : (Cond.code yX11_add prog_1_method_4_code 3 (some .int)) ∈ mS := mS_in inT2 112 rfl rfl
theorem kw409 : (Cond.methodLink RL 27 yX11_of) ∈ mS := mS_in inT2 113 rfl rfl
theorem kw410 : (Cond.instanceMethod yX11_of) ∈ mS := mS_in inT2 114 rfl rfl
theorem kw411 : (Cond.selects RX11 yX11_of yX11_of) ∈ mS := mS_in inT2 115 rfl rfl
theorem kw412 : (Cond.code yX11_of prog_1_method_5_code 2 (some .int)) ∈ mS := mS_in inT2 116 rfl rfl
theorem kw413 : (Cond.methodLink RL 31 yX11_weight) ∈ mS := mS_in inT2 117 rfl rfl
theorem kw414 : (Cond.instanceMethod yX11_weight) ∈ mS := mS_in inT2 118 rfl rfl
theorem kw415 : (Cond.selects RX11 yX11_weight yX11_weight) ∈ mS := mS_in inT2 119 rfl rfl
theorem kw416 : (Cond.code yX11_weight prog_1_method_6_code 1 (some .int)) ∈ mS := mS_in inT2 120 rfl rfl
theorem kw417 : (Cond.methodLink RX11 112 yX5_total) ∈ mS := mS_in inT2 121 rfl rfl
theorem kw418 : (Cond.instanceMethod yX5_total) ∈ mS := mS_in inT2 122 rfl rfl
theorem kw419 : (Cond.selects RX5 yX5_total yX5_total) ∈ mS := mS_in inT2 123 rfl rfl
theorem kw420 : (Cond.code yX5_total prog_7_method_6_code 3 (some .int)) ∈ mS := mS_in inT2 124 rfl rfl
theorem kw421 : (Cond.methodLink RL 36 yX11_clear) ∈ mS := mS_in inT2 125 rfl rfl
theorem kw422 : (Cond.instanceMethod yX11_clear) ∈ mS := mS_in inT2 126 rfl rfl
theorem kw423 : (Cond.selects RX11 yX11_clear yX11_clear) ∈ mS := mS_in inT2 127 rfl rfl
theorem kw424 : (Cond.code yX11_clear prog_1_method_7_code 2 (some .int)) ∈ mS := mS_in inT2 128 rfl rfl
theorem kw425 : (Cond.methodLink RL 40 yX11_phi) ∈ mS := mS_in inT2 129 rfl rfl
theorem kw426 : (Cond.instanceMethod yX11_phi) ∈ mS := mS_in inT2 130 rfl rfl
theorem kw427 : (Cond.selects RX11 yX11_phi yX11_phi) ∈ mS := mS_in inT2 131 rfl rfl
theorem kw428 : (Cond.code yX11_phi prog_1_method_8_code 2 (some .long)) ∈ mS := mS_in inT2 132 rfl rfl
theorem kw429 : (Cond.methodLink RX11 116 yX1_prepare) ∈ mS := mS_in inT2 133 rfl rfl
theorem kw430 : (Cond.instanceMethod yX1_prepare) ∈ mS := mS_in inT2 134 rfl rfl
theorem kw431 : (Cond.selects RX1 yX1_prepare yX1_prepare) ∈ mS := mS_in inT2 135 rfl rfl
theorem kw432 : (Cond.code yX1_prepare prog_3_method_2_code 2 none) ∈ mS := mS_in inT2 136 rfl rfl
theorem kw434 : (Cond.methodLink RX1 30 yX1_makeDivisor) ∈ mS := mS_in inT2 138 rfl rfl
theorem kw436 : (Cond.instanceMethod yX1_makeDivisor) ∈ mS := mS_in inT2 140 rfl rfl
theorem kw437 : (Cond.code yX1_makeDivisor prog_3_method_4_code 2 none) ∈ mS := mS_in inT2 141 rfl rfl
theorem kw438 : (Cond.methodLink RX1 43 yJ7_fill_53178) ∈ mS := mS_in inT2 142 rfl rfl
theorem kw439 : (Cond.methodLink RX1 49 yX1_moebius) ∈ mS := mS_in inT2 143 rfl rfl
theorem kw440 : (Cond.static yX1_moebius) ∈ mS := mS_in inT2 144 rfl rfl
theorem kw441 : (Cond.code yX1_moebius prog_3_method_6_code 4 (some .int)) ∈ mS := mS_in inT2 145 rfl rfl
theorem kw442 : (Cond.methodLink RX1 53 yX1_multiplyDivisor) ∈ mS := mS_in inT2 146 rfl rfl
theorem kw444 : (Cond.instanceMethod yX1_multiplyDivisor) ∈ mS := mS_in inT2 148 rfl rfl
theorem kw445 : (Cond.code yX1_multiplyDivisor prog_3_method_5_code 4 none) ∈ mS := mS_in inT2 149 rfl rfl
theorem kw446 : (Cond.constantLong RX11 122 (-9223372036854775808 : Int64)) ∈ mS := mS_in inT2 150 rfl rfl
theorem kw447 : (Cond.methodLink RL 45 yX11_rest) ∈ mS := mS_in inT2 151 rfl rfl
theorem kw448 : (Cond.instanceMethod yX11_rest) ∈ mS := mS_in inT2 152 rfl rfl
theorem kw449 : (Cond.selects RX11 yX11_rest yX11_rest) ∈ mS := mS_in inT2 153 rfl rfl
theorem kw450 : (Cond.code yX11_rest prog_1_method_9_code 2 (some .long)) ∈ mS := mS_in inT2 154 rfl rfl
theorem kw451 : (Cond.methodLink RX11 127 yX1_divide) ∈ mS := mS_in inT2 155 rfl rfl
theorem kw452 : (Cond.instanceMethod yX1_divide) ∈ mS := mS_in inT2 156 rfl rfl
theorem kw453 : (Cond.selects RX1 yX1_divide yX1_divide) ∈ mS := mS_in inT2 157 rfl rfl
theorem kw454 : (Cond.code yX1_divide prog_3_method_8_code 2 none) ∈ mS := mS_in inT2 158 rfl rfl
theorem kw455 : (Cond.methodLink RX1 69 arraycopyName) ∈ mS := mS_in inT2 159 rfl rfl
theorem kw456 : (Cond.static arraycopyName) ∈ mS := mS_in inT2 160 rfl rfl
theorem kw457 : (Cond.native arraycopyName) ∈ mS := mS_in inT2 161 rfl rfl
theorem kw458 : (Cond.methodLink RX1 66 yX1_reduce) ∈ mS := mS_in inT2 162 rfl rfl
theorem kw460 : (Cond.instanceMethod yX1_reduce) ∈ mS := mS_in inT2 164 rfl rfl
theorem kw461 : (Cond.code yX1_reduce prog_3_method_9_code 4 none) ∈ mS := mS_in inT2 165 rfl rfl
theorem kw462 : (Cond.methodLink RL 49 yX11_nought) ∈ mS := mS_in inT2 166 rfl rfl
theorem kw463 : (Cond.instanceMethod yX11_nought) ∈ mS := mS_in inT2 167 rfl rfl
theorem kw464 : (Cond.selects RX11 yX11_nought yX11_nought) ∈ mS := mS_in inT2 168 rfl rfl
theorem kw465 : (Cond.code yX11_nought prog_1_method_10_code 1 (some .int)) ∈ mS := mS_in inT2 169 rfl rfl
theorem kw466 : (Cond.methodLink RX11 134 yX11_isNought) ∈ mS := mS_in inT2 170 rfl rfl
theorem kw468 : (Cond.instanceMethod yX11_isNought) ∈ mS := mS_in inT2 172 rfl rfl
theorem kw469 : (Cond.code yX11_isNought prog_1_method_57_code 2 (some .boolean)) ∈ mS := mS_in inT2 173 rfl rfl
theorem kw470 : (Cond.methodLink RX11 303 yX1_leavesNothing) ∈ mS := mS_in inT2 174 rfl rfl
theorem kw471 : (Cond.instanceMethod yX1_leavesNothing) ∈ mS := mS_in inT2 175 rfl rfl
theorem kw472 : (Cond.selects RX1 yX1_leavesNothing yX1_leavesNothing) ∈ mS := mS_in inT2 176 rfl rfl
theorem kw473 : (Cond.code yX1_leavesNothing prog_3_method_10_code 2 (some .boolean)) ∈ mS := mS_in inT2 177 rfl rfl
theorem kw474 : (Cond.methodLink RL 53 yX11_primitive) ∈ mS := mS_in inT2 178 rfl rfl
theorem kw475 : (Cond.instanceMethod yX11_primitive) ∈ mS := mS_in inT2 179 rfl rfl
theorem kw476 : (Cond.selects RX11 yX11_primitive yX11_primitive) ∈ mS := mS_in inT2 180 rfl rfl
theorem kw477 : (Cond.code yX11_primitive prog_1_method_11_code 2 (some .int)) ∈ mS := mS_in inT2 181 rfl rfl
theorem kw478 : (Cond.methodLink RX11 138 yX5_isDear) ∈ mS := mS_in inT2 182 rfl rfl
theorem kw479 : (Cond.instanceMethod yX5_isDear) ∈ mS := mS_in inT2 183 rfl rfl
theorem kw480 : (Cond.selects RX5 yX5_isDear yX5_isDear) ∈ mS := mS_in inT2 184 rfl rfl
theorem kw481 : (Cond.code yX5_isDear prog_7_method_8_code 3 (some .boolean)) ∈ mS := mS_in inT2 185 rfl rfl
theorem kw482 : (Cond.methodLink RX11 142 yX3_lookThrough) ∈ mS := mS_in inT2 186 rfl rfl
theorem kw483 : (Cond.instanceMethod yX3_lookThrough) ∈ mS := mS_in inT2 187 rfl rfl
theorem kw484 : (Cond.selects RX3 yX3_lookThrough yX3_lookThrough) ∈ mS := mS_in inT2 188 rfl rfl
theorem kw485 : (Cond.code yX3_lookThrough prog_5_method_2_code 3 none) ∈ mS := mS_in inT2 189 rfl rfl
theorem kw486 : (Cond.methodLink RX3 30 yX5_isSame) ∈ mS := mS_in inT2 190 rfl rfl
theorem kw487 : (Cond.instanceMethod yX5_isSame) ∈ mS := mS_in inT2 191 rfl rfl
theorem kw488 : (Cond.selects RX5 yX5_isSame yX5_isSame) ∈ mS := mS_in inT2 192 rfl rfl
theorem kw489 : (Cond.code yX5_isSame prog_7_method_5_code 3 (some .boolean)) ∈ mS := mS_in inT2 193 rfl rfl
theorem kw490 : (Cond.methodLink RX3 34 yX5_become) ∈ mS := mS_in inT2 194 rfl rfl
theorem kw491 : (Cond.instanceMethod yX5_become) ∈ mS := mS_in inT2 195 rfl rfl
theorem kw492 : (Cond.selects RX5 yX5_become yX5_become) ∈ mS := mS_in inT2 196 rfl rfl
theorem kw493 : (Cond.code yX5_become prog_7_method_3_code 2 none) ∈ mS := mS_in inT2 197 rfl rfl
theorem kw494 : (Cond.methodLink RX5 25 arraycopyName) ∈ mS := mS_in inT2 198 rfl rfl
theorem kw495 : (Cond.methodLink RX3 54 yX10_begin) ∈ mS := mS_in inT2 199 rfl rfl
theorem kw496 : (Cond.instanceMethod yX10_begin) ∈ mS := mS_in inT2 200 rfl rfl
theorem kw497 : (Cond.selects RX10 yX10_begin yX10_begin) ∈ mS := mS_in inT2 201 rfl rfl
theorem kw498 : (Cond.code yX10_begin prog_12_method_2_code 4 none) ∈ mS := mS_in inT2 202 rfl rfl
theorem kw499 : (Cond.methodLink RX10 29 yX1_preparePacked) ∈ mS := mS_in inT2 203 rfl rfl
theorem kw500 : (Cond.instanceMethod yX1_preparePacked) ∈ mS := mS_in inT2 204 rfl rfl
theorem kw501 : (Cond.selects RX1 yX1_preparePacked yX1_preparePacked) ∈ mS := mS_in inT2 205 rfl rfl
theorem kw502 : (Cond.code yX1_preparePacked prog_3_method_3_code 2 none) ∈ mS := mS_in inT2 206 rfl rfl
theorem kw503 : (Cond.methodLink RX1 33 yX1_prepare) ∈ mS := mS_in inT2 207 rfl rfl
theorem kw504 : (Cond.methodLink RX1 40 yX1_makePacked) ∈ mS := mS_in inT2 208 rfl rfl
theorem kw506 : (Cond.instanceMethod yX1_makePacked) ∈ mS := mS_in inT2 210 rfl rfl
theorem kw507 : (Cond.code yX1_makePacked prog_3_method_7_code 3 none) ∈ mS := mS_in inT2 211 rfl rfl
theorem kw508 : (Cond.methodLink RX1 63 yJ7_fill_d0a16) ∈ mS := mS_in inT2 212 rfl rfl
theorem kw509 : (Cond.static yJ7_fill_d0a16) ∈ mS := mS_in inT2 213 rfl rfl
theorem kw510 : (Cond.code yJ7_fill_d0a16 prog_18_method_101_code 5 none) ∈ mS := mS_in inT2 214 rfl rfl
theorem kw511 : (Cond.methodLink RX10 42 yJ7_fill_53178) ∈ mS := mS_in inT2 215 rfl rfl
theorem kw512 : (Cond.methodLink RX10 48 yJ7_fill_d0a16) ∈ mS := mS_in inT2 216 rfl rfl
theorem kw513 : (Cond.methodLink RX3 60 yX10_goesOn) ∈ mS := mS_in inT2 217 rfl rfl
theorem kw514 : (Cond.instanceMethod yX10_goesOn) ∈ mS := mS_in inT2 218 rfl rfl
theorem kw515 : (Cond.selects RX10 yX10_goesOn yX10_goesOn) ∈ mS := mS_in inT2 219 rfl rfl
theorem kw516 : (Cond.code yX10_goesOn prog_12_method_3_code 3 (some .boolean)) ∈ mS := mS_in inT2 220 rfl rfl
theorem kw517 : (Cond.methodLink RX10 51 yX1_addPacked) ∈ mS := mS_in inT2 221 rfl rfl
theorem kw518 : (Cond.instanceMethod yX1_addPacked) ∈ mS := mS_in inT2 222 rfl rfl
theorem kw519 : (Cond.selects RX1 yX1_addPacked yX1_addPacked) ∈ mS := mS_in inT2 223 rfl rfl
theorem kw520 : (Cond.code yX1_addPacked prog_3_method_12_code 5 none) ∈ mS := mS_in inT2 224 rfl rfl
theorem kw521 : (Cond.methodLink RX3 64 yX10_isAtNought) ∈ mS := mS_in inT2 225 rfl rfl
theorem kw522 : (Cond.instanceMethod yX10_isAtNought) ∈ mS := mS_in inT2 226 rfl rfl
theorem kw523 : (Cond.selects RX10 yX10_isAtNought yX10_isAtNought) ∈ mS := mS_in inT2 227 rfl rfl
theorem kw524 : (Cond.code yX10_isAtNought prog_12_method_4_code 2 (some .boolean)) ∈ mS := mS_in inT2 228 rfl rfl
theorem kw525 : (Cond.methodLink RX3 67 yX3_note) ∈ mS := mS_in inT2 229 rfl rfl
theorem kw527 : (Cond.instanceMethod yX3_note) ∈ mS := mS_in inT2 231 rfl rfl
theorem kw528 : (Cond.code yX3_note prog_5_method_3_code 1 none) ∈ mS := mS_in inT2 232 rfl rfl
theorem kw529 : (Cond.methodLink RX3 73 yX3_becomeFirst) ∈ mS := mS_in inT2 233 rfl rfl
theorem kw531 : (Cond.instanceMethod yX3_becomeFirst) ∈ mS := mS_in inT2 235 rfl rfl
theorem kw532 : (Cond.code yX3_becomeFirst prog_5_method_5_code 1 none) ∈ mS := mS_in inT2 236 rfl rfl
theorem kw533 : (Cond.methodLink RX3 82 arraycopyName) ∈ mS := mS_in inT2 237 rfl rfl
theorem kw534 : (Cond.methodLink RX3 76 yX3_isAheadOfFirst) ∈ mS := mS_in inT2 238 rfl rfl
theorem kw536 : (Cond.instanceMethod yX3_isAheadOfFirst) ∈ mS := mS_in inT3 0 rfl rfl
theorem kw537 : (Cond.code yX3_isAheadOfFirst prog_5_method_4_code 2 (some .boolean)) ∈ mS := mS_in inT3 1 rfl rfl
theorem kw538 : (Cond.methodLink RL 57 yX11_parts) ∈ mS := mS_in inT3 2 rfl rfl
theorem kw539 : (Cond.instanceMethod yX11_parts) ∈ mS := mS_in inT3 3 rfl rfl
theorem kw540 : (Cond.selects RX11 yX11_parts yX11_parts) ∈ mS := mS_in inT3 4 rfl rfl
theorem kw541 : (Cond.code yX11_parts prog_1_method_12_code 2 (some .int)) ∈ mS := mS_in inT3 5 rfl rfl
theorem kw542 : (Cond.methodLink RL 61 yX11_part) ∈ mS := mS_in inT3 6 rfl rfl
theorem kw543 : (Cond.instanceMethod yX11_part) ∈ mS := mS_in inT3 7 rfl rfl
theorem kw544 : (Cond.selects RX11 yX11_part yX11_part) ∈ mS := mS_in inT3 8 rfl rfl
theorem kw545 : (Cond.code yX11_part prog_1_method_13_code 3 (some .int)) ∈ mS := mS_in inT3 9 rfl rfl
theorem kw546 : (Cond.methodLink RL 65 yX11_take) ∈ mS := mS_in inT3 10 rfl rfl
theorem kw547 : (Cond.instanceMethod yX11_take) ∈ mS := mS_in inT3 11 rfl rfl
theorem kw548 : (Cond.selects RX11 yX11_take yX11_take) ∈ mS := mS_in inT3 12 rfl rfl
theorem kw549 : (Cond.code yX11_take prog_1_method_14_code 2 (some .int)) ∈ mS := mS_in inT3 13 rfl rfl
theorem kw550 : (Cond.methodLink RX11 158 yX11_loseFirstPart) ∈ mS := mS_in inT3 14 rfl rfl
theorem kw552 : (Cond.instanceMethod yX11_loseFirstPart) ∈ mS := mS_in inT3 16 rfl rfl
theorem kw553 : (Cond.code yX11_loseFirstPart prog_1_method_58_code 3 (some .boolean)) ∈ mS := mS_in inT3 17 rfl rfl
theorem kw554 : (Cond.methodLink RL 69 yX11_pieces) ∈ mS := mS_in inT3 18 rfl rfl
theorem kw555 : (Cond.instanceMethod yX11_pieces) ∈ mS := mS_in inT3 19 rfl rfl
theorem kw556 : (Cond.selects RX11 yX11_pieces yX11_pieces) ∈ mS := mS_in inT3 20 rfl rfl
theorem kw557 : (Cond.code yX11_pieces prog_1_method_15_code 3 (some .int)) ∈ mS := mS_in inT3 21 rfl rfl
theorem kw558 : (Cond.methodLink RX11 161 yX5_become) ∈ mS := mS_in inT3 22 rfl rfl
theorem kw559 : (Cond.methodLink RL 73 yX11_turn) ∈ mS := mS_in inT3 23 rfl rfl
theorem kw560 : (Cond.instanceMethod yX11_turn) ∈ mS := mS_in inT3 24 rfl rfl
theorem kw561 : (Cond.selects RX11 yX11_turn yX11_turn) ∈ mS := mS_in inT3 25 rfl rfl
theorem kw562 : (Cond.code yX11_turn prog_1_method_16_code 2 (some .int)) ∈ mS := mS_in inT3 26 rfl rfl
theorem kw563 : (Cond.methodLink RX11 164 yX11_change) ∈ mS := mS_in inT3 27 rfl rfl
theorem kw565 : (Cond.instanceMethod yX11_change) ∈ mS := mS_in inT3 29 rfl rfl
theorem kw566 : (Cond.code yX11_change prog_1_method_61_code 6 (some .boolean)) ∈ mS := mS_in inT3 30 rfl rfl
theorem kw567 : (Cond.methodLink RX11 239 yX11_canChange) ∈ mS := mS_in inT3 31 rfl rfl
theorem kw568 : (Cond.static yX11_canChange) ∈ mS := mS_in inT3 32 rfl rfl
theorem kw569 : (Cond.code yX11_canChange prog_1_method_59_code 3 (some .boolean)) ∈ mS := mS_in inT3 33 rfl rfl
theorem kw570 : (Cond.methodLink RX11 306 yX11_shareDivisor) ∈ mS := mS_in inT3 34 rfl rfl
theorem kw571 : (Cond.static yX11_shareDivisor) ∈ mS := mS_in inT3 35 rfl rfl
theorem kw572 : (Cond.code yX11_shareDivisor prog_1_method_56_code 3 (some .boolean)) ∈ mS := mS_in inT3 36 rfl rfl
theorem kw573 : (Cond.methodLink RX11 168 yX11_isPrimeOf) ∈ mS := mS_in inT3 37 rfl rfl
theorem kw574 : (Cond.static yX11_isPrimeOf) ∈ mS := mS_in inT3 38 rfl rfl
theorem kw575 : (Cond.code yX11_isPrimeOf prog_1_method_55_code 3 (some .boolean)) ∈ mS := mS_in inT3 39 rfl rfl
theorem kw576 : (Cond.methodLink RX11 314 yJ7_fill_53178) ∈ mS := mS_in inT3 40 rfl rfl
theorem kw577 : (Cond.methodLink RX11 243 yX11_rootBehind) ∈ mS := mS_in inT3 41 rfl rfl
theorem kw578 : (Cond.static yX11_rootBehind) ∈ mS := mS_in inT3 42 rfl rfl
theorem kw579 : (Cond.code yX11_rootBehind prog_1_method_60_code 4 (some .int)) ∈ mS := mS_in inT3 43 rfl rfl
theorem kw580 : (Cond.methodLink RX11 309 yJ9_floorMod_7cf53) ∈ mS := mS_in inT3 44 rfl rfl
theorem kw581 : (Cond.static yJ9_floorMod_7cf53) ∈ mS := mS_in inT3 45 rfl rfl
theorem kw582 : (Cond.code yJ9_floorMod_7cf53 prog_16_method_50_code 3 (some .int)) ∈ mS := mS_in inT3 46 rfl rfl
theorem kw583 : (Cond.methodLink RX11 320 arraycopyName) ∈ mS := mS_in inT3 47 rfl rfl
theorem kw584 : (Cond.methodLink RL 77 yX11_times) ∈ mS := mS_in inT3 48 rfl rfl
theorem kw585 : (Cond.instanceMethod yX11_times) ∈ mS := mS_in inT3 49 rfl rfl
theorem kw586 : (Cond.selects RX11 yX11_times yX11_times) ∈ mS := mS_in inT3 50 rfl rfl
theorem kw587 : (Cond.code yX11_times prog_1_method_17_code 2 (some .int)) ∈ mS := mS_in inT3 51 rfl rfl
theorem kw588 : (Cond.methodLink RL 81 yX11_mirror) ∈ mS := mS_in inT3 52 rfl rfl
theorem kw589 : (Cond.instanceMethod yX11_mirror) ∈ mS := mS_in inT3 53 rfl rfl
theorem kw590 : (Cond.selects RX11 yX11_mirror yX11_mirror) ∈ mS := mS_in inT3 54 rfl rfl
theorem kw591 : (Cond.code yX11_mirror prog_1_method_18_code 1 (some .int)) ∈ mS := mS_in inT3 55 rfl rfl
theorem kw592 : (Cond.methodLink RL 85 yX11_raise) ∈ mS := mS_in inT3 56 rfl rfl
theorem kw593 : (Cond.instanceMethod yX11_raise) ∈ mS := mS_in inT3 57 rfl rfl
theorem kw594 : (Cond.selects RX11 yX11_raise yX11_raise) ∈ mS := mS_in inT3 58 rfl rfl
theorem kw595 : (Cond.code yX11_raise prog_1_method_19_code 2 (some .int)) ∈ mS := mS_in inT3 59 rfl rfl
theorem kw596 : (Cond.methodLink RL 89 yX11_stays) ∈ mS := mS_in inT3 60 rfl rfl
theorem kw597 : (Cond.instanceMethod yX11_stays) ∈ mS := mS_in inT3 61 rfl rfl
theorem kw598 : (Cond.selects RX11 yX11_stays yX11_stays) ∈ mS := mS_in inT3 62 rfl rfl
theorem kw599 : (Cond.code yX11_stays prog_1_method_20_code 6 (some .int)) ∈ mS := mS_in inT3 63 rfl rfl
theorem kw600 : (Cond.methodLink RX11 171 yX5_compareTurned) ∈ mS := mS_in inT3 64 rfl rfl
theorem kw601 : (Cond.instanceMethod yX5_compareTurned) ∈ mS := mS_in inT3 65 rfl rfl
theorem kw602 : (Cond.selects RX5 yX5_compareTurned yX5_compareTurned) ∈ mS := mS_in inT3 66 rfl rfl
theorem kw603 : (Cond.code yX5_compareTurned prog_7_method_10_code 5 (some .int)) ∈ mS := mS_in inT3 67 rfl rfl
theorem kw604 : (Cond.methodLink RX5 31 yX5_turnedAt) ∈ mS := mS_in inT3 68 rfl rfl
theorem kw605 : (Cond.instanceMethod yX5_turnedAt) ∈ mS := mS_in inT3 69 rfl rfl
theorem kw606 : (Cond.selects RX5 yX5_turnedAt yX5_turnedAt) ∈ mS := mS_in inT3 70 rfl rfl
theorem kw607 : (Cond.code yX5_turnedAt prog_7_method_9_code 3 (some .int)) ∈ mS := mS_in inT3 71 rfl rfl
theorem kw608 : (Cond.methodLink RL 93 yX11_best) ∈ mS := mS_in inT3 72 rfl rfl
theorem kw609 : (Cond.instanceMethod yX11_best) ∈ mS := mS_in inT3 73 rfl rfl
theorem kw610 : (Cond.selects RX11 yX11_best yX11_best) ∈ mS := mS_in inT3 74 rfl rfl
theorem kw611 : (Cond.code yX11_best prog_1_method_21_code 4 (some .int)) ∈ mS := mS_in inT3 75 rfl rfl
theorem kw612 : (Cond.methodLink RL 97 yX11_alike) ∈ mS := mS_in inT3 76 rfl rfl
theorem kw613 : (Cond.instanceMethod yX11_alike) ∈ mS := mS_in inT3 77 rfl rfl
theorem kw614 : (Cond.selects RX11 yX11_alike yX11_alike) ∈ mS := mS_in inT3 78 rfl rfl
theorem kw615 : (Cond.code yX11_alike prog_1_method_22_code 4 (some .int)) ∈ mS := mS_in inT3 79 rfl rfl
theorem kw616 : (Cond.methodLink RX11 175 yX11_isList) ∈ mS := mS_in inT3 80 rfl rfl
theorem kw617 : (Cond.static yX11_isList) ∈ mS := mS_in inT3 81 rfl rfl
theorem kw618 : (Cond.code yX11_isList prog_1_method_54_code 1 (some .boolean)) ∈ mS := mS_in inT3 82 rfl rfl
theorem kw619 : (Cond.methodLink RX11 178 yX2_isMissing) ∈ mS := mS_in inT3 83 rfl rfl
theorem kw620 : (Cond.instanceMethod yX2_isMissing) ∈ mS := mS_in inT3 84 rfl rfl
theorem kw621 : (Cond.selects RX2 yX2_isMissing yX2_isMissing) ∈ mS := mS_in inT3 85 rfl rfl
theorem kw622 : (Cond.code yX2_isMissing prog_4_method_3_code 1 (some .boolean)) ∈ mS := mS_in inT3 86 rfl rfl
theorem kw623 : (Cond.methodLink RX11 188 yX5_isToldTurned) ∈ mS := mS_in inT3 87 rfl rfl
theorem kw624 : (Cond.instanceMethod yX5_isToldTurned) ∈ mS := mS_in inT3 88 rfl rfl
theorem kw625 : (Cond.selects RX5 yX5_isToldTurned yX5_isToldTurned) ∈ mS := mS_in inT3 89 rfl rfl
theorem kw626 : (Cond.code yX5_isToldTurned prog_7_method_11_code 4 (some .boolean)) ∈ mS := mS_in inT3 90 rfl rfl
theorem kw627 : (Cond.methodLink RL 101 yX11_prime) ∈ mS := mS_in inT3 91 rfl rfl
theorem kw628 : (Cond.instanceMethod yX11_prime) ∈ mS := mS_in inT3 92 rfl rfl
theorem kw629 : (Cond.selects RX11 yX11_prime yX11_prime) ∈ mS := mS_in inT3 93 rfl rfl
theorem kw630 : (Cond.code yX11_prime prog_1_method_23_code 4 (some .int)) ∈ mS := mS_in inT3 94 rfl rfl
theorem kw631 : (Cond.methodLink RL 105 yX11_layer) ∈ mS := mS_in inT3 95 rfl rfl
theorem kw632 : (Cond.instanceMethod yX11_layer) ∈ mS := mS_in inT3 96 rfl rfl
theorem kw633 : (Cond.selects RX11 yX11_layer yX11_layer) ∈ mS := mS_in inT3 97 rfl rfl
theorem kw634 : (Cond.code yX11_layer prog_1_method_24_code 5 (some .int)) ∈ mS := mS_in inT3 98 rfl rfl
theorem kw635 : (Cond.methodLink RX11 192 yX11_layerStep) ∈ mS := mS_in inT3 99 rfl rfl
theorem kw636 : (Cond.static yX11_layerStep) ∈ mS := mS_in inT3 100 rfl rfl
theorem kw637 : (Cond.code yX11_layerStep prog_1_method_63_code 4 (some .int)) ∈ mS := mS_in inT3 101 rfl rfl
theorem kw638 : (Cond.methodLink RX11 326 yX11_squareDivides) ∈ mS := mS_in inT3 102 rfl rfl
theorem kw639 : (Cond.static yX11_squareDivides) ∈ mS := mS_in inT3 103 rfl rfl
theorem kw640 : (Cond.code yX11_squareDivides prog_1_method_62_code 2 (some .boolean)) ∈ mS := mS_in inT3 104 rfl rfl
theorem kw641 : (Cond.methodLink RX11 195 yX11_countInLayer) ∈ mS := mS_in inT3 105 rfl rfl
theorem kw642 : (Cond.static yX11_countInLayer) ∈ mS := mS_in inT3 106 rfl rfl
theorem kw643 : (Cond.code yX11_countInLayer prog_1_method_64_code 4 (some .int)) ∈ mS := mS_in inT3 107 rfl rfl
theorem kw644 : (Cond.methodLink RL 110 yX11_layers) ∈ mS := mS_in inT3 108 rfl rfl
theorem kw645 : (Cond.instanceMethod yX11_layers) ∈ mS := mS_in inT3 109 rfl rfl
theorem kw646 : (Cond.selects RX11 yX11_layers yX11_layers) ∈ mS := mS_in inT3 110 rfl rfl
theorem kw647 : (Cond.code yX11_layers prog_1_method_25_code 4 (some .int)) ∈ mS := mS_in inT3 111 rfl rfl
theorem kw648 : (Cond.methodLink RX11 199 yX11_firstOddLayer) ∈ mS := mS_in inT3 112 rfl rfl
theorem kw650 : (Cond.instanceMethod yX11_firstOddLayer) ∈ mS := mS_in inT3 114 rfl rfl
theorem kw651 : (Cond.code yX11_firstOddLayer prog_1_method_65_code 7 (some .int)) ∈ mS := mS_in inT3 115 rfl rfl
theorem kw652 : (Cond.methodLink RX11 329 yX1_leaves) ∈ mS := mS_in inT3 116 rfl rfl
theorem kw653 : (Cond.instanceMethod yX1_leaves) ∈ mS := mS_in inT3 117 rfl rfl
theorem kw654 : (Cond.selects RX1 yX1_leaves yX1_leaves) ∈ mS := mS_in inT3 118 rfl rfl
theorem kw655 : (Cond.code yX1_leaves prog_3_method_11_code 3 (some .boolean)) ∈ mS := mS_in inT3 119 rfl rfl
theorem kw656 : (Cond.methodLink RL 114 yX11_possible) ∈ mS := mS_in inT3 120 rfl rfl
theorem kw657 : (Cond.instanceMethod yX11_possible) ∈ mS := mS_in inT3 121 rfl rfl
theorem kw658 : (Cond.selects RX11 yX11_possible yX11_possible) ∈ mS := mS_in inT3 122 rfl rfl
theorem kw659 : (Cond.code yX11_possible prog_1_method_26_code 2 (some .int)) ∈ mS := mS_in inT3 123 rfl rfl
theorem kw660 : (Cond.methodLink RX11 203 yX11_countWays) ∈ mS := mS_in inT3 124 rfl rfl
theorem kw662 : (Cond.instanceMethod yX11_countWays) ∈ mS := mS_in inT3 126 rfl rfl
theorem kw663 : (Cond.code yX11_countWays prog_1_method_66_code 4 none) ∈ mS := mS_in inT3 127 rfl rfl
theorem kw664 : (Cond.methodLink RL 118 yX11_ways) ∈ mS := mS_in inT3 128 rfl rfl
theorem kw665 : (Cond.instanceMethod yX11_ways) ∈ mS := mS_in inT3 129 rfl rfl
theorem kw666 : (Cond.selects RX11 yX11_ways yX11_ways) ∈ mS := mS_in inT3 130 rfl rfl
theorem kw667 : (Cond.code yX11_ways prog_1_method_27_code 2 (some .int)) ∈ mS := mS_in inT3 131 rfl rfl
theorem kw668 : (Cond.methodLink RL 122 yX11_hole) ∈ mS := mS_in inT3 132 rfl rfl
theorem kw669 : (Cond.instanceMethod yX11_hole) ∈ mS := mS_in inT3 133 rfl rfl
theorem kw670 : (Cond.selects RX11 yX11_hole yX11_hole) ∈ mS := mS_in inT3 134 rfl rfl
theorem kw671 : (Cond.code yX11_hole prog_1_method_28_code 4 (some .int)) ∈ mS := mS_in inT3 135 rfl rfl
theorem kw672 : (Cond.methodLink RL 126 yX11_listed) ∈ mS := mS_in inT3 136 rfl rfl
theorem kw673 : (Cond.instanceMethod yX11_listed) ∈ mS := mS_in inT3 137 rfl rfl
theorem kw674 : (Cond.selects RX11 yX11_listed yX11_listed) ∈ mS := mS_in inT3 138 rfl rfl
theorem kw675 : (Cond.code yX11_listed prog_1_method_29_code 5 (some .int)) ∈ mS := mS_in inT3 139 rfl rfl
theorem kw676 : (Cond.methodLink RX11 206 yX0_prepare) ∈ mS := mS_in inT3 140 rfl rfl
theorem kw677 : (Cond.instanceMethod yX0_prepare) ∈ mS := mS_in inT3 141 rfl rfl
theorem kw678 : (Cond.selects RX0 yX0_prepare yX0_prepare) ∈ mS := mS_in inT3 142 rfl rfl
theorem kw679 : (Cond.code yX0_prepare prog_2_method_2_code 3 none) ∈ mS := mS_in inT3 143 rfl rfl
theorem kw681 : (Cond.methodLink RX0 33 yJ7_fill_53178) ∈ mS := mS_in inT3 145 rfl rfl
theorem kw682 : (Cond.methodLink RX0 39 yX10_begin) ∈ mS := mS_in inT3 146 rfl rfl
theorem kw683 : (Cond.methodLink RX0 45 yX10_isAtNought) ∈ mS := mS_in inT3 147 rfl rfl
theorem kw684 : (Cond.methodLink RX0 49 yX10_goesOn) ∈ mS := mS_in inT3 148 rfl rfl
theorem kw685 : (Cond.methodLink RX11 208 yX0_isListed) ∈ mS := mS_in inT3 149 rfl rfl
theorem kw686 : (Cond.instanceMethod yX0_isListed) ∈ mS := mS_in inT3 150 rfl rfl
theorem kw687 : (Cond.selects RX0 yX0_isListed yX0_isListed) ∈ mS := mS_in inT3 151 rfl rfl
theorem kw688 : (Cond.code yX0_isListed prog_2_method_3_code 4 (some .boolean)) ∈ mS := mS_in inT3 152 rfl rfl
theorem kw689 : (Cond.methodLink RX0 52 yJ6_bitCount_0f7a4) ∈ mS := mS_in inT3 153 rfl rfl
theorem kw690 : (Cond.static yJ6_bitCount_0f7a4) ∈ mS := mS_in inT3 154 rfl rfl
theorem kw691 : (Cond.code yJ6_bitCount_0f7a4 prog_15_method_49_code 1 (some .int)) ∈ mS := mS_in inT3 155 rfl rfl
theorem kw692 : (Cond.constant RJ6 265 (1431655765 : Int32)) ∈ mS := mS_in inT3 156 rfl rfl
theorem kw693 : (Cond.constant RJ6 266 (858993459 : Int32)) ∈ mS := mS_in inT3 157 rfl rfl
theorem kw694 : (Cond.constant RJ6 267 (252645135 : Int32)) ∈ mS := mS_in inT3 158 rfl rfl
theorem kw695 : (Cond.methodLink RX0 58 yX0_splits) ∈ mS := mS_in inT3 159 rfl rfl
theorem kw697 : (Cond.instanceMethod yX0_splits) ∈ mS := mS_in inT3 161 rfl rfl
theorem kw698 : (Cond.code yX0_splits prog_2_method_4_code 4 (some .boolean)) ∈ mS := mS_in inT3 162 rfl rfl
theorem kw699 : (Cond.methodLink RX0 61 yX0_isLeastTurned) ∈ mS := mS_in inT3 163 rfl rfl
theorem kw701 : (Cond.instanceMethod yX0_isLeastTurned) ∈ mS := mS_in inT3 165 rfl rfl
theorem kw702 : (Cond.code yX0_isLeastTurned prog_2_method_5_code 4 (some .boolean)) ∈ mS := mS_in inT3 166 rfl rfl
theorem kw703 : (Cond.methodLink RL 130 yX11_filled) ∈ mS := mS_in inT3 167 rfl rfl
theorem kw704 : (Cond.instanceMethod yX11_filled) ∈ mS := mS_in inT3 168 rfl rfl
theorem kw705 : (Cond.selects RX11 yX11_filled yX11_filled) ∈ mS := mS_in inT3 169 rfl rfl
theorem kw706 : (Cond.code yX11_filled prog_1_method_30_code 5 (some .int)) ∈ mS := mS_in inT3 170 rfl rfl
theorem kw707 : (Cond.methodLink RX11 214 yX0_lightestWith) ∈ mS := mS_in inT3 171 rfl rfl
theorem kw708 : (Cond.instanceMethod yX0_lightestWith) ∈ mS := mS_in inT3 172 rfl rfl
theorem kw709 : (Cond.selects RX0 yX0_lightestWith yX0_lightestWith) ∈ mS := mS_in inT3 173 rfl rfl
theorem kw710 : (Cond.code yX0_lightestWith prog_2_method_6_code 5 (some .int)) ∈ mS := mS_in inT3 174 rfl rfl
theorem kw711 : (Cond.methodLink RX11 218 yJ6_bitCount_0f7a4) ∈ mS := mS_in inT3 175 rfl rfl
theorem kw712 : (Cond.methodLink RL 134 yX11_plan) ∈ mS := mS_in inT3 176 rfl rfl
theorem kw713 : (Cond.instanceMethod yX11_plan) ∈ mS := mS_in inT3 177 rfl rfl
theorem kw714 : (Cond.selects RX11 yX11_plan yX11_plan) ∈ mS := mS_in inT3 178 rfl rfl
theorem kw715 : (Cond.code yX11_plan prog_1_method_31_code 4 (some .int)) ∈ mS := mS_in inT3 179 rfl rfl
theorem kw716 : (Cond.methodLink RX11 230 yX4_append) ∈ mS := mS_in inT3 180 rfl rfl
theorem kw717 : (Cond.instanceMethod yX4_append) ∈ mS := mS_in inT3 181 rfl rfl
theorem kw718 : (Cond.selects RX4 yX4_append yX4_append) ∈ mS := mS_in inT3 182 rfl rfl
theorem kw719 : (Cond.code yX4_append prog_6_method_2_code 3 none) ∈ mS := mS_in inT3 183 rfl rfl
theorem kw720 : (Cond.methodLink RL 138 yX11_unplan) ∈ mS := mS_in inT3 184 rfl rfl
theorem kw721 : (Cond.instanceMethod yX11_unplan) ∈ mS := mS_in inT3 185 rfl rfl
theorem kw722 : (Cond.selects RX11 yX11_unplan yX11_unplan) ∈ mS := mS_in inT3 186 rfl rfl
theorem kw723 : (Cond.code yX11_unplan prog_1_method_32_code 2 (some .int)) ∈ mS := mS_in inT3 187 rfl rfl
theorem kw724 : (Cond.methodLink RL 142 yX11_where) ∈ mS := mS_in inT3 188 rfl rfl
theorem kw725 : (Cond.instanceMethod yX11_where) ∈ mS := mS_in inT3 189 rfl rfl
theorem kw726 : (Cond.selects RX11 yX11_where yX11_where) ∈ mS := mS_in inT3 190 rfl rfl
theorem kw727 : (Cond.code yX11_where prog_1_method_33_code 6 (some .int)) ∈ mS := mS_in inT3 191 rfl rfl
theorem kw728 : (Cond.methodLink RL 146 yX11_run) ∈ mS := mS_in inT3 192 rfl rfl
theorem kw729 : (Cond.instanceMethod yX11_run) ∈ mS := mS_in inT3 193 rfl rfl
theorem kw730 : (Cond.selects RX11 yX11_run yX11_run) ∈ mS := mS_in inT3 194 rfl rfl
theorem kw731 : (Cond.code yX11_run prog_1_method_34_code 4 (some .int)) ∈ mS := mS_in inT3 195 rfl rfl
theorem kw732 : (Cond.methodLink RL 150 yX11_keep) ∈ mS := mS_in inT3 196 rfl rfl
theorem kw733 : (Cond.instanceMethod yX11_keep) ∈ mS := mS_in inT3 197 rfl rfl
theorem kw734 : (Cond.selects RX11 yX11_keep yX11_keep) ∈ mS := mS_in inT3 198 rfl rfl
theorem kw735 : (Cond.code yX11_keep prog_1_method_35_code 3 (some .int)) ∈ mS := mS_in inT3 199 rfl rfl
theorem kw736 : (Cond.methodLink RX11 247 yX11_isShelf) ∈ mS := mS_in inT3 200 rfl rfl
theorem kw737 : (Cond.static yX11_isShelf) ∈ mS := mS_in inT3 201 rfl rfl
theorem kw738 : (Cond.code yX11_isShelf prog_1_method_53_code 1 (some .boolean)) ∈ mS := mS_in inT3 202 rfl rfl
theorem kw739 : (Cond.methodLink RX11 257 yX6_append) ∈ mS := mS_in inT3 203 rfl rfl
theorem kw740 : (Cond.instanceMethod yX6_append) ∈ mS := mS_in inT3 204 rfl rfl
theorem kw741 : (Cond.selects RX6 yX6_append yX6_append) ∈ mS := mS_in inT3 205 rfl rfl
theorem kw742 : (Cond.code yX6_append prog_8_method_3_code 2 none) ∈ mS := mS_in inT3 206 rfl rfl
theorem kw743 : (Cond.methodLink RX6 22 yX5_become) ∈ mS := mS_in inT3 207 rfl rfl
theorem kw744 : (Cond.methodLink RL 154 yX11_lay) ∈ mS := mS_in inT3 208 rfl rfl
theorem kw745 : (Cond.instanceMethod yX11_lay) ∈ mS := mS_in inT3 209 rfl rfl
theorem kw746 : (Cond.selects RX11 yX11_lay yX11_lay) ∈ mS := mS_in inT3 210 rfl rfl
theorem kw747 : (Cond.code yX11_lay prog_1_method_36_code 3 (some .int)) ∈ mS := mS_in inT3 211 rfl rfl
theorem kw748 : (Cond.methodLink RX11 259 yX6_has) ∈ mS := mS_in inT3 212 rfl rfl
theorem kw749 : (Cond.instanceMethod yX6_has) ∈ mS := mS_in inT3 213 rfl rfl
theorem kw750 : (Cond.selects RX6 yX6_has yX6_has) ∈ mS := mS_in inT3 214 rfl rfl
theorem kw751 : (Cond.code yX6_has prog_8_method_2_code 2 (some .boolean)) ∈ mS := mS_in inT3 215 rfl rfl
theorem kw752 : (Cond.methodLink RL 158 yX11_drop) ∈ mS := mS_in inT3 216 rfl rfl
theorem kw753 : (Cond.instanceMethod yX11_drop) ∈ mS := mS_in inT3 217 rfl rfl
theorem kw754 : (Cond.selects RX11 yX11_drop yX11_drop) ∈ mS := mS_in inT3 218 rfl rfl
theorem kw755 : (Cond.code yX11_drop prog_1_method_37_code 3 (some .int)) ∈ mS := mS_in inT3 219 rfl rfl
theorem kw756 : (Cond.methodLink RX11 263 yX6_remove) ∈ mS := mS_in inT3 220 rfl rfl
theorem kw757 : (Cond.instanceMethod yX6_remove) ∈ mS := mS_in inT3 221 rfl rfl
theorem kw758 : (Cond.selects RX6 yX6_remove yX6_remove) ∈ mS := mS_in inT3 222 rfl rfl
theorem kw759 : (Cond.code yX6_remove prog_8_method_4_code 3 none) ∈ mS := mS_in inT3 223 rfl rfl
theorem kw760 : (Cond.methodLink RX6 26 yX6_has) ∈ mS := mS_in inT3 224 rfl rfl
theorem kw761 : (Cond.methodLink RL 162 yX11_lightest) ∈ mS := mS_in inT3 225 rfl rfl
theorem kw762 : (Cond.instanceMethod yX11_lightest) ∈ mS := mS_in inT3 226 rfl rfl
theorem kw763 : (Cond.selects RX11 yX11_lightest yX11_lightest) ∈ mS := mS_in inT3 227 rfl rfl
theorem kw764 : (Cond.code yX11_lightest prog_1_method_38_code 5 (some .int)) ∈ mS := mS_in inT3 228 rfl rfl
theorem kw765 : (Cond.methodLink RL 166 yX11_pour) ∈ mS := mS_in inT3 229 rfl rfl
theorem kw766 : (Cond.instanceMethod yX11_pour) ∈ mS := mS_in inT3 230 rfl rfl
theorem kw767 : (Cond.selects RX11 yX11_pour yX11_pour) ∈ mS := mS_in inT3 231 rfl rfl
theorem kw768 : (Cond.code yX11_pour prog_1_method_39_code 6 (some .int)) ∈ mS := mS_in inT3 232 rfl rfl
theorem kw769 : (Cond.methodLink RL 170 yX11_held) ∈ mS := mS_in inT3 233 rfl rfl
theorem kw770 : (Cond.instanceMethod yX11_held) ∈ mS := mS_in inT3 234 rfl rfl
theorem kw771 : (Cond.selects RX11 yX11_held yX11_held) ∈ mS := mS_in inT3 235 rfl rfl
theorem kw772 : (Cond.code yX11_held prog_1_method_40_code 4 (some .int)) ∈ mS := mS_in inT3 236 rfl rfl
theorem kw773 : (Cond.methodLink RL 174 yX11_list) ∈ mS := mS_in inT3 237 rfl rfl
theorem kw774 : (Cond.instanceMethod yX11_list) ∈ mS := mS_in inT3 238 rfl rfl
theorem kw775 : (Cond.selects RX11 yX11_list yX11_list) ∈ mS := mS_in inT3 239 rfl rfl
theorem kw776 : (Cond.code yX11_list prog_1_method_41_code 3 (some .int)) ∈ mS := mS_in inT4 0 rfl rfl
theorem kw777 : (Cond.methodLink RX11 266 yX2_renew) ∈ mS := mS_in inT4 1 rfl rfl
theorem kw778 : (Cond.instanceMethod yX2_renew) ∈ mS := mS_in inT4 2 rfl rfl
theorem kw779 : (Cond.selects RX2 yX2_renew yX2_renew) ∈ mS := mS_in inT4 3 rfl rfl
theorem kw780 : (Cond.code yX2_renew prog_4_method_2_code 2 none) ∈ mS := mS_in inT4 4 rfl rfl
theorem kw781 : (Cond.methodLink RX2 19 yJ7_fill_d0a16) ∈ mS := mS_in inT4 5 rfl rfl
theorem kw782 : (Cond.methodLink RL 180 yX11_put) ∈ mS := mS_in inT4 6 rfl rfl
theorem kw783 : (Cond.instanceMethod yX11_put) ∈ mS := mS_in inT4 7 rfl rfl
theorem kw784 : (Cond.selects RX11 yX11_put yX11_put) ∈ mS := mS_in inT4 8 rfl rfl
theorem kw785 : (Cond.code yX11_put prog_1_method_42_code 6 (some .int)) ∈ mS := mS_in inT4 9 rfl rfl
theorem kw786 : (Cond.methodLink RX11 267 yX2_has) ∈ mS := mS_in inT4 10 rfl rfl
theorem kw787 : (Cond.instanceMethod yX2_has) ∈ mS := mS_in inT4 11 rfl rfl
theorem kw788 : (Cond.selects RX2 yX2_has yX2_has) ∈ mS := mS_in inT4 12 rfl rfl
theorem kw789 : (Cond.code yX2_has prog_4_method_4_code 2 (some .boolean)) ∈ mS := mS_in inT4 13 rfl rfl
theorem kw790 : (Cond.methodLink RL 185 yX11_get) ∈ mS := mS_in inT4 14 rfl rfl
theorem kw791 : (Cond.instanceMethod yX11_get) ∈ mS := mS_in inT4 15 rfl rfl
theorem kw792 : (Cond.selects RX11 yX11_get yX11_get) ∈ mS := mS_in inT4 16 rfl rfl
theorem kw793 : (Cond.code yX11_get prog_1_method_43_code 3 (some .long)) ∈ mS := mS_in inT4 17 rfl rfl
theorem kw794 : (Cond.methodLink RL 190 yX11_film) ∈ mS := mS_in inT4 18 rfl rfl
theorem kw795 : (Cond.instanceMethod yX11_film) ∈ mS := mS_in inT4 19 rfl rfl
theorem kw796 : (Cond.selects RX11 yX11_film yX11_film) ∈ mS := mS_in inT4 20 rfl rfl
theorem kw797 : (Cond.code yX11_film prog_1_method_44_code 4 (some .int)) ∈ mS := mS_in inT4 21 rfl rfl
theorem kw798 : (Cond.methodLink RL 194 yX11_feed) ∈ mS := mS_in inT4 22 rfl rfl
theorem kw799 : (Cond.instanceMethod yX11_feed) ∈ mS := mS_in inT4 23 rfl rfl
theorem kw800 : (Cond.selects RX11 yX11_feed yX11_feed) ∈ mS := mS_in inT4 24 rfl rfl
theorem kw801 : (Cond.code yX11_feed prog_1_method_45_code 2 (some .int)) ∈ mS := mS_in inT4 25 rfl rfl
theorem kw802 : (Cond.methodLink RX11 269 yX9_append) ∈ mS := mS_in inT4 26 rfl rfl
theorem kw803 : (Cond.instanceMethod yX9_append) ∈ mS := mS_in inT4 27 rfl rfl
theorem kw804 : (Cond.selects RX9 yX9_append yX9_append) ∈ mS := mS_in inT4 28 rfl rfl
theorem kw805 : (Cond.code yX9_append prog_11_method_2_code 2 none) ∈ mS := mS_in inT4 29 rfl rfl
theorem kw806 : (Cond.methodLink RL 198 yX11_wipe) ∈ mS := mS_in inT4 30 rfl rfl
theorem kw807 : (Cond.instanceMethod yX11_wipe) ∈ mS := mS_in inT4 31 rfl rfl
theorem kw808 : (Cond.selects RX11 yX11_wipe yX11_wipe) ∈ mS := mS_in inT4 32 rfl rfl
theorem kw809 : (Cond.code yX11_wipe prog_1_method_46_code 2 (some .int)) ∈ mS := mS_in inT4 33 rfl rfl
theorem kw810 : (Cond.methodLink RL 202 yX11_read) ∈ mS := mS_in inT4 34 rfl rfl
theorem kw811 : (Cond.instanceMethod yX11_read) ∈ mS := mS_in inT4 35 rfl rfl
theorem kw812 : (Cond.selects RX11 yX11_read yX11_read) ∈ mS := mS_in inT4 36 rfl rfl
theorem kw813 : (Cond.code yX11_read prog_1_method_47_code 2 (some .int)) ∈ mS := mS_in inT4 37 rfl rfl
theorem kw814 : (Cond.methodLink RX11 271 yX9_scan) ∈ mS := mS_in inT4 38 rfl rfl
theorem kw815 : (Cond.instanceMethod yX9_scan) ∈ mS := mS_in inT4 39 rfl rfl
theorem kw816 : (Cond.selects RX9 yX9_scan yX9_scan) ∈ mS := mS_in inT4 40 rfl rfl
theorem kw817 : (Cond.code yX9_scan prog_11_method_4_code 3 (some .boolean)) ∈ mS := mS_in inT4 41 rfl rfl
theorem kw818 : (Cond.methodLink RX9 33 yX9_number) ∈ mS := mS_in inT4 42 rfl rfl
theorem kw820 : (Cond.instanceMethod yX9_number) ∈ mS := mS_in inT4 44 rfl rfl
theorem kw821 : (Cond.code yX9_number prog_11_method_6_code 3 (some .int)) ∈ mS := mS_in inT4 45 rfl rfl
theorem kw822 : (Cond.methodLink RX9 53 yX9_figure) ∈ mS := mS_in inT4 46 rfl rfl
theorem kw824 : (Cond.instanceMethod yX9_figure) ∈ mS := mS_in inT4 48 rfl rfl
theorem kw825 : (Cond.code yX9_figure prog_11_method_7_code 1 (some .int)) ∈ mS := mS_in inT4 49 rfl rfl
theorem kw826 : (Cond.methodLink RX9 37 yX9_passes) ∈ mS := mS_in inT4 50 rfl rfl
theorem kw828 : (Cond.instanceMethod yX9_passes) ∈ mS := mS_in inT4 52 rfl rfl
theorem kw829 : (Cond.code yX9_passes prog_11_method_8_code 2 (some .boolean)) ∈ mS := mS_in inT4 53 rfl rfl
theorem kw831 : (Cond.methodLink RX9 45 yX5_renew) ∈ mS := mS_in inT4 55 rfl rfl
theorem kw832 : (Cond.methodLink RX9 49 yX9_item) ∈ mS := mS_in inT4 56 rfl rfl
theorem kw834 : (Cond.instanceMethod yX9_item) ∈ mS := mS_in inT4 58 rfl rfl
theorem kw835 : (Cond.code yX9_item prog_11_method_5_code 3 (some .boolean)) ∈ mS := mS_in inT4 59 rfl rfl
theorem kw836 : (Cond.methodLink RX9 56 yX5_has) ∈ mS := mS_in inT4 60 rfl rfl
theorem kw837 : (Cond.methodLink RX11 277 yX9_isWrong) ∈ mS := mS_in inT4 61 rfl rfl
theorem kw838 : (Cond.instanceMethod yX9_isWrong) ∈ mS := mS_in inT4 62 rfl rfl
theorem kw839 : (Cond.selects RX9 yX9_isWrong yX9_isWrong) ∈ mS := mS_in inT4 63 rfl rfl
theorem kw840 : (Cond.code yX9_isWrong prog_11_method_3_code 1 (some .boolean)) ∈ mS := mS_in inT4 64 rfl rfl
theorem kw841 : (Cond.methodLink RL 206 yX11_spelled) ∈ mS := mS_in inT4 65 rfl rfl
theorem kw842 : (Cond.instanceMethod yX11_spelled) ∈ mS := mS_in inT4 66 rfl rfl
theorem kw843 : (Cond.selects RX11 yX11_spelled yX11_spelled) ∈ mS := mS_in inT4 67 rfl rfl
theorem kw844 : (Cond.code yX11_spelled prog_1_method_48_code 2 (some .int)) ∈ mS := mS_in inT4 68 rfl rfl
theorem kw845 : (Cond.methodLink RX11 283 yX7_spell) ∈ mS := mS_in inT4 69 rfl rfl
theorem kw846 : (Cond.instanceMethod yX7_spell) ∈ mS := mS_in inT4 70 rfl rfl
theorem kw847 : (Cond.selects RX7 yX7_spell yX7_spell) ∈ mS := mS_in inT4 71 rfl rfl
theorem kw848 : (Cond.code yX7_spell prog_9_method_2_code 4 none) ∈ mS := mS_in inT4 72 rfl rfl
theorem kw849 : (Cond.methodLink RX7 24 yX7_number) ∈ mS := mS_in inT4 73 rfl rfl
theorem kw851 : (Cond.instanceMethod yX7_number) ∈ mS := mS_in inT4 75 rfl rfl
theorem kw852 : (Cond.code yX7_number prog_9_method_4_code 2 none) ∈ mS := mS_in inT4 76 rfl rfl
theorem kw853 : (Cond.methodLink RX7 28 yX7_append) ∈ mS := mS_in inT4 77 rfl rfl
theorem kw855 : (Cond.instanceMethod yX7_append) ∈ mS := mS_in inT4 79 rfl rfl
theorem kw856 : (Cond.code yX7_append prog_9_method_5_code 2 none) ∈ mS := mS_in inT4 80 rfl rfl
theorem kw857 : (Cond.methodLink RX7 34 yX7_item) ∈ mS := mS_in inT4 81 rfl rfl
theorem kw859 : (Cond.instanceMethod yX7_item) ∈ mS := mS_in inT4 83 rfl rfl
theorem kw860 : (Cond.code yX7_item prog_9_method_3_code 3 none) ∈ mS := mS_in inT4 84 rfl rfl
theorem kw861 : (Cond.methodLink RL 210 yX11_image) ∈ mS := mS_in inT4 85 rfl rfl
theorem kw862 : (Cond.instanceMethod yX11_image) ∈ mS := mS_in inT4 86 rfl rfl
theorem kw863 : (Cond.selects RX11 yX11_image yX11_image) ∈ mS := mS_in inT4 87 rfl rfl
theorem kw864 : (Cond.code yX11_image prog_1_method_49_code 1 (some .int)) ∈ mS := mS_in inT4 88 rfl rfl
theorem kw865 : (Cond.methodLink RX11 290 yX8_become) ∈ mS := mS_in inT4 89 rfl rfl
theorem kw866 : (Cond.instanceMethod yX8_become) ∈ mS := mS_in inT4 90 rfl rfl
theorem kw867 : (Cond.selects RX8 yX8_become yX8_become) ∈ mS := mS_in inT4 91 rfl rfl
theorem kw868 : (Cond.code yX8_become prog_10_method_2_code 3 none) ∈ mS := mS_in inT4 92 rfl rfl
theorem kw869 : (Cond.methodLink RX8 32 yX5_become) ∈ mS := mS_in inT4 93 rfl rfl
theorem kw870 : (Cond.methodLink RX8 36 yX4_become) ∈ mS := mS_in inT4 94 rfl rfl
theorem kw871 : (Cond.instanceMethod yX4_become) ∈ mS := mS_in inT4 95 rfl rfl
theorem kw872 : (Cond.selects RX4 yX4_become yX4_become) ∈ mS := mS_in inT4 96 rfl rfl
theorem kw873 : (Cond.code yX4_become prog_6_method_3_code 2 none) ∈ mS := mS_in inT4 97 rfl rfl
theorem kw874 : (Cond.methodLink RX4 22 arraycopyName) ∈ mS := mS_in inT4 98 rfl rfl
theorem kw875 : (Cond.methodLink RX8 39 yX6_become) ∈ mS := mS_in inT4 99 rfl rfl
theorem kw876 : (Cond.instanceMethod yX6_become) ∈ mS := mS_in inT4 100 rfl rfl
theorem kw877 : (Cond.selects RX6 yX6_become yX6_become) ∈ mS := mS_in inT4 101 rfl rfl
theorem kw878 : (Cond.code yX6_become prog_8_method_5_code 3 none) ∈ mS := mS_in inT4 102 rfl rfl
theorem kw879 : (Cond.methodLink RL 214 yX11_undo) ∈ mS := mS_in inT4 103 rfl rfl
theorem kw880 : (Cond.instanceMethod yX11_undo) ∈ mS := mS_in inT4 104 rfl rfl
theorem kw881 : (Cond.selects RX11 yX11_undo yX11_undo) ∈ mS := mS_in inT4 105 rfl rfl
theorem kw882 : (Cond.code yX11_undo prog_1_method_50_code 1 (some .int)) ∈ mS := mS_in inT4 106 rfl rfl
theorem kw883 : (Cond.methodLink RL 218 yX11_count) ∈ mS := mS_in inT4 107 rfl rfl
theorem kw884 : (Cond.instanceMethod yX11_count) ∈ mS := mS_in inT4 108 rfl rfl
theorem kw885 : (Cond.selects RX11 yX11_count yX11_count) ∈ mS := mS_in inT4 109 rfl rfl
theorem kw886 : (Cond.code yX11_count prog_1_method_51_code 2 (some .int)) ∈ mS := mS_in inT4 110 rfl rfl
theorem kw887 : (Cond.methodLink RX11 297 yX5_rootsTaken) ∈ mS := mS_in inT4 111 rfl rfl
theorem kw888 : (Cond.instanceMethod yX5_rootsTaken) ∈ mS := mS_in inT4 112 rfl rfl
theorem kw889 : (Cond.selects RX5 yX5_rootsTaken yX5_rootsTaken) ∈ mS := mS_in inT4 113 rfl rfl
theorem kw890 : (Cond.code yX5_rootsTaken prog_7_method_7_code 3 (some .int)) ∈ mS := mS_in inT4 114 rfl rfl
theorem kw891 : (Cond.methodLink RX11 300 yX11_listsThere) ∈ mS := mS_in inT4 115 rfl rfl
theorem kw893 : (Cond.instanceMethod yX11_listsThere) ∈ mS := mS_in inT4 117 rfl rfl
theorem kw894 : (Cond.code yX11_listsThere prog_1_method_67_code 3 (some .int)) ∈ mS := mS_in inT4 118 rfl rfl
theorem kw895 : (Cond.classLink RL 10 RX12) ∈ mS := mS_in inT4 119 rfl rfl
theorem kw896 : (Cond.instantiable RX12 37) ∈ mS := mS_in inT4 120 rfl rfl
theorem kw897 : (Cond.methodLink RL 12 yX12_init) ∈ mS := mS_in inT4 121 rfl rfl
theorem kw898 : (Cond.instanceMethod yX12_init) ∈ mS := mS_in inT4 122 rfl rfl
theorem kw899 : (Cond.code yX12_init prog_14_method_1_code 4 none) ∈ mS := mS_in inT4 123 rfl rfl
theorem kw900 : (Cond.methodLink RX12 3 objectInit) ∈ mS := mS_in inT4 124 rfl rfl
theorem kw901 : (Cond.methodLink RX12 93 yX12_divides) ∈ mS := mS_in inT4 125 rfl rfl
theorem kw903 : (Cond.instanceMethod yX12_divides) ∈ mS := mS_in inT4 127 rfl rfl
theorem kw904 : (Cond.code yX12_divides prog_14_method_2_code 6 none) ∈ mS := mS_in inT4 128 rfl rfl
theorem kw905 : (Cond.fieldLink RX12 9 RX12 "n" "I") ∈ mS := mS_in inT4 129 rfl rfl
theorem kw906 : (Cond.fieldLink RX12 15 RX12 "row" "[I") ∈ mS := mS_in inT4 130 rfl rfl
theorem kw907 : (Cond.fieldLink RX12 19 RX12 "plan" "[I") ∈ mS := mS_in inT4 131 rfl rfl
theorem kw908 : (Cond.fieldLink RX12 227 RX12 "planned" "I") ∈ mS := mS_in inT4 132 rfl rfl
theorem kw909 : (Cond.fieldLink RX12 22 RX12 "keptMany" "[I") ∈ mS := mS_in inT4 133 rfl rfl
theorem kw910 : (Cond.fieldLink RX12 25 RX12 "kept" "[I") ∈ mS := mS_in inT4 134 rfl rfl
theorem kw911 : (Cond.fieldLink RX12 28 RX12 "phis" "[I") ∈ mS := mS_in inT4 135 rfl rfl
theorem kw912 : (Cond.fieldLink RX12 31 RX12 "degrees" "[I") ∈ mS := mS_in inT4 136 rfl rfl
theorem kw913 : (Cond.fieldLink RX12 34 RX12 "left" "[I") ∈ mS := mS_in inT4 137 rfl rfl
theorem kw914 : (Cond.fieldLink RX12 37 RX12 "leaves" "[I") ∈ mS := mS_in inT4 138 rfl rfl
theorem kw915 : (Cond.fieldLink RX12 40 RX12 "sums" "[I") ∈ mS := mS_in inT4 139 rfl rfl
theorem kw916 : (Cond.fieldLink RX12 43 RX12 "one" "[I") ∈ mS := mS_in inT4 140 rfl rfl
theorem kw917 : (Cond.fieldLink RX12 46 RX12 "tried" "[I") ∈ mS := mS_in inT4 141 rfl rfl
theorem kw918 : (Cond.fieldLink RX12 49 RX12 "best" "[I") ∈ mS := mS_in inT4 142 rfl rfl
theorem kw919 : (Cond.fieldLink RX12 52 RX12 "from" "[I") ∈ mS := mS_in inT4 143 rfl rfl
theorem kw920 : (Cond.fieldLink RX12 137 RX12 "partMany" "I") ∈ mS := mS_in inT4 144 rfl rfl
theorem kw921 : (Cond.fieldLink RX12 143 RX12 "bestWeight" "I") ∈ mS := mS_in inT4 145 rfl rfl
theorem kw922 : (Cond.fieldLink RX12 140 RX12 "bestMany" "I") ∈ mS := mS_in inT4 146 rfl rfl
theorem kw923 : (Cond.fieldLink RX12 55 RX12 "changed" "[I") ∈ mS := mS_in inT4 147 rfl rfl
theorem kw924 : (Cond.fieldLink RX12 58 RX12 "sizes" "[I") ∈ mS := mS_in inT4 148 rfl rfl
theorem kw925 : (Cond.fieldLink RX12 61 RX12 "items" "[J") ∈ mS := mS_in inT4 149 rfl rfl
theorem kw926 : (Cond.fieldLink RX12 65 RX12 "layered" "[I") ∈ mS := mS_in inT4 150 rfl rfl
theorem kw927 : (Cond.fieldLink RX12 68 RX12 "waysOf" "[I") ∈ mS := mS_in inT4 151 rfl rfl
theorem kw928 : (Cond.fieldLink RX12 71 RX12 "isNought" "[Z") ∈ mS := mS_in inT4 152 rfl rfl
theorem kw929 : (Cond.fieldLink RX12 75 RX12 "tape" "[I") ∈ mS := mS_in inT4 153 rfl rfl
theorem kw930 : (Cond.fieldLink RX12 249 RX12 "taped" "I") ∈ mS := mS_in inT4 154 rfl rfl
theorem kw931 : (Cond.fieldLink RX12 252 RX12 "at" "I") ∈ mS := mS_in inT4 155 rfl rfl
theorem kw932 : (Cond.fieldLink RX12 267 RX12 "isWrong" "Z") ∈ mS := mS_in inT4 156 rfl rfl
theorem kw933 : (Cond.fieldLink RX12 78 RX12 "spelling" "[I") ∈ mS := mS_in inT4 157 rfl rfl
theorem kw934 : (Cond.fieldLink RX12 274 RX12 "spelledMany" "I") ∈ mS := mS_in inT4 158 rfl rfl
theorem kw935 : (Cond.fieldLink RX12 284 RX12 "hasImage" "Z") ∈ mS := mS_in inT4 159 rfl rfl
theorem kw936 : (Cond.fieldLink RX12 287 RX12 "imageN" "I") ∈ mS := mS_in inT4 160 rfl rfl
theorem kw937 : (Cond.fieldLink RX12 290 RX12 "imagePlanned" "I") ∈ mS := mS_in inT4 161 rfl rfl
theorem kw938 : (Cond.fieldLink RX12 81 RX12 "imageRow" "[I") ∈ mS := mS_in inT4 162 rfl rfl
theorem kw939 : (Cond.fieldLink RX12 84 RX12 "imagePlan" "[I") ∈ mS := mS_in inT4 163 rfl rfl
theorem kw940 : (Cond.fieldLink RX12 87 RX12 "imageMany" "[I") ∈ mS := mS_in inT4 164 rfl rfl
theorem kw941 : (Cond.fieldLink RX12 90 RX12 "imageKept" "[I") ∈ mS := mS_in inT4 165 rfl rfl
theorem kw1017 : (Cond.arrayClass FieldType.boolean) ∈ mS := mS_in inT5 1 rfl rfl
theorem kw1018 : (Cond.methodLink RL 17 yX12_base) ∈ mS := mS_in inT5 2 rfl rfl
theorem kw1019 : (Cond.instanceMethod yX12_base) ∈ mS := mS_in inT5 3 rfl rfl
theorem kw1020 : (Cond.selects RX12 yX12_base yX12_base) ∈ mS := mS_in inT5 4 rfl rfl
theorem kw1021 : (Cond.code yX12_base prog_14_method_6_code 4 (some .int)) ∈ mS := mS_in inT5 5 rfl rfl
theorem kw1022 : (Cond.constantLong RX12 101 (2 : Int64)) ∈ mS := mS_in inT5 6 rfl rfl
theorem kw1023 : (Cond.constantLong RX12 103 (30 : Int64)) ∈ mS := mS_in inT5 7 rfl rfl
theorem kw1024 : (Cond.methodLink RX12 97 yX12_in) ∈ mS := mS_in inT5 8 rfl rfl
theorem kw1025 : (Cond.static yX12_in) ∈ mS := mS_in inT5 9 rfl rfl
theorem kw1026 : (Cond.code yX12_in prog_14_method_3_code 6 (some .boolean)) ∈ mS := mS_in inT5 10 rfl rfl
theorem kw1027 : (Cond.methodLink RL 22 yX12_set) ∈ mS := mS_in inT5 11 rfl rfl
theorem kw1028 : (Cond.instanceMethod yX12_set) ∈ mS := mS_in inT5 12 rfl rfl
theorem kw1029 : (Cond.selects RX12 yX12_set yX12_set) ∈ mS := mS_in inT5 13 rfl rfl
theorem kw1030 : (Cond.code yX12_set prog_14_method_7_code 4 (some .int)) ∈ mS := mS_in inT5 14 rfl rfl
theorem kw1031 : (Cond.methodLink RX12 105 yX12_isRoot) ∈ mS := mS_in inT5 15 rfl rfl
theorem kw1033 : (Cond.instanceMethod yX12_isRoot) ∈ mS := mS_in inT5 17 rfl rfl
theorem kw1034 : (Cond.code yX12_isRoot prog_14_method_4_code 2 (some .boolean)) ∈ mS := mS_in inT5 18 rfl rfl
theorem kw1035 : (Cond.constantLong RX12 109 (9 : Int64)) ∈ mS := mS_in inT5 19 rfl rfl
theorem kw1036 : (Cond.methodLink RL 26 yX12_add) ∈ mS := mS_in inT5 20 rfl rfl
theorem kw1037 : (Cond.instanceMethod yX12_add) ∈ mS := mS_in inT5 21 rfl rfl
theorem kw1038 : (Cond.selects RX12 yX12_add yX12_add) ∈ mS := mS_in inT5 22 rfl rfl
theorem kw1039 : (Cond.code yX12_add prog_14_method_8_code 2 (some .int)) ∈ mS := mS_in inT5 23 rfl rfl
theorem kw1040 : (Cond.methodLink RL 30 yX12_of) ∈ mS := mS_in inT5 24 rfl rfl
theorem kw1041 : (Cond.instanceMethod yX12_of) ∈ mS := mS_in inT5 25 rfl rfl
theorem kw1042 : (Cond.selects RX12 yX12_of yX12_of) ∈ mS := mS_in inT5 26 rfl rfl
theorem kw1043 : (Cond.code yX12_of prog_14_method_9_code 2 (some .int)) ∈ mS := mS_in inT5 27 rfl rfl
theorem kw1044 : (Cond.methodLink RL 35 yX12_weight) ∈ mS := mS_in inT5 28 rfl rfl
theorem kw1045 : (Cond.instanceMethod yX12_weight) ∈ mS := mS_in inT5 29 rfl rfl
theorem kw1046 : (Cond.selects RX12 yX12_weight yX12_weight) ∈ mS := mS_in inT5 30 rfl rfl
theorem kw1047 : (Cond.code yX12_weight prog_14_method_10_code 1 (some .int)) ∈ mS := mS_in inT5 31 rfl rfl
theorem kw1048 : (Cond.methodLink RX12 111 yX12_weightOf) ∈ mS := mS_in inT5 32 rfl rfl
theorem kw1049 : (Cond.static yX12_weightOf) ∈ mS := mS_in inT5 33 rfl rfl
theorem kw1050 : (Cond.code yX12_weightOf prog_14_method_5_code 5 (some .int)) ∈ mS := mS_in inT5 34 rfl rfl
theorem kw1051 : (Cond.methodLink RL 39 yX12_clear) ∈ mS := mS_in inT5 35 rfl rfl
theorem kw1052 : (Cond.instanceMethod yX12_clear) ∈ mS := mS_in inT5 36 rfl rfl
theorem kw1053 : (Cond.selects RX12 yX12_clear yX12_clear) ∈ mS := mS_in inT5 37 rfl rfl
theorem kw1054 : (Cond.code yX12_clear prog_14_method_11_code 3 (some .int)) ∈ mS := mS_in inT5 38 rfl rfl
theorem kw1055 : (Cond.methodLink RX12 115 yX12_weight) ∈ mS := mS_in inT5 39 rfl rfl
theorem kw1056 : (Cond.methodLink RL 44 yX12_phi) ∈ mS := mS_in inT5 40 rfl rfl
theorem kw1057 : (Cond.instanceMethod yX12_phi) ∈ mS := mS_in inT5 41 rfl rfl
theorem kw1058 : (Cond.selects RX12 yX12_phi yX12_phi) ∈ mS := mS_in inT5 42 rfl rfl
theorem kw1059 : (Cond.code yX12_phi prog_14_method_12_code 2 (some .long)) ∈ mS := mS_in inT5 43 rfl rfl
theorem kw1060 : (Cond.constantLong RX12 119 (-9223372036854775808 : Int64)) ∈ mS := mS_in inT5 44 rfl rfl
theorem kw1061 : (Cond.methodLink RL 48 yX12_rest) ∈ mS := mS_in inT5 45 rfl rfl
theorem kw1062 : (Cond.instanceMethod yX12_rest) ∈ mS := mS_in inT5 46 rfl rfl
theorem kw1063 : (Cond.selects RX12 yX12_rest yX12_rest) ∈ mS := mS_in inT5 47 rfl rfl
theorem kw1064 : (Cond.code yX12_rest prog_14_method_14_code 2 (some .long)) ∈ mS := mS_in inT5 48 rfl rfl
theorem kw1065 : (Cond.methodLink RX12 121 yX12_divided) ∈ mS := mS_in inT5 49 rfl rfl
theorem kw1067 : (Cond.instanceMethod yX12_divided) ∈ mS := mS_in inT5 51 rfl rfl
theorem kw1068 : (Cond.code yX12_divided prog_14_method_13_code 5 none) ∈ mS := mS_in inT5 52 rfl rfl
theorem kw1069 : (Cond.methodLink RL 52 yX12_nought) ∈ mS := mS_in inT5 53 rfl rfl
theorem kw1070 : (Cond.instanceMethod yX12_nought) ∈ mS := mS_in inT5 54 rfl rfl
theorem kw1071 : (Cond.selects RX12 yX12_nought yX12_nought) ∈ mS := mS_in inT5 55 rfl rfl
theorem kw1072 : (Cond.code yX12_nought prog_14_method_17_code 1 (some .int)) ∈ mS := mS_in inT5 56 rfl rfl
theorem kw1073 : (Cond.methodLink RX12 129 yX12_isNought) ∈ mS := mS_in inT5 57 rfl rfl
theorem kw1075 : (Cond.instanceMethod yX12_isNought) ∈ mS := mS_in inT5 59 rfl rfl
theorem kw1076 : (Cond.code yX12_isNought prog_14_method_16_code 2 (some .boolean)) ∈ mS := mS_in inT5 60 rfl rfl
theorem kw1077 : (Cond.methodLink RX12 125 yX12_isNothing) ∈ mS := mS_in inT5 61 rfl rfl
theorem kw1079 : (Cond.instanceMethod yX12_isNothing) ∈ mS := mS_in inT5 63 rfl rfl
theorem kw1080 : (Cond.code yX12_isNothing prog_14_method_15_code 3 (some .boolean)) ∈ mS := mS_in inT5 64 rfl rfl
theorem kw1081 : (Cond.methodLink RL 56 yX12_primitive) ∈ mS := mS_in inT5 65 rfl rfl
theorem kw1082 : (Cond.instanceMethod yX12_primitive) ∈ mS := mS_in inT5 66 rfl rfl
theorem kw1083 : (Cond.selects RX12 yX12_primitive yX12_primitive) ∈ mS := mS_in inT5 67 rfl rfl
theorem kw1084 : (Cond.code yX12_primitive prog_14_method_25_code 1 (some .int)) ∈ mS := mS_in inT5 68 rfl rfl
theorem kw1085 : (Cond.methodLink RX12 158 yX12_isDear) ∈ mS := mS_in inT5 69 rfl rfl
theorem kw1087 : (Cond.instanceMethod yX12_isDear) ∈ mS := mS_in inT5 71 rfl rfl
theorem kw1088 : (Cond.code yX12_isDear prog_14_method_19_code 4 (some .boolean)) ∈ mS := mS_in inT5 72 rfl rfl
theorem kw1089 : (Cond.constantLong RX12 132 (20000 : Int64)) ∈ mS := mS_in inT5 73 rfl rfl
theorem kw1090 : (Cond.methodLink RX12 161 yX12_looksAtRow) ∈ mS := mS_in inT5 74 rfl rfl
theorem kw1092 : (Cond.instanceMethod yX12_looksAtRow) ∈ mS := mS_in inT5 76 rfl rfl
theorem kw1093 : (Cond.code yX12_looksAtRow prog_14_method_24_code 2 none) ∈ mS := mS_in inT5 77 rfl rfl
theorem kw1094 : (Cond.methodLink RX12 152 yX12_tellsLeaves) ∈ mS := mS_in inT5 78 rfl rfl
theorem kw1096 : (Cond.instanceMethod yX12_tellsLeaves) ∈ mS := mS_in inT5 80 rfl rfl
theorem kw1097 : (Cond.code yX12_tellsLeaves prog_14_method_18_code 3 none) ∈ mS := mS_in inT5 81 rfl rfl
theorem kw1098 : (Cond.methodLink RX12 155 yX12_looks) ∈ mS := mS_in inT5 82 rfl rfl
theorem kw1100 : (Cond.instanceMethod yX12_looks) ∈ mS := mS_in inT5 84 rfl rfl
theorem kw1101 : (Cond.code yX12_looks prog_14_method_23_code 2 none) ∈ mS := mS_in inT5 85 rfl rfl
theorem kw1102 : (Cond.methodLink RX12 149 yX12_goes) ∈ mS := mS_in inT5 86 rfl rfl
theorem kw1104 : (Cond.instanceMethod yX12_goes) ∈ mS := mS_in inT5 88 rfl rfl
theorem kw1105 : (Cond.code yX12_goes prog_14_method_22_code 4 none) ∈ mS := mS_in inT5 89 rfl rfl
theorem kw1106 : (Cond.methodLink RX12 134 yX12_areNothing) ∈ mS := mS_in inT5 90 rfl rfl
theorem kw1108 : (Cond.instanceMethod yX12_areNothing) ∈ mS := mS_in inT5 92 rfl rfl
theorem kw1109 : (Cond.code yX12_areNothing prog_14_method_21_code 3 (some .boolean)) ∈ mS := mS_in inT5 93 rfl rfl
theorem kw1110 : (Cond.methodLink RX12 146 yX12_adds) ∈ mS := mS_in inT5 94 rfl rfl
theorem kw1112 : (Cond.instanceMethod yX12_adds) ∈ mS := mS_in inT5 96 rfl rfl
theorem kw1113 : (Cond.code yX12_adds prog_14_method_20_code 4 none) ∈ mS := mS_in inT5 97 rfl rfl
theorem kw1114 : (Cond.methodLink RL 60 yX12_parts) ∈ mS := mS_in inT5 98 rfl rfl
theorem kw1115 : (Cond.instanceMethod yX12_parts) ∈ mS := mS_in inT5 99 rfl rfl
theorem kw1116 : (Cond.selects RX12 yX12_parts yX12_parts) ∈ mS := mS_in inT5 100 rfl rfl
theorem kw1117 : (Cond.code yX12_parts prog_14_method_26_code 2 (some .int)) ∈ mS := mS_in inT5 101 rfl rfl
theorem kw1118 : (Cond.methodLink RL 64 yX12_part) ∈ mS := mS_in inT5 102 rfl rfl
theorem kw1119 : (Cond.instanceMethod yX12_part) ∈ mS := mS_in inT5 103 rfl rfl
theorem kw1120 : (Cond.selects RX12 yX12_part yX12_part) ∈ mS := mS_in inT5 104 rfl rfl
theorem kw1121 : (Cond.code yX12_part prog_14_method_27_code 2 (some .int)) ∈ mS := mS_in inT5 105 rfl rfl
theorem kw1122 : (Cond.methodLink RL 68 yX12_take) ∈ mS := mS_in inT5 106 rfl rfl
theorem kw1123 : (Cond.instanceMethod yX12_take) ∈ mS := mS_in inT5 107 rfl rfl
theorem kw1124 : (Cond.selects RX12 yX12_take yX12_take) ∈ mS := mS_in inT5 108 rfl rfl
theorem kw1125 : (Cond.code yX12_take prog_14_method_28_code 2 (some .int)) ∈ mS := mS_in inT5 109 rfl rfl
theorem kw1126 : (Cond.methodLink RL 72 yX12_pieces) ∈ mS := mS_in inT5 110 rfl rfl
theorem kw1127 : (Cond.instanceMethod yX12_pieces) ∈ mS := mS_in inT5 111 rfl rfl
theorem kw1128 : (Cond.selects RX12 yX12_pieces yX12_pieces) ∈ mS := mS_in inT5 112 rfl rfl
theorem kw1129 : (Cond.code yX12_pieces prog_14_method_29_code 3 (some .int)) ∈ mS := mS_in inT5 113 rfl rfl
theorem kw1130 : (Cond.methodLink RL 76 yX12_turn) ∈ mS := mS_in inT5 114 rfl rfl
theorem kw1131 : (Cond.instanceMethod yX12_turn) ∈ mS := mS_in inT5 115 rfl rfl
theorem kw1132 : (Cond.selects RX12 yX12_turn yX12_turn) ∈ mS := mS_in inT5 116 rfl rfl
theorem kw1133 : (Cond.code yX12_turn prog_14_method_35_code 3 (some .int)) ∈ mS := mS_in inT5 117 rfl rfl
theorem kw1134 : (Cond.methodLink RX12 177 yX12_changes) ∈ mS := mS_in inT5 118 rfl rfl
theorem kw1136 : (Cond.instanceMethod yX12_changes) ∈ mS := mS_in inT5 120 rfl rfl
theorem kw1137 : (Cond.code yX12_changes prog_14_method_34_code 6 (some .boolean)) ∈ mS := mS_in inT5 121 rfl rfl
theorem kw1138 : (Cond.methodLink RX12 173 yX12_comesTo) ∈ mS := mS_in inT5 122 rfl rfl
theorem kw1140 : (Cond.instanceMethod yX12_comesTo) ∈ mS := mS_in inT5 124 rfl rfl
theorem kw1141 : (Cond.code yX12_comesTo prog_14_method_33_code 6 (some .int)) ∈ mS := mS_in inT5 125 rfl rfl
theorem kw1142 : (Cond.methodLink RL 80 yX12_times) ∈ mS := mS_in inT5 126 rfl rfl
theorem kw1143 : (Cond.instanceMethod yX12_times) ∈ mS := mS_in inT5 127 rfl rfl
theorem kw1144 : (Cond.selects RX12 yX12_times yX12_times) ∈ mS := mS_in inT5 128 rfl rfl
theorem kw1145 : (Cond.code yX12_times prog_14_method_36_code 3 (some .int)) ∈ mS := mS_in inT5 129 rfl rfl
theorem kw1146 : (Cond.constantLong RX12 164 (99 : Int64)) ∈ mS := mS_in inT5 130 rfl rfl
theorem kw1147 : (Cond.methodLink RX12 181 yX12_can) ∈ mS := mS_in inT5 131 rfl rfl
theorem kw1149 : (Cond.instanceMethod yX12_can) ∈ mS := mS_in inT5 133 rfl rfl
theorem kw1150 : (Cond.code yX12_can prog_14_method_32_code 3 (some .boolean)) ∈ mS := mS_in inT5 134 rfl rfl
theorem kw1151 : (Cond.methodLink RX12 166 yX12_common) ∈ mS := mS_in inT5 135 rfl rfl
theorem kw1152 : (Cond.static yX12_common) ∈ mS := mS_in inT5 136 rfl rfl
theorem kw1153 : (Cond.code yX12_common prog_14_method_30_code 5 (some .int)) ∈ mS := mS_in inT5 137 rfl rfl
theorem kw1154 : (Cond.methodLink RX12 170 yX12_isPrime) ∈ mS := mS_in inT5 138 rfl rfl
theorem kw1156 : (Cond.instanceMethod yX12_isPrime) ∈ mS := mS_in inT5 140 rfl rfl
theorem kw1157 : (Cond.code yX12_isPrime prog_14_method_31_code 4 (some .boolean)) ∈ mS := mS_in inT5 141 rfl rfl
theorem kw1158 : (Cond.methodLink RL 84 yX12_mirror) ∈ mS := mS_in inT5 142 rfl rfl
theorem kw1159 : (Cond.instanceMethod yX12_mirror) ∈ mS := mS_in inT5 143 rfl rfl
theorem kw1160 : (Cond.selects RX12 yX12_mirror yX12_mirror) ∈ mS := mS_in inT5 144 rfl rfl
theorem kw1161 : (Cond.code yX12_mirror prog_14_method_37_code 2 (some .int)) ∈ mS := mS_in inT5 145 rfl rfl
theorem kw1162 : (Cond.methodLink RL 88 yX12_raise) ∈ mS := mS_in inT5 146 rfl rfl
theorem kw1163 : (Cond.instanceMethod yX12_raise) ∈ mS := mS_in inT5 147 rfl rfl
theorem kw1164 : (Cond.selects RX12 yX12_raise yX12_raise) ∈ mS := mS_in inT5 148 rfl rfl
theorem kw1165 : (Cond.code yX12_raise prog_14_method_38_code 2 (some .int)) ∈ mS := mS_in inT5 149 rfl rfl
theorem kw1166 : (Cond.methodLink RL 92 yX12_stays_) ∈ mS := mS_in inT5 150 rfl rfl
theorem kw1167 : (Cond.instanceMethod yX12_stays_) ∈ mS := mS_in inT5 151 rfl rfl
theorem kw1168 : (Cond.selects RX12 yX12_stays_ yX12_stays_) ∈ mS := mS_in inT5 152 rfl rfl
theorem kw1169 : (Cond.code yX12_stays_ prog_14_method_41_code 5 (some .int)) ∈ mS := mS_in inT5 153 rfl rfl
theorem kw1170 : (Cond.methodLink RX12 187 yX12_stays) ∈ mS := mS_in inT5 154 rfl rfl
theorem kw1172 : (Cond.instanceMethod yX12_stays) ∈ mS := mS_in inT5 156 rfl rfl
theorem kw1173 : (Cond.code yX12_stays prog_14_method_40_code 5 (some .boolean)) ∈ mS := mS_in inT5 157 rfl rfl
theorem kw1174 : (Cond.methodLink RX12 184 yX12_turned) ∈ mS := mS_in inT5 158 rfl rfl
theorem kw1176 : (Cond.instanceMethod yX12_turned) ∈ mS := mS_in inT5 160 rfl rfl
theorem kw1177 : (Cond.code yX12_turned prog_14_method_39_code 3 (some .int)) ∈ mS := mS_in inT5 161 rfl rfl
theorem kw1178 : (Cond.methodLink RL 96 yX12_best) ∈ mS := mS_in inT5 162 rfl rfl
theorem kw1179 : (Cond.instanceMethod yX12_best) ∈ mS := mS_in inT5 163 rfl rfl
theorem kw1180 : (Cond.selects RX12 yX12_best yX12_best) ∈ mS := mS_in inT5 164 rfl rfl
theorem kw1181 : (Cond.code yX12_best prog_14_method_43_code 3 (some .int)) ∈ mS := mS_in inT5 165 rfl rfl
theorem kw1182 : (Cond.methodLink RX12 191 yX12_isAhead) ∈ mS := mS_in inT5 166 rfl rfl
theorem kw1184 : (Cond.instanceMethod yX12_isAhead) ∈ mS := mS_in inT5 168 rfl rfl
theorem kw1185 : (Cond.code yX12_isAhead prog_14_method_42_code 4 (some .boolean)) ∈ mS := mS_in inT5 169 rfl rfl
theorem kw1186 : (Cond.methodLink RL 100 yX12_alike) ∈ mS := mS_in inT5 170 rfl rfl
theorem kw1187 : (Cond.instanceMethod yX12_alike) ∈ mS := mS_in inT5 171 rfl rfl
theorem kw1188 : (Cond.selects RX12 yX12_alike yX12_alike) ∈ mS := mS_in inT5 172 rfl rfl
theorem kw1189 : (Cond.code yX12_alike prog_14_method_45_code 5 (some .int)) ∈ mS := mS_in inT5 173 rfl rfl
theorem kw1190 : (Cond.methodLink RX12 194 yX12_isList) ∈ mS := mS_in inT5 174 rfl rfl
theorem kw1191 : (Cond.static yX12_isList) ∈ mS := mS_in inT5 175 rfl rfl
theorem kw1192 : (Cond.code yX12_isList prog_14_method_44_code 1 (some .boolean)) ∈ mS := mS_in inT5 176 rfl rfl
theorem kw1193 : (Cond.methodLink RL 104 yX12_prime) ∈ mS := mS_in inT5 177 rfl rfl
theorem kw1194 : (Cond.instanceMethod yX12_prime) ∈ mS := mS_in inT5 178 rfl rfl
theorem kw1195 : (Cond.selects RX12 yX12_prime yX12_prime) ∈ mS := mS_in inT5 179 rfl rfl
theorem kw1196 : (Cond.code yX12_prime prog_14_method_46_code 4 (some .int)) ∈ mS := mS_in inT5 180 rfl rfl
theorem kw1197 : (Cond.methodLink RL 109 yX12_layer) ∈ mS := mS_in inT5 181 rfl rfl
theorem kw1198 : (Cond.instanceMethod yX12_layer) ∈ mS := mS_in inT5 182 rfl rfl
theorem kw1199 : (Cond.selects RX12 yX12_layer yX12_layer) ∈ mS := mS_in inT5 183 rfl rfl
theorem kw1200 : (Cond.code yX12_layer prog_14_method_49_code 4 (some .int)) ∈ mS := mS_in inT5 184 rfl rfl
theorem kw1201 : (Cond.methodLink RX12 201 yX12_tellsLayer) ∈ mS := mS_in inT5 185 rfl rfl
theorem kw1203 : (Cond.instanceMethod yX12_tellsLayer) ∈ mS := mS_in inT5 187 rfl rfl
theorem kw1204 : (Cond.code yX12_tellsLayer prog_14_method_48_code 5 none) ∈ mS := mS_in inT5 188 rfl rfl
theorem kw1205 : (Cond.methodLink RX12 197 yX12_unit) ∈ mS := mS_in inT5 189 rfl rfl
theorem kw1207 : (Cond.instanceMethod yX12_unit) ∈ mS := mS_in inT5 191 rfl rfl
theorem kw1208 : (Cond.code yX12_unit prog_14_method_47_code 3 (some .int)) ∈ mS := mS_in inT5 192 rfl rfl
theorem kw1209 : (Cond.methodLink RL 113 yX12_layers) ∈ mS := mS_in inT5 193 rfl rfl
theorem kw1210 : (Cond.instanceMethod yX12_layers) ∈ mS := mS_in inT5 194 rfl rfl
theorem kw1211 : (Cond.selects RX12 yX12_layers yX12_layers) ∈ mS := mS_in inT5 195 rfl rfl
theorem kw1212 : (Cond.code yX12_layers prog_14_method_50_code 8 (some .int)) ∈ mS := mS_in inT5 196 rfl rfl
theorem kw1213 : (Cond.methodLink RL 117 yX12_possible) ∈ mS := mS_in inT5 197 rfl rfl
theorem kw1214 : (Cond.instanceMethod yX12_possible) ∈ mS := mS_in inT5 198 rfl rfl
theorem kw1215 : (Cond.selects RX12 yX12_possible yX12_possible) ∈ mS := mS_in inT5 199 rfl rfl
theorem kw1216 : (Cond.code yX12_possible prog_14_method_52_code 2 (some .int)) ∈ mS := mS_in inT5 200 rfl rfl
theorem kw1217 : (Cond.constantLong RX12 204 (200 : Int64)) ∈ mS := mS_in inT5 201 rfl rfl
theorem kw1218 : (Cond.methodLink RX12 206 yX12_tellsWays) ∈ mS := mS_in inT5 202 rfl rfl
theorem kw1220 : (Cond.instanceMethod yX12_tellsWays) ∈ mS := mS_in inT5 204 rfl rfl
theorem kw1221 : (Cond.code yX12_tellsWays prog_14_method_51_code 3 none) ∈ mS := mS_in inT5 205 rfl rfl
theorem kw1222 : (Cond.methodLink RL 121 yX12_ways) ∈ mS := mS_in inT5 206 rfl rfl
theorem kw1223 : (Cond.instanceMethod yX12_ways) ∈ mS := mS_in inT5 207 rfl rfl
theorem kw1224 : (Cond.selects RX12 yX12_ways yX12_ways) ∈ mS := mS_in inT5 208 rfl rfl
theorem kw1225 : (Cond.code yX12_ways prog_14_method_53_code 2 (some .int)) ∈ mS := mS_in inT5 209 rfl rfl
theorem kw1226 : (Cond.methodLink RL 125 yX12_hole) ∈ mS := mS_in inT5 210 rfl rfl
theorem kw1227 : (Cond.instanceMethod yX12_hole) ∈ mS := mS_in inT5 211 rfl rfl
theorem kw1228 : (Cond.selects RX12 yX12_hole yX12_hole) ∈ mS := mS_in inT5 212 rfl rfl
theorem kw1229 : (Cond.code yX12_hole prog_14_method_54_code 4 (some .int)) ∈ mS := mS_in inT5 213 rfl rfl
theorem kw1230 : (Cond.methodLink RL 129 yX12_listed) ∈ mS := mS_in inT5 214 rfl rfl
theorem kw1231 : (Cond.instanceMethod yX12_listed) ∈ mS := mS_in inT5 215 rfl rfl
theorem kw1232 : (Cond.selects RX12 yX12_listed yX12_listed) ∈ mS := mS_in inT5 216 rfl rfl
theorem kw1233 : (Cond.code yX12_listed prog_14_method_58_code 5 (some .int)) ∈ mS := mS_in inT5 217 rfl rfl
theorem kw1234 : (Cond.constantLong RX12 209 (12 : Int64)) ∈ mS := mS_in inT5 218 rfl rfl
theorem kw1235 : (Cond.methodLink RX12 211 yX12_tellsSets) ∈ mS := mS_in inT5 219 rfl rfl
theorem kw1237 : (Cond.instanceMethod yX12_tellsSets) ∈ mS := mS_in inT5 221 rfl rfl
theorem kw1238 : (Cond.code yX12_tellsSets prog_14_method_55_code 3 none) ∈ mS := mS_in inT5 222 rfl rfl
theorem kw1239 : (Cond.methodLink RX12 214 yJ6_bitCount_0f7a4) ∈ mS := mS_in inT5 223 rfl rfl
theorem kw1240 : (Cond.methodLink RX12 219 yX12_isLeast) ∈ mS := mS_in inT5 224 rfl rfl
theorem kw1242 : (Cond.instanceMethod yX12_isLeast) ∈ mS := mS_in inT5 226 rfl rfl
theorem kw1243 : (Cond.code yX12_isLeast prog_14_method_57_code 5 (some .boolean)) ∈ mS := mS_in inT5 227 rfl rfl
theorem kw1244 : (Cond.methodLink RX12 222 yX12_isPrimitive) ∈ mS := mS_in inT5 228 rfl rfl
theorem kw1246 : (Cond.instanceMethod yX12_isPrimitive) ∈ mS := mS_in inT5 230 rfl rfl
theorem kw1247 : (Cond.code yX12_isPrimitive prog_14_method_56_code 3 (some .boolean)) ∈ mS := mS_in inT5 231 rfl rfl
theorem kw1248 : (Cond.methodLink RL 133 yX12_filled) ∈ mS := mS_in inT5 232 rfl rfl
theorem kw1249 : (Cond.instanceMethod yX12_filled) ∈ mS := mS_in inT5 233 rfl rfl
theorem kw1250 : (Cond.selects RX12 yX12_filled yX12_filled) ∈ mS := mS_in inT5 234 rfl rfl
theorem kw1251 : (Cond.code yX12_filled prog_14_method_59_code 6 (some .int)) ∈ mS := mS_in inT5 235 rfl rfl
theorem kw1252 : (Cond.methodLink RL 137 yX12_plan) ∈ mS := mS_in inT5 236 rfl rfl
theorem kw1253 : (Cond.instanceMethod yX12_plan) ∈ mS := mS_in inT5 237 rfl rfl
theorem kw1254 : (Cond.selects RX12 yX12_plan yX12_plan) ∈ mS := mS_in inT5 238 rfl rfl
theorem kw1255 : (Cond.code yX12_plan prog_14_method_60_code 3 (some .int)) ∈ mS := mS_in inT5 239 rfl rfl
theorem kw1256 : (Cond.constantLong RX12 225 (3 : Int64)) ∈ mS := mS_in inT6 0 rfl rfl
theorem kw1257 : (Cond.methodLink RL 141 yX12_unplan) ∈ mS := mS_in inT6 1 rfl rfl
theorem kw1258 : (Cond.instanceMethod yX12_unplan) ∈ mS := mS_in inT6 2 rfl rfl
theorem kw1259 : (Cond.selects RX12 yX12_unplan yX12_unplan) ∈ mS := mS_in inT6 3 rfl rfl
theorem kw1260 : (Cond.code yX12_unplan prog_14_method_61_code 2 (some .int)) ∈ mS := mS_in inT6 4 rfl rfl
theorem kw1261 : (Cond.methodLink RL 145 yX12_where) ∈ mS := mS_in inT6 5 rfl rfl
theorem kw1262 : (Cond.instanceMethod yX12_where) ∈ mS := mS_in inT6 6 rfl rfl
theorem kw1263 : (Cond.selects RX12 yX12_where yX12_where) ∈ mS := mS_in inT6 7 rfl rfl
theorem kw1264 : (Cond.code yX12_where prog_14_method_62_code 4 (some .int)) ∈ mS := mS_in inT6 8 rfl rfl
theorem kw1265 : (Cond.methodLink RL 149 yX12_run) ∈ mS := mS_in inT6 9 rfl rfl
theorem kw1266 : (Cond.instanceMethod yX12_run) ∈ mS := mS_in inT6 10 rfl rfl
theorem kw1267 : (Cond.selects RX12 yX12_run yX12_run) ∈ mS := mS_in inT6 11 rfl rfl
theorem kw1268 : (Cond.code yX12_run prog_14_method_63_code 3 (some .int)) ∈ mS := mS_in inT6 12 rfl rfl
theorem kw1269 : (Cond.methodLink RL 153 yX12_keep) ∈ mS := mS_in inT6 13 rfl rfl
theorem kw1270 : (Cond.instanceMethod yX12_keep) ∈ mS := mS_in inT6 14 rfl rfl
theorem kw1271 : (Cond.selects RX12 yX12_keep yX12_keep) ∈ mS := mS_in inT6 15 rfl rfl
theorem kw1272 : (Cond.code yX12_keep prog_14_method_67_code 4 (some .int)) ∈ mS := mS_in inT6 16 rfl rfl
theorem kw1273 : (Cond.methodLink RX12 230 yX12_isShelf) ∈ mS := mS_in inT6 17 rfl rfl
theorem kw1274 : (Cond.static yX12_isShelf) ∈ mS := mS_in inT6 18 rfl rfl
theorem kw1275 : (Cond.code yX12_isShelf prog_14_method_64_code 1 (some .boolean)) ∈ mS := mS_in inT6 19 rfl rfl
theorem kw1276 : (Cond.methodLink RX12 233 yX12_place) ∈ mS := mS_in inT6 20 rfl rfl
theorem kw1277 : (Cond.static yX12_place) ∈ mS := mS_in inT6 21 rfl rfl
theorem kw1278 : (Cond.code yX12_place prog_14_method_66_code 2 (some .int)) ∈ mS := mS_in inT6 22 rfl rfl
theorem kw1279 : (Cond.methodLink RL 157 yX12_lay) ∈ mS := mS_in inT6 23 rfl rfl
theorem kw1280 : (Cond.instanceMethod yX12_lay) ∈ mS := mS_in inT6 24 rfl rfl
theorem kw1281 : (Cond.selects RX12 yX12_lay yX12_lay) ∈ mS := mS_in inT6 25 rfl rfl
theorem kw1282 : (Cond.code yX12_lay prog_14_method_68_code 5 (some .int)) ∈ mS := mS_in inT6 26 rfl rfl
theorem kw1283 : (Cond.methodLink RX12 236 yX12_isKept) ∈ mS := mS_in inT6 27 rfl rfl
theorem kw1285 : (Cond.instanceMethod yX12_isKept) ∈ mS := mS_in inT6 29 rfl rfl
theorem kw1286 : (Cond.code yX12_isKept prog_14_method_65_code 3 (some .boolean)) ∈ mS := mS_in inT6 30 rfl rfl
theorem kw1287 : (Cond.methodLink RL 161 yX12_drop) ∈ mS := mS_in inT6 31 rfl rfl
theorem kw1288 : (Cond.instanceMethod yX12_drop) ∈ mS := mS_in inT6 32 rfl rfl
theorem kw1289 : (Cond.selects RX12 yX12_drop yX12_drop) ∈ mS := mS_in inT6 33 rfl rfl
theorem kw1290 : (Cond.code yX12_drop prog_14_method_70_code 4 (some .int)) ∈ mS := mS_in inT6 34 rfl rfl
theorem kw1291 : (Cond.methodLink RX12 239 yX12_copies) ∈ mS := mS_in inT6 35 rfl rfl
theorem kw1293 : (Cond.instanceMethod yX12_copies) ∈ mS := mS_in inT6 37 rfl rfl
theorem kw1294 : (Cond.code yX12_copies prog_14_method_69_code 4 none) ∈ mS := mS_in inT6 38 rfl rfl
theorem kw1295 : (Cond.methodLink RL 165 yX12_lightest) ∈ mS := mS_in inT6 39 rfl rfl
theorem kw1296 : (Cond.instanceMethod yX12_lightest) ∈ mS := mS_in inT6 40 rfl rfl
theorem kw1297 : (Cond.selects RX12 yX12_lightest yX12_lightest) ∈ mS := mS_in inT6 41 rfl rfl
theorem kw1298 : (Cond.code yX12_lightest prog_14_method_72_code 4 (some .int)) ∈ mS := mS_in inT6 42 rfl rfl
theorem kw1299 : (Cond.methodLink RX12 242 yX12_weightAt) ∈ mS := mS_in inT6 43 rfl rfl
theorem kw1301 : (Cond.instanceMethod yX12_weightAt) ∈ mS := mS_in inT6 45 rfl rfl
theorem kw1302 : (Cond.code yX12_weightAt prog_14_method_71_code 3 (some .int)) ∈ mS := mS_in inT6 46 rfl rfl
theorem kw1303 : (Cond.methodLink RL 169 yX12_pour) ∈ mS := mS_in inT6 47 rfl rfl
theorem kw1304 : (Cond.instanceMethod yX12_pour) ∈ mS := mS_in inT6 48 rfl rfl
theorem kw1305 : (Cond.selects RX12 yX12_pour yX12_pour) ∈ mS := mS_in inT6 49 rfl rfl
theorem kw1306 : (Cond.code yX12_pour prog_14_method_73_code 4 (some .int)) ∈ mS := mS_in inT6 50 rfl rfl
theorem kw1307 : (Cond.methodLink RL 173 yX12_held) ∈ mS := mS_in inT6 51 rfl rfl
theorem kw1308 : (Cond.instanceMethod yX12_held) ∈ mS := mS_in inT6 52 rfl rfl
theorem kw1309 : (Cond.selects RX12 yX12_held yX12_held) ∈ mS := mS_in inT6 53 rfl rfl
theorem kw1310 : (Cond.code yX12_held prog_14_method_74_code 3 (some .int)) ∈ mS := mS_in inT6 54 rfl rfl
theorem kw1311 : (Cond.methodLink RL 177 yX12_list) ∈ mS := mS_in inT6 55 rfl rfl
theorem kw1312 : (Cond.instanceMethod yX12_list) ∈ mS := mS_in inT6 56 rfl rfl
theorem kw1313 : (Cond.selects RX12 yX12_list yX12_list) ∈ mS := mS_in inT6 57 rfl rfl
theorem kw1314 : (Cond.code yX12_list prog_14_method_75_code 4 (some .int)) ∈ mS := mS_in inT6 58 rfl rfl
theorem kw1315 : (Cond.methodLink RL 184 yX12_put) ∈ mS := mS_in inT6 59 rfl rfl
theorem kw1316 : (Cond.instanceMethod yX12_put) ∈ mS := mS_in inT6 60 rfl rfl
theorem kw1317 : (Cond.selects RX12 yX12_put yX12_put) ∈ mS := mS_in inT6 61 rfl rfl
theorem kw1318 : (Cond.code yX12_put prog_14_method_76_code 5 (some .int)) ∈ mS := mS_in inT6 62 rfl rfl
theorem kw1319 : (Cond.methodLink RL 189 yX12_get) ∈ mS := mS_in inT6 63 rfl rfl
theorem kw1320 : (Cond.instanceMethod yX12_get) ∈ mS := mS_in inT6 64 rfl rfl
theorem kw1321 : (Cond.selects RX12 yX12_get yX12_get) ∈ mS := mS_in inT6 65 rfl rfl
theorem kw1322 : (Cond.code yX12_get prog_14_method_77_code 3 (some .long)) ∈ mS := mS_in inT6 66 rfl rfl
theorem kw1323 : (Cond.methodLink RL 193 yX12_film) ∈ mS := mS_in inT6 67 rfl rfl
theorem kw1324 : (Cond.instanceMethod yX12_film) ∈ mS := mS_in inT6 68 rfl rfl
theorem kw1325 : (Cond.selects RX12 yX12_film yX12_film) ∈ mS := mS_in inT6 69 rfl rfl
theorem kw1326 : (Cond.code yX12_film prog_14_method_78_code 3 (some .int)) ∈ mS := mS_in inT6 70 rfl rfl
theorem kw1327 : (Cond.methodLink RL 197 yX12_feed) ∈ mS := mS_in inT6 71 rfl rfl
theorem kw1328 : (Cond.instanceMethod yX12_feed) ∈ mS := mS_in inT6 72 rfl rfl
theorem kw1329 : (Cond.selects RX12 yX12_feed yX12_feed) ∈ mS := mS_in inT6 73 rfl rfl
theorem kw1330 : (Cond.code yX12_feed prog_14_method_79_code 2 (some .int)) ∈ mS := mS_in inT6 74 rfl rfl
theorem kw1331 : (Cond.constantLong RX12 245 (32 : Int64)) ∈ mS := mS_in inT6 75 rfl rfl
theorem kw1332 : (Cond.constantLong RX12 247 (126 : Int64)) ∈ mS := mS_in inT6 76 rfl rfl
theorem kw1333 : (Cond.methodLink RL 201 yX12_wipe) ∈ mS := mS_in inT6 77 rfl rfl
theorem kw1334 : (Cond.instanceMethod yX12_wipe) ∈ mS := mS_in inT6 78 rfl rfl
theorem kw1335 : (Cond.selects RX12 yX12_wipe yX12_wipe) ∈ mS := mS_in inT6 79 rfl rfl
theorem kw1336 : (Cond.code yX12_wipe prog_14_method_80_code 2 (some .int)) ∈ mS := mS_in inT6 80 rfl rfl
theorem kw1337 : (Cond.methodLink RL 205 yX12_read) ∈ mS := mS_in inT6 81 rfl rfl
theorem kw1338 : (Cond.instanceMethod yX12_read) ∈ mS := mS_in inT6 82 rfl rfl
theorem kw1339 : (Cond.selects RX12 yX12_read yX12_read) ∈ mS := mS_in inT6 83 rfl rfl
theorem kw1340 : (Cond.code yX12_read prog_14_method_84_code 5 (some .int)) ∈ mS := mS_in inT6 84 rfl rfl
theorem kw1341 : (Cond.methodLink RX12 262 yX12_readsNumber) ∈ mS := mS_in inT6 85 rfl rfl
theorem kw1343 : (Cond.instanceMethod yX12_readsNumber) ∈ mS := mS_in inT6 87 rfl rfl
theorem kw1344 : (Cond.code yX12_readsNumber prog_14_method_82_code 2 (some .int)) ∈ mS := mS_in inT6 88 rfl rfl
theorem kw1345 : (Cond.methodLink RX12 255 yX12_here) ∈ mS := mS_in inT6 89 rfl rfl
theorem kw1347 : (Cond.instanceMethod yX12_here) ∈ mS := mS_in inT6 91 rfl rfl
theorem kw1348 : (Cond.code yX12_here prog_14_method_81_code 1 (some .int)) ∈ mS := mS_in inT6 92 rfl rfl
theorem kw1349 : (Cond.constantLong RX12 258 (48 : Int64)) ∈ mS := mS_in inT6 93 rfl rfl
theorem kw1350 : (Cond.constantLong RX12 260 (57 : Int64)) ∈ mS := mS_in inT6 94 rfl rfl
theorem kw1351 : (Cond.methodLink RX12 271 yX12_readsItem) ∈ mS := mS_in inT6 95 rfl rfl
theorem kw1353 : (Cond.instanceMethod yX12_readsItem) ∈ mS := mS_in inT6 97 rfl rfl
theorem kw1354 : (Cond.code yX12_readsItem prog_14_method_83_code 4 (some .boolean)) ∈ mS := mS_in inT6 98 rfl rfl
theorem kw1355 : (Cond.constantLong RX12 265 (49 : Int64)) ∈ mS := mS_in inT6 99 rfl rfl
theorem kw1356 : (Cond.methodLink RL 209 yX12_spelled) ∈ mS := mS_in inT6 100 rfl rfl
theorem kw1357 : (Cond.instanceMethod yX12_spelled) ∈ mS := mS_in inT6 101 rfl rfl
theorem kw1358 : (Cond.selects RX12 yX12_spelled yX12_spelled) ∈ mS := mS_in inT6 102 rfl rfl
theorem kw1359 : (Cond.code yX12_spelled prog_14_method_87_code 4 (some .int)) ∈ mS := mS_in inT6 103 rfl rfl
theorem kw1360 : (Cond.methodLink RX12 281 yX12_spellsNumber) ∈ mS := mS_in inT6 104 rfl rfl
theorem kw1362 : (Cond.instanceMethod yX12_spellsNumber) ∈ mS := mS_in inT6 106 rfl rfl
theorem kw1363 : (Cond.code yX12_spellsNumber prog_14_method_86_code 2 none) ∈ mS := mS_in inT6 107 rfl rfl
theorem kw1364 : (Cond.methodLink RX12 277 yX12_spells) ∈ mS := mS_in inT6 108 rfl rfl
theorem kw1366 : (Cond.instanceMethod yX12_spells) ∈ mS := mS_in inT6 110 rfl rfl
theorem kw1367 : (Cond.code yX12_spells prog_14_method_85_code 2 none) ∈ mS := mS_in inT6 111 rfl rfl
theorem kw1368 : (Cond.methodLink RL 213 yX12_image) ∈ mS := mS_in inT6 112 rfl rfl
theorem kw1369 : (Cond.instanceMethod yX12_image) ∈ mS := mS_in inT6 113 rfl rfl
theorem kw1370 : (Cond.selects RX12 yX12_image yX12_image) ∈ mS := mS_in inT6 114 rfl rfl
theorem kw1371 : (Cond.code yX12_image prog_14_method_89_code 1 (some .int)) ∈ mS := mS_in inT6 115 rfl rfl
theorem kw1372 : (Cond.methodLink RX12 293 yX12_lays) ∈ mS := mS_in inT6 116 rfl rfl
theorem kw1373 : (Cond.static yX12_lays) ∈ mS := mS_in inT6 117 rfl rfl
theorem kw1374 : (Cond.code yX12_lays prog_14_method_88_code 3 none) ∈ mS := mS_in inT6 118 rfl rfl
theorem kw1375 : (Cond.methodLink RL 217 yX12_undo) ∈ mS := mS_in inT6 119 rfl rfl
theorem kw1376 : (Cond.instanceMethod yX12_undo) ∈ mS := mS_in inT6 120 rfl rfl
theorem kw1377 : (Cond.selects RX12 yX12_undo yX12_undo) ∈ mS := mS_in inT6 121 rfl rfl
theorem kw1378 : (Cond.code yX12_undo prog_14_method_90_code 1 (some .int)) ∈ mS := mS_in inT6 122 rfl rfl
theorem kw1379 : (Cond.methodLink RL 221 yX12_count) ∈ mS := mS_in inT6 123 rfl rfl
theorem kw1380 : (Cond.instanceMethod yX12_count) ∈ mS := mS_in inT6 124 rfl rfl
theorem kw1381 : (Cond.selects RX12 yX12_count yX12_count) ∈ mS := mS_in inT6 125 rfl rfl
theorem kw1382 : (Cond.code yX12_count prog_14_method_92_code 2 (some .int)) ∈ mS := mS_in inT6 126 rfl rfl
theorem kw1383 : (Cond.methodLink RX12 297 yX12_taken) ∈ mS := mS_in inT6 127 rfl rfl
theorem kw1385 : (Cond.instanceMethod yX12_taken) ∈ mS := mS_in inT6 129 rfl rfl
theorem kw1386 : (Cond.code yX12_taken prog_14_method_91_code 3 (some .int)) ∈ mS := mS_in inT6 130 rfl rfl
theorem kw1387 : (Cond.constantLong RL 178 (4294967295 : Int64)) ∈ mS := mS_in inT6 131 rfl rfl
theorem kw0 : (Cond.selects RX1 yX1_makeDivisor yX1_makeDivisor) ∈ mS := mS_at 0 (by decide +kernel) rfl
theorem kw1 : (Cond.selects RX1 yX1_multiplyDivisor yX1_multiplyDivisor) ∈ mS := mS_at 1 (by decide +kernel) rfl
theorem kw2 : (Cond.selects RX1 yX1_reduce yX1_reduce) ∈ mS := mS_at 2 (by decide +kernel) rfl
theorem kw3 : (Cond.selects RX11 yX11_isNought yX11_isNought) ∈ mS := mS_at 3 (by decide +kernel) rfl
theorem kw4 : (Cond.selects RX1 yX1_makePacked yX1_makePacked) ∈ mS := mS_at 4 (by decide +kernel) rfl
theorem kw5 : (Cond.selects RX3 yX3_note yX3_note) ∈ mS := mS_at 5 (by decide +kernel) rfl
theorem kw6 : (Cond.selects RX3 yX3_becomeFirst yX3_becomeFirst) ∈ mS := mS_at 6 (by decide +kernel) rfl
theorem kw7 : (Cond.selects RX3 yX3_isAheadOfFirst yX3_isAheadOfFirst) ∈ mS := mS_at 7 (by decide +kernel) rfl
theorem kw8 : (Cond.selects RX11 yX11_loseFirstPart yX11_loseFirstPart) ∈ mS := mS_at 8 (by decide +kernel) rfl
theorem kw9 : (Cond.selects RX11 yX11_change yX11_change) ∈ mS := mS_at 9 (by decide +kernel) rfl
theorem kw10 : (Cond.selects RX11 yX11_firstOddLayer yX11_firstOddLayer) ∈ mS := mS_at 10 (by decide +kernel) rfl
theorem kw11 : (Cond.selects RX11 yX11_countWays yX11_countWays) ∈ mS := mS_at 11 (by decide +kernel) rfl
theorem kw12 : (Cond.selects RX0 yX0_splits yX0_splits) ∈ mS := mS_at 12 (by decide +kernel) rfl
theorem kw13 : (Cond.selects RX0 yX0_isLeastTurned yX0_isLeastTurned) ∈ mS := mS_at 13 (by decide +kernel) rfl
theorem kw14 : (Cond.selects RX9 yX9_number yX9_number) ∈ mS := mS_at 14 (by decide +kernel) rfl
theorem kw15 : (Cond.selects RX9 yX9_figure yX9_figure) ∈ mS := mS_at 15 (by decide +kernel) rfl
theorem kw16 : (Cond.selects RX9 yX9_passes yX9_passes) ∈ mS := mS_at 16 (by decide +kernel) rfl
theorem kw17 : (Cond.selects RX9 yX9_item yX9_item) ∈ mS := mS_at 17 (by decide +kernel) rfl
theorem kw18 : (Cond.selects RX7 yX7_number yX7_number) ∈ mS := mS_at 18 (by decide +kernel) rfl
theorem kw19 : (Cond.selects RX7 yX7_append yX7_append) ∈ mS := mS_at 19 (by decide +kernel) rfl
theorem kw20 : (Cond.selects RX7 yX7_item yX7_item) ∈ mS := mS_at 20 (by decide +kernel) rfl
theorem kw21 : (Cond.selects RX11 yX11_listsThere yX11_listsThere) ∈ mS := mS_at 21 (by decide +kernel) rfl
theorem kw22 : (Cond.selects RX12 yX12_divides yX12_divides) ∈ mS := mS_at 22 (by decide +kernel) rfl
theorem kw23 : (Cond.selects RX12 yX12_isRoot yX12_isRoot) ∈ mS := mS_at 23 (by decide +kernel) rfl
theorem kw24 : (Cond.selects RX12 yX12_divided yX12_divided) ∈ mS := mS_at 24 (by decide +kernel) rfl
theorem kw25 : (Cond.selects RX12 yX12_isNought yX12_isNought) ∈ mS := mS_at 25 (by decide +kernel) rfl
theorem kw26 : (Cond.selects RX12 yX12_isNothing yX12_isNothing) ∈ mS := mS_at 26 (by decide +kernel) rfl
theorem kw27 : (Cond.selects RX12 yX12_isDear yX12_isDear) ∈ mS := mS_at 27 (by decide +kernel) rfl
theorem kw28 : (Cond.selects RX12 yX12_looksAtRow yX12_looksAtRow) ∈ mS := mS_at 28 (by decide +kernel) rfl
theorem kw29 : (Cond.selects RX12 yX12_tellsLeaves yX12_tellsLeaves) ∈ mS := mS_at 29 (by decide +kernel) rfl
theorem kw30 : (Cond.selects RX12 yX12_looks yX12_looks) ∈ mS := mS_at 30 (by decide +kernel) rfl
theorem kw31 : (Cond.selects RX12 yX12_goes yX12_goes) ∈ mS := mS_at 31 (by decide +kernel) rfl
theorem kw32 : (Cond.selects RX12 yX12_areNothing yX12_areNothing) ∈ mS := mS_at 32 (by decide +kernel) rfl
theorem kw33 : (Cond.selects RX12 yX12_adds yX12_adds) ∈ mS := mS_at 33 (by decide +kernel) rfl
theorem kw34 : (Cond.selects RX12 yX12_changes yX12_changes) ∈ mS := mS_at 34 (by decide +kernel) rfl
theorem kw35 : (Cond.selects RX12 yX12_comesTo yX12_comesTo) ∈ mS := mS_at 35 (by decide +kernel) rfl
theorem kw36 : (Cond.selects RX12 yX12_can yX12_can) ∈ mS := mS_at 36 (by decide +kernel) rfl
theorem kw37 : (Cond.selects RX12 yX12_isPrime yX12_isPrime) ∈ mS := mS_at 37 (by decide +kernel) rfl
theorem kw38 : (Cond.selects RX12 yX12_stays yX12_stays) ∈ mS := mS_at 38 (by decide +kernel) rfl
theorem kw39 : (Cond.selects RX12 yX12_turned yX12_turned) ∈ mS := mS_at 39 (by decide +kernel) rfl
theorem kw40 : (Cond.selects RX12 yX12_isAhead yX12_isAhead) ∈ mS := mS_at 40 (by decide +kernel) rfl
theorem kw41 : (Cond.selects RX12 yX12_tellsLayer yX12_tellsLayer) ∈ mS := mS_at 41 (by decide +kernel) rfl
theorem kw42 : (Cond.selects RX12 yX12_unit yX12_unit) ∈ mS := mS_at 42 (by decide +kernel) rfl
theorem kw43 : (Cond.selects RX12 yX12_tellsWays yX12_tellsWays) ∈ mS := mS_at 43 (by decide +kernel) rfl
theorem kw44 : (Cond.selects RX12 yX12_tellsSets yX12_tellsSets) ∈ mS := mS_at 44 (by decide +kernel) rfl
theorem kw45 : (Cond.selects RX12 yX12_isLeast yX12_isLeast) ∈ mS := mS_at 45 (by decide +kernel) rfl
theorem kw46 : (Cond.selects RX12 yX12_isPrimitive yX12_isPrimitive) ∈ mS := mS_at 46 (by decide +kernel) rfl
theorem kw47 : (Cond.selects RX12 yX12_isKept yX12_isKept) ∈ mS := mS_at 47 (by decide +kernel) rfl
theorem kw48 : (Cond.selects RX12 yX12_copies yX12_copies) ∈ mS := mS_at 48 (by decide +kernel) rfl
theorem kw49 : (Cond.selects RX12 yX12_weightAt yX12_weightAt) ∈ mS := mS_at 49 (by decide +kernel) rfl
theorem kw50 : (Cond.selects RX12 yX12_readsNumber yX12_readsNumber) ∈ mS := mS_at 50 (by decide +kernel) rfl
theorem kw51 : (Cond.selects RX12 yX12_here yX12_here) ∈ mS := mS_at 51 (by decide +kernel) rfl
theorem kw52 : (Cond.selects RX12 yX12_readsItem yX12_readsItem) ∈ mS := mS_at 52 (by decide +kernel) rfl
theorem kw53 : (Cond.selects RX12 yX12_spellsNumber yX12_spellsNumber) ∈ mS := mS_at 53 (by decide +kernel) rfl
theorem kw54 : (Cond.selects RX12 yX12_spells yX12_spells) ∈ mS := mS_at 54 (by decide +kernel) rfl
theorem kw55 : (Cond.selects RX12 yX12_taken yX12_taken) ∈ mS := mS_at 55 (by decide +kernel) rfl
theorem inX0 : ∀ w ∈ u_ws RX0 TX0 5, w ∈ mS := by
  have h : ∀ w ∈ u_ws RX0 TX0 5, w ∈ lw_tbl ∧ goodWord w = true := by decide +kernel
  exact fun w hw => List.mem_filter.mpr (h w hw)
theorem inX1 : ∀ w ∈ u_ws RX1 TX1 7, w ∈ mS := by
  have h : ∀ w ∈ u_ws RX1 TX1 7, w ∈ lw_tbl ∧ goodWord w = true := by decide +kernel
  exact fun w hw => List.mem_filter.mpr (h w hw)
theorem inX2 : ∀ w ∈ u_ws RX2 TX2 2, w ∈ mS := by
  have h : ∀ w ∈ u_ws RX2 TX2 2, w ∈ lw_tbl ∧ goodWord w = true := by decide +kernel
  exact fun w hw => List.mem_filter.mpr (h w hw)
theorem inX3 : ∀ w ∈ u_ws RX3 TX3 7, w ∈ mS := by
  have h : ∀ w ∈ u_ws RX3 TX3 7, w ∈ lw_tbl ∧ goodWord w = true := by decide +kernel
  exact fun w hw => List.mem_filter.mpr (h w hw)
theorem inX4 : ∀ w ∈ u_ws RX4 TX4 3, w ∈ mS := by
  have h : ∀ w ∈ u_ws RX4 TX4 3, w ∈ lw_tbl ∧ goodWord w = true := by decide +kernel
  exact fun w hw => List.mem_filter.mpr (h w hw)
theorem inX5 : ∀ w ∈ u_ws RX5 TX5 2, w ∈ mS := by
  have h : ∀ w ∈ u_ws RX5 TX5 2, w ∈ lw_tbl ∧ goodWord w = true := by decide +kernel
  exact fun w hw => List.mem_filter.mpr (h w hw)
theorem inX6 : ∀ w ∈ u_ws RX6 TX6 2, w ∈ mS := by
  have h : ∀ w ∈ u_ws RX6 TX6 2, w ∈ lw_tbl ∧ goodWord w = true := by decide +kernel
  exact fun w hw => List.mem_filter.mpr (h w hw)
theorem inX7 : ∀ w ∈ u_ws RX7 TX7 2, w ∈ mS := by
  have h : ∀ w ∈ u_ws RX7 TX7 2, w ∈ lw_tbl ∧ goodWord w = true := by decide +kernel
  exact fun w hw => List.mem_filter.mpr (h w hw)
theorem inX8 : ∀ w ∈ u_ws RX8 TX8 3, w ∈ mS := by
  have h : ∀ w ∈ u_ws RX8 TX8 3, w ∈ lw_tbl ∧ goodWord w = true := by decide +kernel
  exact fun w hw => List.mem_filter.mpr (h w hw)
theorem inX9 : ∀ w ∈ u_ws RX9 TX9 5, w ∈ mS := by
  have h : ∀ w ∈ u_ws RX9 TX9 5, w ∈ lw_tbl ∧ goodWord w = true := by decide +kernel
  exact fun w hw => List.mem_filter.mpr (h w hw)
theorem inX10 : ∀ w ∈ u_ws RX10 TX10 7, w ∈ mS := by
  have h : ∀ w ∈ u_ws RX10 TX10 7, w ∈ lw_tbl ∧ goodWord w = true := by decide +kernel
  exact fun w hw => List.mem_filter.mpr (h w hw)
theorem inX11 : ∀ w ∈ u_ws RX11 TX11 14, w ∈ mS := by
  have h : ∀ w ∈ u_ws RX11 TX11 14, w ∈ lw_tbl ∧ goodWord w = true := by decide +kernel
  exact fun w hw => List.mem_filter.mpr (h w hw)
theorem inX12 : ∀ w ∈ u_ws RX12 TX12 37, w ∈ mS := by
  have h : ∀ w ∈ u_ws RX12 TX12 37, w ∈ lw_tbl ∧ goodWord w = true := by decide +kernel
  exact fun w hw => List.mem_filter.mpr (h w hw)
end
section
/-! THE WORLD: 147 cells at places 0 .. 146 (0 .. 120 the class's, 121 .. 146 the reference's); all numbers of objects and int arrays in I, of long arrays in J; references and lengths are tables -/
abbrev Mi : Type := Nat → Nat → Int32
abbrev Ml : Type := Nat → Nat → Int64
abbrev Gw : Type := va_G × (Nat → ClassId) × (Nat → Nat)
def kdL : List Nat := [11, 8, 5, 13, 4, 13, 13, 18, 6, 17, 5, 13, 5, 13, 5, 13, 5, 13, 5, 13, 5, 13, 5, 13, 5, 13, 6, 17, 5, 13, 5, 13, 5, 13, 5, 13, 5, 13, 5, 13, 5, 13, 5, 13, 8, 5, 13, 4, 13, 13, 18, 6, 17, 5, 13, 5, 13, 5, 13, 5, 13, 5, 13, 5, 13, 5, 13, 5, 13, 6, 17, 5, 13, 5, 13, 5, 13, 5, 13, 5, 13, 5, 13, 5, 13, 5, 13, 1, 13, 13, 14, 10, 13, 13, 14, 13, 3, 5, 13, 13, 0, 13, 13, 16, 2, 14, 2, 14, 2, 14, 9, 13, 5, 13, 7, 13, 5, 13, 13, 13, 13, 12, 13, 13, 13, 13, 13, 13, 13, 13, 13, 13, 13, 13, 13, 13, 13, 14, 13, 13, 15, 13, 13, 13, 13, 13, 13]
def lnL : List Nat := [0, 0, 0, 30, 0, 8, 8, 2, 0, 8, 0, 30, 0, 30, 0, 30, 0, 30, 0, 30, 0, 30, 0, 30, 0, 30, 0, 8, 0, 30, 0, 30, 0, 30, 0, 30, 0, 30, 0, 30, 0, 30, 0, 30, 0, 0, 30, 0, 8, 8, 2, 0, 8, 0, 30, 0, 30, 0, 30, 0, 30, 0, 30, 0, 30, 0, 30, 0, 30, 0, 8, 0, 30, 0, 30, 0, 30, 0, 30, 0, 30, 0, 30, 0, 30, 0, 30, 0, 30, 30, 120, 0, 30, 30, 4, 30, 0, 0, 30, 30, 0, 30, 128, 3, 0, 30, 0, 30, 0, 30, 0, 100, 0, 30, 0, 160, 0, 30, 30, 30, 201, 0, 30, 16, 2, 496, 961, 31, 62, 900, 30, 30, 30, 30, 30, 30, 3, 90, 30, 201, 4096, 100, 300, 30, 16, 2, 496]
def rfL : List (List Nat) := [[1, 44, 0, 87, 91, 96, 100, 103, 110, 114, 116, 118, 119, 120], [2, 4, 7], [0, 3], [], [0, 5, 6], [], [], [8, 26], [0, 9], [10, 12, 14, 16, 18, 20, 22, 24], [0, 11], [], [0, 13], [], [0, 15], [], [0, 17], [], [0, 19], [], [0, 21], [], [0, 23], [], [0, 25], [], [0, 27], [28, 30, 32, 34, 36, 38, 40, 42], [0, 29], [], [0, 31], [], [0, 33], [], [0, 35], [], [0, 37], [], [0, 39], [], [0, 41], [], [0, 43], [], [45, 47, 50], [0, 46], [], [0, 48, 49], [], [], [51, 69], [0, 52], [53, 55, 57, 59, 61, 63, 65, 67], [0, 54], [], [0, 56], [], [0, 58], [], [0, 60], [], [0, 62], [], [0, 64], [], [0, 66], [], [0, 68], [], [0, 70], [71, 73, 75, 77, 79, 81, 83, 85], [0, 72], [], [0, 74], [], [0, 76], [], [0, 78], [], [0, 80], [], [0, 82], [], [0, 84], [], [0, 86], [], [0, 0, 0, 0, 88, 89, 90], [], [], [], [87, 92, 93, 94, 0, 95, 0], [], [], [], [], [91, 97, 0, 99, 0, 0, 0], [0, 98], [], [], [91, 101, 0, 102, 0], [], [], [104, 106, 108], [0, 105], [], [0, 107], [], [0, 109], [], [111, 0, 0, 0, 112], [], [0, 113], [], [0, 115], [], [0, 117], [], [], [], [], [0, 122, 123, 0, 124, 125, 126, 127, 128, 129, 130, 131, 132, 133, 134, 0, 0, 0, 135, 136, 137, 138, 139, 140, 141, 0, 0, 0, 142, 0, 0, 0, 0, 143, 144, 145, 146], [], [], [], [], [], [], [], [], [], [], [], [], [], [], [], [], [], [], [], [], [], [], [], [], []]
def ftL : List (List Bool) := [[false, false, true, false, true], [true, true, true, true, false, false, false], [true, false], [false, false, true, false, true, true, true], [true, false, false], [true, false], [true, false], [true, false], [false, false, false], [false, true, true, true, false], [false, false, false, false, true, false, true], [false, false, true, false, false, false, false, false, false, false, false, false, false, false], [true, false, false, true, false, false, false, false, false, false, false, false, false, false, false, true, true, true, false, false, false, false, false, false, false, true, true, true, false, true, true, true, true, false, false, false, false]]
def kd (k : Nat) : Nat := kdL.getD k 99
def ln (k : Nat) : Nat := lnL.getD k 0
def rf (k j : Nat) : Nat := (rfL.getD k []).getD j 0
def ft (c : Nat) : List Bool := ftL.getD c []
def cel (G : Gw) (I : Mi) (J : Ml) (k : Nat) : va_E :=
  if kd k < 13 then .inr (kd k, (ft (kd k)).mapIdx (fun j b => if b = true then Value.int (I k j) else .ref (G.2.2 (rf k j))))
  else if kd k = 14 then .inl (G.2.1 1, ln k, .inr (.inl (J k)))
  else if kd k < 16 then .inl (G.2.1 (kd k - 13), ln k, .inl (I k))
  else .inl (G.2.1 (kd k - 13), ln k, .inr (.inr (.inr (.inr (fun j => some (G.2.2 (rf k j)))))))
def wl (G : Gw) (I : Mi) (J : Ml) : va_W := (List.range 147).map (fun k => (G.2.2 k, cel G I J k))
def tysG (G : Gw) : List (ClassId × FieldType) := [(G.2.1 0, .int), (G.2.1 1, .long), (G.2.1 2, .boolean), (G.2.1 3, .object "NoughtSums$LongList"), (G.2.1 4, .object "NoughtSums$Row"), (G.2.1 5, .object "NoughtSums$Shelf")]
def nestL : List Cond := [.methodLinkNest RX1 26 yX11_isBase RX11, .methodLinkNest RX0 26 yX11_isBase RX11, .methodLinkNest RX9 41 yX11_isBase RX11]
def Wk (G : Gw) (U : State) : Prop := va_K G.1 vwCl (tysG G) U ∧ ∀ w ∈ nestL, va_Nw w U
def Wo (G : Gw) (I : Mi) (J : Ml) (U : State) : Prop := va_P G.1 vwCl (wl G I J) U.heap ∧ Wk G U
def Gj (G : Gw) : Prop := ∀ i j, i < 147 → j < 147 → G.2.2 i = G.2.2 j → i = j
def Aw (G : Gw) : Nat → Prop := fun q => ∃ k, k < 147 ∧ q = G.2.2 k
theorem wl_get (G : Gw) (I : Mi) (J : Ml) {k : Nat} (h : k < 147) : (wl G I J)[k]? = some (G.2.2 k, cel G I J k) := by
  simp [wl, h]
theorem wl_of {G : Gw} {I : Mi} {J : Ml} {k : Nat} {q : Nat × va_E} (h : (wl G I J)[k]? = some q) : k < 147 ∧ q = (G.2.2 k, cel G I J k) := by
  have hk : k < 147 := by
    have := (List.getElem?_eq_some_iff.mp h).1
    simpa [wl] using this
  rw [wl_get G I J hk] at h
  exact ⟨hk, (Option.some.inj h).symm⟩
theorem wl_D {G : Gw} {I : Mi} {J : Ml} {A : Nat → Prop} (hj : Gj G) (hA : ∀ q, Aw G q → A q) : va_D A (wl G I J) := by
  refine ⟨fun i j p q hi hj2 hpq => ?_, fun k q hk => ?_⟩
  · obtain ⟨a1, rfl⟩ := wl_of hi
    obtain ⟨a2, rfl⟩ := wl_of hj2
    exact hj i j a1 a2 hpq
  · obtain ⟨a1, rfl⟩ := wl_of hk
    exact hA _ ⟨k, a1, rfl⟩
/-- a row of I is another -/
def sr {α : Type} (I : Nat → Nat → α) (k : Nat) (f : Nat → α) : Nat → Nat → α := fun a => if a = k then f else I a
def up {α : Type} (f : Nat → α) (j : Nat) (v : α) : Nat → α := fun b => if b = j then v else f b
theorem sr_eq {α : Type} (I : Nat → Nat → α) (k : Nat) (f : Nat → α) : sr I k f k = f := by simp [sr]
theorem sr_ne {α : Type} (I : Nat → Nat → α) {k a : Nat} (f : Nat → α) (h : a ≠ k) : sr I k f a = I a := by simp [sr, h]
theorem sr_sr {α : Type} (I : Nat → Nat → α) (k : Nat) (f g : Nat → α) : sr (sr I k f) k g = sr I k g := by
  funext a; simp only [sr]; split <;> rfl
theorem sr_self {α : Type} (I : Nat → Nat → α) (k : Nat) : sr I k (I k) = I := by
  funext a; simp only [sr]; split
  · next h => rw [h]
  · rfl
theorem up_eq {α : Type} (f : Nat → α) (j : Nat) (v : α) : up f j v j = v := by simp [up]
theorem up_ne {α : Type} (f : Nat → α) {j b : Nat} (v : α) (h : b ≠ j) : up f j v b = f b := by simp [up, h]
theorem cel_ne {G : Gw} {I : Mi} {J : Ml} {k a : Nat} {f : Nat → Int32} (h : a ≠ k) : cel G (sr I k f) J a = cel G I J a := by
  simp only [cel, sr_ne I f h]
theorem cel_neJ {G : Gw} {I : Mi} {J : Ml} {k a : Nat} {f : Nat → Int64} (h : a ≠ k) : cel G I (sr J k f) a = cel G I J a := by
  simp only [cel, sr_ne J f h]
theorem wl_set {G : Gw} {I : Mi} {J : Ml} {k : Nat} {f : Nat → Int32} (h : k < 147) : (wl G I J).set k (G.2.2 k, cel G (sr I k f) J k) = wl G (sr I k f) J := by
  apply List.ext_getElem?
  intro i
  by_cases hi : i < 147
  · by_cases hik : k = i
    · subst hik
      rw [List.getElem?_set_self (by simpa [wl] using h), wl_get _ _ _ h]
    · rw [List.getElem?_set_ne hik, wl_get _ _ _ hi, wl_get _ _ _ hi, cel_ne (fun q => hik q.symm)]
  · rw [List.getElem?_eq_none (by simp [wl]; omega), List.getElem?_eq_none (by simp [wl]; omega)]
theorem wl_setJ {G : Gw} {I : Mi} {J : Ml} {k : Nat} {f : Nat → Int64} (h : k < 147) : (wl G I J).set k (G.2.2 k, cel G I (sr J k f) k) = wl G I (sr J k f) := by
  apply List.ext_getElem?
  intro i
  by_cases hi : i < 147
  · by_cases hik : k = i
    · subst hik
      rw [List.getElem?_set_self (by simpa [wl] using h), wl_get _ _ _ h]
    · rw [List.getElem?_set_ne hik, wl_get _ _ _ hi, wl_get _ _ _ hi, cel_neJ (fun q => hik q.symm)]
  · rw [List.getElem?_eq_none (by simp [wl]; omega), List.getElem?_eq_none (by simp [wl]; omega)]
/-- the cell of an object, of an int array, of a long array, of an array of references -/
def fv (G : Gw) (I : Mi) (k : Nat) : List Value := (ft (kd k)).mapIdx (fun j b => if b = true then Value.int (I k j) else .ref (G.2.2 (rf k j)))
theorem cel_o {G : Gw} {I : Mi} {J : Ml} {k ci : Nat} (h : kd k = ci) (hc : ci < 13) : cel G I J k = .inr (ci, fv G I k) := by
  simp only [cel, fv]; rw [if_pos (by omega), h]
theorem cel_i {G : Gw} {I : Mi} {J : Ml} {k : Nat} (h : kd k = 13) : cel G I J k = .inl (G.2.1 0, ln k, .inl (I k)) := by
  simp [cel, h]
theorem cel_z {G : Gw} {I : Mi} {J : Ml} {k : Nat} (h : kd k = 15) : cel G I J k = .inl (G.2.1 2, ln k, .inl (I k)) := by
  simp [cel, h]
theorem cel_l {G : Gw} {I : Mi} {J : Ml} {k : Nat} (h : kd k = 14) : cel G I J k = .inl (G.2.1 1, ln k, .inr (.inl (J k))) := by
  simp [cel, h]
theorem cel_q {G : Gw} {I : Mi} {J : Ml} {k t : Nat} (h : kd k = 13 + t) (ht : 3 ≤ t) : cel G I J k = .inl (G.2.1 t, ln k, .inr (.inr (.inr (.inr (fun j => some (G.2.2 (rf k j))))))) := by
  simp only [cel]; rw [if_neg (by omega), if_neg (by omega), if_neg (by omega)]
  rw [show kd k - 13 = t by omega]
theorem fv_int {G : Gw} {I : Mi} {k ci j : Nat} (h : kd k = ci) (hj : (ft ci)[j]? = some true) : (fv G I k)[j]? = some (.int (I k j)) := by
  simp [fv, h, hj]
theorem fv_ref {G : Gw} {I : Mi} {k ci j t : Nat} (h : kd k = ci) (hj : (ft ci)[j]? = some false) (ht : rf k j = t) : (fv G I k)[j]? = some (.ref (G.2.2 t)) := by
  simp [fv, h, hj, ht]
theorem fv_set {G : Gw} {I : Mi} {k ci j : Nat} {v : Int32} (h : kd k = ci) (hj : (ft ci)[j]? = some true) : (fv G I k).set j (.int v) = fv G (sr I k (up (I k) j v)) k := by
  apply List.ext_getElem?
  intro i
  by_cases hi : i < (ft ci).length
  · have hl : (fv G I k).length = (ft ci).length := by simp [fv, h]
    by_cases hij : j = i
    · subst hij
      rw [List.getElem?_set_self (by omega), fv_int h hj, sr_eq, up_eq]
    · rw [List.getElem?_set_ne hij]
      simp [fv, h, sr_eq, up_ne _ _ (fun q => hij q.symm)]
  · rw [List.getElem?_eq_none (by simp [fv, h]; omega), List.getElem?_eq_none (by simp [fv, h]; omega)]
end
section
/-! THE JUDGEMENT V: at pc, with the listed locals and stack, whatever heap holds the world of I and J, the machine comes to Q -/
abbrev Ev : Type := Program × Launch × Env × Room × State × MethodId × Array Value × List Frame × Method × Code × (State → Prop) × (Nat → Prop) × Nat × Nat × Nat
def hasL (ls : Array Slot) (nL : Nat) (lo : List (Option Value)) : Prop := ls.size = nL ∧ lv_wf ls ∧ ∀ (i : Nat) (v : Value), lo[i]? = some (some v) → ls[i]? = some (.val v)
def V (E : Ev) (G : Gw) (I : Mi) (J : Ml) (pc : Nat) (lo : List (Option Value)) (st : List Value) : Prop := match E with
  | (p, l, e, R, s, m, args, below, meth, c, Q, A, nL, cl, sl) => ∀ (H : Heap) (locs : List Loc), va_P G.1 vwCl (wl G I J) H → va_S A s.heap H locs → ∀ ls : Array Slot, hasL ls nL lo → W p l e R s m args below meth c H locs cl sl Q (F0 m pc ls st)
/-- what a frame knows: the machine, its code, its own words, its room of depth d -/
def Ok (E : Ev) (G : Gw) (own : String) (cc : ByteArray) (n d : Nat) : Prop := match E with
  | (p, _, _, R, s, m, args, _, _, c, _, A, nL, cl, sl) => p.tables.exec = Jvm.exec ∧ c.code = cc ∧ c.maxLocals = nL ∧ s.vm.findClass own = some m.cls ∧ (∀ w ∈ mS, w.before args s = true) ∧ Wk G s ∧ Gj G ∧ (∀ q, Aw G q → A q) ∧ nL = n ∧ d ≤ R.frames ∧ 40 * d ≤ R.locals ∧ cl ≤ R.cells ∧ sl ≤ R.slots
def Qw (G : Gw) (post : Option Value → Mi → Ml → Prop) : Array Value → State → Outcome → State → Prop := fun _ st oc t => (∃ (v : Option Value) (I : Mi) (J : Ml), oc = .returned v ∧ post v I J ∧ Wo G I J t) ∧ va_F (Aw G) st t
def Okr (E : Ev) (G : Gw) (ret : Option FieldType) (post : Option Value → Mi → Ml → Prop) : Prop := match E with
  | (_, _, _, _, s, _, args, below, meth, _, Q, A, _, cl, sl) => meth.sig.returnType = ret ∧ meth.locks = false ∧ A = Aw G ∧ Q = MQ below (Qw G post) args s cl sl (Aw G)
def rmD (d : Nat) : Room := { frames := d, cells := 0, slots := 0, locals := 40 * d }
/-- a contract -/
def Ct (l : Launch) (y : MethodName) (cc : ByteArray) (n : Nat) (ret : Option FieldType) (d : Nat) (G : Gw) (as : List Value) (I : Mi) (J : Ml) (post : Option Value → Mi → Ml → Prop) : Prop :=
  Met l y (.code y cc n ret :: mS) (rmD d) (va_Pc as (fun U => Wo G I J U ∧ Gj G)) (Qw G post) 0 0 (Aw G)
def pI (P : Int32 → Mi → Ml → Prop) : Option Value → Mi → Ml → Prop := fun v I J => ∃ r, v = some (.int r) ∧ P r I J
def pL (P : Int64 → Mi → Ml → Prop) : Option Value → Mi → Ml → Prop := fun v I J => ∃ r, v = some (.long r) ∧ P r I J
def pV (P : Mi → Ml → Prop) : Option Value → Mi → Ml → Prop := fun v I J => v = none ∧ P I J
theorem Wk.moved {G : Gw} {u U : State} (hW : u.WarmedH U.vm) (h : Wk G u) : Wk G U := ⟨va_K.moved hW.alike h.1, fun w hw => by
  have h2 := h.2 w hw
  simp only [nestL, List.mem_cons, List.not_mem_nil, or_false] at hw
  rcases hw with rfl | rfl | rfl <;> exact va_Nw.warmM hW h2⟩
/-- the locals at entry -/
def loE : List Value → List (Option Value)
  | [] => []
  | v :: vs => if v.category = 2 then some v :: none :: loE vs else some v :: loE vs
theorem loE_args : ∀ (vs : List Value) (n i : Nat) (v : Value), (loE vs)[i]? = some (some v) → (n + i, v) ∈ lv_args n vs
  | [], n, i, v, h => by simp [loE] at h
  | w :: vs, n, i, v, h => by
    by_cases hc : w.category = 2
    · simp only [loE, hc, if_true] at h
      simp only [lv_args, hc, if_true]
      match i, h with
      | 0, h => simp at h; subst h; exact List.mem_cons_self
      | 1, h => simp at h
      | i + 2, h =>
        have := loE_args vs (n + 2) i v (by simpa using h)
        exact List.mem_cons_of_mem _ (by rw [show n + (i + 2) = n + 2 + i by omega]; exact this)
    · simp only [loE, hc, if_false] at h
      simp only [lv_args, hc, if_false]
      match i, h with
      | 0, h => simp at h; subst h; exact List.mem_cons_self
      | i + 1, h =>
        have := loE_args vs (n + 1) i v (by simpa using h)
        exact List.mem_cons_of_mem _ (by rw [show n + (i + 1) = n + 1 + i by omega]; exact this)
theorem Ct.of {l : Launch} {y : MethodName} {cc : ByteArray} {n : Nat} {ret : Option FieldType} {d : Nat} {G : Gw} {as : List Value} {I : Mi} {J : Ml} {post : Option Value → Mi → Ml → Prop} (hy : plainName y.cls = true) (hn : (lg_sl as).length ≤ n) (lo : List (Option Value)) (hlo : lo = loE as ++ List.replicate (n - (lg_sl as).length) none)
    (body : ∀ E : Ev, Ok E G y.cls cc n d → Okr E G ret post → E.2.1 = l → V E G I J 0 lo []) : Ct l y cc n ret d G as I J post := by
  refine Met.ofW (cc := cc) (maxL := n) (ret := ret) hy rfl ?_
  intro p e s m args below meth c s₁ B hml hv
  obtain ⟨rfl, ⟨hP, hK⟩, hj⟩ := hv
  have hts := atoms_spec (ws := .code y cc n ret :: mS) B.pre
  have hown : s.vm.findClass y.cls = some m.cls := findClass_of_methodNamed B.named
  have hl := lv_entry as (n := n) hn
  rw [lg_entry_eq]
  refine body (p, l, e, rmD d, s, m, as.toArray, below, meth, c, MQ below (Qw G post) as.toArray s 0 0 (Aw G), Aw G, n, 0, 0) ⟨B.exec, B.bytes, hml, hown, fun w hw => hts w (List.mem_cons_of_mem _ hw), hK, hj, fun _ h => h, rfl, Nat.le_refl _, Nat.le_refl _, Nat.le_refl _, Nat.le_refl _⟩ ⟨B.returns, B.notSynchronized, rfl, rfl⟩ rfl s.heap [] hP va_S.rf _ ⟨hl.1, hl.2.1, fun i v hi => ?_⟩
  subst hlo
  by_cases hlt : i < (loE as).length
  · rw [List.getElem?_append_left hlt] at hi
    have := loE_args as 0 i v hi
    rw [Nat.zero_add] at this
    exact hl.2.2 (i, v) this
  · rw [List.getElem?_append_right (by omega)] at hi
    have h3 := List.mem_of_getElem? hi
    rw [List.mem_replicate] at h3
    cases h3.2
section RW
variable {E : Ev} {G : Gw} {I : Mi} {J : Ml} {own : String} {cc : ByteArray} {n d pc : Nat} {lo lo' : List (Option Value)} {st : List Value}
/-- other names for what is the same -/
theorem V_st {st' : List Value} (h : st' = st) (k : V E G I J pc lo st') : V E G I J pc lo st := h ▸ k
theorem V_i {x y : Int32} (h : x = y) (k : V E G I J pc lo (.int y :: st)) : V E G I J pc lo (.int x :: st) := h ▸ k
theorem V_l {x y : Int64} (h : x = y) (k : V E G I J pc lo (.long y :: st)) : V E G I J pc lo (.long x :: st) := h ▸ k
theorem V_I {I' : Mi} (h : I = I') (k : V E G I' J pc lo st) : V E G I J pc lo st := h ▸ k
theorem V_lo (h : lo = lo') (k : V E G I J pc lo' st) : V E G I J pc lo st := h ▸ k
theorem hasL.sub {ls : Array Slot} {nL : Nat} (h : hasL ls nL lo) (hs : ∀ (i : Nat) (v : Value), lo'[i]? = some (some v) → lo[i]? = some (some v)) : hasL ls nL lo' := ⟨h.1, h.2.1, fun i v hi => h.2.2 i v (hs i v hi)⟩
theorem V_sub (hs' : ∀ (i : Nat) (v : Value), lo'[i]? = some (some v) → lo[i]? = some (some v)) (k : V E G I J pc lo' st) : V E G I J pc lo st := by
  obtain ⟨p, l, e, R, s, m, args, below, meth, c, Q, A, nL, cl, sl⟩ := E
  exact fun H locs hP hS ls hl => k H locs hP hS ls (hl.sub hs')
/-- fewer locals are needed -/
def loSub : List (Option Value) → List (Option Value) → Prop
  | [], _ => True
  | none :: a, _ :: b => loSub a b
  | none :: a, [] => loSub a []
  | some v :: a, w :: b => w = some v ∧ loSub a b
  | some _ :: _, [] => False
theorem loSub_get : ∀ (a b : List (Option Value)), loSub a b → ∀ (i : Nat) (v : Value), a[i]? = some (some v) → b[i]? = some (some v)
  | [], _, _, i, v, h => by simp at h
  | none :: a, w :: b, hs, i, v, h => by
    match i, h with
    | 0, h => simp at h
    | i + 1, h => simpa using loSub_get a b hs i v (by simpa using h)
  | none :: a, [], hs, i, v, h => by
    match i, h with
    | 0, h => simp at h
    | i + 1, h =>
      have := loSub_get a [] hs i v (by simpa using h)
      simp at this
  | some u :: a, w :: b, hs, i, v, h => by
    obtain ⟨rfl, hs⟩ := hs
    match i, h with
    | 0, h => simpa using h
    | i + 1, h => simpa using loSub_get a b hs i v (by simpa using h)
theorem V_less (hs : loSub lo' lo) (k : V E G I J pc lo' st) : V E G I J pc lo st := V_sub (loSub_get lo' lo hs) k
def prs : Nat → List (Option Value) → List (Nat × Value)
  | _, [] => []
  | i, none :: l => prs (i + 1) l
  | i, some v :: l => (i, v) :: prs (i + 1) l
theorem prs_of : ∀ (l : List (Option Value)) (i j : Nat) (v : Value), (j, v) ∈ prs i l → ∃ k, j = i + k ∧ l[k]? = some (some v)
  | [], i, j, v, h => by simp [prs] at h
  | none :: l, i, j, v, h => by
    obtain ⟨k, h1, h2⟩ := prs_of l (i + 1) j v h
    exact ⟨k + 1, by omega, by simpa using h2⟩
  | some w :: l, i, j, v, h => by
    rcases List.mem_cons.mp h with h | h
    · cases h
      exact ⟨0, rfl, rfl⟩
    · obtain ⟨k, h1, h2⟩ := prs_of l (i + 1) j v h
      exact ⟨k + 1, by omega, by simpa using h2⟩
theorem prs_in : ∀ (l : List (Option Value)) (i k : Nat) (v : Value), l[k]? = some (some v) → (i + k, v) ∈ prs i l
  | [], i, k, v, h => by simp at h
  | none :: l, i, k, v, h => by
    match k, h with
    | 0, h => simp at h
    | k + 1, h =>
      have := prs_in l (i + 1) k v (by simpa using h)
      show (i + (k + 1), v) ∈ prs (i + 1) l
      rw [show i + (k + 1) = i + 1 + k by omega]; exact this
  | some w :: l, i, k, v, h => by
    match k, h with
    | 0, h => simp at h; subst h; exact List.mem_cons_self
    | k + 1, h =>
      have := prs_in l (i + 1) k v (by simpa using h)
      refine List.mem_cons_of_mem _ ?_
      rw [show i + (k + 1) = i + 1 + k by omega]; exact this
theorem hasL.pairs {ls : Array Slot} {nL : Nat} (h : hasL ls nL lo) : lv_has ls nL (prs 0 lo) := ⟨h.1, h.2.1, fun q hq => by
  obtain ⟨k, h1, h2⟩ := prs_of lo 0 q.1 q.2 hq
  rw [h1, Nat.zero_add]
  exact h.2.2 k q.2 h2⟩
theorem hasL.place {ls : Array Slot} {nL i : Nat} {v : Value} (_ : hasL ls nL lo) (hi : lo[i]? = some (some v)) : ∃ k : Nat, (prs 0 lo)[k]? = some (i, v) := by
  have := prs_in lo 0 i v hi
  rw [Nat.zero_add] at this
  obtain ⟨k, hk⟩ := List.getElem?_of_mem this
  exact ⟨k, hk⟩
def nl : Option Value → Bool
  | some v => v.category != 2
  | none => true
def sideOk (lo : List (Option Value)) : Nat → Prop
  | 0 => True
  | j + 1 => nl (lo.getD j none) = true
theorem hasL.st1 {ls2 : Array Slot} {nL i : Nat} {w : Value} (h2 : lv_has ls2 nL ((i, w) :: (prs 0 lo).filter (fun q => !(q.1 == i) && !(q.1 + 1 == i && q.2.category == 2)))) (hs : lo' = lo.set i (some w)) (hc : sideOk lo i) : hasL ls2 nL lo' := by
  refine ⟨h2.1, h2.2.1, fun j v hj => ?_⟩
  subst hs
  by_cases hij : i = j
  · subst hij
    have hlt : i < lo.length := by
      have := (List.getElem?_eq_some_iff.mp hj).1
      simpa using this
    rw [List.getElem?_set_self hlt] at hj
    have hj := Option.some.inj (Option.some.inj hj)
    subst hj
    exact h2.2.2 (i, w) List.mem_cons_self
  · rw [List.getElem?_set_ne hij] at hj
    refine h2.2.2 (j, v) (List.mem_cons_of_mem _ (List.mem_filter.mpr ⟨?_, ?_⟩))
    · have := prs_in lo 0 j v hj
      rwa [Nat.zero_add] at this
    · have h3 : ¬ (j + 1 = i ∧ v.category = 2) := by
        rintro ⟨h4, h5⟩
        subst h4
        have h6 : nl (lo.getD j none) = true := hc
        have h7 : lo.getD j none = some v := by simp [hj]
        rw [h7] at h6
        simp [nl, h5] at h6
      simp only [Bool.and_eq_true, Bool.not_eq_true', beq_eq_false_iff_ne, ne_eq, Bool.and_eq_false_iff]
      refine ⟨fun h => hij h.symm, ?_⟩
      by_cases h8 : j + 1 = i
      · exact Or.inr (fun h9 => h3 ⟨h8, h9⟩)
      · exact Or.inl h8
theorem hasL.st2 {ls2 : Array Slot} {nL i : Nat} {w : Value} (h2 : lv_has ls2 nL ((i, w) :: (prs 0 lo).filter (fun q => !(q.1 == i) && (!(q.1 == i + 1) && !(q.1 + 1 == i && q.2.category == 2))))) (hs : lo' = (lo.set i (some w)).set (i + 1) none) (hc : sideOk lo i) : hasL ls2 nL lo' := by
  refine ⟨h2.1, h2.2.1, fun j v hj => ?_⟩
  subst hs
  by_cases hij1 : i + 1 = j
  · subst hij1
    have hlt : i + 1 < lo.length := by
      have := (List.getElem?_eq_some_iff.mp hj).1
      simpa using this
    rw [List.getElem?_set_self (by simpa using hlt)] at hj
    cases hj
  rw [List.getElem?_set_ne hij1] at hj
  by_cases hij : i = j
  · subst hij
    have hlt : i < lo.length := by
      have := (List.getElem?_eq_some_iff.mp hj).1
      simpa using this
    rw [List.getElem?_set_self hlt] at hj
    have hj := Option.some.inj (Option.some.inj hj)
    subst hj
    exact h2.2.2 (i, w) List.mem_cons_self
  · rw [List.getElem?_set_ne hij] at hj
    refine h2.2.2 (j, v) (List.mem_cons_of_mem _ (List.mem_filter.mpr ⟨?_, ?_⟩))
    · have := prs_in lo 0 j v hj
      rwa [Nat.zero_add] at this
    · have h3 : ¬ (j + 1 = i ∧ v.category = 2) := by
        rintro ⟨h4, h5⟩
        subst h4
        have h6 : nl (lo.getD j none) = true := hc
        have h7 : lo.getD j none = some v := by simp [hj]
        rw [h7] at h6
        simp [nl, h5] at h6
      simp only [Bool.and_eq_true, Bool.not_eq_true', beq_eq_false_iff_ne, ne_eq, Bool.and_eq_false_iff]
      refine ⟨fun h => hij h.symm, fun h => hij1 h.symm, ?_⟩
      by_cases h8 : j + 1 = i
      · exact Or.inr (fun h9 => h3 ⟨h8, h9⟩)
      · exact Or.inl h8
theorem V_iconst (ok : Ok E G own cc n d) {i : Int} {v : Int32} (hd : decode cc pc = .ok (.iconst i, 1)) (hv : Int32.ofInt i = v) (k : V E G I J (pc + 1) lo (.int v :: st)) : V E G I J pc lo st := by
  obtain ⟨p, l, e, R, s, m, args, below, meth, c, Q, A, nL, cl, sl⟩ := E
  exact fun H locs hP hS ls hl => lv_iconst ok.1 ok.2.1 hd hv (k H locs hP hS ls hl)
theorem V_bipush (ok : Ok E G own cc n d) {i : Int} {v : Int32} (hd : decode cc pc = .ok (.bipush i, 2)) (hv : (Int8.ofInt i).toInt32 = v) (k : V E G I J (pc + 2) lo (.int v :: st)) : V E G I J pc lo st := by
  obtain ⟨p, l, e, R, s, m, args, below, meth, c, Q, A, nL, cl, sl⟩ := E
  exact fun H locs hP hS ls hl => lv_bipush ok.1 ok.2.1 hd hv (k H locs hP hS ls hl)
theorem V_sipush (ok : Ok E G own cc n d) {i : Int} {v : Int32} (hd : decode cc pc = .ok (.sipush i, 3)) (hv : (Int16.ofInt i).toInt32 = v) (k : V E G I J (pc + 3) lo (.int v :: st)) : V E G I J pc lo st := by
  obtain ⟨p, l, e, R, s, m, args, below, meth, c, Q, A, nL, cl, sl⟩ := E
  exact fun H locs hP hS ls hl => lv_sipush ok.1 ok.2.1 hd hv (k H locs hP hS ls hl)
theorem V_lconst (ok : Ok E G own cc n d) {i : Fin 2} {v : Int64} (hd : decode cc pc = .ok (.lconst i, 1)) (hv : Int64.ofNat (i : Nat) = v) (k : V E G I J (pc + 1) lo (.long v :: st)) : V E G I J pc lo st := by
  obtain ⟨p, l, e, R, s, m, args, below, meth, c, Q, A, nL, cl, sl⟩ := E
  exact fun H locs hP hS ls hl => lv_lconst ok.1 ok.2.1 hd hv (k H locs hP hS ls hl)
theorem V_ldc2 (ok : Ok E G own cc n d) {i : Nat} {v : Int64} (hd : decode cc pc = .ok (.ldc2_w i, 3)) (hv : Cond.constantLong own i v ∈ mS) (k : V E G I J (pc + 3) lo (.long v :: st)) : V E G I J pc lo st := by
  obtain ⟨p, l, e, R, s, m, args, below, meth, c, Q, A, nL, cl, sl⟩ := E
  exact fun H locs hP hS ls hl => lv_ldc2 ok.1 ok.2.1 ok.2.2.2.1 (ok.2.2.2.2.1 _ hv) hd (k H locs hP hS ls hl)
theorem V_ldcw (ok : Ok E G own cc n d) {i : Nat} {v : Int32} (hd : decode cc pc = .ok (.ldc_w i, 3)) (hv : Cond.constant own i v ∈ mS) (k : V E G I J (pc + 3) lo (.int v :: st)) : V E G I J pc lo st := by
  obtain ⟨p, l, e, R, s, m, args, below, meth, c, Q, A, nL, cl, sl⟩ := E
  exact fun H locs hP hS ls hl => lv_ldcw ok.1 ok.2.1 ok.2.2.2.1 (ok.2.2.2.2.1 _ hv) hd (k H locs hP hS ls hl)
theorem V_iadd (ok : Ok E G own cc n d) {x y : Int32} (hd : decode cc pc = .ok (.iadd, 1)) (k : V E G I J (pc + 1) lo (.int (x + y) :: st)) : V E G I J pc lo (.int y :: .int x :: st) := by
  obtain ⟨p, l, e, R, s, m, args, below, meth, c, Q, A, nL, cl, sl⟩ := E
  exact fun H locs hP hS ls hl => lv_iadd ok.1 ok.2.1 hd (k H locs hP hS ls hl)
theorem V_isub (ok : Ok E G own cc n d) {x y : Int32} (hd : decode cc pc = .ok (.isub, 1)) (k : V E G I J (pc + 1) lo (.int (x - y) :: st)) : V E G I J pc lo (.int y :: .int x :: st) := by
  obtain ⟨p, l, e, R, s, m, args, below, meth, c, Q, A, nL, cl, sl⟩ := E
  exact fun H locs hP hS ls hl => lv_isub ok.1 ok.2.1 hd (k H locs hP hS ls hl)
theorem V_imul (ok : Ok E G own cc n d) {x y : Int32} (hd : decode cc pc = .ok (.imul, 1)) (k : V E G I J (pc + 1) lo (.int (x * y) :: st)) : V E G I J pc lo (.int y :: .int x :: st) := by
  obtain ⟨p, l, e, R, s, m, args, below, meth, c, Q, A, nL, cl, sl⟩ := E
  exact fun H locs hP hS ls hl => lv_imul ok.1 ok.2.1 hd (k H locs hP hS ls hl)
theorem V_iand (ok : Ok E G own cc n d) {x y : Int32} (hd : decode cc pc = .ok (.iand, 1)) (k : V E G I J (pc + 1) lo (.int (x &&& y) :: st)) : V E G I J pc lo (.int y :: .int x :: st) := by
  obtain ⟨p, l, e, R, s, m, args, below, meth, c, Q, A, nL, cl, sl⟩ := E
  exact fun H locs hP hS ls hl => lv_iand ok.1 ok.2.1 hd (k H locs hP hS ls hl)
theorem V_ior (ok : Ok E G own cc n d) {x y : Int32} (hd : decode cc pc = .ok (.ior, 1)) (k : V E G I J (pc + 1) lo (.int (x ||| y) :: st)) : V E G I J pc lo (.int y :: .int x :: st) := by
  obtain ⟨p, l, e, R, s, m, args, below, meth, c, Q, A, nL, cl, sl⟩ := E
  exact fun H locs hP hS ls hl => lv_ior ok.1 ok.2.1 hd (k H locs hP hS ls hl)
theorem V_ixor (ok : Ok E G own cc n d) {x y : Int32} (hd : decode cc pc = .ok (.ixor, 1)) (k : V E G I J (pc + 1) lo (.int (x ^^^ y) :: st)) : V E G I J pc lo (.int y :: .int x :: st) := by
  obtain ⟨p, l, e, R, s, m, args, below, meth, c, Q, A, nL, cl, sl⟩ := E
  exact fun H locs hP hS ls hl => lv_ixor ok.1 ok.2.1 hd (k H locs hP hS ls hl)
theorem V_ishl (ok : Ok E G own cc n d) {x y : Int32} (hd : decode cc pc = .ok (.ishl, 1)) (k : V E G I J (pc + 1) lo (.int (x <<< (y &&& 31)) :: st)) : V E G I J pc lo (.int y :: .int x :: st) := by
  obtain ⟨p, l, e, R, s, m, args, below, meth, c, Q, A, nL, cl, sl⟩ := E
  exact fun H locs hP hS ls hl => lv_ishl ok.1 ok.2.1 hd (k H locs hP hS ls hl)
theorem V_ishr (ok : Ok E G own cc n d) {x y : Int32} (hd : decode cc pc = .ok (.ishr, 1)) (k : V E G I J (pc + 1) lo (.int (x >>> (y &&& 31)) :: st)) : V E G I J pc lo (.int y :: .int x :: st) := by
  obtain ⟨p, l, e, R, s, m, args, below, meth, c, Q, A, nL, cl, sl⟩ := E
  exact fun H locs hP hS ls hl => lv_ishr ok.1 ok.2.1 hd (k H locs hP hS ls hl)
theorem V_iushr (ok : Ok E G own cc n d) {x y v : Int32} (hd : decode cc pc = .ok (.iushr, 1)) (hv : (x.toUInt32 >>> (y.toUInt32 &&& Int32.toUInt32 31)).toInt32 = v) (k : V E G I J (pc + 1) lo (.int v :: st)) : V E G I J pc lo (.int y :: .int x :: st) := by
  obtain ⟨p, l, e, R, s, m, args, below, meth, c, Q, A, nL, cl, sl⟩ := E
  exact fun H locs hP hS ls hl => lv_iushr ok.1 ok.2.1 hd hv (k H locs hP hS ls hl)
theorem V_idiv (ok : Ok E G own cc n d) {x y : Int32} (hd : decode cc pc = .ok (.idiv, 1)) (hne : ¬ y = 0) (k : V E G I J (pc + 1) lo (.int (x / y) :: st)) : V E G I J pc lo (.int y :: .int x :: st) := by
  obtain ⟨p, l, e, R, s, m, args, below, meth, c, Q, A, nL, cl, sl⟩ := E
  exact fun H locs hP hS ls hl => lv_idiv ok.1 ok.2.1 hd hne (k H locs hP hS ls hl)
theorem V_irem (ok : Ok E G own cc n d) {x y : Int32} (hd : decode cc pc = .ok (.irem, 1)) (hne : ¬ y = 0) (k : V E G I J (pc + 1) lo (.int (x - x / y * y) :: st)) : V E G I J pc lo (.int y :: .int x :: st) := by
  obtain ⟨p, l, e, R, s, m, args, below, meth, c, Q, A, nL, cl, sl⟩ := E
  exact fun H locs hP hS ls hl => lv_irem ok.1 ok.2.1 hd hne (k H locs hP hS ls hl)
theorem V_ladd (ok : Ok E G own cc n d) {x y : Int64} (hd : decode cc pc = .ok (.ladd, 1)) (k : V E G I J (pc + 1) lo (.long (x + y) :: st)) : V E G I J pc lo (.long y :: .long x :: st) := by
  obtain ⟨p, l, e, R, s, m, args, below, meth, c, Q, A, nL, cl, sl⟩ := E
  exact fun H locs hP hS ls hl => lv_ladd ok.1 ok.2.1 hd (k H locs hP hS ls hl)
theorem V_lmul (ok : Ok E G own cc n d) {x y : Int64} (hd : decode cc pc = .ok (.lmul, 1)) (k : V E G I J (pc + 1) lo (.long (x * y) :: st)) : V E G I J pc lo (.long y :: .long x :: st) := by
  obtain ⟨p, l, e, R, s, m, args, below, meth, c, Q, A, nL, cl, sl⟩ := E
  exact fun H locs hP hS ls hl => lv_lmul ok.1 ok.2.1 hd (k H locs hP hS ls hl)
theorem V_land (ok : Ok E G own cc n d) {x y : Int64} (hd : decode cc pc = .ok (.land, 1)) (k : V E G I J (pc + 1) lo (.long (x &&& y) :: st)) : V E G I J pc lo (.long y :: .long x :: st) := by
  obtain ⟨p, l, e, R, s, m, args, below, meth, c, Q, A, nL, cl, sl⟩ := E
  exact fun H locs hP hS ls hl => lv_land ok.1 ok.2.1 hd (k H locs hP hS ls hl)
theorem V_lor (ok : Ok E G own cc n d) {x y : Int64} (hd : decode cc pc = .ok (.lor, 1)) (k : V E G I J (pc + 1) lo (.long (x ||| y) :: st)) : V E G I J pc lo (.long y :: .long x :: st) := by
  obtain ⟨p, l, e, R, s, m, args, below, meth, c, Q, A, nL, cl, sl⟩ := E
  exact fun H locs hP hS ls hl => lv_lor ok.1 ok.2.1 hd (k H locs hP hS ls hl)
theorem V_lrem (ok : Ok E G own cc n d) {x y : Int64} (hd : decode cc pc = .ok (.lrem, 1)) (hne : ¬ y = 0) (k : V E G I J (pc + 1) lo (.long (x - x / y * y) :: st)) : V E G I J pc lo (.long y :: .long x :: st) := by
  obtain ⟨p, l, e, R, s, m, args, below, meth, c, Q, A, nL, cl, sl⟩ := E
  exact fun H locs hP hS ls hl => lv_lrem ok.1 ok.2.1 hd hne (k H locs hP hS ls hl)
theorem V_lshl (ok : Ok E G own cc n d) {x : Int64} {y : Int32} (hd : decode cc pc = .ok (.lshl, 1)) (k : V E G I J (pc + 1) lo (.long (x <<< (y.toInt64 &&& 63)) :: st)) : V E G I J pc lo (.int y :: .long x :: st) := by
  obtain ⟨p, l, e, R, s, m, args, below, meth, c, Q, A, nL, cl, sl⟩ := E
  exact fun H locs hP hS ls hl => lv_lshl ok.1 ok.2.1 hd rfl (k H locs hP hS ls hl)
theorem V_ineg (ok : Ok E G own cc n d) {x : Int32} (hd : decode cc pc = .ok (.ineg, 1)) (k : V E G I J (pc + 1) lo (.int (-x) :: st)) : V E G I J pc lo (.int x :: st) := by
  obtain ⟨p, l, e, R, s, m, args, below, meth, c, Q, A, nL, cl, sl⟩ := E
  exact fun H locs hP hS ls hl => lv_ineg ok.1 ok.2.1 hd (k H locs hP hS ls hl)
theorem V_i2l (ok : Ok E G own cc n d) {x : Int32} (hd : decode cc pc = .ok (.i2l, 1)) (k : V E G I J (pc + 1) lo (.long x.toInt64 :: st)) : V E G I J pc lo (.int x :: st) := by
  obtain ⟨p, l, e, R, s, m, args, below, meth, c, Q, A, nL, cl, sl⟩ := E
  exact fun H locs hP hS ls hl => lv_i2l ok.1 ok.2.1 hd rfl (k H locs hP hS ls hl)
theorem V_l2i (ok : Ok E G own cc n d) {x : Int64} (hd : decode cc pc = .ok (.l2i, 1)) (k : V E G I J (pc + 1) lo (.int x.toInt32 :: st)) : V E G I J pc lo (.long x :: st) := by
  obtain ⟨p, l, e, R, s, m, args, below, meth, c, Q, A, nL, cl, sl⟩ := E
  exact fun H locs hP hS ls hl => lv_l2i ok.1 ok.2.1 hd rfl (k H locs hP hS ls hl)
theorem V_dup (ok : Ok E G own cc n d) {v : Value} (hd : decode cc pc = .ok (.dup, 1)) (hc : v.category = 1) (k : V E G I J (pc + 1) lo (v :: v :: st)) : V E G I J pc lo (v :: st) := by
  obtain ⟨p, l, e, R, s, m, args, below, meth, c, Q, A, nL, cl, sl⟩ := E
  exact fun H locs hP hS ls hl => lv_dup ok.1 ok.2.1 hd hc (k H locs hP hS ls hl)
theorem V_pop (ok : Ok E G own cc n d) {v : Value} (hd : decode cc pc = .ok (.pop, 1)) (hc : v.category = 1) (k : V E G I J (pc + 1) lo st) : V E G I J pc lo (v :: st) := by
  obtain ⟨p, l, e, R, s, m, args, below, meth, c, Q, A, nL, cl, sl⟩ := E
  exact fun H locs hP hS ls hl => lv_pop ok.1 ok.2.1 hd hc (k H locs hP hS ls hl)
theorem V_dup2 (ok : Ok E G own cc n d) {v w : Value} (hd : decode cc pc = .ok (.dup2, 1)) (hc : v.category = 1) (hc2 : w.category = 1) (k : V E G I J (pc + 1) lo (v :: w :: v :: w :: st)) : V E G I J pc lo (v :: w :: st) := by
  obtain ⟨p, l, e, R, s, m, args, below, meth, c, Q, A, nL, cl, sl⟩ := E
  exact fun H locs hP hS ls hl => lv_dup2_11 ok.1 ok.2.1 hd hc hc2 (k H locs hP hS ls hl)
theorem V_dup_x1 (ok : Ok E G own cc n d) {v w : Value} (hd : decode cc pc = .ok (.dup_x1, 1)) (hc : v.category = 1) (hc2 : w.category = 1) (k : V E G I J (pc + 1) lo (v :: w :: v :: st)) : V E G I J pc lo (v :: w :: st) := by
  obtain ⟨p, l, e, R, s, m, args, below, meth, c, Q, A, nL, cl, sl⟩ := E
  exact fun H locs hP hS ls hl => lv_dup_x1 ok.1 ok.2.1 hd hc hc2 (k H locs hP hS ls hl)
theorem V_goto (ok : Ok E G own cc n d) {off : Int} {tgt : Nat} (hd : decode cc pc = .ok (.goto off, 3)) (ht : (pc : Int) + off = (tgt : Int)) (k : V E G I J tgt lo st) : V E G I J pc lo st := by
  obtain ⟨p, l, e, R, s, m, args, below, meth, c, Q, A, nL, cl, sl⟩ := E
  exact fun H locs hP hS ls hl => lv_goto ok.1 ok.2.1 hd ht (k H locs hP hS ls hl)
theorem V_lcmp (ok : Ok E G own cc n d) {x y : Int64} (hd : decode cc pc = .ok (.lcmp, 1)) (k : V E G I J (pc + 1) lo (.int (lg_cmp x y) :: st)) : V E G I J pc lo (.long y :: .long x :: st) := by
  obtain ⟨p, l, e, R, s, m, args, below, meth, c, Q, A, nL, cl, sl⟩ := E
  exact fun H locs hP hS ls hl => W.lcmp ok.1 ok.2.1 hd (k H locs hP hS ls hl)
theorem V_if_eq (ok : Ok E G own cc n d) {x : Int32} {off : Int} {tgt : Nat} (hd : decode cc pc = .ok (.ifCond .eq off, 3)) (ht : (pc : Int) + off = (tgt : Int)) (kt : x = 0 → V E G I J tgt lo st) (kf : ¬ x = 0 → V E G I J (pc + 3) lo st) : V E G I J pc lo (.int x :: st) := by
  obtain ⟨p, l, e, R, s, m, args, below, meth, c, Q, A, nL, cl, sl⟩ := E
  exact fun H locs hP hS ls hl => lv_if_eq ok.1 ok.2.1 hd ht (fun h => kt h H locs hP hS ls hl) (fun h => kf h H locs hP hS ls hl)
theorem V_icmp_eq (ok : Ok E G own cc n d) {x y : Int32} {off : Int} {tgt : Nat} (hd : decode cc pc = .ok (.if_icmp .eq off, 3)) (ht : (pc : Int) + off = (tgt : Int)) (kt : x = y → V E G I J tgt lo st) (kf : ¬ x = y → V E G I J (pc + 3) lo st) : V E G I J pc lo (.int y :: .int x :: st) := by
  obtain ⟨p, l, e, R, s, m, args, below, meth, c, Q, A, nL, cl, sl⟩ := E
  exact fun H locs hP hS ls hl => lv_icmp_eq ok.1 ok.2.1 hd ht (fun h => kt h H locs hP hS ls hl) (fun h => kf h H locs hP hS ls hl)
theorem V_if_ne (ok : Ok E G own cc n d) {x : Int32} {off : Int} {tgt : Nat} (hd : decode cc pc = .ok (.ifCond .ne off, 3)) (ht : (pc : Int) + off = (tgt : Int)) (kt : ¬ x = 0 → V E G I J tgt lo st) (kf : x = 0 → V E G I J (pc + 3) lo st) : V E G I J pc lo (.int x :: st) := by
  obtain ⟨p, l, e, R, s, m, args, below, meth, c, Q, A, nL, cl, sl⟩ := E
  exact fun H locs hP hS ls hl => lv_if_ne ok.1 ok.2.1 hd ht (fun h => kt h H locs hP hS ls hl) (fun h => kf h H locs hP hS ls hl)
theorem V_icmp_ne (ok : Ok E G own cc n d) {x y : Int32} {off : Int} {tgt : Nat} (hd : decode cc pc = .ok (.if_icmp .ne off, 3)) (ht : (pc : Int) + off = (tgt : Int)) (kt : ¬ x = y → V E G I J tgt lo st) (kf : x = y → V E G I J (pc + 3) lo st) : V E G I J pc lo (.int y :: .int x :: st) := by
  obtain ⟨p, l, e, R, s, m, args, below, meth, c, Q, A, nL, cl, sl⟩ := E
  exact fun H locs hP hS ls hl => lv_icmp_ne ok.1 ok.2.1 hd ht (fun h => kt h H locs hP hS ls hl) (fun h => kf h H locs hP hS ls hl)
theorem V_if_lt (ok : Ok E G own cc n d) {x : Int32} {off : Int} {tgt : Nat} (hd : decode cc pc = .ok (.ifCond .lt off, 3)) (ht : (pc : Int) + off = (tgt : Int)) (kt : x < 0 → V E G I J tgt lo st) (kf : ¬ x < 0 → V E G I J (pc + 3) lo st) : V E G I J pc lo (.int x :: st) := by
  obtain ⟨p, l, e, R, s, m, args, below, meth, c, Q, A, nL, cl, sl⟩ := E
  exact fun H locs hP hS ls hl => lv_if_lt ok.1 ok.2.1 hd ht (fun h => kt h H locs hP hS ls hl) (fun h => kf h H locs hP hS ls hl)
theorem V_icmp_lt (ok : Ok E G own cc n d) {x y : Int32} {off : Int} {tgt : Nat} (hd : decode cc pc = .ok (.if_icmp .lt off, 3)) (ht : (pc : Int) + off = (tgt : Int)) (kt : x < y → V E G I J tgt lo st) (kf : ¬ x < y → V E G I J (pc + 3) lo st) : V E G I J pc lo (.int y :: .int x :: st) := by
  obtain ⟨p, l, e, R, s, m, args, below, meth, c, Q, A, nL, cl, sl⟩ := E
  exact fun H locs hP hS ls hl => lv_icmp_lt ok.1 ok.2.1 hd ht (fun h => kt h H locs hP hS ls hl) (fun h => kf h H locs hP hS ls hl)
theorem V_if_ge (ok : Ok E G own cc n d) {x : Int32} {off : Int} {tgt : Nat} (hd : decode cc pc = .ok (.ifCond .ge off, 3)) (ht : (pc : Int) + off = (tgt : Int)) (kt : 0 ≤ x → V E G I J tgt lo st) (kf : ¬ 0 ≤ x → V E G I J (pc + 3) lo st) : V E G I J pc lo (.int x :: st) := by
  obtain ⟨p, l, e, R, s, m, args, below, meth, c, Q, A, nL, cl, sl⟩ := E
  exact fun H locs hP hS ls hl => lv_if_ge ok.1 ok.2.1 hd ht (fun h => kt h H locs hP hS ls hl) (fun h => kf h H locs hP hS ls hl)
theorem V_icmp_ge (ok : Ok E G own cc n d) {x y : Int32} {off : Int} {tgt : Nat} (hd : decode cc pc = .ok (.if_icmp .ge off, 3)) (ht : (pc : Int) + off = (tgt : Int)) (kt : y ≤ x → V E G I J tgt lo st) (kf : ¬ y ≤ x → V E G I J (pc + 3) lo st) : V E G I J pc lo (.int y :: .int x :: st) := by
  obtain ⟨p, l, e, R, s, m, args, below, meth, c, Q, A, nL, cl, sl⟩ := E
  exact fun H locs hP hS ls hl => lv_icmp_ge ok.1 ok.2.1 hd ht (fun h => kt h H locs hP hS ls hl) (fun h => kf h H locs hP hS ls hl)
theorem V_if_gt (ok : Ok E G own cc n d) {x : Int32} {off : Int} {tgt : Nat} (hd : decode cc pc = .ok (.ifCond .gt off, 3)) (ht : (pc : Int) + off = (tgt : Int)) (kt : 0 < x → V E G I J tgt lo st) (kf : ¬ 0 < x → V E G I J (pc + 3) lo st) : V E G I J pc lo (.int x :: st) := by
  obtain ⟨p, l, e, R, s, m, args, below, meth, c, Q, A, nL, cl, sl⟩ := E
  exact fun H locs hP hS ls hl => lv_if_gt ok.1 ok.2.1 hd ht (fun h => kt h H locs hP hS ls hl) (fun h => kf h H locs hP hS ls hl)
theorem V_icmp_gt (ok : Ok E G own cc n d) {x y : Int32} {off : Int} {tgt : Nat} (hd : decode cc pc = .ok (.if_icmp .gt off, 3)) (ht : (pc : Int) + off = (tgt : Int)) (kt : y < x → V E G I J tgt lo st) (kf : ¬ y < x → V E G I J (pc + 3) lo st) : V E G I J pc lo (.int y :: .int x :: st) := by
  obtain ⟨p, l, e, R, s, m, args, below, meth, c, Q, A, nL, cl, sl⟩ := E
  exact fun H locs hP hS ls hl => lv_icmp_gt ok.1 ok.2.1 hd ht (fun h => kt h H locs hP hS ls hl) (fun h => kf h H locs hP hS ls hl)
theorem V_if_le (ok : Ok E G own cc n d) {x : Int32} {off : Int} {tgt : Nat} (hd : decode cc pc = .ok (.ifCond .le off, 3)) (ht : (pc : Int) + off = (tgt : Int)) (kt : x ≤ 0 → V E G I J tgt lo st) (kf : ¬ x ≤ 0 → V E G I J (pc + 3) lo st) : V E G I J pc lo (.int x :: st) := by
  obtain ⟨p, l, e, R, s, m, args, below, meth, c, Q, A, nL, cl, sl⟩ := E
  exact fun H locs hP hS ls hl => lv_if_le ok.1 ok.2.1 hd ht (fun h => kt h H locs hP hS ls hl) (fun h => kf h H locs hP hS ls hl)
theorem V_icmp_le (ok : Ok E G own cc n d) {x y : Int32} {off : Int} {tgt : Nat} (hd : decode cc pc = .ok (.if_icmp .le off, 3)) (ht : (pc : Int) + off = (tgt : Int)) (kt : x ≤ y → V E G I J tgt lo st) (kf : ¬ x ≤ y → V E G I J (pc + 3) lo st) : V E G I J pc lo (.int y :: .int x :: st) := by
  obtain ⟨p, l, e, R, s, m, args, below, meth, c, Q, A, nL, cl, sl⟩ := E
  exact fun H locs hP hS ls hl => lv_icmp_le ok.1 ok.2.1 hd ht (fun h => kt h H locs hP hS ls hl) (fun h => kf h H locs hP hS ls hl)
theorem V_iload0 (ok : Ok E G own cc n d) {r : List (Option Value)} {x : Int32} (hd : decode cc pc = .ok (.iload_n 0, 1)) (k : V E G I J (pc + 1) (some (.int x) :: r) (.int x :: st)) : V E G I J pc (some (.int x) :: r) st := by
  obtain ⟨p, l, e, R, s, m, args, below, meth, c, Q, A, nL, cl, sl⟩ := E
  exact fun H locs hP hS ls hl => lv_iload_n ok.1 ok.2.1 hd rfl (hl.2.2 0 (.int x) rfl) (k H locs hP hS ls hl)
theorem V_istore0 (ok : Ok E G own cc n d) {r : List (Option Value)} {b : Option Value} {x : Int32} (hn : 0 < n) (hd : decode cc pc = .ok (.istore_n 0, 1)) (k : V E G I J (pc + 1) (some (.int x) :: r) st) : V E G I J pc (b :: r) (.int x :: st) := by
  obtain ⟨p, l, e, R, s, m, args, below, meth, c, Q, A, nL, cl, sl⟩ := E
  intro H locs hP hS ls hl
  refine lv_istore_n ok.1 ok.2.1 hd rfl (hl.pairs) (by have := ok.2.2.2.2.2.2.2.2.1; omega) rfl (fun ls2 h2 => k H locs hP hS ls2 (hasL.st1 (i := 0) (w := .int x) h2 rfl ?_))
  trivial
theorem V_aload0 (ok : Ok E G own cc n d) {r : List (Option Value)} {x : Nat} (hd : decode cc pc = .ok (.aload_n 0, 1)) (k : V E G I J (pc + 1) (some (.ref x) :: r) (.ref x :: st)) : V E G I J pc (some (.ref x) :: r) st := by
  obtain ⟨p, l, e, R, s, m, args, below, meth, c, Q, A, nL, cl, sl⟩ := E
  exact fun H locs hP hS ls hl => lv_aload_n ok.1 ok.2.1 hd rfl (hl.2.2 0 (.ref x) rfl) (k H locs hP hS ls hl)
theorem V_astore0 (ok : Ok E G own cc n d) {r : List (Option Value)} {b : Option Value} {x : Nat} (hn : 0 < n) (hd : decode cc pc = .ok (.astore_n 0, 1)) (k : V E G I J (pc + 1) (some (.ref x) :: r) st) : V E G I J pc (b :: r) (.ref x :: st) := by
  obtain ⟨p, l, e, R, s, m, args, below, meth, c, Q, A, nL, cl, sl⟩ := E
  intro H locs hP hS ls hl
  refine lv_astore_n ok.1 ok.2.1 hd rfl (hl.pairs) (by have := ok.2.2.2.2.2.2.2.2.1; omega) rfl (fun ls2 h2 => k H locs hP hS ls2 (hasL.st1 (i := 0) (w := .ref x) h2 rfl ?_))
  trivial
theorem V_lload0 (ok : Ok E G own cc n d) {r : List (Option Value)} {x : Int64} (hd : decode cc pc = .ok (.lload_n 0, 1)) (k : V E G I J (pc + 1) (some (.long x) :: r) (.long x :: st)) : V E G I J pc (some (.long x) :: r) st := by
  obtain ⟨p, l, e, R, s, m, args, below, meth, c, Q, A, nL, cl, sl⟩ := E
  exact fun H locs hP hS ls hl => lv_lload_n ok.1 ok.2.1 hd rfl (hl.2.2 0 (.long x) rfl) (k H locs hP hS ls hl)
theorem V_iinc0 (ok : Ok E G own cc n d) {r : List (Option Value)} {x v : Int32} {z : Int} (hn : 0 < n) (hd : decode cc pc = .ok (.iinc 0 z, 3)) (hv : x + Int32.ofInt z = v) (k : V E G I J (pc + 3) (some (.int v) :: r) st) : V E G I J pc (some (.int x) :: r) st := by
  obtain ⟨p, l, e, R, s, m, args, below, meth, c, Q, A, nL, cl, sl⟩ := E
  intro H locs hP hS ls hl
  obtain ⟨kk, hkk⟩ := hl.place (i := 0) (v := .int x) rfl
  refine lv_iinc ok.1 ok.2.1 hd (hl.pairs) hkk hv (by have := ok.2.2.2.2.2.2.2.2.1; omega) rfl (fun ls2 h2 => k H locs hP hS ls2 (hasL.st1 (i := 0) (w := .int v) h2 rfl ?_))
  trivial
theorem V_iload1 (ok : Ok E G own cc n d) {a0 : Option Value} {r : List (Option Value)} {x : Int32} (hd : decode cc pc = .ok (.iload_n 1, 1)) (k : V E G I J (pc + 1) (a0 :: some (.int x) :: r) (.int x :: st)) : V E G I J pc (a0 :: some (.int x) :: r) st := by
  obtain ⟨p, l, e, R, s, m, args, below, meth, c, Q, A, nL, cl, sl⟩ := E
  exact fun H locs hP hS ls hl => lv_iload_n ok.1 ok.2.1 hd rfl (hl.2.2 1 (.int x) rfl) (k H locs hP hS ls hl)
theorem V_istore1 (ok : Ok E G own cc n d) {a0 : Option Value} {r : List (Option Value)} {b : Option Value} {x : Int32} (hn : 1 < n) (hd : decode cc pc = .ok (.istore_n 1, 1)) (hc : nl a0 = true) (k : V E G I J (pc + 1) (a0 :: some (.int x) :: r) st) : V E G I J pc (a0 :: b :: r) (.int x :: st) := by
  obtain ⟨p, l, e, R, s, m, args, below, meth, c, Q, A, nL, cl, sl⟩ := E
  intro H locs hP hS ls hl
  refine lv_istore_n ok.1 ok.2.1 hd rfl (hl.pairs) (by have := ok.2.2.2.2.2.2.2.2.1; omega) rfl (fun ls2 h2 => k H locs hP hS ls2 (hasL.st1 (i := 1) (w := .int x) h2 rfl ?_))
  exact hc
theorem V_aload1 (ok : Ok E G own cc n d) {a0 : Option Value} {r : List (Option Value)} {x : Nat} (hd : decode cc pc = .ok (.aload_n 1, 1)) (k : V E G I J (pc + 1) (a0 :: some (.ref x) :: r) (.ref x :: st)) : V E G I J pc (a0 :: some (.ref x) :: r) st := by
  obtain ⟨p, l, e, R, s, m, args, below, meth, c, Q, A, nL, cl, sl⟩ := E
  exact fun H locs hP hS ls hl => lv_aload_n ok.1 ok.2.1 hd rfl (hl.2.2 1 (.ref x) rfl) (k H locs hP hS ls hl)
theorem V_astore1 (ok : Ok E G own cc n d) {a0 : Option Value} {r : List (Option Value)} {b : Option Value} {x : Nat} (hn : 1 < n) (hd : decode cc pc = .ok (.astore_n 1, 1)) (hc : nl a0 = true) (k : V E G I J (pc + 1) (a0 :: some (.ref x) :: r) st) : V E G I J pc (a0 :: b :: r) (.ref x :: st) := by
  obtain ⟨p, l, e, R, s, m, args, below, meth, c, Q, A, nL, cl, sl⟩ := E
  intro H locs hP hS ls hl
  refine lv_astore_n ok.1 ok.2.1 hd rfl (hl.pairs) (by have := ok.2.2.2.2.2.2.2.2.1; omega) rfl (fun ls2 h2 => k H locs hP hS ls2 (hasL.st1 (i := 1) (w := .ref x) h2 rfl ?_))
  exact hc
theorem V_lload1 (ok : Ok E G own cc n d) {a0 : Option Value} {r : List (Option Value)} {x : Int64} (hd : decode cc pc = .ok (.lload_n 1, 1)) (k : V E G I J (pc + 1) (a0 :: some (.long x) :: r) (.long x :: st)) : V E G I J pc (a0 :: some (.long x) :: r) st := by
  obtain ⟨p, l, e, R, s, m, args, below, meth, c, Q, A, nL, cl, sl⟩ := E
  exact fun H locs hP hS ls hl => lv_lload_n ok.1 ok.2.1 hd rfl (hl.2.2 1 (.long x) rfl) (k H locs hP hS ls hl)
theorem V_iinc1 (ok : Ok E G own cc n d) {a0 : Option Value} {r : List (Option Value)} {x v : Int32} {z : Int} (hn : 1 < n) (hd : decode cc pc = .ok (.iinc 1 z, 3)) (hv : x + Int32.ofInt z = v) (hc : nl a0 = true) (k : V E G I J (pc + 3) (a0 :: some (.int v) :: r) st) : V E G I J pc (a0 :: some (.int x) :: r) st := by
  obtain ⟨p, l, e, R, s, m, args, below, meth, c, Q, A, nL, cl, sl⟩ := E
  intro H locs hP hS ls hl
  obtain ⟨kk, hkk⟩ := hl.place (i := 1) (v := .int x) rfl
  refine lv_iinc ok.1 ok.2.1 hd (hl.pairs) hkk hv (by have := ok.2.2.2.2.2.2.2.2.1; omega) rfl (fun ls2 h2 => k H locs hP hS ls2 (hasL.st1 (i := 1) (w := .int v) h2 rfl ?_))
  exact hc
theorem V_iload2 (ok : Ok E G own cc n d) {a0 a1 : Option Value} {r : List (Option Value)} {x : Int32} (hd : decode cc pc = .ok (.iload_n 2, 1)) (k : V E G I J (pc + 1) (a0 :: a1 :: some (.int x) :: r) (.int x :: st)) : V E G I J pc (a0 :: a1 :: some (.int x) :: r) st := by
  obtain ⟨p, l, e, R, s, m, args, below, meth, c, Q, A, nL, cl, sl⟩ := E
  exact fun H locs hP hS ls hl => lv_iload_n ok.1 ok.2.1 hd rfl (hl.2.2 2 (.int x) rfl) (k H locs hP hS ls hl)
theorem V_istore2 (ok : Ok E G own cc n d) {a0 a1 : Option Value} {r : List (Option Value)} {b : Option Value} {x : Int32} (hn : 2 < n) (hd : decode cc pc = .ok (.istore_n 2, 1)) (hc : nl a1 = true) (k : V E G I J (pc + 1) (a0 :: a1 :: some (.int x) :: r) st) : V E G I J pc (a0 :: a1 :: b :: r) (.int x :: st) := by
  obtain ⟨p, l, e, R, s, m, args, below, meth, c, Q, A, nL, cl, sl⟩ := E
  intro H locs hP hS ls hl
  refine lv_istore_n ok.1 ok.2.1 hd rfl (hl.pairs) (by have := ok.2.2.2.2.2.2.2.2.1; omega) rfl (fun ls2 h2 => k H locs hP hS ls2 (hasL.st1 (i := 2) (w := .int x) h2 rfl ?_))
  exact hc
theorem V_aload2 (ok : Ok E G own cc n d) {a0 a1 : Option Value} {r : List (Option Value)} {x : Nat} (hd : decode cc pc = .ok (.aload_n 2, 1)) (k : V E G I J (pc + 1) (a0 :: a1 :: some (.ref x) :: r) (.ref x :: st)) : V E G I J pc (a0 :: a1 :: some (.ref x) :: r) st := by
  obtain ⟨p, l, e, R, s, m, args, below, meth, c, Q, A, nL, cl, sl⟩ := E
  exact fun H locs hP hS ls hl => lv_aload_n ok.1 ok.2.1 hd rfl (hl.2.2 2 (.ref x) rfl) (k H locs hP hS ls hl)
theorem V_astore2 (ok : Ok E G own cc n d) {a0 a1 : Option Value} {r : List (Option Value)} {b : Option Value} {x : Nat} (hn : 2 < n) (hd : decode cc pc = .ok (.astore_n 2, 1)) (hc : nl a1 = true) (k : V E G I J (pc + 1) (a0 :: a1 :: some (.ref x) :: r) st) : V E G I J pc (a0 :: a1 :: b :: r) (.ref x :: st) := by
  obtain ⟨p, l, e, R, s, m, args, below, meth, c, Q, A, nL, cl, sl⟩ := E
  intro H locs hP hS ls hl
  refine lv_astore_n ok.1 ok.2.1 hd rfl (hl.pairs) (by have := ok.2.2.2.2.2.2.2.2.1; omega) rfl (fun ls2 h2 => k H locs hP hS ls2 (hasL.st1 (i := 2) (w := .ref x) h2 rfl ?_))
  exact hc
theorem V_lload2 (ok : Ok E G own cc n d) {a0 a1 : Option Value} {r : List (Option Value)} {x : Int64} (hd : decode cc pc = .ok (.lload_n 2, 1)) (k : V E G I J (pc + 1) (a0 :: a1 :: some (.long x) :: r) (.long x :: st)) : V E G I J pc (a0 :: a1 :: some (.long x) :: r) st := by
  obtain ⟨p, l, e, R, s, m, args, below, meth, c, Q, A, nL, cl, sl⟩ := E
  exact fun H locs hP hS ls hl => lv_lload_n ok.1 ok.2.1 hd rfl (hl.2.2 2 (.long x) rfl) (k H locs hP hS ls hl)
theorem V_iinc2 (ok : Ok E G own cc n d) {a0 a1 : Option Value} {r : List (Option Value)} {x v : Int32} {z : Int} (hn : 2 < n) (hd : decode cc pc = .ok (.iinc 2 z, 3)) (hv : x + Int32.ofInt z = v) (hc : nl a1 = true) (k : V E G I J (pc + 3) (a0 :: a1 :: some (.int v) :: r) st) : V E G I J pc (a0 :: a1 :: some (.int x) :: r) st := by
  obtain ⟨p, l, e, R, s, m, args, below, meth, c, Q, A, nL, cl, sl⟩ := E
  intro H locs hP hS ls hl
  obtain ⟨kk, hkk⟩ := hl.place (i := 2) (v := .int x) rfl
  refine lv_iinc ok.1 ok.2.1 hd (hl.pairs) hkk hv (by have := ok.2.2.2.2.2.2.2.2.1; omega) rfl (fun ls2 h2 => k H locs hP hS ls2 (hasL.st1 (i := 2) (w := .int v) h2 rfl ?_))
  exact hc
theorem V_iload3 (ok : Ok E G own cc n d) {a0 a1 a2 : Option Value} {r : List (Option Value)} {x : Int32} (hd : decode cc pc = .ok (.iload_n 3, 1)) (k : V E G I J (pc + 1) (a0 :: a1 :: a2 :: some (.int x) :: r) (.int x :: st)) : V E G I J pc (a0 :: a1 :: a2 :: some (.int x) :: r) st := by
  obtain ⟨p, l, e, R, s, m, args, below, meth, c, Q, A, nL, cl, sl⟩ := E
  exact fun H locs hP hS ls hl => lv_iload_n ok.1 ok.2.1 hd rfl (hl.2.2 3 (.int x) rfl) (k H locs hP hS ls hl)
theorem V_istore3 (ok : Ok E G own cc n d) {a0 a1 a2 : Option Value} {r : List (Option Value)} {b : Option Value} {x : Int32} (hn : 3 < n) (hd : decode cc pc = .ok (.istore_n 3, 1)) (hc : nl a2 = true) (k : V E G I J (pc + 1) (a0 :: a1 :: a2 :: some (.int x) :: r) st) : V E G I J pc (a0 :: a1 :: a2 :: b :: r) (.int x :: st) := by
  obtain ⟨p, l, e, R, s, m, args, below, meth, c, Q, A, nL, cl, sl⟩ := E
  intro H locs hP hS ls hl
  refine lv_istore_n ok.1 ok.2.1 hd rfl (hl.pairs) (by have := ok.2.2.2.2.2.2.2.2.1; omega) rfl (fun ls2 h2 => k H locs hP hS ls2 (hasL.st1 (i := 3) (w := .int x) h2 rfl ?_))
  exact hc
theorem V_aload3 (ok : Ok E G own cc n d) {a0 a1 a2 : Option Value} {r : List (Option Value)} {x : Nat} (hd : decode cc pc = .ok (.aload_n 3, 1)) (k : V E G I J (pc + 1) (a0 :: a1 :: a2 :: some (.ref x) :: r) (.ref x :: st)) : V E G I J pc (a0 :: a1 :: a2 :: some (.ref x) :: r) st := by
  obtain ⟨p, l, e, R, s, m, args, below, meth, c, Q, A, nL, cl, sl⟩ := E
  exact fun H locs hP hS ls hl => lv_aload_n ok.1 ok.2.1 hd rfl (hl.2.2 3 (.ref x) rfl) (k H locs hP hS ls hl)
theorem V_astore3 (ok : Ok E G own cc n d) {a0 a1 a2 : Option Value} {r : List (Option Value)} {b : Option Value} {x : Nat} (hn : 3 < n) (hd : decode cc pc = .ok (.astore_n 3, 1)) (hc : nl a2 = true) (k : V E G I J (pc + 1) (a0 :: a1 :: a2 :: some (.ref x) :: r) st) : V E G I J pc (a0 :: a1 :: a2 :: b :: r) (.ref x :: st) := by
  obtain ⟨p, l, e, R, s, m, args, below, meth, c, Q, A, nL, cl, sl⟩ := E
  intro H locs hP hS ls hl
  refine lv_astore_n ok.1 ok.2.1 hd rfl (hl.pairs) (by have := ok.2.2.2.2.2.2.2.2.1; omega) rfl (fun ls2 h2 => k H locs hP hS ls2 (hasL.st1 (i := 3) (w := .ref x) h2 rfl ?_))
  exact hc
theorem V_lload3 (ok : Ok E G own cc n d) {a0 a1 a2 : Option Value} {r : List (Option Value)} {x : Int64} (hd : decode cc pc = .ok (.lload_n 3, 1)) (k : V E G I J (pc + 1) (a0 :: a1 :: a2 :: some (.long x) :: r) (.long x :: st)) : V E G I J pc (a0 :: a1 :: a2 :: some (.long x) :: r) st := by
  obtain ⟨p, l, e, R, s, m, args, below, meth, c, Q, A, nL, cl, sl⟩ := E
  exact fun H locs hP hS ls hl => lv_lload_n ok.1 ok.2.1 hd rfl (hl.2.2 3 (.long x) rfl) (k H locs hP hS ls hl)
theorem V_iinc3 (ok : Ok E G own cc n d) {a0 a1 a2 : Option Value} {r : List (Option Value)} {x v : Int32} {z : Int} (hn : 3 < n) (hd : decode cc pc = .ok (.iinc 3 z, 3)) (hv : x + Int32.ofInt z = v) (hc : nl a2 = true) (k : V E G I J (pc + 3) (a0 :: a1 :: a2 :: some (.int v) :: r) st) : V E G I J pc (a0 :: a1 :: a2 :: some (.int x) :: r) st := by
  obtain ⟨p, l, e, R, s, m, args, below, meth, c, Q, A, nL, cl, sl⟩ := E
  intro H locs hP hS ls hl
  obtain ⟨kk, hkk⟩ := hl.place (i := 3) (v := .int x) rfl
  refine lv_iinc ok.1 ok.2.1 hd (hl.pairs) hkk hv (by have := ok.2.2.2.2.2.2.2.2.1; omega) rfl (fun ls2 h2 => k H locs hP hS ls2 (hasL.st1 (i := 3) (w := .int v) h2 rfl ?_))
  exact hc
theorem V_iload4 (ok : Ok E G own cc n d) {a0 a1 a2 a3 : Option Value} {r : List (Option Value)} {x : Int32} (hd : decode cc pc = .ok (.iload 4, 2)) (k : V E G I J (pc + 2) (a0 :: a1 :: a2 :: a3 :: some (.int x) :: r) (.int x :: st)) : V E G I J pc (a0 :: a1 :: a2 :: a3 :: some (.int x) :: r) st := by
  obtain ⟨p, l, e, R, s, m, args, below, meth, c, Q, A, nL, cl, sl⟩ := E
  exact fun H locs hP hS ls hl => lv_iload ok.1 ok.2.1 hd (hl.2.2 4 (.int x) rfl) (k H locs hP hS ls hl)
theorem V_istore4 (ok : Ok E G own cc n d) {a0 a1 a2 a3 : Option Value} {r : List (Option Value)} {b : Option Value} {x : Int32} (hn : 4 < n) (hd : decode cc pc = .ok (.istore 4, 2)) (hc : nl a3 = true) (k : V E G I J (pc + 2) (a0 :: a1 :: a2 :: a3 :: some (.int x) :: r) st) : V E G I J pc (a0 :: a1 :: a2 :: a3 :: b :: r) (.int x :: st) := by
  obtain ⟨p, l, e, R, s, m, args, below, meth, c, Q, A, nL, cl, sl⟩ := E
  intro H locs hP hS ls hl
  refine lv_istore ok.1 ok.2.1 hd (hl.pairs) (by have := ok.2.2.2.2.2.2.2.2.1; omega) rfl (fun ls2 h2 => k H locs hP hS ls2 (hasL.st1 (i := 4) (w := .int x) h2 rfl ?_))
  exact hc
theorem V_aload4 (ok : Ok E G own cc n d) {a0 a1 a2 a3 : Option Value} {r : List (Option Value)} {x : Nat} (hd : decode cc pc = .ok (.aload 4, 2)) (k : V E G I J (pc + 2) (a0 :: a1 :: a2 :: a3 :: some (.ref x) :: r) (.ref x :: st)) : V E G I J pc (a0 :: a1 :: a2 :: a3 :: some (.ref x) :: r) st := by
  obtain ⟨p, l, e, R, s, m, args, below, meth, c, Q, A, nL, cl, sl⟩ := E
  exact fun H locs hP hS ls hl => lv_aload ok.1 ok.2.1 hd (hl.2.2 4 (.ref x) rfl) (k H locs hP hS ls hl)
theorem V_astore4 (ok : Ok E G own cc n d) {a0 a1 a2 a3 : Option Value} {r : List (Option Value)} {b : Option Value} {x : Nat} (hn : 4 < n) (hd : decode cc pc = .ok (.astore 4, 2)) (hc : nl a3 = true) (k : V E G I J (pc + 2) (a0 :: a1 :: a2 :: a3 :: some (.ref x) :: r) st) : V E G I J pc (a0 :: a1 :: a2 :: a3 :: b :: r) (.ref x :: st) := by
  obtain ⟨p, l, e, R, s, m, args, below, meth, c, Q, A, nL, cl, sl⟩ := E
  intro H locs hP hS ls hl
  refine lv_astore ok.1 ok.2.1 hd (hl.pairs) (by have := ok.2.2.2.2.2.2.2.2.1; omega) rfl (fun ls2 h2 => k H locs hP hS ls2 (hasL.st1 (i := 4) (w := .ref x) h2 rfl ?_))
  exact hc
theorem V_lload4 (ok : Ok E G own cc n d) {a0 a1 a2 a3 : Option Value} {r : List (Option Value)} {x : Int64} (hd : decode cc pc = .ok (.lload 4, 2)) (k : V E G I J (pc + 2) (a0 :: a1 :: a2 :: a3 :: some (.long x) :: r) (.long x :: st)) : V E G I J pc (a0 :: a1 :: a2 :: a3 :: some (.long x) :: r) st := by
  obtain ⟨p, l, e, R, s, m, args, below, meth, c, Q, A, nL, cl, sl⟩ := E
  exact fun H locs hP hS ls hl => lv_lload ok.1 ok.2.1 hd (hl.2.2 4 (.long x) rfl) (k H locs hP hS ls hl)
theorem V_iinc4 (ok : Ok E G own cc n d) {a0 a1 a2 a3 : Option Value} {r : List (Option Value)} {x v : Int32} {z : Int} (hn : 4 < n) (hd : decode cc pc = .ok (.iinc 4 z, 3)) (hv : x + Int32.ofInt z = v) (hc : nl a3 = true) (k : V E G I J (pc + 3) (a0 :: a1 :: a2 :: a3 :: some (.int v) :: r) st) : V E G I J pc (a0 :: a1 :: a2 :: a3 :: some (.int x) :: r) st := by
  obtain ⟨p, l, e, R, s, m, args, below, meth, c, Q, A, nL, cl, sl⟩ := E
  intro H locs hP hS ls hl
  obtain ⟨kk, hkk⟩ := hl.place (i := 4) (v := .int x) rfl
  refine lv_iinc ok.1 ok.2.1 hd (hl.pairs) hkk hv (by have := ok.2.2.2.2.2.2.2.2.1; omega) rfl (fun ls2 h2 => k H locs hP hS ls2 (hasL.st1 (i := 4) (w := .int v) h2 rfl ?_))
  exact hc
theorem V_iload5 (ok : Ok E G own cc n d) {a0 a1 a2 a3 a4 : Option Value} {r : List (Option Value)} {x : Int32} (hd : decode cc pc = .ok (.iload 5, 2)) (k : V E G I J (pc + 2) (a0 :: a1 :: a2 :: a3 :: a4 :: some (.int x) :: r) (.int x :: st)) : V E G I J pc (a0 :: a1 :: a2 :: a3 :: a4 :: some (.int x) :: r) st := by
  obtain ⟨p, l, e, R, s, m, args, below, meth, c, Q, A, nL, cl, sl⟩ := E
  exact fun H locs hP hS ls hl => lv_iload ok.1 ok.2.1 hd (hl.2.2 5 (.int x) rfl) (k H locs hP hS ls hl)
theorem V_istore5 (ok : Ok E G own cc n d) {a0 a1 a2 a3 a4 : Option Value} {r : List (Option Value)} {b : Option Value} {x : Int32} (hn : 5 < n) (hd : decode cc pc = .ok (.istore 5, 2)) (hc : nl a4 = true) (k : V E G I J (pc + 2) (a0 :: a1 :: a2 :: a3 :: a4 :: some (.int x) :: r) st) : V E G I J pc (a0 :: a1 :: a2 :: a3 :: a4 :: b :: r) (.int x :: st) := by
  obtain ⟨p, l, e, R, s, m, args, below, meth, c, Q, A, nL, cl, sl⟩ := E
  intro H locs hP hS ls hl
  refine lv_istore ok.1 ok.2.1 hd (hl.pairs) (by have := ok.2.2.2.2.2.2.2.2.1; omega) rfl (fun ls2 h2 => k H locs hP hS ls2 (hasL.st1 (i := 5) (w := .int x) h2 rfl ?_))
  exact hc
theorem V_aload5 (ok : Ok E G own cc n d) {a0 a1 a2 a3 a4 : Option Value} {r : List (Option Value)} {x : Nat} (hd : decode cc pc = .ok (.aload 5, 2)) (k : V E G I J (pc + 2) (a0 :: a1 :: a2 :: a3 :: a4 :: some (.ref x) :: r) (.ref x :: st)) : V E G I J pc (a0 :: a1 :: a2 :: a3 :: a4 :: some (.ref x) :: r) st := by
  obtain ⟨p, l, e, R, s, m, args, below, meth, c, Q, A, nL, cl, sl⟩ := E
  exact fun H locs hP hS ls hl => lv_aload ok.1 ok.2.1 hd (hl.2.2 5 (.ref x) rfl) (k H locs hP hS ls hl)
theorem V_astore5 (ok : Ok E G own cc n d) {a0 a1 a2 a3 a4 : Option Value} {r : List (Option Value)} {b : Option Value} {x : Nat} (hn : 5 < n) (hd : decode cc pc = .ok (.astore 5, 2)) (hc : nl a4 = true) (k : V E G I J (pc + 2) (a0 :: a1 :: a2 :: a3 :: a4 :: some (.ref x) :: r) st) : V E G I J pc (a0 :: a1 :: a2 :: a3 :: a4 :: b :: r) (.ref x :: st) := by
  obtain ⟨p, l, e, R, s, m, args, below, meth, c, Q, A, nL, cl, sl⟩ := E
  intro H locs hP hS ls hl
  refine lv_astore ok.1 ok.2.1 hd (hl.pairs) (by have := ok.2.2.2.2.2.2.2.2.1; omega) rfl (fun ls2 h2 => k H locs hP hS ls2 (hasL.st1 (i := 5) (w := .ref x) h2 rfl ?_))
  exact hc
theorem V_lload5 (ok : Ok E G own cc n d) {a0 a1 a2 a3 a4 : Option Value} {r : List (Option Value)} {x : Int64} (hd : decode cc pc = .ok (.lload 5, 2)) (k : V E G I J (pc + 2) (a0 :: a1 :: a2 :: a3 :: a4 :: some (.long x) :: r) (.long x :: st)) : V E G I J pc (a0 :: a1 :: a2 :: a3 :: a4 :: some (.long x) :: r) st := by
  obtain ⟨p, l, e, R, s, m, args, below, meth, c, Q, A, nL, cl, sl⟩ := E
  exact fun H locs hP hS ls hl => lv_lload ok.1 ok.2.1 hd (hl.2.2 5 (.long x) rfl) (k H locs hP hS ls hl)
theorem V_iinc5 (ok : Ok E G own cc n d) {a0 a1 a2 a3 a4 : Option Value} {r : List (Option Value)} {x v : Int32} {z : Int} (hn : 5 < n) (hd : decode cc pc = .ok (.iinc 5 z, 3)) (hv : x + Int32.ofInt z = v) (hc : nl a4 = true) (k : V E G I J (pc + 3) (a0 :: a1 :: a2 :: a3 :: a4 :: some (.int v) :: r) st) : V E G I J pc (a0 :: a1 :: a2 :: a3 :: a4 :: some (.int x) :: r) st := by
  obtain ⟨p, l, e, R, s, m, args, below, meth, c, Q, A, nL, cl, sl⟩ := E
  intro H locs hP hS ls hl
  obtain ⟨kk, hkk⟩ := hl.place (i := 5) (v := .int x) rfl
  refine lv_iinc ok.1 ok.2.1 hd (hl.pairs) hkk hv (by have := ok.2.2.2.2.2.2.2.2.1; omega) rfl (fun ls2 h2 => k H locs hP hS ls2 (hasL.st1 (i := 5) (w := .int v) h2 rfl ?_))
  exact hc
theorem V_iload6 (ok : Ok E G own cc n d) {a0 a1 a2 a3 a4 a5 : Option Value} {r : List (Option Value)} {x : Int32} (hd : decode cc pc = .ok (.iload 6, 2)) (k : V E G I J (pc + 2) (a0 :: a1 :: a2 :: a3 :: a4 :: a5 :: some (.int x) :: r) (.int x :: st)) : V E G I J pc (a0 :: a1 :: a2 :: a3 :: a4 :: a5 :: some (.int x) :: r) st := by
  obtain ⟨p, l, e, R, s, m, args, below, meth, c, Q, A, nL, cl, sl⟩ := E
  exact fun H locs hP hS ls hl => lv_iload ok.1 ok.2.1 hd (hl.2.2 6 (.int x) rfl) (k H locs hP hS ls hl)
theorem V_istore6 (ok : Ok E G own cc n d) {a0 a1 a2 a3 a4 a5 : Option Value} {r : List (Option Value)} {b : Option Value} {x : Int32} (hn : 6 < n) (hd : decode cc pc = .ok (.istore 6, 2)) (hc : nl a5 = true) (k : V E G I J (pc + 2) (a0 :: a1 :: a2 :: a3 :: a4 :: a5 :: some (.int x) :: r) st) : V E G I J pc (a0 :: a1 :: a2 :: a3 :: a4 :: a5 :: b :: r) (.int x :: st) := by
  obtain ⟨p, l, e, R, s, m, args, below, meth, c, Q, A, nL, cl, sl⟩ := E
  intro H locs hP hS ls hl
  refine lv_istore ok.1 ok.2.1 hd (hl.pairs) (by have := ok.2.2.2.2.2.2.2.2.1; omega) rfl (fun ls2 h2 => k H locs hP hS ls2 (hasL.st1 (i := 6) (w := .int x) h2 rfl ?_))
  exact hc
theorem V_aload6 (ok : Ok E G own cc n d) {a0 a1 a2 a3 a4 a5 : Option Value} {r : List (Option Value)} {x : Nat} (hd : decode cc pc = .ok (.aload 6, 2)) (k : V E G I J (pc + 2) (a0 :: a1 :: a2 :: a3 :: a4 :: a5 :: some (.ref x) :: r) (.ref x :: st)) : V E G I J pc (a0 :: a1 :: a2 :: a3 :: a4 :: a5 :: some (.ref x) :: r) st := by
  obtain ⟨p, l, e, R, s, m, args, below, meth, c, Q, A, nL, cl, sl⟩ := E
  exact fun H locs hP hS ls hl => lv_aload ok.1 ok.2.1 hd (hl.2.2 6 (.ref x) rfl) (k H locs hP hS ls hl)
theorem V_astore6 (ok : Ok E G own cc n d) {a0 a1 a2 a3 a4 a5 : Option Value} {r : List (Option Value)} {b : Option Value} {x : Nat} (hn : 6 < n) (hd : decode cc pc = .ok (.astore 6, 2)) (hc : nl a5 = true) (k : V E G I J (pc + 2) (a0 :: a1 :: a2 :: a3 :: a4 :: a5 :: some (.ref x) :: r) st) : V E G I J pc (a0 :: a1 :: a2 :: a3 :: a4 :: a5 :: b :: r) (.ref x :: st) := by
  obtain ⟨p, l, e, R, s, m, args, below, meth, c, Q, A, nL, cl, sl⟩ := E
  intro H locs hP hS ls hl
  refine lv_astore ok.1 ok.2.1 hd (hl.pairs) (by have := ok.2.2.2.2.2.2.2.2.1; omega) rfl (fun ls2 h2 => k H locs hP hS ls2 (hasL.st1 (i := 6) (w := .ref x) h2 rfl ?_))
  exact hc
theorem V_lload6 (ok : Ok E G own cc n d) {a0 a1 a2 a3 a4 a5 : Option Value} {r : List (Option Value)} {x : Int64} (hd : decode cc pc = .ok (.lload 6, 2)) (k : V E G I J (pc + 2) (a0 :: a1 :: a2 :: a3 :: a4 :: a5 :: some (.long x) :: r) (.long x :: st)) : V E G I J pc (a0 :: a1 :: a2 :: a3 :: a4 :: a5 :: some (.long x) :: r) st := by
  obtain ⟨p, l, e, R, s, m, args, below, meth, c, Q, A, nL, cl, sl⟩ := E
  exact fun H locs hP hS ls hl => lv_lload ok.1 ok.2.1 hd (hl.2.2 6 (.long x) rfl) (k H locs hP hS ls hl)
theorem V_iinc6 (ok : Ok E G own cc n d) {a0 a1 a2 a3 a4 a5 : Option Value} {r : List (Option Value)} {x v : Int32} {z : Int} (hn : 6 < n) (hd : decode cc pc = .ok (.iinc 6 z, 3)) (hv : x + Int32.ofInt z = v) (hc : nl a5 = true) (k : V E G I J (pc + 3) (a0 :: a1 :: a2 :: a3 :: a4 :: a5 :: some (.int v) :: r) st) : V E G I J pc (a0 :: a1 :: a2 :: a3 :: a4 :: a5 :: some (.int x) :: r) st := by
  obtain ⟨p, l, e, R, s, m, args, below, meth, c, Q, A, nL, cl, sl⟩ := E
  intro H locs hP hS ls hl
  obtain ⟨kk, hkk⟩ := hl.place (i := 6) (v := .int x) rfl
  refine lv_iinc ok.1 ok.2.1 hd (hl.pairs) hkk hv (by have := ok.2.2.2.2.2.2.2.2.1; omega) rfl (fun ls2 h2 => k H locs hP hS ls2 (hasL.st1 (i := 6) (w := .int v) h2 rfl ?_))
  exact hc
theorem V_iload7 (ok : Ok E G own cc n d) {a0 a1 a2 a3 a4 a5 a6 : Option Value} {r : List (Option Value)} {x : Int32} (hd : decode cc pc = .ok (.iload 7, 2)) (k : V E G I J (pc + 2) (a0 :: a1 :: a2 :: a3 :: a4 :: a5 :: a6 :: some (.int x) :: r) (.int x :: st)) : V E G I J pc (a0 :: a1 :: a2 :: a3 :: a4 :: a5 :: a6 :: some (.int x) :: r) st := by
  obtain ⟨p, l, e, R, s, m, args, below, meth, c, Q, A, nL, cl, sl⟩ := E
  exact fun H locs hP hS ls hl => lv_iload ok.1 ok.2.1 hd (hl.2.2 7 (.int x) rfl) (k H locs hP hS ls hl)
theorem V_istore7 (ok : Ok E G own cc n d) {a0 a1 a2 a3 a4 a5 a6 : Option Value} {r : List (Option Value)} {b : Option Value} {x : Int32} (hn : 7 < n) (hd : decode cc pc = .ok (.istore 7, 2)) (hc : nl a6 = true) (k : V E G I J (pc + 2) (a0 :: a1 :: a2 :: a3 :: a4 :: a5 :: a6 :: some (.int x) :: r) st) : V E G I J pc (a0 :: a1 :: a2 :: a3 :: a4 :: a5 :: a6 :: b :: r) (.int x :: st) := by
  obtain ⟨p, l, e, R, s, m, args, below, meth, c, Q, A, nL, cl, sl⟩ := E
  intro H locs hP hS ls hl
  refine lv_istore ok.1 ok.2.1 hd (hl.pairs) (by have := ok.2.2.2.2.2.2.2.2.1; omega) rfl (fun ls2 h2 => k H locs hP hS ls2 (hasL.st1 (i := 7) (w := .int x) h2 rfl ?_))
  exact hc
theorem V_aload7 (ok : Ok E G own cc n d) {a0 a1 a2 a3 a4 a5 a6 : Option Value} {r : List (Option Value)} {x : Nat} (hd : decode cc pc = .ok (.aload 7, 2)) (k : V E G I J (pc + 2) (a0 :: a1 :: a2 :: a3 :: a4 :: a5 :: a6 :: some (.ref x) :: r) (.ref x :: st)) : V E G I J pc (a0 :: a1 :: a2 :: a3 :: a4 :: a5 :: a6 :: some (.ref x) :: r) st := by
  obtain ⟨p, l, e, R, s, m, args, below, meth, c, Q, A, nL, cl, sl⟩ := E
  exact fun H locs hP hS ls hl => lv_aload ok.1 ok.2.1 hd (hl.2.2 7 (.ref x) rfl) (k H locs hP hS ls hl)
theorem V_astore7 (ok : Ok E G own cc n d) {a0 a1 a2 a3 a4 a5 a6 : Option Value} {r : List (Option Value)} {b : Option Value} {x : Nat} (hn : 7 < n) (hd : decode cc pc = .ok (.astore 7, 2)) (hc : nl a6 = true) (k : V E G I J (pc + 2) (a0 :: a1 :: a2 :: a3 :: a4 :: a5 :: a6 :: some (.ref x) :: r) st) : V E G I J pc (a0 :: a1 :: a2 :: a3 :: a4 :: a5 :: a6 :: b :: r) (.ref x :: st) := by
  obtain ⟨p, l, e, R, s, m, args, below, meth, c, Q, A, nL, cl, sl⟩ := E
  intro H locs hP hS ls hl
  refine lv_astore ok.1 ok.2.1 hd (hl.pairs) (by have := ok.2.2.2.2.2.2.2.2.1; omega) rfl (fun ls2 h2 => k H locs hP hS ls2 (hasL.st1 (i := 7) (w := .ref x) h2 rfl ?_))
  exact hc
theorem V_lload7 (ok : Ok E G own cc n d) {a0 a1 a2 a3 a4 a5 a6 : Option Value} {r : List (Option Value)} {x : Int64} (hd : decode cc pc = .ok (.lload 7, 2)) (k : V E G I J (pc + 2) (a0 :: a1 :: a2 :: a3 :: a4 :: a5 :: a6 :: some (.long x) :: r) (.long x :: st)) : V E G I J pc (a0 :: a1 :: a2 :: a3 :: a4 :: a5 :: a6 :: some (.long x) :: r) st := by
  obtain ⟨p, l, e, R, s, m, args, below, meth, c, Q, A, nL, cl, sl⟩ := E
  exact fun H locs hP hS ls hl => lv_lload ok.1 ok.2.1 hd (hl.2.2 7 (.long x) rfl) (k H locs hP hS ls hl)
theorem V_iinc7 (ok : Ok E G own cc n d) {a0 a1 a2 a3 a4 a5 a6 : Option Value} {r : List (Option Value)} {x v : Int32} {z : Int} (hn : 7 < n) (hd : decode cc pc = .ok (.iinc 7 z, 3)) (hv : x + Int32.ofInt z = v) (hc : nl a6 = true) (k : V E G I J (pc + 3) (a0 :: a1 :: a2 :: a3 :: a4 :: a5 :: a6 :: some (.int v) :: r) st) : V E G I J pc (a0 :: a1 :: a2 :: a3 :: a4 :: a5 :: a6 :: some (.int x) :: r) st := by
  obtain ⟨p, l, e, R, s, m, args, below, meth, c, Q, A, nL, cl, sl⟩ := E
  intro H locs hP hS ls hl
  obtain ⟨kk, hkk⟩ := hl.place (i := 7) (v := .int x) rfl
  refine lv_iinc ok.1 ok.2.1 hd (hl.pairs) hkk hv (by have := ok.2.2.2.2.2.2.2.2.1; omega) rfl (fun ls2 h2 => k H locs hP hS ls2 (hasL.st1 (i := 7) (w := .int v) h2 rfl ?_))
  exact hc
theorem V_iload8 (ok : Ok E G own cc n d) {a0 a1 a2 a3 a4 a5 a6 a7 : Option Value} {r : List (Option Value)} {x : Int32} (hd : decode cc pc = .ok (.iload 8, 2)) (k : V E G I J (pc + 2) (a0 :: a1 :: a2 :: a3 :: a4 :: a5 :: a6 :: a7 :: some (.int x) :: r) (.int x :: st)) : V E G I J pc (a0 :: a1 :: a2 :: a3 :: a4 :: a5 :: a6 :: a7 :: some (.int x) :: r) st := by
  obtain ⟨p, l, e, R, s, m, args, below, meth, c, Q, A, nL, cl, sl⟩ := E
  exact fun H locs hP hS ls hl => lv_iload ok.1 ok.2.1 hd (hl.2.2 8 (.int x) rfl) (k H locs hP hS ls hl)
theorem V_istore8 (ok : Ok E G own cc n d) {a0 a1 a2 a3 a4 a5 a6 a7 : Option Value} {r : List (Option Value)} {b : Option Value} {x : Int32} (hn : 8 < n) (hd : decode cc pc = .ok (.istore 8, 2)) (hc : nl a7 = true) (k : V E G I J (pc + 2) (a0 :: a1 :: a2 :: a3 :: a4 :: a5 :: a6 :: a7 :: some (.int x) :: r) st) : V E G I J pc (a0 :: a1 :: a2 :: a3 :: a4 :: a5 :: a6 :: a7 :: b :: r) (.int x :: st) := by
  obtain ⟨p, l, e, R, s, m, args, below, meth, c, Q, A, nL, cl, sl⟩ := E
  intro H locs hP hS ls hl
  refine lv_istore ok.1 ok.2.1 hd (hl.pairs) (by have := ok.2.2.2.2.2.2.2.2.1; omega) rfl (fun ls2 h2 => k H locs hP hS ls2 (hasL.st1 (i := 8) (w := .int x) h2 rfl ?_))
  exact hc
theorem V_aload8 (ok : Ok E G own cc n d) {a0 a1 a2 a3 a4 a5 a6 a7 : Option Value} {r : List (Option Value)} {x : Nat} (hd : decode cc pc = .ok (.aload 8, 2)) (k : V E G I J (pc + 2) (a0 :: a1 :: a2 :: a3 :: a4 :: a5 :: a6 :: a7 :: some (.ref x) :: r) (.ref x :: st)) : V E G I J pc (a0 :: a1 :: a2 :: a3 :: a4 :: a5 :: a6 :: a7 :: some (.ref x) :: r) st := by
  obtain ⟨p, l, e, R, s, m, args, below, meth, c, Q, A, nL, cl, sl⟩ := E
  exact fun H locs hP hS ls hl => lv_aload ok.1 ok.2.1 hd (hl.2.2 8 (.ref x) rfl) (k H locs hP hS ls hl)
theorem V_astore8 (ok : Ok E G own cc n d) {a0 a1 a2 a3 a4 a5 a6 a7 : Option Value} {r : List (Option Value)} {b : Option Value} {x : Nat} (hn : 8 < n) (hd : decode cc pc = .ok (.astore 8, 2)) (hc : nl a7 = true) (k : V E G I J (pc + 2) (a0 :: a1 :: a2 :: a3 :: a4 :: a5 :: a6 :: a7 :: some (.ref x) :: r) st) : V E G I J pc (a0 :: a1 :: a2 :: a3 :: a4 :: a5 :: a6 :: a7 :: b :: r) (.ref x :: st) := by
  obtain ⟨p, l, e, R, s, m, args, below, meth, c, Q, A, nL, cl, sl⟩ := E
  intro H locs hP hS ls hl
  refine lv_astore ok.1 ok.2.1 hd (hl.pairs) (by have := ok.2.2.2.2.2.2.2.2.1; omega) rfl (fun ls2 h2 => k H locs hP hS ls2 (hasL.st1 (i := 8) (w := .ref x) h2 rfl ?_))
  exact hc
theorem V_lload8 (ok : Ok E G own cc n d) {a0 a1 a2 a3 a4 a5 a6 a7 : Option Value} {r : List (Option Value)} {x : Int64} (hd : decode cc pc = .ok (.lload 8, 2)) (k : V E G I J (pc + 2) (a0 :: a1 :: a2 :: a3 :: a4 :: a5 :: a6 :: a7 :: some (.long x) :: r) (.long x :: st)) : V E G I J pc (a0 :: a1 :: a2 :: a3 :: a4 :: a5 :: a6 :: a7 :: some (.long x) :: r) st := by
  obtain ⟨p, l, e, R, s, m, args, below, meth, c, Q, A, nL, cl, sl⟩ := E
  exact fun H locs hP hS ls hl => lv_lload ok.1 ok.2.1 hd (hl.2.2 8 (.long x) rfl) (k H locs hP hS ls hl)
theorem V_iinc8 (ok : Ok E G own cc n d) {a0 a1 a2 a3 a4 a5 a6 a7 : Option Value} {r : List (Option Value)} {x v : Int32} {z : Int} (hn : 8 < n) (hd : decode cc pc = .ok (.iinc 8 z, 3)) (hv : x + Int32.ofInt z = v) (hc : nl a7 = true) (k : V E G I J (pc + 3) (a0 :: a1 :: a2 :: a3 :: a4 :: a5 :: a6 :: a7 :: some (.int v) :: r) st) : V E G I J pc (a0 :: a1 :: a2 :: a3 :: a4 :: a5 :: a6 :: a7 :: some (.int x) :: r) st := by
  obtain ⟨p, l, e, R, s, m, args, below, meth, c, Q, A, nL, cl, sl⟩ := E
  intro H locs hP hS ls hl
  obtain ⟨kk, hkk⟩ := hl.place (i := 8) (v := .int x) rfl
  refine lv_iinc ok.1 ok.2.1 hd (hl.pairs) hkk hv (by have := ok.2.2.2.2.2.2.2.2.1; omega) rfl (fun ls2 h2 => k H locs hP hS ls2 (hasL.st1 (i := 8) (w := .int v) h2 rfl ?_))
  exact hc
theorem V_iload9 (ok : Ok E G own cc n d) {a0 a1 a2 a3 a4 a5 a6 a7 a8 : Option Value} {r : List (Option Value)} {x : Int32} (hd : decode cc pc = .ok (.iload 9, 2)) (k : V E G I J (pc + 2) (a0 :: a1 :: a2 :: a3 :: a4 :: a5 :: a6 :: a7 :: a8 :: some (.int x) :: r) (.int x :: st)) : V E G I J pc (a0 :: a1 :: a2 :: a3 :: a4 :: a5 :: a6 :: a7 :: a8 :: some (.int x) :: r) st := by
  obtain ⟨p, l, e, R, s, m, args, below, meth, c, Q, A, nL, cl, sl⟩ := E
  exact fun H locs hP hS ls hl => lv_iload ok.1 ok.2.1 hd (hl.2.2 9 (.int x) rfl) (k H locs hP hS ls hl)
theorem V_istore9 (ok : Ok E G own cc n d) {a0 a1 a2 a3 a4 a5 a6 a7 a8 : Option Value} {r : List (Option Value)} {b : Option Value} {x : Int32} (hn : 9 < n) (hd : decode cc pc = .ok (.istore 9, 2)) (hc : nl a8 = true) (k : V E G I J (pc + 2) (a0 :: a1 :: a2 :: a3 :: a4 :: a5 :: a6 :: a7 :: a8 :: some (.int x) :: r) st) : V E G I J pc (a0 :: a1 :: a2 :: a3 :: a4 :: a5 :: a6 :: a7 :: a8 :: b :: r) (.int x :: st) := by
  obtain ⟨p, l, e, R, s, m, args, below, meth, c, Q, A, nL, cl, sl⟩ := E
  intro H locs hP hS ls hl
  refine lv_istore ok.1 ok.2.1 hd (hl.pairs) (by have := ok.2.2.2.2.2.2.2.2.1; omega) rfl (fun ls2 h2 => k H locs hP hS ls2 (hasL.st1 (i := 9) (w := .int x) h2 rfl ?_))
  exact hc
theorem V_aload9 (ok : Ok E G own cc n d) {a0 a1 a2 a3 a4 a5 a6 a7 a8 : Option Value} {r : List (Option Value)} {x : Nat} (hd : decode cc pc = .ok (.aload 9, 2)) (k : V E G I J (pc + 2) (a0 :: a1 :: a2 :: a3 :: a4 :: a5 :: a6 :: a7 :: a8 :: some (.ref x) :: r) (.ref x :: st)) : V E G I J pc (a0 :: a1 :: a2 :: a3 :: a4 :: a5 :: a6 :: a7 :: a8 :: some (.ref x) :: r) st := by
  obtain ⟨p, l, e, R, s, m, args, below, meth, c, Q, A, nL, cl, sl⟩ := E
  exact fun H locs hP hS ls hl => lv_aload ok.1 ok.2.1 hd (hl.2.2 9 (.ref x) rfl) (k H locs hP hS ls hl)
theorem V_astore9 (ok : Ok E G own cc n d) {a0 a1 a2 a3 a4 a5 a6 a7 a8 : Option Value} {r : List (Option Value)} {b : Option Value} {x : Nat} (hn : 9 < n) (hd : decode cc pc = .ok (.astore 9, 2)) (hc : nl a8 = true) (k : V E G I J (pc + 2) (a0 :: a1 :: a2 :: a3 :: a4 :: a5 :: a6 :: a7 :: a8 :: some (.ref x) :: r) st) : V E G I J pc (a0 :: a1 :: a2 :: a3 :: a4 :: a5 :: a6 :: a7 :: a8 :: b :: r) (.ref x :: st) := by
  obtain ⟨p, l, e, R, s, m, args, below, meth, c, Q, A, nL, cl, sl⟩ := E
  intro H locs hP hS ls hl
  refine lv_astore ok.1 ok.2.1 hd (hl.pairs) (by have := ok.2.2.2.2.2.2.2.2.1; omega) rfl (fun ls2 h2 => k H locs hP hS ls2 (hasL.st1 (i := 9) (w := .ref x) h2 rfl ?_))
  exact hc
theorem V_lload9 (ok : Ok E G own cc n d) {a0 a1 a2 a3 a4 a5 a6 a7 a8 : Option Value} {r : List (Option Value)} {x : Int64} (hd : decode cc pc = .ok (.lload 9, 2)) (k : V E G I J (pc + 2) (a0 :: a1 :: a2 :: a3 :: a4 :: a5 :: a6 :: a7 :: a8 :: some (.long x) :: r) (.long x :: st)) : V E G I J pc (a0 :: a1 :: a2 :: a3 :: a4 :: a5 :: a6 :: a7 :: a8 :: some (.long x) :: r) st := by
  obtain ⟨p, l, e, R, s, m, args, below, meth, c, Q, A, nL, cl, sl⟩ := E
  exact fun H locs hP hS ls hl => lv_lload ok.1 ok.2.1 hd (hl.2.2 9 (.long x) rfl) (k H locs hP hS ls hl)
theorem V_iinc9 (ok : Ok E G own cc n d) {a0 a1 a2 a3 a4 a5 a6 a7 a8 : Option Value} {r : List (Option Value)} {x v : Int32} {z : Int} (hn : 9 < n) (hd : decode cc pc = .ok (.iinc 9 z, 3)) (hv : x + Int32.ofInt z = v) (hc : nl a8 = true) (k : V E G I J (pc + 3) (a0 :: a1 :: a2 :: a3 :: a4 :: a5 :: a6 :: a7 :: a8 :: some (.int v) :: r) st) : V E G I J pc (a0 :: a1 :: a2 :: a3 :: a4 :: a5 :: a6 :: a7 :: a8 :: some (.int x) :: r) st := by
  obtain ⟨p, l, e, R, s, m, args, below, meth, c, Q, A, nL, cl, sl⟩ := E
  intro H locs hP hS ls hl
  obtain ⟨kk, hkk⟩ := hl.place (i := 9) (v := .int x) rfl
  refine lv_iinc ok.1 ok.2.1 hd (hl.pairs) hkk hv (by have := ok.2.2.2.2.2.2.2.2.1; omega) rfl (fun ls2 h2 => k H locs hP hS ls2 (hasL.st1 (i := 9) (w := .int v) h2 rfl ?_))
  exact hc
/-- an int field, a field that holds a reference -/
theorem V_getI (ok : Ok E G own cc n d) {x k ci j : Nat} {ref C : String} {T : u_T} {N : Nat} (hd : decode cc pc = .ok (.getfield x, 3)) (hk : kd k = ci) (hcl : vwCl[ci]? = some (C, T, N)) (hin : ∀ w ∈ u_ws C T N, w ∈ mS) (hj : (ft ci)[j]? = some true) (hl : Cond.fieldLink own x ref (T j).2.1 (T j).2.2.1 ∈ mS) (hs : (T j).1 = ref) (hN : j < N) (hk2 : k < 147) (hci : ci < 13) (kk : V E G I J (pc + 3) lo (.int (I k j) :: st)) : V E G I J pc lo (.ref (G.2.2 k) :: st) := by
  obtain ⟨p, l, e, R, s, m, args, below, meth, c, Q, A, nL, cl, sl⟩ := E
  exact fun H locs hP hS ls hls => va_get ok.1 ok.2.1 ok.2.2.2.2.1 hin ok.2.2.2.1 ok.2.2.2.2.2.1.1 hP k ((wl_get G I J hk2).trans (by rw [cel_o hk hci])) hcl j hN (ok.2.2.2.2.1 _ hl) (fun _ h => hs ▸ h) (fv_int hk hj) hd (kk H locs hP hS ls hls)
theorem V_getR (ok : Ok E G own cc n d) {x k ci j t : Nat} {ref C : String} {T : u_T} {N : Nat} (hd : decode cc pc = .ok (.getfield x, 3)) (hk : kd k = ci) (hcl : vwCl[ci]? = some (C, T, N)) (hin : ∀ w ∈ u_ws C T N, w ∈ mS) (hj : (ft ci)[j]? = some false) (hl : Cond.fieldLink own x ref (T j).2.1 (T j).2.2.1 ∈ mS) (hs : (T j).1 = ref) (hN : j < N) (hk2 : k < 147) (hci : ci < 13) (ht : rf k j = t) (kk : V E G I J (pc + 3) lo (.ref (G.2.2 t) :: st)) : V E G I J pc lo (.ref (G.2.2 k) :: st) := by
  obtain ⟨p, l, e, R, s, m, args, below, meth, c, Q, A, nL, cl, sl⟩ := E
  exact fun H locs hP hS ls hls => va_get ok.1 ok.2.1 ok.2.2.2.2.1 hin ok.2.2.2.1 ok.2.2.2.2.2.1.1 hP k ((wl_get G I J hk2).trans (by rw [cel_o hk hci])) hcl j hN (ok.2.2.2.2.1 _ hl) (fun _ h => hs ▸ h) (fv_ref hk hj ht) hd (kk H locs hP hS ls hls)
theorem V_putI (ok : Ok E G own cc n d) {x k ci j : Nat} {v : Int32} {ref C : String} {T : u_T} {N : Nat} {ty0 : Nat → FieldType} {ty : FieldType} (hd : decode cc pc = .ok (.putfield x, 3)) (hk : kd k = ci) (hcl : vwCl[ci]? = some (C, T, N)) (hin : ∀ w ∈ u_ws C T N, w ∈ mS) (hty : ∀ k, k < N → parseFieldDescriptor (T k).2.2.1 = some (ty0 k)) (hnm : ∀ a, a < N → ∀ b, b < N → a ≠ b → (T a).2.1 ≠ (T b).2.1) (hj : (ft ci)[j]? = some true) (hl : Cond.fieldLink own x ref (T j).2.1 (T j).2.2.1 ∈ mS) (hs : (T j).1 = ref) (hN : j < N) (hk2 : k < 147) (hci : ci < 13) (hfin : (T j).2.2.2 = false) (hp : ty0 j = ty) (hnar : narrow ty (.int v) = .int v) (hfit : fits ty (.int v) = true) (kk : V E G (sr I k (up (I k) j v)) J (pc + 3) lo st) : V E G I J pc lo (.int v :: .ref (G.2.2 k) :: st) := by
  obtain ⟨p, l, e, R, s, m, args, below, meth, c, Q, A, nL, cl, sl⟩ := E
  intro H locs hP hS ls hls
  have hD : va_D A (wl G I J) := wl_D ok.2.2.2.2.2.2.1 ok.2.2.2.2.2.2.2.1
  have he : (wl G I J)[k]? = some (G.2.2 k, .inr (ci, fv G I k)) := (wl_get G I J hk2).trans (by rw [cel_o hk hci])
  refine va_put (v := .int v) (ty := ty) ok.1 ok.2.1 ok.2.2.2.2.1 hin ty0 hty hnm ok.2.2.2.1 ok.2.2.2.2.2.1.1 hP hD hS k he hcl j hN (ok.2.2.2.2.1 _ hl) (fun _ h => hs ▸ h) hfin ((hty j hN).trans (by rw [hp])) hnar hfit ((List.getElem?_eq_some_iff.mp (fv_int (G := G) (I := I) hk hj)).1) hd (fun H1 locs1 hP1 _ hS1 => kk H1 locs1 ?_ hS1 ls hls)
  rw [fv_set hk hj, ← cel_o (J := J) hk hci, wl_set hk2] at hP1
  exact hP1
/-- arrays -/
theorem V_iald (ok : Ok E G own cc n d) {x : Int32} {k i : Nat} (hd : decode cc pc = .ok (.iaload, 1)) (hk : kd k = 13) (hk2 : k < 147) (hx : x = nI i) (hi : i < ln k) (hL : ln k < 5000) (kk : V E G I J (pc + 1) lo (.int (I k i) :: st)) : V E G I J pc lo (.int x :: .ref (G.2.2 k) :: st) := by
  obtain ⟨p, l, e, R, s, m, args, below, meth, c, Q, A, nL, cl, sl⟩ := E
  intro H locs hP hS ls hls
  subst hx
  refine va_iald ok.1 ok.2.1 ok.2.2.2.2.2.1.1 hP k 0 ((wl_get G I J hk2).trans (by rw [cel_i hk])) rfl (vp_in_nI hi (by omega)) hd ?_
  rw [nI_clamp (by omega)]
  exact kk H locs hP hS ls hls
theorem V_zald (ok : Ok E G own cc n d) {x : Int32} {k i : Nat} (hd : decode cc pc = .ok (.baload, 1)) (hk : kd k = 15) (hk2 : k < 147) (hx : x = nI i) (hi : i < ln k) (hL : ln k < 5000) (kk : V E G I J (pc + 1) lo (.int (I k i) :: st)) : V E G I J pc lo (.int x :: .ref (G.2.2 k) :: st) := by
  obtain ⟨p, l, e, R, s, m, args, below, meth, c, Q, A, nL, cl, sl⟩ := E
  intro H locs hP hS ls hls
  subst hx
  refine va_zald ok.1 ok.2.1 ok.2.2.2.2.2.1.1 hP k 2 ((wl_get G I J hk2).trans (by rw [cel_z hk])) rfl (vp_in_nI hi (by omega)) hd ?_
  rw [nI_clamp (by omega)]
  exact kk H locs hP hS ls hls
theorem V_lald (ok : Ok E G own cc n d) {x : Int32} {k i : Nat} (hd : decode cc pc = .ok (.laload, 1)) (hk : kd k = 14) (hk2 : k < 147) (hx : x = nI i) (hi : i < ln k) (hL : ln k < 5000) (kk : V E G I J (pc + 1) lo (.long (J k i) :: st)) : V E G I J pc lo (.int x :: .ref (G.2.2 k) :: st) := by
  obtain ⟨p, l, e, R, s, m, args, below, meth, c, Q, A, nL, cl, sl⟩ := E
  intro H locs hP hS ls hls
  subst hx
  refine va_lald ok.1 ok.2.1 ok.2.2.2.2.2.1.1 hP k 1 ((wl_get G I J hk2).trans (by rw [cel_l hk])) rfl (vp_in_nI hi (by omega)) hd ?_
  rw [nI_clamp (by omega)]
  exact kk H locs hP hS ls hls
theorem V_aald (ok : Ok E G own cc n d) {x : Int32} {k i t r : Nat} {C : String} (hd : decode cc pc = .ok (.aaload, 1)) (hk : kd k = 13 + t) (ht : 3 ≤ t) (hC : (tysG G)[t]? = some (G.2.1 t, .object C)) (hk2 : k < 147) (hx : x = nI i) (hi : i < ln k) (hL : ln k < 5000) (hr : rf k i = r) (kk : V E G I J (pc + 1) lo (.ref (G.2.2 r) :: st)) : V E G I J pc lo (.int x :: .ref (G.2.2 k) :: st) := by
  obtain ⟨p, l, e, R, s, m, args, below, meth, c, Q, A, nL, cl, sl⟩ := E
  intro H locs hP hS ls hls
  subst hx
  refine va_aldq ok.1 ok.2.1 ok.2.2.2.2.2.1.1 hP k t ((wl_get G I J hk2).trans (by rw [cel_q hk ht])) hC (vp_in_nI hi (by omega)) hd ?_
  rw [nI_clamp (by omega), hr]
  exact kk H locs hP hS ls hls
theorem V_alen (ok : Ok E G own cc n d) {k t : Nat} {ty : FieldType} {v : Int32} (hd : decode cc pc = .ok (.arraylength, 1)) (hk : kd k = 13 + t) (ht : (tysG G)[t]? = some (G.2.1 t, ty)) (hk2 : k < 147) (hv : Int32.ofNat (ln k) = v) (kk : V E G I J (pc + 1) lo (.int v :: st)) : V E G I J pc lo (.ref (G.2.2 k) :: st) := by
  obtain ⟨p, l, e, R, s, m, args, below, meth, c, Q, A, nL, cl, sl⟩ := E
  intro H locs hP hS ls hls
  have hc : ∃ y : vp_A, cel G I J k = .inl (G.2.1 t, y) ∧ y.1 = ln k := by
    unfold cel
    rw [if_neg (by omega)]
    split
    · rw [show t = 1 by omega]; exact ⟨_, rfl, rfl⟩
    · rw [show kd k - 13 = t by omega]
      split
      · exact ⟨_, rfl, rfl⟩
      · exact ⟨_, rfl, rfl⟩
  obtain ⟨y, h1, h2⟩ := hc
  exact va_alen ok.1 ok.2.1 ok.2.2.2.2.2.1.1 hP k t ((wl_get G I J hk2).trans (by rw [h1])) ht (by rw [h2]; exact hv) hd (kk H locs hP hS ls hls)
theorem V_iast (ok : Ok E G own cc n d) {x v : Int32} {k i : Nat} (hd : decode cc pc = .ok (.iastore, 1)) (hk : kd k = 13) (hk2 : k < 147) (hx : x = nI i) (hi : i < ln k) (hL : ln k < 5000) (kk : V E G (sr I k (up (I k) i v)) J (pc + 1) lo st) : V E G I J pc lo (.int v :: .int x :: .ref (G.2.2 k) :: st) := by
  obtain ⟨p, l, e, R, s, m, args, below, meth, c, Q, A, nL, cl, sl⟩ := E
  intro H locs hP hS ls hls
  subst hx
  have hD : va_D A (wl G I J) := wl_D ok.2.2.2.2.2.2.1 ok.2.2.2.2.2.2.2.1
  refine va_iast ok.1 ok.2.1 ok.2.2.2.2.2.1.1 hP hD hS k 0 ((wl_get G I J hk2).trans (by rw [cel_i hk])) rfl (vp_in_nI hi (by omega)) hd (fun H1 locs1 hP1 _ hS1 => kk H1 locs1 ?_ hS1 ls hls)
  rw [nI_clamp (by omega)] at hP1
  have h : (Sum.inl (G.2.1 0, ln k, Sum.inl (upd (I k) i v)) : va_E) = cel G (sr I k (up (I k) i v)) J k := by rw [cel_i hk, sr_eq]; rfl
  rw [h, wl_set hk2] at hP1
  exact hP1
theorem V_zast (ok : Ok E G own cc n d) {x v : Int32} {k i : Nat} (hd : decode cc pc = .ok (.bastore, 1)) (hk : kd k = 15) (hk2 : k < 147) (hx : x = nI i) (hi : i < ln k) (hL : ln k < 5000) (hv : vp_nar .boolean v = v) (kk : V E G (sr I k (up (I k) i v)) J (pc + 1) lo st) : V E G I J pc lo (.int v :: .int x :: .ref (G.2.2 k) :: st) := by
  obtain ⟨p, l, e, R, s, m, args, below, meth, c, Q, A, nL, cl, sl⟩ := E
  intro H locs hP hS ls hls
  subst hx
  have hD : va_D A (wl G I J) := wl_D ok.2.2.2.2.2.2.1 ok.2.2.2.2.2.2.2.1
  refine va_zast ok.1 ok.2.1 ok.2.2.2.2.2.1.1 hP hD hS k 2 ((wl_get G I J hk2).trans (by rw [cel_z hk])) rfl (vp_in_nI hi (by omega)) hd (fun H1 locs1 hP1 _ hS1 => kk H1 locs1 ?_ hS1 ls hls)
  rw [nI_clamp (by omega), hv] at hP1
  have h : (Sum.inl (G.2.1 2, ln k, Sum.inl (upd (I k) i v)) : va_E) = cel G (sr I k (up (I k) i v)) J k := by rw [cel_z hk, sr_eq]; rfl
  rw [h, wl_set hk2] at hP1
  exact hP1
theorem V_last (ok : Ok E G own cc n d) {x : Int32} {v : Int64} {k i : Nat} (hd : decode cc pc = .ok (.lastore, 1)) (hk : kd k = 14) (hk2 : k < 147) (hx : x = nI i) (hi : i < ln k) (hL : ln k < 5000) (kk : V E G I (sr J k (up (J k) i v)) (pc + 1) lo st) : V E G I J pc lo (.long v :: .int x :: .ref (G.2.2 k) :: st) := by
  obtain ⟨p, l, e, R, s, m, args, below, meth, c, Q, A, nL, cl, sl⟩ := E
  intro H locs hP hS ls hls
  subst hx
  have hD : va_D A (wl G I J) := wl_D ok.2.2.2.2.2.2.1 ok.2.2.2.2.2.2.2.1
  refine va_last ok.1 ok.2.1 ok.2.2.2.2.2.1.1 hP hD hS k 1 ((wl_get G I J hk2).trans (by rw [cel_l hk])) rfl (vp_in_nI hi (by omega)) hd (fun H1 locs1 hP1 _ hS1 => kk H1 locs1 ?_ hS1 ls hls)
  rw [nI_clamp (by omega)] at hP1
  have h : (Sum.inl (G.2.1 1, ln k, Sum.inr (Sum.inl (vp_updL (J k) i v))) : va_E) = cel G I (sr J k (up (J k) i v)) k := by rw [cel_l hk, sr_eq]; rfl
  rw [h, wl_setJ hk2] at hP1
  exact hP1
/-- System.arraycopy over int arrays, from place 0 to place 0 -/
theorem V_copy (ok : Ok E G own cc n d) {x a b N : Nat} (hd : decode cc pc = .ok (.invokestatic x, 3)) (hw : Cond.methodLink own x arraycopyName ∈ mS) (h1 : Cond.native arraycopyName ∈ mS) (h2 : Cond.static arraycopyName ∈ mS) (h3 : Cond.initialized "java/lang/System" ∈ mS) (ha : kd a = 13) (hb : kd b = 13) (ha2 : a < 147) (hb2 : b < 147) (hla : N ≤ ln a) (hlb : N ≤ ln b) (hL : N < 5000) (hd1 : 1 ≤ d) (hst : (st.map fun v => v.category).sum ≤ 8) (kk : V E G (sr I b (fun j => if j < N then I a j else I b j)) J (pc + 3) lo st) : V E G I J pc lo (.int (nI N) :: .int 0 :: .ref (G.2.2 b) :: .int 0 :: .ref (G.2.2 a) :: st) := by
  obtain ⟨p, l, e, R, s, m, args, below, meth, c, Q, A, nL, cl, sl⟩ := E
  intro H locs hP hS ls hls
  have hD : va_D A (wl G I J) := wl_D ok.2.2.2.2.2.2.1 ok.2.2.2.2.2.2.2.1
  have hR := ok.2.2.2.2.2.2.2.2.2
  have hts := ok.2.2.2.2.1
  have hnf : nativeFrameWords "java/lang/System" "arraycopy" 5 + 11 ≤ 32 := by decide +kernel
  refine va_copyi (ty := .int) ok.1 ok.2.1 (ok.2.2.1.trans hls.1.symm) ok.2.2.2.1 (hts _ hw) (hts _ h1) (hts _ h2) (hts _ h3) ok.2.2.2.2.2.1.1 hP hD hS a b 0 0 ((wl_get G I J ha2).trans (by rw [cel_i ha])) ((wl_get G I J hb2).trans (by rw [cel_i hb])) rfl rfl rfl (by decide) (by decide) (nI_pos (by omega)) (by rw [nI_clamp (by omega)]; show 0 + N ≤ _; omega) (by rw [nI_clamp (by omega)]; show 0 + N ≤ _; omega) (fun _ _ => rfl) (by omega) (by omega) hd (fun H1 locs1 hP1 _ hS1 => kk H1 locs1 ?_ hS1 ls hls)
  have h : (Sum.inl (G.2.1 0, ln b, Sum.inl (va_cpy (I a) (I b) (0 : Int32).toNatClampNeg (0 : Int32).toNatClampNeg (nI N).toNatClampNeg)) : va_E) = cel G (sr I b (fun j => if j < N then I a j else I b j)) J b := by
    rw [cel_i hb, sr_eq, nI_clamp (by omega)]
    have hf : va_cpy (I a) (I b) (0 : Int32).toNatClampNeg (0 : Int32).toNatClampNeg N = (fun j => if j < N then I a j else I b j) := by
      funext j
      show (if 0 ≤ j ∧ j < 0 + N then I a (0 + (j - 0)) else I b j) = _
      by_cases hj : j < N
      · rw [if_pos ⟨Nat.zero_le _, by omega⟩, if_pos hj, Nat.zero_add, Nat.sub_zero]
      · rw [if_neg (by omega), if_neg hj]
    rw [hf]
  rw [h, wl_set hb2] at hP1
  exact hP1
/-- the end of a method -/
theorem V_iret (ok : Ok E G own cc n d) {ty : FieldType} {post : Option Value → Mi → Ml → Prop} {v : Int32} (or : Okr E G (some ty) post) (hd : decode cc pc = .ok (.ireturn, 1)) (hn : narrow ty (.int v) = .int v) (hp : post (some (.int v)) I J) : V E G I J pc lo [.int v] := by
  obtain ⟨p, l, e, R, s, m, args, below, meth, c, Q, A, nL, cl, sl⟩ := E
  obtain ⟨hr, hlk, hA, hQ⟩ := or
  subst hA; subst hQ
  intro H locs hP hS ls hls
  exact W.zret ok.1 ok.2.1 hr hn (fun t ht hW => ⟨⟨_, I, J, rfl, hp, by rw [ht]; exact hP, ok.2.2.2.2.2.1.moved hW⟩, hS.F ht⟩) hS.2.2 hd hlk
theorem V_lret (ok : Ok E G own cc n d) {post : Option Value → Mi → Ml → Prop} {v : Int64} (or : Okr E G (some .long) post) (hd : decode cc pc = .ok (.lreturn, 1)) (hp : post (some (.long v)) I J) : V E G I J pc lo [.long v] := by
  obtain ⟨p, l, e, R, s, m, args, below, meth, c, Q, A, nL, cl, sl⟩ := E
  obtain ⟨hr, hlk, hA, hQ⟩ := or
  subst hA; subst hQ
  intro H locs hP hS ls hls
  exact W.lret ok.1 ok.2.1 hr (fun t ht hW => ⟨⟨_, I, J, rfl, hp, by rw [ht]; exact hP, ok.2.2.2.2.2.1.moved hW⟩, hS.F ht⟩) hS.2.2 hd hlk
theorem V_vret (ok : Ok E G own cc n d) {post : Option Value → Mi → Ml → Prop} (or : Okr E G none post) (hd : decode cc pc = .ok (.return_, 1)) (hp : post none I J) : V E G I J pc lo [] := by
  obtain ⟨p, l, e, R, s, m, args, below, meth, c, Q, A, nL, cl, sl⟩ := E
  obtain ⟨hr, hlk, hA, hQ⟩ := or
  subst hA; subst hQ
  intro H locs hP hS ls hls
  exact W.vret ok.1 ok.2.1 hr (fun t ht hW => ⟨⟨_, I, J, rfl, hp, by rw [ht]; exact hP, ok.2.2.2.2.2.1.moved hW⟩, hS.F ht⟩) hS.2.2 hd hlk
/-- calls -/
theorem mS_self : GoodIn mS mS := fun w h => ⟨h, good_of_word (List.mem_filter.mp h).2⟩
theorem mS_code {w : Cond} (h : w ∈ mS) : GoodIn mS (w :: mS) := fun v hv => by
  rcases List.mem_cons.mp hv with rfl | hv
  · exact mS_self _ h
  · exact mS_self _ hv
theorem va_run_V {p : Program} {l : Launch} {e : Env} {R : Room} {s : State} {m : MethodId} {args : Array Value} {below : List Frame} {meth : Method} {c : Code} {Q : State → Prop} {A : Nat → Prop} {nL cl sl : Nat} {post : Option Value → Mi → Ml → Prop} {a : Array Value} {st0 : List Value} (hA : ∀ q, Aw G q → A q)
    {H : Heap} {locs : List Loc} {ls : Array Slot} (hls : hasL ls nL lo) (hS : va_S A s.heap H locs)
    (hr : va_Run p l e R s m args below meth c H locs cl sl 0 0 (F0 m pc ls st0) st (Qw G post a) (Aw G))
    (k : ∀ (v : Option Value) (I' : Mi) (J' : Ml), post v I' J' → V (p, l, e, R, s, m, args, below, meth, c, Q, A, nL, cl, sl) G I' J' (pc + 3) lo (v.toList ++ st)) : W p l e R s m args below meth c H locs cl sl Q (F0 m pc ls st0) := by
  intro T hT X
  obtain ⟨v, st₀, t, T', L, h0, X', hL, e1, e2, ⟨⟨v', I', J', hv, hp, hB⟩, hz, hk⟩, stp⟩ := hr T hT X
  cases hv
  rw [h0] at hz hk
  obtain ⟨t2, a1, b1⟩ := k v I' J' hp T'.heap (locs ++ L) (by rw [e1]; exact hB.1)
    ⟨Nat.le_trans hS.1 (by rw [e1]; exact hz), fun q h1 h2 => by rw [e1, hk q (Nat.lt_of_lt_of_le h1 hS.1) (fun z => h2 (hA q z))]; exact hS.2.1 q h1 h2, fun q hq => by
      rcases List.mem_append.mp hq with h | h
      · exact hS.2.2 q h
      · exact hA _ (hL q h)⟩ ls hls T' rfl X'
  exact ⟨t2, stp t2 a1, b1⟩
def CwV (own : String) (x : Nat) (y : MethodName) (b : ByteArray) (mL : Nat) (ret : Option FieldType) (na : Nat) : Prop :=
  Cond.methodLink own x y ∈ mS ∧ Cond.instanceMethod y ∈ mS ∧ Cond.selects y.cls y y ∈ mS ∧ Cond.initialized y.cls ∈ mS ∧ Cond.code y b mL ret ∈ mS ∧ (y.cls ≠ "java/lang/invoke/MethodHandle" ∧ y.cls ≠ "java/lang/invoke/VarHandle" ∧ (parseMethodDescriptor y.desc).map (fun d => d.parameters.length) = some na) ∧ mL ≤ 20
def CwS (own : String) (x : Nat) (y : MethodName) (b : ByteArray) (mL : Nat) (ret : Option FieldType) (na : Nat) : Prop :=
  Cond.methodLink own x y ∈ mS ∧ Cond.static y ∈ mS ∧ Cond.initialized y.cls ∈ mS ∧ Cond.code y b mL ret ∈ mS ∧ (y.cls ≠ "java/lang/invoke/MethodHandle" ∧ y.cls ≠ "java/lang/invoke/VarHandle" ∧ (parseMethodDescriptor y.desc).map (fun d => d.parameters.length) = some na) ∧ mL ≤ 20
def CwN (own : String) (x : Nat) (y : MethodName) (b : ByteArray) (mL : Nat) (ret : Option FieldType) (na : Nat) (host : String) : Prop :=
  Cond.methodLinkNest own x y host ∈ nestL ∧ Cond.static y ∈ mS ∧ Cond.initialized y.cls ∈ mS ∧ Cond.code y b mL ret ∈ mS ∧ (y.cls ≠ "java/lang/invoke/MethodHandle" ∧ y.cls ≠ "java/lang/invoke/VarHandle" ∧ (parseMethodDescriptor y.desc).map (fun d => d.parameters.length) = some na) ∧ mL ≤ 20
theorem Wo_blind {G : Gw} {I : Mi} {J : Ml} {as : List Value} : FrameBlind (va_Pc as (fun U => Wo G I J U ∧ Gj G)) := fun a U g mk q => ⟨q.1, ⟨q.2.1.1, va_K.moved (u := U) (U := U.calling g mk a) (Vm.Alike.refl U.vm) q.2.1.2.1, fun w hw => by
  have h2 := q.2.1.2.2 w hw
  have h3 : w.onTables = true := by
    simp only [nestL, List.mem_cons, List.not_mem_nil, or_false] at hw
    rcases hw with rfl | rfl | rfl <;> rfl
  exact va_Nw.same (u := U) (U := U.calling g mk a) h3 rfl h2⟩, q.2.2⟩
theorem V_callV (ok : Ok E G own cc n d) {x k ci mL na d' : Nat} {y : MethodName} {b : ByteArray} {ret : Option FieldType} {T : u_T} {N : Nat} {As : List Value} {post : Option Value → Mi → Ml → Prop} {st0 : List Value} (hd : decode cc pc = .ok (.invokevirtual x, 3)) (cw : CwV own x y b mL ret na) (hcl : vwCl[ci]? = some (y.cls, T, N)) (hk : kd k = ci) (hk2 : k < 147) (hci : ci < 13) (hC : Ct E.2.1 y b mL ret d' G (.ref (G.2.2 k) :: As) I J post) (hst : st0 = As.reverse ++ .ref (G.2.2 k) :: st) (hna : As.length = na) (hdd : d' < d) (hsm : (st.map fun v => v.category).sum ≤ 8)
    (kk : ∀ (v : Option Value) (I' : Mi) (J' : Ml), post v I' J' → V E G I' J' (pc + 3) lo (v.toList ++ st)) : V E G I J pc lo st0 := by
  obtain ⟨p, l, e, R, s, m, args, below, meth, c, Q, A, nL, cl, sl⟩ := E
  intro H locs hP hS ls hls
  obtain ⟨w1, w2, w3, w4, w5, w6, w7⟩ := cw
  obtain ⟨o1, o2, o3, o4, o5, o6, o7, o8, o9, o10, o11, o12, o13⟩ := ok
  have hcB : CallB R s args own x y b mL ret (.code y b mL ret :: mS) (rmD d') 0 0 na := callB_of na o5 (mS_code w5) rfl rfl rfl (o5 _ w4) (o5 _ w1) w6 ⟨by show d' + 1 ≤ _; omega, by show 8 + (mL + 11) + 40 * d' ≤ _; omega⟩
  refine va_run_V o8 hls hS (va_runV (As := As) (rest := st) (C := y.cls) (n := na) ⟨o1, o2, o3.trans o9, o4, o5⟩ hC ⟨hcB, o5 _ w2, o5 _ w3⟩ ⟨Wo_blind, va_recv o6.1 hP hcl ((wl_get G I J hk2).trans (by rw [cel_o hk hci])), fun U hU hW => ⟨rfl, ⟨by rw [hU]; exact hP, o6.moved hW⟩, o7⟩⟩ rfl hna (hls.1.trans o9) hst (lv_room hsm) hd ⟨by omega, by omega⟩) kk
theorem V_callS (ok : Ok E G own cc n d) {x mL na d' : Nat} {y : MethodName} {b : ByteArray} {ret : Option FieldType} {As : List Value} {post : Option Value → Mi → Ml → Prop} {st0 : List Value} (hd : decode cc pc = .ok (.invokestatic x, 3)) (cw : CwS own x y b mL ret na) (hC : Ct E.2.1 y b mL ret d' G As I J post) (hst : st0 = As.reverse ++ st) (hna : As.length = na) (hdd : d' < d) (hsm : (st.map fun v => v.category).sum ≤ 8)
    (kk : ∀ (v : Option Value) (I' : Mi) (J' : Ml), post v I' J' → V E G I' J' (pc + 3) lo (v.toList ++ st)) : V E G I J pc lo st0 := by
  obtain ⟨p, l, e, R, s, m, args, below, meth, c, Q, A, nL, cl, sl⟩ := E
  intro H locs hP hS ls hls
  obtain ⟨w1, w2, w4, w5, w6, w7⟩ := cw
  obtain ⟨o1, o2, o3, o4, o5, o6, o7, o8, o9, o10, o11, o12, o13⟩ := ok
  have hcB : CallB R s args own x y b mL ret (.code y b mL ret :: mS) (rmD d') 0 0 na := callB_of na o5 (mS_code w5) rfl rfl rfl (o5 _ w4) (o5 _ w1) w6 ⟨by show d' + 1 ≤ _; omega, by show 8 + (mL + 11) + 40 * d' ≤ _; omega⟩
  refine va_run_V o8 hls hS (va_runS (As := As) (rest := st) (n := na) ⟨o1, o2, o3.trans o9, o4, o5⟩ hC ⟨hcB, o5 _ w2⟩ ⟨Wo_blind, fun U hU hW => ⟨rfl, ⟨by rw [hU]; exact hP, o6.moved hW⟩, o7⟩⟩ rfl hna (hls.1.trans o9) hst (lv_room hsm) hd ⟨by omega, by omega⟩) kk
theorem V_callN (ok : Ok E G own cc n d) {x mL na d' : Nat} {y : MethodName} {b : ByteArray} {ret : Option FieldType} {host : String} {As : List Value} {post : Option Value → Mi → Ml → Prop} {st0 : List Value} (hd : decode cc pc = .ok (.invokestatic x, 3)) (cw : CwN own x y b mL ret na host) (hC : Ct E.2.1 y b mL ret d' G As I J post) (hst : st0 = As.reverse ++ st) (hna : As.length = na) (hdd : d' < d) (hsm : (st.map fun v => v.category).sum ≤ 8)
    (kk : ∀ (v : Option Value) (I' : Mi) (J' : Ml), post v I' J' → V E G I' J' (pc + 3) lo (v.toList ++ st)) : V E G I J pc lo st0 := by
  obtain ⟨p, l, e, R, s, m, args, below, meth, c, Q, A, nL, cl, sl⟩ := E
  intro H locs hP hS ls hls
  obtain ⟨w1, w2, w4, w5, w6, w7⟩ := cw
  obtain ⟨o1, o2, o3, o4, o5, o6, o7, o8, o9, o10, o11, o12, o13⟩ := ok
  have hcB : va_CN R s args own x y host b mL ret (.code y b mL ret :: mS) (rmD d') 0 0 na := va_cnB na o5 (mS_code w5) rfl rfl rfl (o6.2 _ w1) (o5 _ w4) w6 ⟨by show d' + 1 ≤ _; omega, by show 8 + (mL + 11) + 40 * d' ≤ _; omega⟩
  refine va_run_V o8 hls hS (va_runSN (As := As) (rest := st) (n := na) ⟨o1, o2, o3.trans o9, o4, o5⟩ hC ⟨hcB, o5 _ w2, trivial⟩ ⟨Wo_blind, fun U hU hW => ⟨rfl, ⟨by rw [hU]; exact hP, o6.moved hW⟩, o7⟩⟩ rfl hna (hls.1.trans o9) hst (lv_room hsm) hd ⟨by omega, by omega⟩) kk
end RW
end
section
/-! rows over numbers that are nI of a natural number; rows of calls by what they answer; the tables' facts of symbolic places -/
theorem lt_ln {i k N : Nat} (e : ln k = N) (h : i < N) : i < ln k := e ▸ h
theorem ln_small : ∀ k, ln k < 5000 := by
  intro k
  by_cases h : k < 147
  · revert k; decide +kernel
  · have h2 : lnL[k]? = none := List.getElem?_eq_none (by show 147 ≤ k; omega)
    have : ln k = 0 := by simp [ln, List.getD, h2]
    omega
theorem kd_lt {k c : Nat} (h : kd k = c) (hc : c < 99) : k < 147 := by
  by_cases hk : k < 147
  · exact hk
  · have h2 : kdL[k]? = none := List.getElem?_eq_none (by show 147 ≤ k; omega)
    have : kd k = 99 := by simp [kd, List.getD, h2]
    omega
theorem rw_all : ∀ k, k < 147 → kd k = 5 → rf k 1 = k + 1 ∧ kd (k + 1) = 13 ∧ ln (k + 1) = 30 ∧ k + 1 < 147 := by decide +kernel
theorem rw_lk {k : Nat} (h : kd k = 5) : k < 147 := kd_lt h (by decide)
theorem rw_rf {k : Nat} (h : kd k = 5) : rf k 1 = k + 1 := (rw_all k (rw_lk h) h).1
theorem rw_kd {k : Nat} (h : kd k = 5) : kd (k + 1) = 13 := (rw_all k (rw_lk h) h).2.1
theorem rw_ln {k : Nat} (h : kd k = 5) : ln (k + 1) = 30 := (rw_all k (rw_lk h) h).2.2.1
theorem rw_lt {k : Nat} (h : kd k = 5) : k + 1 < 147 := (rw_all k (rw_lk h) h).2.2.2
theorem ll_all : ∀ k, k < 147 → kd k = 2 → rf k 1 = k + 1 ∧ kd (k + 1) = 14 ∧ ln (k + 1) = 30 ∧ k + 1 < 147 := by decide +kernel
theorem pl_all : ∀ k, k < 147 → kd k = 4 → (rf k 1 = k + 1 ∧ kd (k + 1) = 13 ∧ ln (k + 1) = 8 ∧ k + 1 < 147) ∧ (rf k 2 = k + 2 ∧ kd (k + 2) = 13 ∧ ln (k + 2) = 8 ∧ k + 2 < 147) := by decide +kernel
theorem sh_all : ∀ k, k < 147 → kd k = 6 → (rf k 1 = k + 1 ∧ kd (k + 1) = 17 ∧ ln (k + 1) = 8 ∧ k + 1 < 147) ∧ (∀ i, i < 8 → rf (k + 1) i = k + 2 + 2 * i ∧ kd (k + 2 + 2 * i) = 5) := by decide +kernel
theorem inc1 (i : Nat) : nI i + Int32.ofInt 1 = nI (i + 1) := nI_1 i
theorem incN (i c : Nat) : nI i + nI c = nI (i + c) := nI_add i c
theorem decN {i : Nat} (h : 1 ≤ i) : nI i + Int32.ofInt (-1) = nI (i - 1) := by
  obtain ⟨j, rfl⟩ : ∃ j, i = j + 1 := ⟨i - 1, by omega⟩
  exact pk_m1 j
section NR
variable {E : Ev} {G : Gw} {I : Mi} {J : Ml} {own : String} {cc : ByteArray} {n d pc : Nat} {lo lo' : List (Option Value)} {st : List Value}
theorem V_iaddN (ok : Ok E G own cc n d) {a b : Nat} (hd : decode cc pc = .ok (.iadd, 1)) (k : V E G I J (pc + 1) lo (.int (nI (a + b)) :: st)) : V E G I J pc lo (.int (nI b) :: .int (nI a) :: st) := V_iadd ok hd (by rw [nI_add]; exact k)
theorem V_imulN (ok : Ok E G own cc n d) {a b : Nat} (hd : decode cc pc = .ok (.imul, 1)) (k : V E G I J (pc + 1) lo (.int (nI (a * b)) :: st)) : V E G I J pc lo (.int (nI b) :: .int (nI a) :: st) := V_imul ok hd (by rw [pk_mul]; exact k)
theorem V_isubN (ok : Ok E G own cc n d) {a b : Nat} (hd : decode cc pc = .ok (.isub, 1)) (h : b ≤ a) (k : V E G I J (pc + 1) lo (.int (nI (a - b)) :: st)) : V E G I J pc lo (.int (nI b) :: .int (nI a) :: st) := V_isub ok hd (by rw [pk_sub h]; exact k)
theorem V_idivN (ok : Ok E G own cc n d) {a b : Nat} (hd : decode cc pc = .ok (.idiv, 1)) (h0 : 0 < b) (ha : a < 2 ^ 31) (hb : b < 2 ^ 31) (k : V E G I J (pc + 1) lo (.int (nI (a / b)) :: st)) : V E G I J pc lo (.int (nI b) :: .int (nI a) :: st) := V_idiv ok hd (nI_ne0 h0 hb) (by rw [pk_div ha h0 hb]; exact k)
theorem V_iremN (ok : Ok E G own cc n d) {a b : Nat} (hd : decode cc pc = .ok (.irem, 1)) (h0 : 0 < b) (ha : a < 2 ^ 31) (hb : b < 2 ^ 31) (k : V E G I J (pc + 1) lo (.int (nI (a % b)) :: st)) : V E G I J pc lo (.int (nI b) :: .int (nI a) :: st) := V_irem ok hd (nI_ne0 h0 hb) (by rw [pk_rem ha h0 hb]; exact k)
theorem V_icmp_eqN (ok : Ok E G own cc n d) {a b : Nat} {off : Int} {tgt : Nat} (hd : decode cc pc = .ok (.if_icmp .eq off, 3)) (ht : (pc : Int) + off = (tgt : Int)) (ha : a < 2 ^ 31) (hb : b < 2 ^ 31) (kt : a = b → V E G I J tgt lo st) (kf : a ≠ b → V E G I J (pc + 3) lo st) : V E G I J pc lo (.int (nI b) :: .int (nI a) :: st) := V_icmp_eq ok hd ht (fun h => kt ((nI_eq ha hb).mp h)) (fun h => kf (fun q => h ((nI_eq ha hb).mpr q)))
theorem V_icmp_neN (ok : Ok E G own cc n d) {a b : Nat} {off : Int} {tgt : Nat} (hd : decode cc pc = .ok (.if_icmp .ne off, 3)) (ht : (pc : Int) + off = (tgt : Int)) (ha : a < 2 ^ 31) (hb : b < 2 ^ 31) (kt : a ≠ b → V E G I J tgt lo st) (kf : a = b → V E G I J (pc + 3) lo st) : V E G I J pc lo (.int (nI b) :: .int (nI a) :: st) := V_icmp_ne ok hd ht (fun h => kt (fun q => h ((nI_eq ha hb).mpr q))) (fun h => kf ((nI_eq ha hb).mp h))
theorem V_icmp_ltN (ok : Ok E G own cc n d) {a b : Nat} {off : Int} {tgt : Nat} (hd : decode cc pc = .ok (.if_icmp .lt off, 3)) (ht : (pc : Int) + off = (tgt : Int)) (ha : a < 2 ^ 31) (hb : b < 2 ^ 31) (kt : a < b → V E G I J tgt lo st) (kf : b ≤ a → V E G I J (pc + 3) lo st) : V E G I J pc lo (.int (nI b) :: .int (nI a) :: st) := V_icmp_lt ok hd ht (fun h => kt ((nI_ltI ha hb).mp h)) (fun h => kf (Nat.not_lt.mp (fun q => h ((nI_ltI ha hb).mpr q))))
theorem V_icmp_geN (ok : Ok E G own cc n d) {a b : Nat} {off : Int} {tgt : Nat} (hd : decode cc pc = .ok (.if_icmp .ge off, 3)) (ht : (pc : Int) + off = (tgt : Int)) (ha : a < 2 ^ 31) (hb : b < 2 ^ 31) (kt : b ≤ a → V E G I J tgt lo st) (kf : a < b → V E G I J (pc + 3) lo st) : V E G I J pc lo (.int (nI b) :: .int (nI a) :: st) := V_icmp_ge ok hd ht (fun h => kt ((nI_leI hb ha).mp h)) (fun h => kf (Nat.not_le.mp (fun q => h ((nI_leI hb ha).mpr q))))
theorem V_icmp_gtN (ok : Ok E G own cc n d) {a b : Nat} {off : Int} {tgt : Nat} (hd : decode cc pc = .ok (.if_icmp .gt off, 3)) (ht : (pc : Int) + off = (tgt : Int)) (ha : a < 2 ^ 31) (hb : b < 2 ^ 31) (kt : b < a → V E G I J tgt lo st) (kf : a ≤ b → V E G I J (pc + 3) lo st) : V E G I J pc lo (.int (nI b) :: .int (nI a) :: st) := V_icmp_gt ok hd ht (fun h => kt ((nI_ltI hb ha).mp h)) (fun h => kf (Nat.not_lt.mp (fun q => h ((nI_ltI hb ha).mpr q))))
theorem V_icmp_leN (ok : Ok E G own cc n d) {a b : Nat} {off : Int} {tgt : Nat} (hd : decode cc pc = .ok (.if_icmp .le off, 3)) (ht : (pc : Int) + off = (tgt : Int)) (ha : a < 2 ^ 31) (hb : b < 2 ^ 31) (kt : a ≤ b → V E G I J tgt lo st) (kf : b < a → V E G I J (pc + 3) lo st) : V E G I J pc lo (.int (nI b) :: .int (nI a) :: st) := V_icmp_le ok hd ht (fun h => kt ((nI_leI ha hb).mp h)) (fun h => kf (Nat.not_le.mp (fun q => h ((nI_leI ha hb).mpr q))))
theorem V_if_eqN (ok : Ok E G own cc n d) {a : Nat} {off : Int} {tgt : Nat} (hd : decode cc pc = .ok (.ifCond .eq off, 3)) (ht : (pc : Int) + off = (tgt : Int)) (ha : a < 2 ^ 31) (kt : a = 0 → V E G I J tgt lo st) (kf : a ≠ 0 → V E G I J (pc + 3) lo st) : V E G I J pc lo (.int (nI a) :: st) := by
  have h0 : a = 0 ∨ 0 < a := by omega
  rcases h0 with h0 | h0
  · exact V_if_eq ok hd ht (fun h => kt h0) (fun h => absurd (by rw [h0]; rfl) h)
  · exact V_if_eq ok hd ht (fun h => absurd h (nI_ne0 h0 ha)) (fun h => kf (by omega))
theorem V_if_neN (ok : Ok E G own cc n d) {a : Nat} {off : Int} {tgt : Nat} (hd : decode cc pc = .ok (.ifCond .ne off, 3)) (ht : (pc : Int) + off = (tgt : Int)) (ha : a < 2 ^ 31) (kt : a ≠ 0 → V E G I J tgt lo st) (kf : a = 0 → V E G I J (pc + 3) lo st) : V E G I J pc lo (.int (nI a) :: st) := by
  have h0 : a = 0 ∨ 0 < a := by omega
  rcases h0 with h0 | h0
  · exact V_if_ne ok hd ht (fun h => absurd (by rw [h0]; rfl) h) (fun h => kf h0)
  · exact V_if_ne ok hd ht (fun h => kt (by omega)) (fun h => absurd h (nI_ne0 h0 ha))
theorem V_if_gtN (ok : Ok E G own cc n d) {a : Nat} {off : Int} {tgt : Nat} (hd : decode cc pc = .ok (.ifCond .gt off, 3)) (ht : (pc : Int) + off = (tgt : Int)) (ha : a < 2 ^ 31) (kt : 0 < a → V E G I J tgt lo st) (kf : a = 0 → V E G I J (pc + 3) lo st) : V E G I J pc lo (.int (nI a) :: st) := by
  have h0 : a = 0 ∨ 0 < a := by omega
  rcases h0 with h0 | h0
  · exact V_if_gt ok hd ht (fun h => absurd h (by rw [h0]; decide)) (fun h => kf h0)
  · exact V_if_gt ok hd ht (fun h => kt h0) (fun h => absurd (show (0 : Int32) < nI a from nI_lt h0 ha) h)
theorem V_if_leN (ok : Ok E G own cc n d) {a : Nat} {off : Int} {tgt : Nat} (hd : decode cc pc = .ok (.ifCond .le off, 3)) (ht : (pc : Int) + off = (tgt : Int)) (ha : a < 2 ^ 31) (kt : a = 0 → V E G I J tgt lo st) (kf : 0 < a → V E G I J (pc + 3) lo st) : V E G I J pc lo (.int (nI a) :: st) := by
  have h0 : a = 0 ∨ 0 < a := by omega
  rcases h0 with h0 | h0
  · exact V_if_le ok hd ht (fun h => kt h0) (fun h => absurd (by rw [h0]; decide) h)
  · exact V_if_le ok hd ht (fun h => absurd h (nI_nle h0 ha)) (fun h => kf h0)
theorem V_if_ltN (ok : Ok E G own cc n d) {a : Nat} {off : Int} {tgt : Nat} (hd : decode cc pc = .ok (.ifCond .lt off, 3)) (ht : (pc : Int) + off = (tgt : Int)) (ha : a < 2 ^ 31) (k : V E G I J (pc + 3) lo st) : V E G I J pc lo (.int (nI a) :: st) := V_if_lt ok hd ht (fun h => absurd h (nI_pos ha)) (fun _ => k)
theorem V_if_geN (ok : Ok E G own cc n d) {a : Nat} {off : Int} {tgt : Nat} (hd : decode cc pc = .ok (.ifCond .ge off, 3)) (ht : (pc : Int) + off = (tgt : Int)) (ha : a < 2 ^ 31) (k : V E G I J tgt lo st) : V E G I J pc lo (.int (nI a) :: st) := V_if_ge ok hd ht (fun _ => k) (fun h => absurd (nI_pos' ha) h)
/-- calls by their answers -/
theorem V_callVI (ok : Ok E G own cc n d) {x k ci mL na d' : Nat} {y : MethodName} {b : ByteArray} {ret : Option FieldType} {T : u_T} {N : Nat} {As : List Value} {P : Int32 → Mi → Ml → Prop} {st0 : List Value} (hd : decode cc pc = .ok (.invokevirtual x, 3)) (cw : CwV own x y b mL ret na) (hcl : vwCl[ci]? = some (y.cls, T, N)) (hk : kd k = ci) (hk2 : k < 147) (hci : ci < 13) (hC : Ct E.2.1 y b mL ret d' G (.ref (G.2.2 k) :: As) I J (pI P)) (hst : st0 = As.reverse ++ .ref (G.2.2 k) :: st) (hna : As.length = na) (hdd : d' < d) (hsm : (st.map fun v => v.category).sum ≤ 8)
    (kk : ∀ (r : Int32) (I' : Mi) (J' : Ml), P r I' J' → V E G I' J' (pc + 3) lo (.int r :: st)) : V E G I J pc lo st0 := V_callV ok hd cw hcl hk hk2 hci hC hst hna hdd hsm (fun v I' J' hp => by obtain ⟨r, rfl, hp⟩ := hp; exact kk r I' J' hp)
theorem V_callVL (ok : Ok E G own cc n d) {x k ci mL na d' : Nat} {y : MethodName} {b : ByteArray} {ret : Option FieldType} {T : u_T} {N : Nat} {As : List Value} {P : Int64 → Mi → Ml → Prop} {st0 : List Value} (hd : decode cc pc = .ok (.invokevirtual x, 3)) (cw : CwV own x y b mL ret na) (hcl : vwCl[ci]? = some (y.cls, T, N)) (hk : kd k = ci) (hk2 : k < 147) (hci : ci < 13) (hC : Ct E.2.1 y b mL ret d' G (.ref (G.2.2 k) :: As) I J (pL P)) (hst : st0 = As.reverse ++ .ref (G.2.2 k) :: st) (hna : As.length = na) (hdd : d' < d) (hsm : (st.map fun v => v.category).sum ≤ 8)
    (kk : ∀ (r : Int64) (I' : Mi) (J' : Ml), P r I' J' → V E G I' J' (pc + 3) lo (.long r :: st)) : V E G I J pc lo st0 := V_callV ok hd cw hcl hk hk2 hci hC hst hna hdd hsm (fun v I' J' hp => by obtain ⟨r, rfl, hp⟩ := hp; exact kk r I' J' hp)
theorem V_callVV (ok : Ok E G own cc n d) {x k ci mL na d' : Nat} {y : MethodName} {b : ByteArray} {ret : Option FieldType} {T : u_T} {N : Nat} {As : List Value} {P : Mi → Ml → Prop} {st0 : List Value} (hd : decode cc pc = .ok (.invokevirtual x, 3)) (cw : CwV own x y b mL ret na) (hcl : vwCl[ci]? = some (y.cls, T, N)) (hk : kd k = ci) (hk2 : k < 147) (hci : ci < 13) (hC : Ct E.2.1 y b mL ret d' G (.ref (G.2.2 k) :: As) I J (pV P)) (hst : st0 = As.reverse ++ .ref (G.2.2 k) :: st) (hna : As.length = na) (hdd : d' < d) (hsm : (st.map fun v => v.category).sum ≤ 8)
    (kk : ∀ (I' : Mi) (J' : Ml), P I' J' → V E G I' J' (pc + 3) lo st) : V E G I J pc lo st0 := V_callV ok hd cw hcl hk hk2 hci hC hst hna hdd hsm (fun v I' J' hp => by obtain ⟨rfl, hp⟩ := hp; exact kk I' J' hp)
theorem V_callSI (ok : Ok E G own cc n d) {x mL na d' : Nat} {y : MethodName} {b : ByteArray} {ret : Option FieldType} {As : List Value} {P : Int32 → Mi → Ml → Prop} {st0 : List Value} (hd : decode cc pc = .ok (.invokestatic x, 3)) (cw : CwS own x y b mL ret na) (hC : Ct E.2.1 y b mL ret d' G As I J (pI P)) (hst : st0 = As.reverse ++ st) (hna : As.length = na) (hdd : d' < d) (hsm : (st.map fun v => v.category).sum ≤ 8)
    (kk : ∀ (r : Int32) (I' : Mi) (J' : Ml), P r I' J' → V E G I' J' (pc + 3) lo (.int r :: st)) : V E G I J pc lo st0 := V_callS ok hd cw hC hst hna hdd hsm (fun v I' J' hp => by obtain ⟨r, rfl, hp⟩ := hp; exact kk r I' J' hp)
theorem V_callSV (ok : Ok E G own cc n d) {x mL na d' : Nat} {y : MethodName} {b : ByteArray} {ret : Option FieldType} {As : List Value} {P : Mi → Ml → Prop} {st0 : List Value} (hd : decode cc pc = .ok (.invokestatic x, 3)) (cw : CwS own x y b mL ret na) (hC : Ct E.2.1 y b mL ret d' G As I J (pV P)) (hst : st0 = As.reverse ++ st) (hna : As.length = na) (hdd : d' < d) (hsm : (st.map fun v => v.category).sum ≤ 8)
    (kk : ∀ (I' : Mi) (J' : Ml), P I' J' → V E G I' J' (pc + 3) lo st) : V E G I J pc lo st0 := V_callS ok hd cw hC hst hna hdd hsm (fun v I' J' hp => by obtain ⟨rfl, hp⟩ := hp; exact kk I' J' hp)
theorem V_callNI (ok : Ok E G own cc n d) {x mL na d' : Nat} {y : MethodName} {b : ByteArray} {ret : Option FieldType} {host : String} {As : List Value} {P : Int32 → Mi → Ml → Prop} {st0 : List Value} (hd : decode cc pc = .ok (.invokestatic x, 3)) (cw : CwN own x y b mL ret na host) (hC : Ct E.2.1 y b mL ret d' G As I J (pI P)) (hst : st0 = As.reverse ++ st) (hna : As.length = na) (hdd : d' < d) (hsm : (st.map fun v => v.category).sum ≤ 8)
    (kk : ∀ (r : Int32) (I' : Mi) (J' : Ml), P r I' J' → V E G I' J' (pc + 3) lo (.int r :: st)) : V E G I J pc lo st0 := V_callN ok hd cw hC hst hna hdd hsm (fun v I' J' hp => by obtain ⟨r, rfl, hp⟩ := hp; exact kk r I' J' hp)
end NR
/-- a truth as a number -/
def bI (p : Prop) [Decidable p] : Int32 := if p then 1 else 0
theorem bI_t {p : Prop} [Decidable p] (h : p) : bI p = 1 := if_pos h
theorem bI_f {p : Prop} [Decidable p] (h : ¬ p) : bI p = 0 := if_neg h
theorem bI_0 {p : Prop} [Decidable p] : bI p = 0 ↔ ¬ p := by
  by_cases h : p
  · rw [bI_t h]; exact ⟨fun e => absurd e (by decide), fun e => absurd h e⟩
  · rw [bI_f h]; exact ⟨fun _ => h, fun _ => rfl⟩
theorem bI_nar (p : Prop) [Decidable p] : narrow .boolean (.int (bI p)) = .int (bI p) := by
  by_cases h : p
  · rw [bI_t h]; rfl
  · rw [bI_f h]; rfl
section BR
variable {E : Ev} {G : Gw} {I : Mi} {J : Ml} {own : String} {cc : ByteArray} {n d pc : Nat} {lo lo' : List (Option Value)} {st : List Value}
theorem V_if_eqB (ok : Ok E G own cc n d) {p : Prop} [Decidable p] {off : Int} {tgt : Nat} (hd : decode cc pc = .ok (.ifCond .eq off, 3)) (ht : (pc : Int) + off = (tgt : Int)) (kt : ¬ p → V E G I J tgt lo st) (kf : p → V E G I J (pc + 3) lo st) : V E G I J pc lo (.int (bI p) :: st) := V_if_eq ok hd ht (fun h => kt (bI_0.mp h)) (fun h => kf (Decidable.byContradiction fun q => h (bI_0.mpr q)))
theorem V_if_neB (ok : Ok E G own cc n d) {p : Prop} [Decidable p] {off : Int} {tgt : Nat} (hd : decode cc pc = .ok (.ifCond .ne off, 3)) (ht : (pc : Int) + off = (tgt : Int)) (kt : p → V E G I J tgt lo st) (kf : ¬ p → V E G I J (pc + 3) lo st) : V E G I J pc lo (.int (bI p) :: st) := V_if_ne ok hd ht (fun h => kt (Decidable.byContradiction fun q => h (bI_0.mpr q))) (fun h => kf (bI_0.mp h))
end BR
/-- loops -/
theorem loopUp {P : Nat → Prop} (N : Nat) (hN : P N) (hs : ∀ i, i < N → P (i + 1) → P i) : ∀ i, i ≤ N → P i := by
  intro i hi
  obtain ⟨j, rfl⟩ : ∃ j, N = i + j := ⟨N - i, by omega⟩
  induction j generalizing i with
  | zero => exact hN
  | succ j ih =>
    refine hs i (by omega) (ih (i + 1) (by rw [show i + 1 + j = i + (j + 1) by omega]; exact hN) ?_ (by omega))
    intro q hq; exact hs q (by omega)
theorem loopDown {P : Nat → Prop} (h0 : P 0) (hs : ∀ i, P i → P (i + 1)) : ∀ i, P i := fun i => by
  induction i with
  | zero => exact h0
  | succ j ih => exact hs j ih
end
