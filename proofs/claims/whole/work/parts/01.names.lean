-- ===== PART A: goes FIRST, ahead of the names: the tables' words, and 'selects' of the private methods out of them =====
/-- a private method of a class that the tables say can be made, by its rows of tables_1 -/
def lw_okq (q : MethodName × Nat) : Prop := (q.1.cls ≠ "java/lang/invoke/MethodHandle" ∧ q.1.cls ≠ "java/lang/invoke/VarHandle") ∧ Cond.instantiable q.1.cls q.2 ∈ tables_1 ∧ Cond.privateMethod q.1 ∈ tables_1 ∧ Cond.instanceMethod q.1 ∈ tables_1
theorem lw_p0 : lw_okq (⟨"PrivateQueries$Tokens", "cutOne", "(LPrivateQueries$Text;I)I"⟩, 4) := ⟨⟨by decide +kernel, by decide +kernel⟩, List.mem_of_getElem? (i := 131) (by decide +kernel), List.mem_of_getElem? (i := 406) (by decide +kernel), List.mem_of_getElem? (i := 407) (by decide +kernel)⟩
theorem lw_p1 : lw_okq (⟨"PrivateQueries$Tokens", "cutWord", "(LPrivateQueries$Text;I)I"⟩, 4) := ⟨⟨by decide +kernel, by decide +kernel⟩, List.mem_of_getElem? (i := 131) (by decide +kernel), List.mem_of_getElem? (i := 415) (by decide +kernel), List.mem_of_getElem? (i := 416) (by decide +kernel)⟩
theorem lw_p2 : lw_okq (⟨"PrivateQueries$Tokens", "put", "(III)V"⟩, 4) := ⟨⟨by decide +kernel, by decide +kernel⟩, List.mem_of_getElem? (i := 131) (by decide +kernel), List.mem_of_getElem? (i := 419) (by decide +kernel), List.mem_of_getElem? (i := 420) (by decide +kernel)⟩
theorem lw_p3 : lw_okq (⟨"PrivateQueries$Tokens", "cutNumber", "(LPrivateQueries$Text;I)I"⟩, 4) := ⟨⟨by decide +kernel, by decide +kernel⟩, List.mem_of_getElem? (i := 131) (by decide +kernel), List.mem_of_getElem? (i := 510) (by decide +kernel), List.mem_of_getElem? (i := 511) (by decide +kernel)⟩
theorem lw_p4 : lw_okq (⟨"PrivateQueries$Tokens", "cutSign", "(LPrivateQueries$Text;I)I"⟩, 4) := ⟨⟨by decide +kernel, by decide +kernel⟩, List.mem_of_getElem? (i := 131) (by decide +kernel), List.mem_of_getElem? (i := 517) (by decide +kernel), List.mem_of_getElem? (i := 518) (by decide +kernel)⟩
theorem lw_p5 : lw_okq (⟨"PrivateQueries$Parser", "kind", "()I"⟩, 5) := ⟨⟨by decide +kernel, by decide +kernel⟩, List.mem_of_getElem? (i := 532) (by decide +kernel), List.mem_of_getElem? (i := 559) (by decide +kernel), List.mem_of_getElem? (i := 560) (by decide +kernel)⟩
theorem lw_p6 : lw_okq (⟨"PrivateQueries$Parser", "let", "()Z"⟩, 5) := ⟨⟨by decide +kernel, by decide +kernel⟩, List.mem_of_getElem? (i := 532) (by decide +kernel), List.mem_of_getElem? (i := 563) (by decide +kernel), List.mem_of_getElem? (i := 564) (by decide +kernel)⟩
theorem lw_p7 : lw_okq (⟨"PrivateQueries$Parser", "value", "()I"⟩, 5) := ⟨⟨by decide +kernel, by decide +kernel⟩, List.mem_of_getElem? (i := 532) (by decide +kernel), List.mem_of_getElem? (i := 568) (by decide +kernel), List.mem_of_getElem? (i := 569) (by decide +kernel)⟩
theorem lw_p8 : lw_okq (⟨"PrivateQueries$Parser", "take", "(I)Z"⟩, 5) := ⟨⟨by decide +kernel, by decide +kernel⟩, List.mem_of_getElem? (i := 532) (by decide +kernel), List.mem_of_getElem? (i := 580) (by decide +kernel), List.mem_of_getElem? (i := 581) (by decide +kernel)⟩
theorem lw_p9 : lw_okq (⟨"PrivateQueries$Parser", "condition", "(I)Z"⟩, 5) := ⟨⟨by decide +kernel, by decide +kernel⟩, List.mem_of_getElem? (i := 532) (by decide +kernel), List.mem_of_getElem? (i := 584) (by decide +kernel), List.mem_of_getElem? (i := 585) (by decide +kernel)⟩
theorem lw_p10 : lw_okq (⟨"PrivateQueries$Parser", "truth", "(I)Z"⟩, 5) := ⟨⟨by decide +kernel, by decide +kernel⟩, List.mem_of_getElem? (i := 532) (by decide +kernel), List.mem_of_getElem? (i := 588) (by decide +kernel), List.mem_of_getElem? (i := 589) (by decide +kernel)⟩
theorem lw_p11 : lw_okq (⟨"PrivateQueries$Parser", "takeDeeper", "(I)Z"⟩, 5) := ⟨⟨by decide +kernel, by decide +kernel⟩, List.mem_of_getElem? (i := 532) (by decide +kernel), List.mem_of_getElem? (i := 592) (by decide +kernel), List.mem_of_getElem? (i := 593) (by decide +kernel)⟩
theorem lw_p12 : lw_okq (⟨"PrivateQueries$Parser", "takeJoint", "()Z"⟩, 5) := ⟨⟨by decide +kernel, by decide +kernel⟩, List.mem_of_getElem? (i := 532) (by decide +kernel), List.mem_of_getElem? (i := 600) (by decide +kernel), List.mem_of_getElem? (i := 601) (by decide +kernel)⟩
theorem lw_p13 : lw_okq (⟨"PrivateQueries$Parser", "sum", "(I)Z"⟩, 5) := ⟨⟨by decide +kernel, by decide +kernel⟩, List.mem_of_getElem? (i := 532) (by decide +kernel), List.mem_of_getElem? (i := 604) (by decide +kernel), List.mem_of_getElem? (i := 605) (by decide +kernel)⟩
theorem lw_p14 : lw_okq (⟨"PrivateQueries$Parser", "factor", "(I)Z"⟩, 5) := ⟨⟨by decide +kernel, by decide +kernel⟩, List.mem_of_getElem? (i := 532) (by decide +kernel), List.mem_of_getElem? (i := 608) (by decide +kernel), List.mem_of_getElem? (i := 609) (by decide +kernel)⟩
theorem lw_p15 : lw_okq (⟨"PrivateQueries$Parser", "asks", "()Z"⟩, 5) := ⟨⟨by decide +kernel, by decide +kernel⟩, List.mem_of_getElem? (i := 532) (by decide +kernel), List.mem_of_getElem? (i := 617) (by decide +kernel), List.mem_of_getElem? (i := 618) (by decide +kernel)⟩
def lw_privs_1 : List (MethodName × Nat) := [(⟨"PrivateQueries$Tokens", "cutOne", "(LPrivateQueries$Text;I)I"⟩, 4), (⟨"PrivateQueries$Tokens", "cutWord", "(LPrivateQueries$Text;I)I"⟩, 4), (⟨"PrivateQueries$Tokens", "put", "(III)V"⟩, 4), (⟨"PrivateQueries$Tokens", "cutNumber", "(LPrivateQueries$Text;I)I"⟩, 4), (⟨"PrivateQueries$Tokens", "cutSign", "(LPrivateQueries$Text;I)I"⟩, 4), (⟨"PrivateQueries$Parser", "kind", "()I"⟩, 5), (⟨"PrivateQueries$Parser", "let", "()Z"⟩, 5), (⟨"PrivateQueries$Parser", "value", "()I"⟩, 5), (⟨"PrivateQueries$Parser", "take", "(I)Z"⟩, 5), (⟨"PrivateQueries$Parser", "condition", "(I)Z"⟩, 5), (⟨"PrivateQueries$Parser", "truth", "(I)Z"⟩, 5), (⟨"PrivateQueries$Parser", "takeDeeper", "(I)Z"⟩, 5), (⟨"PrivateQueries$Parser", "takeJoint", "()Z"⟩, 5), (⟨"PrivateQueries$Parser", "sum", "(I)Z"⟩, 5), (⟨"PrivateQueries$Parser", "factor", "(I)Z"⟩, 5), (⟨"PrivateQueries$Parser", "asks", "()Z"⟩, 5)]
theorem lw_r1 : ∀ q ∈ lw_privs_1, lw_okq q := List.forall_mem_cons.mpr ⟨lw_p0, List.forall_mem_cons.mpr ⟨lw_p1, List.forall_mem_cons.mpr ⟨lw_p2, List.forall_mem_cons.mpr ⟨lw_p3, List.forall_mem_cons.mpr ⟨lw_p4, List.forall_mem_cons.mpr ⟨lw_p5, List.forall_mem_cons.mpr ⟨lw_p6, List.forall_mem_cons.mpr ⟨lw_p7, List.forall_mem_cons.mpr ⟨lw_p8, List.forall_mem_cons.mpr ⟨lw_p9, List.forall_mem_cons.mpr ⟨lw_p10, List.forall_mem_cons.mpr ⟨lw_p11, List.forall_mem_cons.mpr ⟨lw_p12, List.forall_mem_cons.mpr ⟨lw_p13, List.forall_mem_cons.mpr ⟨lw_p14, List.forall_mem_cons.mpr ⟨lw_p15, fun _ h => absurd h List.not_mem_nil⟩⟩⟩⟩⟩⟩⟩⟩⟩⟩⟩⟩⟩⟩⟩⟩
theorem lw_p16 : lw_okq (⟨"PrivateQueries$Parser", "head", "(LPrivateQueries$Question;)Z"⟩, 5) := ⟨⟨by decide +kernel, by decide +kernel⟩, List.mem_of_getElem? (i := 532) (by decide +kernel), List.mem_of_getElem? (i := 628) (by decide +kernel), List.mem_of_getElem? (i := 629) (by decide +kernel)⟩
theorem lw_p17 : lw_okq (⟨"PrivateQueries$Parser", "column", "(LPrivateQueries$Question;)Z"⟩, 5) := ⟨⟨by decide +kernel, by decide +kernel⟩, List.mem_of_getElem? (i := 532) (by decide +kernel), List.mem_of_getElem? (i := 636) (by decide +kernel), List.mem_of_getElem? (i := 637) (by decide +kernel)⟩
theorem lw_p18 : lw_okq (⟨"PrivateQueries$Parser", "bounds", "(LPrivateQueries$Question;)Z"⟩, 5) := ⟨⟨by decide +kernel, by decide +kernel⟩, List.mem_of_getElem? (i := 532) (by decide +kernel), List.mem_of_getElem? (i := 640) (by decide +kernel), List.mem_of_getElem? (i := 641) (by decide +kernel)⟩
theorem lw_p19 : lw_okq (⟨"PrivateQueries$Parser", "isNumber", "(II)Z"⟩, 5) := ⟨⟨by decide +kernel, by decide +kernel⟩, List.mem_of_getElem? (i := 532) (by decide +kernel), List.mem_of_getElem? (i := 644) (by decide +kernel), List.mem_of_getElem? (i := 645) (by decide +kernel)⟩
theorem lw_p20 : lw_okq (⟨"PrivateQueries$Parser", "range", "(LPrivateQueries$Question;)Z"⟩, 5) := ⟨⟨by decide +kernel, by decide +kernel⟩, List.mem_of_getElem? (i := 532) (by decide +kernel), List.mem_of_getElem? (i := 648) (by decide +kernel), List.mem_of_getElem? (i := 649) (by decide +kernel)⟩
theorem lw_p21 : lw_okq (⟨"PrivateQueries$Question", "units", "()I"⟩, 8) := ⟨⟨by decide +kernel, by decide +kernel⟩, List.mem_of_getElem? (i := 180) (by decide +kernel), List.mem_of_getElem? (i := 666) (by decide +kernel), List.mem_of_getElem? (i := 667) (by decide +kernel)⟩
theorem lw_p22 : lw_okq (⟨"PrivateQueries$Script", "settleLets", "(LPrivateQueries$Table;I)V"⟩, 8) := ⟨⟨by decide +kernel, by decide +kernel⟩, List.mem_of_getElem? (i := 125) (by decide +kernel), List.mem_of_getElem? (i := 701) (by decide +kernel), List.mem_of_getElem? (i := 702) (by decide +kernel)⟩
theorem lw_p23 : lw_okq (⟨"PrivateQueries$Conditions", "take", "(IILPrivateQueries$Table;I)V"⟩, 6) := ⟨⟨by decide +kernel, by decide +kernel⟩, List.mem_of_getElem? (i := 153) (by decide +kernel), List.mem_of_getElem? (i := 710) (by decide +kernel), List.mem_of_getElem? (i := 711) (by decide +kernel)⟩
theorem lw_p24 : lw_okq (⟨"PrivateQueries$Conditions", "push", "(I)V"⟩, 6) := ⟨⟨by decide +kernel, by decide +kernel⟩, List.mem_of_getElem? (i := 153) (by decide +kernel), List.mem_of_getElem? (i := 714) (by decide +kernel), List.mem_of_getElem? (i := 715) (by decide +kernel)⟩
theorem lw_p25 : lw_okq (⟨"PrivateQueries$Conditions", "pop", "()I"⟩, 6) := ⟨⟨by decide +kernel, by decide +kernel⟩, List.mem_of_getElem? (i := 153) (by decide +kernel), List.mem_of_getElem? (i := 722) (by decide +kernel), List.mem_of_getElem? (i := 723) (by decide +kernel)⟩
theorem lw_p26 : lw_okq (⟨"PrivateQueries$Script", "enterRow", "(LPrivateQueries$Table;I[I)V"⟩, 8) := ⟨⟨by decide +kernel, by decide +kernel⟩, List.mem_of_getElem? (i := 125) (by decide +kernel), List.mem_of_getElem? (i := 736) (by decide +kernel), List.mem_of_getElem? (i := 737) (by decide +kernel)⟩
theorem lw_p27 : lw_okq (⟨"PrivateQueries", "blur", "()I"⟩, 13) := ⟨⟨by decide +kernel, by decide +kernel⟩, List.mem_of_getElem? (i := 22) (by decide +kernel), List.mem_of_getElem? (i := 751) (by decide +kernel), List.mem_of_getElem? (i := 752) (by decide +kernel)⟩
theorem lw_p28 : lw_okq (⟨"PrivateQueries$Tape", "at", "(I)I"⟩, 4) := ⟨⟨by decide +kernel, by decide +kernel⟩, List.mem_of_getElem? (i := 53) (by decide +kernel), List.mem_of_getElem? (i := 760) (by decide +kernel), List.mem_of_getElem? (i := 761) (by decide +kernel)⟩
theorem lw_p29 : lw_okq (⟨"PrivateQueries$Tokens", "isIdle", "(I)Z"⟩, 4) := ⟨⟨by decide +kernel, by decide +kernel⟩, List.mem_of_getElem? (i := 131) (by decide +kernel), List.mem_of_getElem? (i := 796) (by decide +kernel), List.mem_of_getElem? (i := 797) (by decide +kernel)⟩
theorem lw_p30 : lw_okq (⟨"PrivateQueries$Tokens", "kindAt", "(I)I"⟩, 4) := ⟨⟨by decide +kernel, by decide +kernel⟩, List.mem_of_getElem? (i := 131) (by decide +kernel), List.mem_of_getElem? (i := 800) (by decide +kernel), List.mem_of_getElem? (i := 801) (by decide +kernel)⟩
theorem lw_p31 : lw_okq (⟨"PrivateQueries$Tokens", "valueAt", "(I)I"⟩, 4) := ⟨⟨by decide +kernel, by decide +kernel⟩, List.mem_of_getElem? (i := 131) (by decide +kernel), List.mem_of_getElem? (i := 804) (by decide +kernel), List.mem_of_getElem? (i := 805) (by decide +kernel)⟩
def lw_privs_2 : List (MethodName × Nat) := [(⟨"PrivateQueries$Parser", "head", "(LPrivateQueries$Question;)Z"⟩, 5), (⟨"PrivateQueries$Parser", "column", "(LPrivateQueries$Question;)Z"⟩, 5), (⟨"PrivateQueries$Parser", "bounds", "(LPrivateQueries$Question;)Z"⟩, 5), (⟨"PrivateQueries$Parser", "isNumber", "(II)Z"⟩, 5), (⟨"PrivateQueries$Parser", "range", "(LPrivateQueries$Question;)Z"⟩, 5), (⟨"PrivateQueries$Question", "units", "()I"⟩, 8), (⟨"PrivateQueries$Script", "settleLets", "(LPrivateQueries$Table;I)V"⟩, 8), (⟨"PrivateQueries$Conditions", "take", "(IILPrivateQueries$Table;I)V"⟩, 6), (⟨"PrivateQueries$Conditions", "push", "(I)V"⟩, 6), (⟨"PrivateQueries$Conditions", "pop", "()I"⟩, 6), (⟨"PrivateQueries$Script", "enterRow", "(LPrivateQueries$Table;I[I)V"⟩, 8), (⟨"PrivateQueries", "blur", "()I"⟩, 13), (⟨"PrivateQueries$Tape", "at", "(I)I"⟩, 4), (⟨"PrivateQueries$Tokens", "isIdle", "(I)Z"⟩, 4), (⟨"PrivateQueries$Tokens", "kindAt", "(I)I"⟩, 4), (⟨"PrivateQueries$Tokens", "valueAt", "(I)I"⟩, 4)]
theorem lw_r2 : ∀ q ∈ lw_privs_2, lw_okq q := List.forall_mem_cons.mpr ⟨lw_p16, List.forall_mem_cons.mpr ⟨lw_p17, List.forall_mem_cons.mpr ⟨lw_p18, List.forall_mem_cons.mpr ⟨lw_p19, List.forall_mem_cons.mpr ⟨lw_p20, List.forall_mem_cons.mpr ⟨lw_p21, List.forall_mem_cons.mpr ⟨lw_p22, List.forall_mem_cons.mpr ⟨lw_p23, List.forall_mem_cons.mpr ⟨lw_p24, List.forall_mem_cons.mpr ⟨lw_p25, List.forall_mem_cons.mpr ⟨lw_p26, List.forall_mem_cons.mpr ⟨lw_p27, List.forall_mem_cons.mpr ⟨lw_p28, List.forall_mem_cons.mpr ⟨lw_p29, List.forall_mem_cons.mpr ⟨lw_p30, List.forall_mem_cons.mpr ⟨lw_p31, fun _ h => absurd h List.not_mem_nil⟩⟩⟩⟩⟩⟩⟩⟩⟩⟩⟩⟩⟩⟩⟩⟩
theorem lw_p32 : lw_okq (⟨"PrivateQueries", "workOutShare", "(III)V"⟩, 13) := ⟨⟨by decide +kernel, by decide +kernel⟩, List.mem_of_getElem? (i := 22) (by decide +kernel), List.mem_of_getElem? (i := 835) (by decide +kernel), List.mem_of_getElem? (i := 836) (by decide +kernel)⟩
theorem lw_p33 : lw_okq (⟨"PrivateQueries$Product", "timesOnce", "(I)V"⟩, 2) := ⟨⟨by decide +kernel, by decide +kernel⟩, List.mem_of_getElem? (i := 112) (by decide +kernel), List.mem_of_getElem? (i := 850) (by decide +kernel), List.mem_of_getElem? (i := 851) (by decide +kernel)⟩
theorem lw_p34 : lw_okq (⟨"PrivateQueriesModel", "isCell", "(I)Z"⟩, 64) := ⟨⟨by decide +kernel, by decide +kernel⟩, List.mem_of_getElem? (i := 876) (by decide +kernel), List.mem_of_getElem? (i := 1090) (by decide +kernel), List.mem_of_getElem? (i := 1091) (by decide +kernel)⟩
theorem lw_p35 : lw_okq (⟨"PrivateQueriesModel", "look", "()V"⟩, 64) := ⟨⟨by decide +kernel, by decide +kernel⟩, List.mem_of_getElem? (i := 876) (by decide +kernel), List.mem_of_getElem? (i := 1116) (by decide +kernel), List.mem_of_getElem? (i := 1117) (by decide +kernel)⟩
theorem lw_p36 : lw_okq (⟨"PrivateQueriesModel", "classify", "(II)I"⟩, 64) := ⟨⟨by decide +kernel, by decide +kernel⟩, List.mem_of_getElem? (i := 876) (by decide +kernel), List.mem_of_getElem? (i := 1123) (by decide +kernel), List.mem_of_getElem? (i := 1124) (by decide +kernel)⟩
theorem lw_p37 : lw_okq (⟨"PrivateQueriesModel", "wordAt", "(II)I"⟩, 64) := ⟨⟨by decide +kernel, by decide +kernel⟩, List.mem_of_getElem? (i := 876) (by decide +kernel), List.mem_of_getElem? (i := 1127) (by decide +kernel), List.mem_of_getElem? (i := 1128) (by decide +kernel)⟩
theorem lw_p38 : lw_okq (⟨"PrivateQueriesModel", "readNumber", "()V"⟩, 64) := ⟨⟨by decide +kernel, by decide +kernel⟩, List.mem_of_getElem? (i := 876) (by decide +kernel), List.mem_of_getElem? (i := 1137) (by decide +kernel), List.mem_of_getElem? (i := 1138) (by decide +kernel)⟩
theorem lw_p39 : lw_okq (⟨"PrivateQueriesModel", "compareSign", "()V"⟩, 64) := ⟨⟨by decide +kernel, by decide +kernel⟩, List.mem_of_getElem? (i := 876) (by decide +kernel), List.mem_of_getElem? (i := 1145) (by decide +kernel), List.mem_of_getElem? (i := 1146) (by decide +kernel)⟩
theorem lw_p40 : lw_okq (⟨"PrivateQueriesModel", "peek", "(I)I"⟩, 64) := ⟨⟨by decide +kernel, by decide +kernel⟩, List.mem_of_getElem? (i := 876) (by decide +kernel), List.mem_of_getElem? (i := 1149) (by decide +kernel), List.mem_of_getElem? (i := 1150) (by decide +kernel)⟩
theorem lw_p41 : lw_okq (⟨"PrivateQueriesModel", "signKind", "(I)I"⟩, 64) := ⟨⟨by decide +kernel, by decide +kernel⟩, List.mem_of_getElem? (i := 876) (by decide +kernel), List.mem_of_getElem? (i := 1153) (by decide +kernel), List.mem_of_getElem? (i := 1154) (by decide +kernel)⟩
theorem lw_p42 : lw_okq (⟨"PrivateQueriesModel", "readStatement", "()Z"⟩, 64) := ⟨⟨by decide +kernel, by decide +kernel⟩, List.mem_of_getElem? (i := 876) (by decide +kernel), List.mem_of_getElem? (i := 1157) (by decide +kernel), List.mem_of_getElem? (i := 1158) (by decide +kernel)⟩
theorem lw_p43 : lw_okq (⟨"PrivateQueriesModel", "readLet", "()Z"⟩, 64) := ⟨⟨by decide +kernel, by decide +kernel⟩, List.mem_of_getElem? (i := 876) (by decide +kernel), List.mem_of_getElem? (i := 1161) (by decide +kernel), List.mem_of_getElem? (i := 1162) (by decide +kernel)⟩
theorem lw_p44 : lw_okq (⟨"PrivateQueriesModel", "pass", "()Z"⟩, 64) := ⟨⟨by decide +kernel, by decide +kernel⟩, List.mem_of_getElem? (i := 876) (by decide +kernel), List.mem_of_getElem? (i := 1165) (by decide +kernel), List.mem_of_getElem? (i := 1166) (by decide +kernel)⟩
theorem lw_p45 : lw_okq (⟨"PrivateQueriesModel", "passOne", "(I)Z"⟩, 64) := ⟨⟨by decide +kernel, by decide +kernel⟩, List.mem_of_getElem? (i := 876) (by decide +kernel), List.mem_of_getElem? (i := 1169) (by decide +kernel), List.mem_of_getElem? (i := 1170) (by decide +kernel)⟩
theorem lw_p46 : lw_okq (⟨"PrivateQueriesModel", "readCondition", "()Z"⟩, 64) := ⟨⟨by decide +kernel, by decide +kernel⟩, List.mem_of_getElem? (i := 876) (by decide +kernel), List.mem_of_getElem? (i := 1173) (by decide +kernel), List.mem_of_getElem? (i := 1174) (by decide +kernel)⟩
theorem lw_p47 : lw_okq (⟨"PrivateQueriesModel", "want", "(II)V"⟩, 64) := ⟨⟨by decide +kernel, by decide +kernel⟩, List.mem_of_getElem? (i := 876) (by decide +kernel), List.mem_of_getElem? (i := 1177) (by decide +kernel), List.mem_of_getElem? (i := 1178) (by decide +kernel)⟩
def lw_privs_3 : List (MethodName × Nat) := [(⟨"PrivateQueries", "workOutShare", "(III)V"⟩, 13), (⟨"PrivateQueries$Product", "timesOnce", "(I)V"⟩, 2), (⟨"PrivateQueriesModel", "isCell", "(I)Z"⟩, 64), (⟨"PrivateQueriesModel", "look", "()V"⟩, 64), (⟨"PrivateQueriesModel", "classify", "(II)I"⟩, 64), (⟨"PrivateQueriesModel", "wordAt", "(II)I"⟩, 64), (⟨"PrivateQueriesModel", "readNumber", "()V"⟩, 64), (⟨"PrivateQueriesModel", "compareSign", "()V"⟩, 64), (⟨"PrivateQueriesModel", "peek", "(I)I"⟩, 64), (⟨"PrivateQueriesModel", "signKind", "(I)I"⟩, 64), (⟨"PrivateQueriesModel", "readStatement", "()Z"⟩, 64), (⟨"PrivateQueriesModel", "readLet", "()Z"⟩, 64), (⟨"PrivateQueriesModel", "pass", "()Z"⟩, 64), (⟨"PrivateQueriesModel", "passOne", "(I)Z"⟩, 64), (⟨"PrivateQueriesModel", "readCondition", "()Z"⟩, 64), (⟨"PrivateQueriesModel", "want", "(II)V"⟩, 64)]
theorem lw_r3 : ∀ q ∈ lw_privs_3, lw_okq q := List.forall_mem_cons.mpr ⟨lw_p32, List.forall_mem_cons.mpr ⟨lw_p33, List.forall_mem_cons.mpr ⟨lw_p34, List.forall_mem_cons.mpr ⟨lw_p35, List.forall_mem_cons.mpr ⟨lw_p36, List.forall_mem_cons.mpr ⟨lw_p37, List.forall_mem_cons.mpr ⟨lw_p38, List.forall_mem_cons.mpr ⟨lw_p39, List.forall_mem_cons.mpr ⟨lw_p40, List.forall_mem_cons.mpr ⟨lw_p41, List.forall_mem_cons.mpr ⟨lw_p42, List.forall_mem_cons.mpr ⟨lw_p43, List.forall_mem_cons.mpr ⟨lw_p44, List.forall_mem_cons.mpr ⟨lw_p45, List.forall_mem_cons.mpr ⟨lw_p46, List.forall_mem_cons.mpr ⟨lw_p47, fun _ h => absurd h List.not_mem_nil⟩⟩⟩⟩⟩⟩⟩⟩⟩⟩⟩⟩⟩⟩⟩⟩
theorem lw_p48 : lw_okq (⟨"PrivateQueriesModel", "reach", "(II)Z"⟩, 64) := ⟨⟨by decide +kernel, by decide +kernel⟩, List.mem_of_getElem? (i := 876) (by decide +kernel), List.mem_of_getElem? (i := 1181) (by decide +kernel), List.mem_of_getElem? (i := 1182) (by decide +kernel)⟩
theorem lw_p49 : lw_okq (⟨"PrivateQueriesModel", "more", "(IIIIZ)Z"⟩, 64) := ⟨⟨by decide +kernel, by decide +kernel⟩, List.mem_of_getElem? (i := 876) (by decide +kernel), List.mem_of_getElem? (i := 1185) (by decide +kernel), List.mem_of_getElem? (i := 1186) (by decide +kernel)⟩
theorem lw_p50 : lw_okq (⟨"PrivateQueriesModel", "ask", "()Z"⟩, 64) := ⟨⟨by decide +kernel, by decide +kernel⟩, List.mem_of_getElem? (i := 876) (by decide +kernel), List.mem_of_getElem? (i := 1189) (by decide +kernel), List.mem_of_getElem? (i := 1190) (by decide +kernel)⟩
theorem lw_p51 : lw_okq (⟨"PrivateQueriesModel", "readNot", "()Z"⟩, 64) := ⟨⟨by decide +kernel, by decide +kernel⟩, List.mem_of_getElem? (i := 876) (by decide +kernel), List.mem_of_getElem? (i := 1193) (by decide +kernel), List.mem_of_getElem? (i := 1194) (by decide +kernel)⟩
theorem lw_p52 : lw_okq (⟨"PrivateQueriesModel", "deeper", "()Z"⟩, 64) := ⟨⟨by decide +kernel, by decide +kernel⟩, List.mem_of_getElem? (i := 876) (by decide +kernel), List.mem_of_getElem? (i := 1197) (by decide +kernel), List.mem_of_getElem? (i := 1198) (by decide +kernel)⟩
theorem lw_p53 : lw_okq (⟨"PrivateQueriesModel", "lay", "(II)V"⟩, 64) := ⟨⟨by decide +kernel, by decide +kernel⟩, List.mem_of_getElem? (i := 876) (by decide +kernel), List.mem_of_getElem? (i := 1201) (by decide +kernel), List.mem_of_getElem? (i := 1202) (by decide +kernel)⟩
theorem lw_p54 : lw_okq (⟨"PrivateQueriesModel", "isSumStart", "()Z"⟩, 64) := ⟨⟨by decide +kernel, by decide +kernel⟩, List.mem_of_getElem? (i := 876) (by decide +kernel), List.mem_of_getElem? (i := 1205) (by decide +kernel), List.mem_of_getElem? (i := 1206) (by decide +kernel)⟩
theorem lw_p55 : lw_okq (⟨"PrivateQueriesModel", "readFactor", "()Z"⟩, 64) := ⟨⟨by decide +kernel, by decide +kernel⟩, List.mem_of_getElem? (i := 876) (by decide +kernel), List.mem_of_getElem? (i := 1209) (by decide +kernel), List.mem_of_getElem? (i := 1210) (by decide +kernel)⟩
theorem lw_p56 : lw_okq (⟨"PrivateQueriesModel", "readSign", "()Z"⟩, 64) := ⟨⟨by decide +kernel, by decide +kernel⟩, List.mem_of_getElem? (i := 876) (by decide +kernel), List.mem_of_getElem? (i := 1213) (by decide +kernel), List.mem_of_getElem? (i := 1214) (by decide +kernel)⟩
theorem lw_p57 : lw_okq (⟨"PrivateQueriesModel", "close", "(I)Z"⟩, 64) := ⟨⟨by decide +kernel, by decide +kernel⟩, List.mem_of_getElem? (i := 876) (by decide +kernel), List.mem_of_getElem? (i := 1217) (by decide +kernel), List.mem_of_getElem? (i := 1218) (by decide +kernel)⟩
theorem lw_p58 : lw_okq (⟨"PrivateQueriesModel", "readQuestion", "()Z"⟩, 64) := ⟨⟨by decide +kernel, by decide +kernel⟩, List.mem_of_getElem? (i := 876) (by decide +kernel), List.mem_of_getElem? (i := 1221) (by decide +kernel), List.mem_of_getElem? (i := 1222) (by decide +kernel)⟩
theorem lw_p59 : lw_okq (⟨"PrivateQueriesModel", "readWhere", "(I)Z"⟩, 64) := ⟨⟨by decide +kernel, by decide +kernel⟩, List.mem_of_getElem? (i := 876) (by decide +kernel), List.mem_of_getElem? (i := 1225) (by decide +kernel), List.mem_of_getElem? (i := 1226) (by decide +kernel)⟩
theorem lw_p60 : lw_okq (⟨"PrivateQueriesModel", "passNumber", "(II)Z"⟩, 64) := ⟨⟨by decide +kernel, by decide +kernel⟩, List.mem_of_getElem? (i := 876) (by decide +kernel), List.mem_of_getElem? (i := 1229) (by decide +kernel), List.mem_of_getElem? (i := 1230) (by decide +kernel)⟩
theorem lw_p61 : lw_okq (⟨"PrivateQueriesModel", "readSum", "(I)Z"⟩, 64) := ⟨⟨by decide +kernel, by decide +kernel⟩, List.mem_of_getElem? (i := 876) (by decide +kernel), List.mem_of_getElem? (i := 1233) (by decide +kernel), List.mem_of_getElem? (i := 1234) (by decide +kernel)⟩
theorem lw_p62 : lw_okq (⟨"PrivateQueriesModel", "readColumn", "(I)Z"⟩, 64) := ⟨⟨by decide +kernel, by decide +kernel⟩, List.mem_of_getElem? (i := 876) (by decide +kernel), List.mem_of_getElem? (i := 1237) (by decide +kernel), List.mem_of_getElem? (i := 1238) (by decide +kernel)⟩
theorem lw_p63 : lw_okq (⟨"PrivateQueriesModel", "readBins", "(I)Z"⟩, 64) := ⟨⟨by decide +kernel, by decide +kernel⟩, List.mem_of_getElem? (i := 876) (by decide +kernel), List.mem_of_getElem? (i := 1241) (by decide +kernel), List.mem_of_getElem? (i := 1242) (by decide +kernel)⟩
def lw_privs_4 : List (MethodName × Nat) := [(⟨"PrivateQueriesModel", "reach", "(II)Z"⟩, 64), (⟨"PrivateQueriesModel", "more", "(IIIIZ)Z"⟩, 64), (⟨"PrivateQueriesModel", "ask", "()Z"⟩, 64), (⟨"PrivateQueriesModel", "readNot", "()Z"⟩, 64), (⟨"PrivateQueriesModel", "deeper", "()Z"⟩, 64), (⟨"PrivateQueriesModel", "lay", "(II)V"⟩, 64), (⟨"PrivateQueriesModel", "isSumStart", "()Z"⟩, 64), (⟨"PrivateQueriesModel", "readFactor", "()Z"⟩, 64), (⟨"PrivateQueriesModel", "readSign", "()Z"⟩, 64), (⟨"PrivateQueriesModel", "close", "(I)Z"⟩, 64), (⟨"PrivateQueriesModel", "readQuestion", "()Z"⟩, 64), (⟨"PrivateQueriesModel", "readWhere", "(I)Z"⟩, 64), (⟨"PrivateQueriesModel", "passNumber", "(II)Z"⟩, 64), (⟨"PrivateQueriesModel", "readSum", "(I)Z"⟩, 64), (⟨"PrivateQueriesModel", "readColumn", "(I)Z"⟩, 64), (⟨"PrivateQueriesModel", "readBins", "(I)Z"⟩, 64)]
theorem lw_r4 : ∀ q ∈ lw_privs_4, lw_okq q := List.forall_mem_cons.mpr ⟨lw_p48, List.forall_mem_cons.mpr ⟨lw_p49, List.forall_mem_cons.mpr ⟨lw_p50, List.forall_mem_cons.mpr ⟨lw_p51, List.forall_mem_cons.mpr ⟨lw_p52, List.forall_mem_cons.mpr ⟨lw_p53, List.forall_mem_cons.mpr ⟨lw_p54, List.forall_mem_cons.mpr ⟨lw_p55, List.forall_mem_cons.mpr ⟨lw_p56, List.forall_mem_cons.mpr ⟨lw_p57, List.forall_mem_cons.mpr ⟨lw_p58, List.forall_mem_cons.mpr ⟨lw_p59, List.forall_mem_cons.mpr ⟨lw_p60, List.forall_mem_cons.mpr ⟨lw_p61, List.forall_mem_cons.mpr ⟨lw_p62, List.forall_mem_cons.mpr ⟨lw_p63, fun _ h => absurd h List.not_mem_nil⟩⟩⟩⟩⟩⟩⟩⟩⟩⟩⟩⟩⟩⟩⟩⟩
theorem lw_p64 : lw_okq (⟨"PrivateQueriesModel", "take", "()V"⟩, 64) := ⟨⟨by decide +kernel, by decide +kernel⟩, List.mem_of_getElem? (i := 876) (by decide +kernel), List.mem_of_getElem? (i := 1246) (by decide +kernel), List.mem_of_getElem? (i := 1247) (by decide +kernel)⟩
theorem lw_p65 : lw_okq (⟨"PrivateQueriesModel", "aspect", "(II)I"⟩, 64) := ⟨⟨by decide +kernel, by decide +kernel⟩, List.mem_of_getElem? (i := 876) (by decide +kernel), List.mem_of_getElem? (i := 1254) (by decide +kernel), List.mem_of_getElem? (i := 1255) (by decide +kernel)⟩
theorem lw_p66 : lw_okq (⟨"PrivateQueriesModel", "unitsOf", "(I)I"⟩, 64) := ⟨⟨by decide +kernel, by decide +kernel⟩, List.mem_of_getElem? (i := 876) (by decide +kernel), List.mem_of_getElem? (i := 1258) (by decide +kernel), List.mem_of_getElem? (i := 1259) (by decide +kernel)⟩
theorem lw_p67 : lw_okq (⟨"PrivateQueriesModel", "numbersOf", "(I)I"⟩, 64) := ⟨⟨by decide +kernel, by decide +kernel⟩, List.mem_of_getElem? (i := 876) (by decide +kernel), List.mem_of_getElem? (i := 1262) (by decide +kernel), List.mem_of_getElem? (i := 1263) (by decide +kernel)⟩
theorem lw_p68 : lw_okq (⟨"PrivateQueriesModel", "wanted", "(I)I"⟩, 64) := ⟨⟨by decide +kernel, by decide +kernel⟩, List.mem_of_getElem? (i := 876) (by decide +kernel), List.mem_of_getElem? (i := 1270) (by decide +kernel), List.mem_of_getElem? (i := 1271) (by decide +kernel)⟩
theorem lw_p69 : lw_okq (⟨"PrivateQueriesModel", "numberOf", "(II)I"⟩, 64) := ⟨⟨by decide +kernel, by decide +kernel⟩, List.mem_of_getElem? (i := 876) (by decide +kernel), List.mem_of_getElem? (i := 1278) (by decide +kernel), List.mem_of_getElem? (i := 1279) (by decide +kernel)⟩
theorem lw_p70 : lw_okq (⟨"PrivateQueriesModel", "holds", "(II)Z"⟩, 64) := ⟨⟨by decide +kernel, by decide +kernel⟩, List.mem_of_getElem? (i := 876) (by decide +kernel), List.mem_of_getElem? (i := 1282) (by decide +kernel), List.mem_of_getElem? (i := 1283) (by decide +kernel)⟩
theorem lw_p71 : lw_okq (⟨"PrivateQueriesModel", "work", "(III)I"⟩, 64) := ⟨⟨by decide +kernel, by decide +kernel⟩, List.mem_of_getElem? (i := 876) (by decide +kernel), List.mem_of_getElem? (i := 1286) (by decide +kernel), List.mem_of_getElem? (i := 1287) (by decide +kernel)⟩
theorem lw_p72 : lw_okq (⟨"PrivateQueriesModel", "noiseAt", "(II)I"⟩, 64) := ⟨⟨by decide +kernel, by decide +kernel⟩, List.mem_of_getElem? (i := 876) (by decide +kernel), List.mem_of_getElem? (i := 1296) (by decide +kernel), List.mem_of_getElem? (i := 1297) (by decide +kernel)⟩
theorem lw_p73 : lw_okq (⟨"PrivateQueriesModel", "write", "(I)V"⟩, 64) := ⟨⟨by decide +kernel, by decide +kernel⟩, List.mem_of_getElem? (i := 876) (by decide +kernel), List.mem_of_getElem? (i := 1312) (by decide +kernel), List.mem_of_getElem? (i := 1313) (by decide +kernel)⟩
theorem lw_p74 : lw_okq (⟨"PrivateQueriesModel", "writeToken", "(I)V"⟩, 64) := ⟨⟨by decide +kernel, by decide +kernel⟩, List.mem_of_getElem? (i := 876) (by decide +kernel), List.mem_of_getElem? (i := 1316) (by decide +kernel), List.mem_of_getElem? (i := 1317) (by decide +kernel)⟩
theorem lw_p75 : lw_okq (⟨"PrivateQueriesModel", "writeWord", "(I)V"⟩, 64) := ⟨⟨by decide +kernel, by decide +kernel⟩, List.mem_of_getElem? (i := 876) (by decide +kernel), List.mem_of_getElem? (i := 1320) (by decide +kernel), List.mem_of_getElem? (i := 1321) (by decide +kernel)⟩
theorem lw_p76 : lw_okq (⟨"PrivateQueriesModel", "writeLetters", "(IIIII)V"⟩, 64) := ⟨⟨by decide +kernel, by decide +kernel⟩, List.mem_of_getElem? (i := 876) (by decide +kernel), List.mem_of_getElem? (i := 1324) (by decide +kernel), List.mem_of_getElem? (i := 1325) (by decide +kernel)⟩
theorem lw_p77 : lw_okq (⟨"PrivateQueriesModel", "writeNumber", "(I)V"⟩, 64) := ⟨⟨by decide +kernel, by decide +kernel⟩, List.mem_of_getElem? (i := 876) (by decide +kernel), List.mem_of_getElem? (i := 1328) (by decide +kernel), List.mem_of_getElem? (i := 1329) (by decide +kernel)⟩
theorem lw_p78 : lw_okq (⟨"PrivateQueriesModel", "writeSign", "(I)V"⟩, 64) := ⟨⟨by decide +kernel, by decide +kernel⟩, List.mem_of_getElem? (i := 876) (by decide +kernel), List.mem_of_getElem? (i := 1332) (by decide +kernel), List.mem_of_getElem? (i := 1333) (by decide +kernel)⟩
theorem lw_p79 : lw_okq (⟨"PrivateQueriesModel", "shareInto", "([IIII)V"⟩, 64) := ⟨⟨by decide +kernel, by decide +kernel⟩, List.mem_of_getElem? (i := 876) (by decide +kernel), List.mem_of_getElem? (i := 1344) (by decide +kernel), List.mem_of_getElem? (i := 1345) (by decide +kernel)⟩
def lw_privs_5 : List (MethodName × Nat) := [(⟨"PrivateQueriesModel", "take", "()V"⟩, 64), (⟨"PrivateQueriesModel", "aspect", "(II)I"⟩, 64), (⟨"PrivateQueriesModel", "unitsOf", "(I)I"⟩, 64), (⟨"PrivateQueriesModel", "numbersOf", "(I)I"⟩, 64), (⟨"PrivateQueriesModel", "wanted", "(I)I"⟩, 64), (⟨"PrivateQueriesModel", "numberOf", "(II)I"⟩, 64), (⟨"PrivateQueriesModel", "holds", "(II)Z"⟩, 64), (⟨"PrivateQueriesModel", "work", "(III)I"⟩, 64), (⟨"PrivateQueriesModel", "noiseAt", "(II)I"⟩, 64), (⟨"PrivateQueriesModel", "write", "(I)V"⟩, 64), (⟨"PrivateQueriesModel", "writeToken", "(I)V"⟩, 64), (⟨"PrivateQueriesModel", "writeWord", "(I)V"⟩, 64), (⟨"PrivateQueriesModel", "writeLetters", "(IIIII)V"⟩, 64), (⟨"PrivateQueriesModel", "writeNumber", "(I)V"⟩, 64), (⟨"PrivateQueriesModel", "writeSign", "(I)V"⟩, 64), (⟨"PrivateQueriesModel", "shareInto", "([IIII)V"⟩, 64)]
theorem lw_r5 : ∀ q ∈ lw_privs_5, lw_okq q := List.forall_mem_cons.mpr ⟨lw_p64, List.forall_mem_cons.mpr ⟨lw_p65, List.forall_mem_cons.mpr ⟨lw_p66, List.forall_mem_cons.mpr ⟨lw_p67, List.forall_mem_cons.mpr ⟨lw_p68, List.forall_mem_cons.mpr ⟨lw_p69, List.forall_mem_cons.mpr ⟨lw_p70, List.forall_mem_cons.mpr ⟨lw_p71, List.forall_mem_cons.mpr ⟨lw_p72, List.forall_mem_cons.mpr ⟨lw_p73, List.forall_mem_cons.mpr ⟨lw_p74, List.forall_mem_cons.mpr ⟨lw_p75, List.forall_mem_cons.mpr ⟨lw_p76, List.forall_mem_cons.mpr ⟨lw_p77, List.forall_mem_cons.mpr ⟨lw_p78, List.forall_mem_cons.mpr ⟨lw_p79, fun _ h => absurd h List.not_mem_nil⟩⟩⟩⟩⟩⟩⟩⟩⟩⟩⟩⟩⟩⟩⟩⟩
theorem lw_p80 : lw_okq (⟨"PrivateQueriesModel", "begin", "([I)V"⟩, 64) := ⟨⟨by decide +kernel, by decide +kernel⟩, List.mem_of_getElem? (i := 876) (by decide +kernel), List.mem_of_getElem? (i := 1348) (by decide +kernel), List.mem_of_getElem? (i := 1349) (by decide +kernel)⟩
theorem lw_p81 : lw_okq (⟨"PrivateQueriesModel", "grow", "([III)V"⟩, 64) := ⟨⟨by decide +kernel, by decide +kernel⟩, List.mem_of_getElem? (i := 876) (by decide +kernel), List.mem_of_getElem? (i := 1352) (by decide +kernel), List.mem_of_getElem? (i := 1353) (by decide +kernel)⟩
theorem lw_p82 : lw_okq (⟨"PrivateQueriesModel", "isNear", "(IIII)Z"⟩, 64) := ⟨⟨by decide +kernel, by decide +kernel⟩, List.mem_of_getElem? (i := 876) (by decide +kernel), List.mem_of_getElem? (i := 1360) (by decide +kernel), List.mem_of_getElem? (i := 1361) (by decide +kernel)⟩
theorem lw_p83 : lw_okq (⟨"PrivateQueriesModel", "isAtMost", "()Z"⟩, 64) := ⟨⟨by decide +kernel, by decide +kernel⟩, List.mem_of_getElem? (i := 876) (by decide +kernel), List.mem_of_getElem? (i := 1364) (by decide +kernel), List.mem_of_getElem? (i := 1365) (by decide +kernel)⟩
def lw_privs_6 : List (MethodName × Nat) := [(⟨"PrivateQueriesModel", "begin", "([I)V"⟩, 64), (⟨"PrivateQueriesModel", "grow", "([III)V"⟩, 64), (⟨"PrivateQueriesModel", "isNear", "(IIII)Z"⟩, 64), (⟨"PrivateQueriesModel", "isAtMost", "()Z"⟩, 64)]
theorem lw_r6 : ∀ q ∈ lw_privs_6, lw_okq q := List.forall_mem_cons.mpr ⟨lw_p80, List.forall_mem_cons.mpr ⟨lw_p81, List.forall_mem_cons.mpr ⟨lw_p82, List.forall_mem_cons.mpr ⟨lw_p83, fun _ h => absurd h List.not_mem_nil⟩⟩⟩⟩
def lw_privs : List (MethodName × Nat) := lw_privs_1 ++ (lw_privs_2 ++ (lw_privs_3 ++ (lw_privs_4 ++ (lw_privs_5 ++ (lw_privs_6)))))
def lw_tbl : List Cond := k2_sels lw_privs ++ tables_1
theorem lw_privs_ok : ∀ q ∈ lw_privs, lw_okq q := by
  show ∀ q ∈ lw_privs_1 ++ (lw_privs_2 ++ (lw_privs_3 ++ (lw_privs_4 ++ (lw_privs_5 ++ (lw_privs_6))))), lw_okq q
  exact List.forall_mem_append.mpr ⟨lw_r1, List.forall_mem_append.mpr ⟨lw_r2, List.forall_mem_append.mpr ⟨lw_r3, List.forall_mem_append.mpr ⟨lw_r4, List.forall_mem_append.mpr ⟨lw_r5, lw_r6⟩⟩⟩⟩⟩
/-! names: classes (in the order of 'classes'), fields, methods; words by their places in the tables -/
def wG : List Cond := lw_tbl.filter goodWord
theorem wGm {w : Cond} (i : Nat) (h : lw_tbl[i]? = some w) (hg : goodWord w = true) : w ∈ wG := List.mem_filter.mpr ⟨List.mem_of_getElem? h, hg⟩
theorem wGood : GoodIn wG wG := fun w hw => ⟨hw, good_of_word (List.mem_filter.mp hw).2⟩
theorem wGc {c : Cond} (h : c ∈ wG) : GoodIn wG (c :: wG) := fun w hw => by
  rcases List.mem_cons.mp hw with e | e
  · exact wGood w (e ▸ h)
  · exact wGood w e
theorem wGa {a ws : List Cond} (ha : ∀ w ∈ a, w ∈ wG) (h : GoodIn wG ws) : GoodIn wG (a ++ ws) := fun w hw => by
  rcases List.mem_append.mp hw with e | e
  · exact wGood w (ha w e)
  · exact h w e
def rmD (d : Nat) : Room := { frames := d, cells := 0, slots := 0, locals := 64 * d }
def R_PQ : String := "PrivateQueries"
def F_PQ : u_T := fun k => match k with
  | 0 => ("PrivateQueries", "p", "I", true)
  | 1 => ("PrivateQueries", "q", "I", true)
  | 2 => ("PrivateQueries", "table", "LPrivateQueries$Table;", true)
  | 3 => ("PrivateQueries", "tape", "LPrivateQueries$Tape;", true)
  | 4 => ("PrivateQueries", "purses", "LPrivateQueries$Purses;", true)
  | 5 => ("PrivateQueries", "text", "LPrivateQueries$Text;", true)
  | 6 => ("PrivateQueries", "written", "LPrivateQueries$Out;", true)
  | 7 => ("PrivateQueries", "product", "LPrivateQueries$Product;", true)
  | 8 => ("PrivateQueries", "toldNumbers", "[I", true)
  | 9 => ("PrivateQueries", "toldSize", "I", false)
  | 10 => ("PrivateQueries", "script", "LPrivateQueries$Script;", false)
  | 11 => ("PrivateQueries", "spare", "LPrivateQueries$Script;", false)
  | _ => ("PrivateQueries", "hasScript", "Z", false)
def t_PQ : Nat → FieldType := fun k => match k with
  | 0 => .int
  | 1 => .int
  | 2 => .object "PrivateQueries$Table"
  | 3 => .object "PrivateQueries$Tape"
  | 4 => .object "PrivateQueries$Purses"
  | 5 => .object "PrivateQueries$Text"
  | 6 => .object "PrivateQueries$Out"
  | 7 => .object "PrivateQueries$Product"
  | 8 => .array .int
  | 9 => .int
  | 10 => .object "PrivateQueries$Script"
  | 11 => .object "PrivateQueries$Script"
  | _ => .boolean
theorem n_PQ : ∀ a, a < 13 → ∀ b, b < 13 → a ≠ b → (F_PQ a).2.1 ≠ (F_PQ b).2.1 := by decide +kernel
theorem t_PQ_ok : ∀ k, k < 13 → parseFieldDescriptor (F_PQ k).2.2.1 = some (t_PQ k) := by decide +kernel
theorem i_PQ : ∀ w ∈ u_ws R_PQ F_PQ 13, w ∈ wG := by
  intro w hw
  obtain ⟨k, hk, rfl⟩ := List.mem_map.mp hw
  have hk := List.mem_range.mp hk
  have h : ∀ k, k < 13 → lw_tbl[([345, 347, 349, 351, 353, 355, 357, 359, 361, 363, 365, 367, 369] : List Nat).getD k 0]? = some (u_lay R_PQ F_PQ k) ∧ goodWord (u_lay R_PQ F_PQ k) = true := by decide +kernel
  exact wGm _ (h k hk).1 (h k hk).2
def R_Tab : String := "PrivateQueries$Table"
def F_Tab : u_T := fun k => match k with
  | 0 => ("PrivateQueries$Table", "numbers", "[I", true)
  | _ => ("PrivateQueries$Table", "rows", "I", false)
def t_Tab : Nat → FieldType := fun k => match k with
  | 0 => .array .int
  | _ => .int
theorem n_Tab : ∀ a, a < 2 → ∀ b, b < 2 → a ≠ b → (F_Tab a).2.1 ≠ (F_Tab b).2.1 := by decide +kernel
theorem t_Tab_ok : ∀ k, k < 2 → parseFieldDescriptor (F_Tab k).2.2.1 = some (t_Tab k) := by decide +kernel
theorem i_Tab : ∀ w ∈ u_ws R_Tab F_Tab 2, w ∈ wG := by
  intro w hw
  obtain ⟨k, hk, rfl⟩ := List.mem_map.mp hw
  have hk := List.mem_range.mp hk
  have h : ∀ k, k < 2 → lw_tbl[([130, 132] : List Nat).getD k 0]? = some (u_lay R_Tab F_Tab k) ∧ goodWord (u_lay R_Tab F_Tab k) = true := by decide +kernel
  exact wGm _ (h k hk).1 (h k hk).2
def R_Tape : String := "PrivateQueries$Tape"
def F_Tape : u_T := fun k => match k with
  | 0 => ("PrivateQueries$Tape", "p", "I", true)
  | 1 => ("PrivateQueries$Tape", "q", "I", true)
  | 2 => ("PrivateQueries$Tape", "cells", "[I", true)
  | _ => ("PrivateQueries$Tape", "size", "I", false)
def t_Tape : Nat → FieldType := fun k => match k with
  | 0 => .int
  | 1 => .int
  | 2 => .array .int
  | _ => .int
theorem n_Tape : ∀ a, a < 4 → ∀ b, b < 4 → a ≠ b → (F_Tape a).2.1 ≠ (F_Tape b).2.1 := by decide +kernel
theorem t_Tape_ok : ∀ k, k < 4 → parseFieldDescriptor (F_Tape k).2.2.1 = some (t_Tape k) := by decide +kernel
theorem i_Tape : ∀ w ∈ u_ws R_Tape F_Tape 4, w ∈ wG := by
  intro w hw
  obtain ⟨k, hk, rfl⟩ := List.mem_map.mp hw
  have hk := List.mem_range.mp hk
  have h : ∀ k, k < 4 → lw_tbl[([146, 148, 150, 152] : List Nat).getD k 0]? = some (u_lay R_Tape F_Tape k) ∧ goodWord (u_lay R_Tape F_Tape k) = true := by decide +kernel
  exact wGm _ (h k hk).1 (h k hk).2
def R_Pur : String := "PrivateQueries$Purses"
def F_Pur : u_T := fun k => match k with
  | 0 => ("PrivateQueries$Purses", "granted", "[I", true)
  | _ => ("PrivateQueries$Purses", "spent", "[I", true)
def t_Pur : Nat → FieldType := fun k => match k with
  | 0 => .array .int
  | _ => .array .int
theorem n_Pur : ∀ a, a < 2 → ∀ b, b < 2 → a ≠ b → (F_Pur a).2.1 ≠ (F_Pur b).2.1 := by decide +kernel
theorem t_Pur_ok : ∀ k, k < 2 → parseFieldDescriptor (F_Pur k).2.2.1 = some (t_Pur k) := by decide +kernel
theorem i_Pur : ∀ w ∈ u_ws R_Pur F_Pur 2, w ∈ wG := by
  intro w hw
  obtain ⟨k, hk, rfl⟩ := List.mem_map.mp hw
  have hk := List.mem_range.mp hk
  have h : ∀ k, k < 2 → lw_tbl[([163, 165] : List Nat).getD k 0]? = some (u_lay R_Pur F_Pur k) ∧ goodWord (u_lay R_Pur F_Pur k) = true := by decide +kernel
  exact wGm _ (h k hk).1 (h k hk).2
def R_Text : String := "PrivateQueries$Text"
def F_Text : u_T := fun k => match k with
  | 0 => ("PrivateQueries$Text", "signs", "[C", true)
  | _ => ("PrivateQueries$Text", "size", "I", false)
def t_Text : Nat → FieldType := fun k => match k with
  | 0 => .array .char
  | _ => .int
theorem n_Text : ∀ a, a < 2 → ∀ b, b < 2 → a ≠ b → (F_Text a).2.1 ≠ (F_Text b).2.1 := by decide +kernel
theorem t_Text_ok : ∀ k, k < 2 → parseFieldDescriptor (F_Text k).2.2.1 = some (t_Text k) := by decide +kernel
theorem i_Text : ∀ w ∈ u_ws R_Text F_Text 2, w ∈ wG := by
  intro w hw
  obtain ⟨k, hk, rfl⟩ := List.mem_map.mp hw
  have hk := List.mem_range.mp hk
  have h : ∀ k, k < 2 → lw_tbl[([176, 178] : List Nat).getD k 0]? = some (u_lay R_Text F_Text k) ∧ goodWord (u_lay R_Text F_Text k) = true := by decide +kernel
  exact wGm _ (h k hk).1 (h k hk).2
def R_Out : String := "PrivateQueries$Out"
def F_Out : u_T := fun k => match k with
  | 0 => ("PrivateQueries$Out", "signs", "[C", true)
  | _ => ("PrivateQueries$Out", "size", "I", false)
def t_Out : Nat → FieldType := fun k => match k with
  | 0 => .array .char
  | _ => .int
theorem n_Out : ∀ a, a < 2 → ∀ b, b < 2 → a ≠ b → (F_Out a).2.1 ≠ (F_Out b).2.1 := by decide +kernel
theorem t_Out_ok : ∀ k, k < 2 → parseFieldDescriptor (F_Out k).2.2.1 = some (t_Out k) := by decide +kernel
theorem i_Out : ∀ w ∈ u_ws R_Out F_Out 2, w ∈ wG := by
  intro w hw
  obtain ⟨k, hk, rfl⟩ := List.mem_map.mp hw
  have hk := List.mem_range.mp hk
  have h : ∀ k, k < 2 → lw_tbl[([190, 192] : List Nat).getD k 0]? = some (u_lay R_Out F_Out k) ∧ goodWord (u_lay R_Out F_Out k) = true := by decide +kernel
  exact wGm _ (h k hk).1 (h k hk).2
def R_Prod : String := "PrivateQueries$Product"
def F_Prod : u_T := fun k => match k with
  | 0 => ("PrivateQueries$Product", "digits", "[I", true)
  | _ => ("PrivateQueries$Product", "size", "I", false)
def t_Prod : Nat → FieldType := fun k => match k with
  | 0 => .array .int
  | _ => .int
theorem n_Prod : ∀ a, a < 2 → ∀ b, b < 2 → a ≠ b → (F_Prod a).2.1 ≠ (F_Prod b).2.1 := by decide +kernel
theorem t_Prod_ok : ∀ k, k < 2 → parseFieldDescriptor (F_Prod k).2.2.1 = some (t_Prod k) := by decide +kernel
theorem i_Prod : ∀ w ∈ u_ws R_Prod F_Prod 2, w ∈ wG := by
  intro w hw
  obtain ⟨k, hk, rfl⟩ := List.mem_map.mp hw
  have hk := List.mem_range.mp hk
  have h : ∀ k, k < 2 → lw_tbl[([203, 205] : List Nat).getD k 0]? = some (u_lay R_Prod F_Prod k) ∧ goodWord (u_lay R_Prod F_Prod k) = true := by decide +kernel
  exact wGm _ (h k hk).1 (h k hk).2
def R_Tok : String := "PrivateQueries$Tokens"
def F_Tok : u_T := fun k => match k with
  | 0 => ("PrivateQueries$Tokens", "kinds", "[I", true)
  | 1 => ("PrivateQueries$Tokens", "values", "[I", true)
  | 2 => ("PrivateQueries$Tokens", "places", "[I", true)
  | _ => ("PrivateQueries$Tokens", "size", "I", false)
def t_Tok : Nat → FieldType := fun k => match k with
  | 0 => .array .int
  | 1 => .array .int
  | 2 => .array .int
  | _ => .int
theorem n_Tok : ∀ a, a < 4 → ∀ b, b < 4 → a ≠ b → (F_Tok a).2.1 ≠ (F_Tok b).2.1 := by decide +kernel
theorem t_Tok_ok : ∀ k, k < 4 → parseFieldDescriptor (F_Tok k).2.2.1 = some (t_Tok k) := by decide +kernel
theorem i_Tok : ∀ w ∈ u_ws R_Tok F_Tok 4, w ∈ wG := by
  intro w hw
  obtain ⟨k, hk, rfl⟩ := List.mem_map.mp hw
  have hk := List.mem_range.mp hk
  have h : ∀ k, k < 4 → lw_tbl[([227, 229, 231, 233] : List Nat).getD k 0]? = some (u_lay R_Tok F_Tok k) ∧ goodWord (u_lay R_Tok F_Tok k) = true := by decide +kernel
  exact wGm _ (h k hk).1 (h k hk).2
def R_Cond : String := "PrivateQueries$Conditions"
def F_Cond : u_T := fun k => match k with
  | 0 => ("PrivateQueries$Conditions", "steps", "[I", true)
  | 1 => ("PrivateQueries$Conditions", "values", "[I", true)
  | 2 => ("PrivateQueries$Conditions", "size", "I", false)
  | 3 => ("PrivateQueries$Conditions", "stack", "[I", true)
  | 4 => ("PrivateQueries$Conditions", "height", "I", false)
  | _ => ("PrivateQueries$Conditions", "holding", "[Z", true)
def t_Cond : Nat → FieldType := fun k => match k with
  | 0 => .array .int
  | 1 => .array .int
  | 2 => .int
  | 3 => .array .int
  | 4 => .int
  | _ => .array .boolean
theorem n_Cond : ∀ a, a < 6 → ∀ b, b < 6 → a ≠ b → (F_Cond a).2.1 ≠ (F_Cond b).2.1 := by decide +kernel
theorem t_Cond_ok : ∀ k, k < 6 → parseFieldDescriptor (F_Cond k).2.2.1 = some (t_Cond k) := by decide +kernel
theorem i_Cond : ∀ w ∈ u_ws R_Cond F_Cond 6, w ∈ wG := by
  intro w hw
  obtain ⟨k, hk, rfl⟩ := List.mem_map.mp hw
  have hk := List.mem_range.mp hk
  have h : ∀ k, k < 6 → lw_tbl[([248, 250, 252, 254, 256, 258] : List Nat).getD k 0]? = some (u_lay R_Cond F_Cond k) ∧ goodWord (u_lay R_Cond F_Cond k) = true := by decide +kernel
  exact wGm _ (h k hk).1 (h k hk).2
def R_Qu : String := "PrivateQueries$Question"
def F_Qu : u_T := fun k => match k with
  | 0 => ("PrivateQueries$Question", "sort", "I", false)
  | 1 => ("PrivateQueries$Question", "column", "I", false)
  | 2 => ("PrivateQueries$Question", "low", "I", false)
  | 3 => ("PrivateQueries$Question", "high", "I", false)
  | 4 => ("PrivateQueries$Question", "by", "I", false)
  | 5 => ("PrivateQueries$Question", "top", "I", false)
  | 6 => ("PrivateQueries$Question", "start", "I", false)
  | _ => ("PrivateQueries$Question", "end", "I", false)
def t_Qu : Nat → FieldType := fun k => match k with
  | 0 => .int
  | 1 => .int
  | 2 => .int
  | 3 => .int
  | 4 => .int
  | 5 => .int
  | 6 => .int
  | _ => .int
theorem n_Qu : ∀ a, a < 8 → ∀ b, b < 8 → a ≠ b → (F_Qu a).2.1 ≠ (F_Qu b).2.1 := by decide +kernel
theorem t_Qu_ok : ∀ k, k < 8 → parseFieldDescriptor (F_Qu k).2.2.1 = some (t_Qu k) := by decide +kernel
theorem i_Qu : ∀ w ∈ u_ws R_Qu F_Qu 8, w ∈ wG := by
  intro w hw
  obtain ⟨k, hk, rfl⟩ := List.mem_map.mp hw
  have hk := List.mem_range.mp hk
  have h : ∀ k, k < 8 → lw_tbl[([288, 290, 292, 294, 296, 298, 300, 302] : List Nat).getD k 0]? = some (u_lay R_Qu F_Qu k) ∧ goodWord (u_lay R_Qu F_Qu k) = true := by decide +kernel
  exact wGm _ (h k hk).1 (h k hk).2
def R_Scr : String := "PrivateQueries$Script"
def F_Scr : u_T := fun k => match k with
  | 0 => ("PrivateQueries$Script", "tokens", "LPrivateQueries$Tokens;", true)
  | 1 => ("PrivateQueries$Script", "conditions", "LPrivateQueries$Conditions;", true)
  | 2 => ("PrivateQueries$Script", "questions", "[LPrivateQueries$Question;", true)
  | 3 => ("PrivateQueries$Script", "asked", "I", false)
  | 4 => ("PrivateQueries$Script", "letStarts", "[I", true)
  | 5 => ("PrivateQueries$Script", "letEnds", "[I", true)
  | 6 => ("PrivateQueries$Script", "letOfLetter", "[I", true)
  | _ => ("PrivateQueries$Script", "lets", "I", false)
def t_Scr : Nat → FieldType := fun k => match k with
  | 0 => .object "PrivateQueries$Tokens"
  | 1 => .object "PrivateQueries$Conditions"
  | 2 => .array (.object "PrivateQueries$Question")
  | 3 => .int
  | 4 => .array .int
  | 5 => .array .int
  | 6 => .array .int
  | _ => .int
theorem n_Scr : ∀ a, a < 8 → ∀ b, b < 8 → a ≠ b → (F_Scr a).2.1 ≠ (F_Scr b).2.1 := by decide +kernel
theorem t_Scr_ok : ∀ k, k < 8 → parseFieldDescriptor (F_Scr k).2.2.1 = some (t_Scr k) := by decide +kernel
theorem i_Scr : ∀ w ∈ u_ws R_Scr F_Scr 8, w ∈ wG := by
  intro w hw
  obtain ⟨k, hk, rfl⟩ := List.mem_map.mp hw
  have hk := List.mem_range.mp hk
  have h : ∀ k, k < 8 → lw_tbl[([315, 317, 319, 321, 323, 325, 327, 329] : List Nat).getD k 0]? = some (u_lay R_Scr F_Scr k) ∧ goodWord (u_lay R_Scr F_Scr k) = true := by decide +kernel
  exact wGm _ (h k hk).1 (h k hk).2
def R_Par : String := "PrivateQueries$Parser"
def F_Par : u_T := fun k => match k with
  | 0 => ("PrivateQueries$Parser", "script", "LPrivateQueries$Script;", true)
  | 1 => ("PrivateQueries$Parser", "tokens", "LPrivateQueries$Tokens;", true)
  | 2 => ("PrivateQueries$Parser", "conditions", "LPrivateQueries$Conditions;", true)
  | 3 => ("PrivateQueries$Parser", "at", "I", false)
  | _ => ("PrivateQueries$Parser", "joints", "I", false)
def t_Par : Nat → FieldType := fun k => match k with
  | 0 => .object "PrivateQueries$Script"
  | 1 => .object "PrivateQueries$Tokens"
  | 2 => .object "PrivateQueries$Conditions"
  | 3 => .int
  | _ => .int
theorem n_Par : ∀ a, a < 5 → ∀ b, b < 5 → a ≠ b → (F_Par a).2.1 ≠ (F_Par b).2.1 := by decide +kernel
theorem t_Par_ok : ∀ k, k < 5 → parseFieldDescriptor (F_Par k).2.2.1 = some (t_Par k) := by decide +kernel
theorem i_Par : ∀ w ∈ u_ws R_Par F_Par 5, w ∈ wG := by
  intro w hw
  obtain ⟨k, hk, rfl⟩ := List.mem_map.mp hw
  have hk := List.mem_range.mp hk
  have h : ∀ k, k < 5 → lw_tbl[([626, 628, 630, 632, 634] : List Nat).getD k 0]? = some (u_lay R_Par F_Par k) ∧ goodWord (u_lay R_Par F_Par k) = true := by decide +kernel
  exact wGm _ (h k hk).1 (h k hk).2
def R_Mo : String := "PrivateQueriesModel"
def F_Mo : u_T := fun k => match k with
  | 0 => ("PrivateQueriesModel", "p", "I", false)
  | 1 => ("PrivateQueriesModel", "q", "I", false)
  | 2 => ("PrivateQueriesModel", "table", "[I", false)
  | 3 => ("PrivateQueriesModel", "rows", "I", false)
  | 4 => ("PrivateQueriesModel", "tape", "[I", false)
  | 5 => ("PrivateQueriesModel", "cells", "I", false)
  | 6 => ("PrivateQueriesModel", "budget", "[I", false)
  | 7 => ("PrivateQueriesModel", "spent", "[I", false)
  | 8 => ("PrivateQueriesModel", "text", "[I", false)
  | 9 => ("PrivateQueriesModel", "signs", "I", false)
  | 10 => ("PrivateQueriesModel", "kinds", "[I", false)
  | 11 => ("PrivateQueriesModel", "values", "[I", false)
  | 12 => ("PrivateQueriesModel", "tokens", "I", false)
  | 13 => ("PrivateQueriesModel", "scriptKinds", "[I", false)
  | 14 => ("PrivateQueriesModel", "scriptValues", "[I", false)
  | 15 => ("PrivateQueriesModel", "scriptTokens", "I", false)
  | 16 => ("PrivateQueriesModel", "at", "I", false)
  | 17 => ("PrivateQueriesModel", "place", "I", false)
  | 18 => ("PrivateQueriesModel", "kind", "I", false)
  | 19 => ("PrivateQueriesModel", "value", "I", false)
  | 20 => ("PrivateQueriesModel", "depth", "I", false)
  | 21 => ("PrivateQueriesModel", "asked", "I", false)
  | 22 => ("PrivateQueriesModel", "lets", "I", false)
  | 23 => ("PrivateQueriesModel", "questions", "I", false)
  | 24 => ("PrivateQueriesModel", "statements", "I", false)
  | 25 => ("PrivateQueriesModel", "isTold", "[Z", false)
  | 26 => ("PrivateQueriesModel", "letOf", "[I", false)
  | 27 => ("PrivateQueriesModel", "code", "[I", false)
  | 28 => ("PrivateQueriesModel", "size", "I", false)
  | 29 => ("PrivateQueriesModel", "letEnd", "[I", false)
  | 30 => ("PrivateQueriesModel", "letBegin", "[I", false)
  | 31 => ("PrivateQueriesModel", "sort", "[I", false)
  | 32 => ("PrivateQueriesModel", "column", "[I", false)
  | 33 => ("PrivateQueriesModel", "low", "[I", false)
  | 34 => ("PrivateQueriesModel", "high", "[I", false)
  | 35 => ("PrivateQueriesModel", "by", "[I", false)
  | 36 => ("PrivateQueriesModel", "top", "[I", false)
  | 37 => ("PrivateQueriesModel", "begins", "[I", false)
  | 38 => ("PrivateQueriesModel", "ends", "[I", false)
  | 39 => ("PrivateQueriesModel", "hasScript", "Z", false)
  | 40 => ("PrivateQueriesModel", "scriptLets", "I", false)
  | 41 => ("PrivateQueriesModel", "scriptQuestions", "I", false)
  | 42 => ("PrivateQueriesModel", "scriptCode", "[I", false)
  | 43 => ("PrivateQueriesModel", "scriptLetBegin", "[I", false)
  | 44 => ("PrivateQueriesModel", "scriptLetEnd", "[I", false)
  | 45 => ("PrivateQueriesModel", "aSort", "[I", false)
  | 46 => ("PrivateQueriesModel", "aColumn", "[I", false)
  | 47 => ("PrivateQueriesModel", "aLow", "[I", false)
  | 48 => ("PrivateQueriesModel", "aHigh", "[I", false)
  | 49 => ("PrivateQueriesModel", "aBy", "[I", false)
  | 50 => ("PrivateQueriesModel", "aTop", "[I", false)
  | 51 => ("PrivateQueriesModel", "aBegin", "[I", false)
  | 52 => ("PrivateQueriesModel", "anEnd", "[I", false)
  | 53 => ("PrivateQueriesModel", "told", "[I", false)
  | 54 => ("PrivateQueriesModel", "toldCount", "I", false)
  | 55 => ("PrivateQueriesModel", "out", "[I", false)
  | 56 => ("PrivateQueriesModel", "outs", "I", false)
  | 57 => ("PrivateQueriesModel", "goals", "[I", false)
  | 58 => ("PrivateQueriesModel", "withs", "[I", false)
  | 59 => ("PrivateQueriesModel", "goalCount", "I", false)
  | 60 => ("PrivateQueriesModel", "pile", "[I", false)
  | 61 => ("PrivateQueriesModel", "letValue", "[I", false)
  | 62 => ("PrivateQueriesModel", "one", "[I", false)
  | _ => ("PrivateQueriesModel", "two", "[I", false)
def t_Mo : Nat → FieldType := fun k => match k with
  | 0 => .int
  | 1 => .int
  | 2 => .array .int
  | 3 => .int
  | 4 => .array .int
  | 5 => .int
  | 6 => .array .int
  | 7 => .array .int
  | 8 => .array .int
  | 9 => .int
  | 10 => .array .int
  | 11 => .array .int
  | 12 => .int
  | 13 => .array .int
  | 14 => .array .int
  | 15 => .int
  | 16 => .int
  | 17 => .int
  | 18 => .int
  | 19 => .int
  | 20 => .int
  | 21 => .int
  | 22 => .int
  | 23 => .int
  | 24 => .int
  | 25 => .array .boolean
  | 26 => .array .int
  | 27 => .array .int
  | 28 => .int
  | 29 => .array .int
  | 30 => .array .int
  | 31 => .array .int
  | 32 => .array .int
  | 33 => .array .int
  | 34 => .array .int
  | 35 => .array .int
  | 36 => .array .int
  | 37 => .array .int
  | 38 => .array .int
  | 39 => .boolean
  | 40 => .int
  | 41 => .int
  | 42 => .array .int
  | 43 => .array .int
  | 44 => .array .int
  | 45 => .array .int
  | 46 => .array .int
  | 47 => .array .int
  | 48 => .array .int
  | 49 => .array .int
  | 50 => .array .int
  | 51 => .array .int
  | 52 => .array .int
  | 53 => .array .int
  | 54 => .int
  | 55 => .array .int
  | 56 => .int
  | 57 => .array .int
  | 58 => .array .int
  | 59 => .int
  | 60 => .array .int
  | 61 => .array .int
  | 62 => .array .int
  | _ => .array .int
theorem n_Mo : ∀ a, a < 64 → ∀ b, b < 64 → a ≠ b → (F_Mo a).2.1 ≠ (F_Mo b).2.1 := by decide +kernel
theorem t_Mo_ok : ∀ k, k < 64 → parseFieldDescriptor (F_Mo k).2.2.1 = some (t_Mo k) := by decide +kernel
theorem i_Mo : ∀ w ∈ u_ws R_Mo F_Mo 64, w ∈ wG := by
  intro w hw
  obtain ⟨k, hk, rfl⟩ := List.mem_map.mp hw
  have hk := List.mem_range.mp hk
  have h : ∀ k, k < 64 → lw_tbl[([1029, 1031, 1033, 1035, 1037, 1039, 1041, 1043, 1045, 1047, 1049, 1051, 1053, 1055, 1057, 1059, 1061, 1063, 1065, 1067, 1069, 1071, 1073, 1075, 1077, 1079, 1081, 1083, 1085, 1087, 1089, 1091, 1093, 1095, 1097, 1099, 1101, 1103, 1105, 1107, 1109, 1111, 1113, 1115, 1117, 1119, 1121, 1123, 1125, 1127, 1129, 1131, 1133, 1135, 1137, 1139, 1141, 1143, 1145, 1147, 1149, 1151, 1153, 1155] : List Nat).getD k 0]? = some (u_lay R_Mo F_Mo k) ∧ goodWord (u_lay R_Mo F_Mo k) = true := by decide +kernel
  exact wGm _ (h k hk).1 (h k hk).2
abbrev classes : List vw_C := [(R_PQ, F_PQ, 13), (R_Tab, F_Tab, 2), (R_Tape, F_Tape, 4), (R_Pur, F_Pur, 2), (R_Text, F_Text, 2), (R_Out, F_Out, 2), (R_Prod, F_Prod, 2), (R_Tok, F_Tok, 4), (R_Cond, F_Cond, 6), (R_Qu, F_Qu, 8), (R_Scr, F_Scr, 8), (R_Par, F_Par, 5), (R_Mo, F_Mo, 64)]
abbrev b_PQ_init : ByteArray := prog_1_method_1_code
def y_PQ_init : MethodName := ⟨R_PQ, "<init>", "(II)V"⟩
def w_PQ_init : List Cond := .code y_PQ_init b_PQ_init 3 none :: wG
abbrev b_PQ_row : ByteArray := prog_1_method_2_code
def y_PQ_row : MethodName := ⟨R_PQ, "row", "(IIIIII)I"⟩
def w_PQ_row : List Cond := .code y_PQ_row b_PQ_row 7 (some (.int)) :: wG
abbrev b_PQ_drop : ByteArray := prog_1_method_3_code
def y_PQ_drop : MethodName := ⟨R_PQ, "drop", "(I)I"⟩
def w_PQ_drop : List Cond := .code y_PQ_drop b_PQ_drop 2 (some (.int)) :: wG
abbrev b_PQ_draws : ByteArray := prog_1_method_4_code
def y_PQ_draws : MethodName := ⟨R_PQ, "draws", "(II)I"⟩
def w_PQ_draws : List Cond := .code y_PQ_draws b_PQ_draws 4 (some (.int)) :: wG
abbrev b_PQ_count : ByteArray := prog_1_method_5_code
def y_PQ_count : MethodName := ⟨R_PQ, "count", "(I)I"⟩
def w_PQ_count : List Cond := .code y_PQ_count b_PQ_count 2 (some (.int)) :: wG
abbrev b_PQ_budget : ByteArray := prog_1_method_6_code
def y_PQ_budget : MethodName := ⟨R_PQ, "budget", "(II)I"⟩
def w_PQ_budget : List Cond := .code y_PQ_budget b_PQ_budget 4 (some (.int)) :: wG
abbrev b_PQ_ledger : ByteArray := prog_1_method_7_code
def y_PQ_ledger : MethodName := ⟨R_PQ, "ledger", "(II)I"⟩
def w_PQ_ledger : List Cond := .code y_PQ_ledger b_PQ_ledger 3 (some (.int)) :: wG
abbrev b_PQ_type : ByteArray := prog_1_method_8_code
def y_PQ_type : MethodName := ⟨R_PQ, "type", "(JI)I"⟩
def w_PQ_type : List Cond := .code y_PQ_type b_PQ_type 4 (some (.int)) :: wG
abbrev b_PQ_read : ByteArray := prog_1_method_9_code
def y_PQ_read : MethodName := ⟨R_PQ, "read", "()I"⟩
def w_PQ_read : List Cond := .code y_PQ_read b_PQ_read 3 (some (.int)) :: wG
abbrev b_PQ_question : ByteArray := prog_1_method_10_code
def y_PQ_question : MethodName := ⟨R_PQ, "question", "(II)I"⟩
def w_PQ_question : List Cond := .code y_PQ_question b_PQ_question 3 (some (.int)) :: wG
abbrev b_PQ_wants : ByteArray := prog_1_method_11_code
def y_PQ_wants : MethodName := ⟨R_PQ, "wants", "(I)I"⟩
def w_PQ_wants : List Cond := .code y_PQ_wants b_PQ_wants 2 (some (.int)) :: wG
abbrev b_PQ_run : ByteArray := prog_1_method_12_code
def y_PQ_run : MethodName := ⟨R_PQ, "run", "(I)I"⟩
def w_PQ_run : List Cond := .code y_PQ_run b_PQ_run 3 (some (.int)) :: wG
abbrev b_PQ_told : ByteArray := prog_1_method_13_code
def y_PQ_told : MethodName := ⟨R_PQ, "told", "(I)I"⟩
def w_PQ_told : List Cond := .code y_PQ_told b_PQ_told 2 (some (.int)) :: wG
abbrev b_PQ_noise : ByteArray := prog_1_method_14_code
def y_PQ_noise : MethodName := ⟨R_PQ, "noise", "(II)I"⟩
def w_PQ_noise : List Cond := .code y_PQ_noise b_PQ_noise 3 (some (.int)) :: wG
abbrev b_PQ_print : ByteArray := prog_1_method_15_code
def y_PQ_print : MethodName := ⟨R_PQ, "print", "()I"⟩
def w_PQ_print : List Cond := .code y_PQ_print b_PQ_print 1 (some (.int)) :: wG
abbrev b_PQ_share : ByteArray := prog_1_method_16_code
def y_PQ_share : MethodName := ⟨R_PQ, "share", "(III)I"⟩
def w_PQ_share : List Cond := .code y_PQ_share b_PQ_share 4 (some (.int)) :: wG
abbrev b_PQ_out : ByteArray := prog_1_method_17_code
def y_PQ_out : MethodName := ⟨R_PQ, "out", "(I)I"⟩
def w_PQ_out : List Cond := .code y_PQ_out b_PQ_out 2 (some (.int)) :: wG
abbrev b_PQ_within : ByteArray := prog_1_method_18_code
def y_PQ_within : MethodName := ⟨R_PQ, "within", "(III)Z"⟩
def w_PQ_within : List Cond := .code y_PQ_within b_PQ_within 4 (some (.boolean)) :: wG
abbrev b_PQ_nearest : ByteArray := prog_1_method_19_code
def y_PQ_nearest : MethodName := ⟨R_PQ, "nearest", "(III)I"⟩
def w_PQ_nearest : List Cond := .code y_PQ_nearest b_PQ_nearest 3 (some (.int)) :: wG
abbrev b_PQ_isUpTo : ByteArray := prog_1_method_20_code
def y_PQ_isUpTo : MethodName := ⟨R_PQ, "isUpTo", "(II)Z"⟩
def w_PQ_isUpTo : List Cond := .code y_PQ_isUpTo b_PQ_isUpTo 2 (some (.boolean)) :: wG
abbrev b_PQ_blur : ByteArray := prog_1_method_21_code
def y_PQ_blur : MethodName := ⟨R_PQ, "blur", "()I"⟩
def w_PQ_blur : List Cond := .code y_PQ_blur b_PQ_blur 7 (some (.int)) :: wG
abbrev b_PQ_workOutShare : ByteArray := prog_1_method_22_code
def y_PQ_workOutShare : MethodName := ⟨R_PQ, "workOutShare", "(III)V"⟩
def w_PQ_workOutShare : List Cond := .code y_PQ_workOutShare b_PQ_workOutShare 6 none :: wG
abbrev b_Tab_init : ByteArray := prog_9_method_1_code
def y_Tab_init : MethodName := ⟨R_Tab, "<init>", "()V"⟩
def w_Tab_init : List Cond := .code y_Tab_init b_Tab_init 1 none :: wG
abbrev b_Tab_size : ByteArray := prog_9_method_2_code
def y_Tab_size : MethodName := ⟨R_Tab, "size", "()I"⟩
def w_Tab_size : List Cond := .code y_Tab_size b_Tab_size 1 (some (.int)) :: wG
abbrev b_Tab_add : ByteArray := prog_9_method_3_code
def y_Tab_add : MethodName := ⟨R_Tab, "add", "(IIIIII)V"⟩
def w_Tab_add : List Cond := .code y_Tab_add b_Tab_add 8 none :: wG
abbrev b_Tab_remove : ByteArray := prog_9_method_4_code
def y_Tab_remove : MethodName := ⟨R_Tab, "remove", "(I)V"⟩
def w_Tab_remove : List Cond := .code y_Tab_remove b_Tab_remove 3 none :: wG
abbrev b_Tab_at : ByteArray := prog_9_method_5_code
def y_Tab_at : MethodName := ⟨R_Tab, "at", "(II)I"⟩
def w_Tab_at : List Cond := .code y_Tab_at b_Tab_at 4 (some (.int)) :: wG
abbrev b_Tape_init : ByteArray := prog_10_method_1_code
def y_Tape_init : MethodName := ⟨R_Tape, "<init>", "(II)V"⟩
def w_Tape_init : List Cond := .code y_Tape_init b_Tape_init 3 none :: wG
abbrev b_Tape_size : ByteArray := prog_10_method_2_code
def y_Tape_size : MethodName := ⟨R_Tape, "size", "()I"⟩
def w_Tape_size : List Cond := .code y_Tape_size b_Tape_size 1 (some (.int)) :: wG
abbrev b_Tape_isCell : ByteArray := prog_10_method_3_code
def y_Tape_isCell : MethodName := ⟨R_Tape, "isCell", "(I)Z"⟩
def w_Tape_isCell : List Cond := .code y_Tape_isCell b_Tape_isCell 2 (some (.boolean)) :: wG
abbrev b_Tape_add : ByteArray := prog_10_method_4_code
def y_Tape_add : MethodName := ⟨R_Tape, "add", "(I)V"⟩
def w_Tape_add : List Cond := .code y_Tape_add b_Tape_add 2 none :: wG
abbrev b_Tape_remove : ByteArray := prog_10_method_5_code
def y_Tape_remove : MethodName := ⟨R_Tape, "remove", "(I)V"⟩
def w_Tape_remove : List Cond := .code y_Tape_remove b_Tape_remove 2 none :: wG
abbrev b_Tape_blockNoise : ByteArray := prog_10_method_6_code
def y_Tape_blockNoise : MethodName := ⟨R_Tape, "blockNoise", "(II)I"⟩
def w_Tape_blockNoise : List Cond := .code y_Tape_blockNoise b_Tape_blockNoise 7 (some (.int)) :: wG
abbrev b_Tape_at : ByteArray := prog_10_method_7_code
def y_Tape_at : MethodName := ⟨R_Tape, "at", "(I)I"⟩
def w_Tape_at : List Cond := .code y_Tape_at b_Tape_at 2 (some (.int)) :: wG
abbrev b_Pur_init : ByteArray := prog_6_method_1_code
def y_Pur_init : MethodName := ⟨R_Pur, "<init>", "()V"⟩
def w_Pur_init : List Cond := .code y_Pur_init b_Pur_init 1 none :: wG
abbrev b_Pur_isAsker : ByteArray := prog_6_method_2_code
def y_Pur_isAsker : MethodName := ⟨R_Pur, "isAsker", "(I)Z"⟩
def w_Pur_isAsker : List Cond := .code y_Pur_isAsker b_Pur_isAsker 1 (some (.boolean)) :: wG
abbrev b_Pur_isKnown : ByteArray := prog_6_method_3_code
def y_Pur_isKnown : MethodName := ⟨R_Pur, "isKnown", "(I)Z"⟩
def w_Pur_isKnown : List Cond := .code y_Pur_isKnown b_Pur_isKnown 1 (some (.boolean)) :: wG
abbrev b_Pur_grantedTo : ByteArray := prog_6_method_4_code
def y_Pur_grantedTo : MethodName := ⟨R_Pur, "grantedTo", "(I)I"⟩
def w_Pur_grantedTo : List Cond := .code y_Pur_grantedTo b_Pur_grantedTo 2 (some (.int)) :: wG
abbrev b_Pur_spentBy : ByteArray := prog_6_method_5_code
def y_Pur_spentBy : MethodName := ⟨R_Pur, "spentBy", "(I)I"⟩
def w_Pur_spentBy : List Cond := .code y_Pur_spentBy b_Pur_spentBy 2 (some (.int)) :: wG
abbrev b_Pur_leftTo : ByteArray := prog_6_method_6_code
def y_Pur_leftTo : MethodName := ⟨R_Pur, "leftTo", "(I)I"⟩
def w_Pur_leftTo : List Cond := .code y_Pur_leftTo b_Pur_leftTo 2 (some (.int)) :: wG
abbrev b_Pur_grant : ByteArray := prog_6_method_7_code
def y_Pur_grant : MethodName := ⟨R_Pur, "grant", "(II)V"⟩
def w_Pur_grant : List Cond := .code y_Pur_grant b_Pur_grant 3 none :: wG
abbrev b_Pur_spend : ByteArray := prog_6_method_8_code
def y_Pur_spend : MethodName := ⟨R_Pur, "spend", "(II)V"⟩
def w_Pur_spend : List Cond := .code y_Pur_spend b_Pur_spend 3 none :: wG
abbrev b_Text_init : ByteArray := prog_11_method_1_code
def y_Text_init : MethodName := ⟨R_Text, "<init>", "()V"⟩
def w_Text_init : List Cond := .code y_Text_init b_Text_init 1 none :: wG
abbrev b_Text_areSigns : ByteArray := prog_11_method_2_code
def y_Text_areSigns : MethodName := ⟨R_Text, "areSigns", "(JI)Z"⟩
def w_Text_areSigns : List Cond := .code y_Text_areSigns b_Text_areSigns 5 (some (.boolean)) :: wG
abbrev b_Text_byteOf : ByteArray := prog_11_method_3_code
def y_Text_byteOf : MethodName := ⟨R_Text, "byteOf", "(JI)I"⟩
def w_Text_byteOf : List Cond := .code y_Text_byteOf b_Text_byteOf 3 (some (.int)) :: wG
abbrev b_Text_size : ByteArray := prog_11_method_4_code
def y_Text_size : MethodName := ⟨R_Text, "size", "()I"⟩
def w_Text_size : List Cond := .code y_Text_size b_Text_size 1 (some (.int)) :: wG
abbrev b_Text_clear : ByteArray := prog_11_method_5_code
def y_Text_clear : MethodName := ⟨R_Text, "clear", "()V"⟩
def w_Text_clear : List Cond := .code y_Text_clear b_Text_clear 1 none :: wG
abbrev b_Text_add : ByteArray := prog_11_method_6_code
def y_Text_add : MethodName := ⟨R_Text, "add", "(JI)V"⟩
def w_Text_add : List Cond := .code y_Text_add b_Text_add 5 none :: wG
abbrev b_Text_at : ByteArray := prog_11_method_7_code
def y_Text_at : MethodName := ⟨R_Text, "at", "(I)C"⟩
def w_Text_at : List Cond := .code y_Text_at b_Text_at 2 (some (.char)) :: wG
abbrev b_Text_isLetter : ByteArray := prog_11_method_8_code
def y_Text_isLetter : MethodName := ⟨R_Text, "isLetter", "(I)Z"⟩
def w_Text_isLetter : List Cond := .code y_Text_isLetter b_Text_isLetter 3 (some (.boolean)) :: wG
abbrev b_Text_isDigit : ByteArray := prog_11_method_9_code
def y_Text_isDigit : MethodName := ⟨R_Text, "isDigit", "(I)Z"⟩
def w_Text_isDigit : List Cond := .code y_Text_isDigit b_Text_isDigit 3 (some (.boolean)) :: wG
abbrev b_Text_spells : ByteArray := prog_11_method_10_code
def y_Text_spells : MethodName := ⟨R_Text, "spells", "(Ljava/lang/String;I)Z"⟩
def w_Text_spells : List Cond := .code y_Text_spells b_Text_spells 4 (some (.boolean)) :: wG
abbrev b_Out_init : ByteArray := prog_3_method_1_code
def y_Out_init : MethodName := ⟨R_Out, "<init>", "()V"⟩
def w_Out_init : List Cond := .code y_Out_init b_Out_init 1 none :: wG
abbrev b_Out_size : ByteArray := prog_3_method_2_code
def y_Out_size : MethodName := ⟨R_Out, "size", "()I"⟩
def w_Out_size : List Cond := .code y_Out_size b_Out_size 1 (some (.int)) :: wG
abbrev b_Out_signAt : ByteArray := prog_3_method_3_code
def y_Out_signAt : MethodName := ⟨R_Out, "signAt", "(I)I"⟩
def w_Out_signAt : List Cond := .code y_Out_signAt b_Out_signAt 2 (some (.int)) :: wG
abbrev b_Out_clear : ByteArray := prog_3_method_4_code
def y_Out_clear : MethodName := ⟨R_Out, "clear", "()V"⟩
def w_Out_clear : List Cond := .code y_Out_clear b_Out_clear 1 none :: wG
abbrev b_Out_add : ByteArray := prog_3_method_5_code
def y_Out_add : MethodName := ⟨R_Out, "add", "(C)V"⟩
def w_Out_add : List Cond := .code y_Out_add b_Out_add 2 none :: wG
abbrev b_Out_addWord : ByteArray := prog_3_method_6_code
def y_Out_addWord : MethodName := ⟨R_Out, "addWord", "(Ljava/lang/String;)V"⟩
def w_Out_addWord : List Cond := .code y_Out_addWord b_Out_addWord 3 none :: wG
abbrev b_Out_addNumber : ByteArray := prog_3_method_7_code
def y_Out_addNumber : MethodName := ⟨R_Out, "addNumber", "(I)V"⟩
def w_Out_addNumber : List Cond := .code y_Out_addNumber b_Out_addNumber 3 none :: wG
abbrev b_Prod_init : ByteArray := prog_5_method_1_code
def y_Prod_init : MethodName := ⟨R_Prod, "<init>", "()V"⟩
def w_Prod_init : List Cond := .code y_Prod_init b_Prod_init 1 none :: wG
abbrev b_Prod_startAtOne : ByteArray := prog_5_method_2_code
def y_Prod_startAtOne : MethodName := ⟨R_Prod, "startAtOne", "()V"⟩
def w_Prod_startAtOne : List Cond := .code y_Prod_startAtOne b_Prod_startAtOne 1 none :: wG
abbrev b_Prod_times : ByteArray := prog_5_method_3_code
def y_Prod_times : MethodName := ⟨R_Prod, "times", "(II)V"⟩
def w_Prod_times : List Cond := .code y_Prod_times b_Prod_times 4 none :: wG
abbrev b_Prod_timesOnce : ByteArray := prog_5_method_4_code
def y_Prod_timesOnce : MethodName := ⟨R_Prod, "timesOnce", "(I)V"⟩
def w_Prod_timesOnce : List Cond := .code y_Prod_timesOnce b_Prod_timesOnce 5 none :: wG
abbrev b_Prod_writeInto : ByteArray := prog_5_method_5_code
def y_Prod_writeInto : MethodName := ⟨R_Prod, "writeInto", "(LPrivateQueries$Out;)V"⟩
def w_Prod_writeInto : List Cond := .code y_Prod_writeInto b_Prod_writeInto 3 none :: wG
abbrev b_Tok_init : ByteArray := prog_12_method_1_code
def y_Tok_init : MethodName := ⟨R_Tok, "<init>", "()V"⟩
def w_Tok_init : List Cond := .code y_Tok_init b_Tok_init 1 none :: wG
abbrev b_Tok_kindAt : ByteArray := prog_12_method_2_code
def y_Tok_kindAt : MethodName := ⟨R_Tok, "kindAt", "(I)I"⟩
def w_Tok_kindAt : List Cond := .code y_Tok_kindAt b_Tok_kindAt 2 (some (.int)) :: wG
abbrev b_Tok_valueAt : ByteArray := prog_12_method_3_code
def y_Tok_valueAt : MethodName := ⟨R_Tok, "valueAt", "(I)I"⟩
def w_Tok_valueAt : List Cond := .code y_Tok_valueAt b_Tok_valueAt 2 (some (.int)) :: wG
abbrev b_Tok_cut : ByteArray := prog_12_method_4_code
def y_Tok_cut : MethodName := ⟨R_Tok, "cut", "(LPrivateQueries$Text;)V"⟩
def w_Tok_cut : List Cond := .code y_Tok_cut b_Tok_cut 4 none :: wG
abbrev b_Tok_cutOne : ByteArray := prog_12_method_5_code
def y_Tok_cutOne : MethodName := ⟨R_Tok, "cutOne", "(LPrivateQueries$Text;I)I"⟩
def w_Tok_cutOne : List Cond := .code y_Tok_cutOne b_Tok_cutOne 3 (some (.int)) :: wG
abbrev b_Tok_cutWord : ByteArray := prog_12_method_6_code
def y_Tok_cutWord : MethodName := ⟨R_Tok, "cutWord", "(LPrivateQueries$Text;I)I"⟩
def w_Tok_cutWord : List Cond := .code y_Tok_cutWord b_Tok_cutWord 6 (some (.int)) :: wG
abbrev b_Tok_cutNumber : ByteArray := prog_12_method_7_code
def y_Tok_cutNumber : MethodName := ⟨R_Tok, "cutNumber", "(LPrivateQueries$Text;I)I"⟩
def w_Tok_cutNumber : List Cond := .code y_Tok_cutNumber b_Tok_cutNumber 6 (some (.int)) :: wG
abbrev b_Tok_cutSign : ByteArray := prog_12_method_8_code
def y_Tok_cutSign : MethodName := ⟨R_Tok, "cutSign", "(LPrivateQueries$Text;I)I"⟩
def w_Tok_cutSign : List Cond := .code y_Tok_cutSign b_Tok_cutSign 5 (some (.int)) :: wG
abbrev b_Tok_put : ByteArray := prog_12_method_9_code
def y_Tok_put : MethodName := ⟨R_Tok, "put", "(III)V"⟩
def w_Tok_put : List Cond := .code y_Tok_put b_Tok_put 4 none :: wG
abbrev b_Tok_writeInto : ByteArray := prog_12_method_10_code
def y_Tok_writeInto : MethodName := ⟨R_Tok, "writeInto", "(LPrivateQueries$Out;)V"⟩
def w_Tok_writeInto : List Cond := .code y_Tok_writeInto b_Tok_writeInto 3 none :: wG
abbrev b_Tok_isIdle : ByteArray := prog_12_method_11_code
def y_Tok_isIdle : MethodName := ⟨R_Tok, "isIdle", "(I)Z"⟩
def w_Tok_isIdle : List Cond := .code y_Tok_isIdle b_Tok_isIdle 2 (some (.boolean)) :: wG
abbrev b_Tok_writeOne : ByteArray := prog_12_method_12_code
def y_Tok_writeOne : MethodName := ⟨R_Tok, "writeOne", "(IILPrivateQueries$Out;)V"⟩
def w_Tok_writeOne : List Cond := .code y_Tok_writeOne b_Tok_writeOne 3 none :: wG
abbrev b_Tok_spelling : ByteArray := prog_12_method_13_code
def y_Tok_spelling : MethodName := ⟨R_Tok, "spelling", "(I)Ljava/lang/String;"⟩
def w_Tok_spelling : List Cond := .code y_Tok_spelling b_Tok_spelling 1 (some (.object "java/lang/String")) :: wG
abbrev b_Cond_init : ByteArray := prog_2_method_1_code
def y_Cond_init : MethodName := ⟨R_Cond, "<init>", "()V"⟩
def w_Cond_init : List Cond := .code y_Cond_init b_Cond_init 1 none :: wG
abbrev b_Cond_size : ByteArray := prog_2_method_2_code
def y_Cond_size : MethodName := ⟨R_Cond, "size", "()I"⟩
def w_Cond_size : List Cond := .code y_Cond_size b_Cond_size 1 (some (.int)) :: wG
abbrev b_Cond_clear : ByteArray := prog_2_method_3_code
def y_Cond_clear : MethodName := ⟨R_Cond, "clear", "()V"⟩
def w_Cond_clear : List Cond := .code y_Cond_clear b_Cond_clear 1 none :: wG
abbrev b_Cond_add : ByteArray := prog_2_method_4_code
def y_Cond_add : MethodName := ⟨R_Cond, "add", "(II)V"⟩
def w_Cond_add : List Cond := .code y_Cond_add b_Cond_add 3 none :: wG
abbrev b_Cond_settle : ByteArray := prog_2_method_5_code
def y_Cond_settle : MethodName := ⟨R_Cond, "settle", "(IZ)V"⟩
def w_Cond_settle : List Cond := .code y_Cond_settle b_Cond_settle 3 none :: wG
abbrev b_Cond_hold : ByteArray := prog_2_method_6_code
def y_Cond_hold : MethodName := ⟨R_Cond, "hold", "(IILPrivateQueries$Table;I)Z"⟩
def w_Cond_hold : List Cond := .code y_Cond_hold b_Cond_hold 6 (some (.boolean)) :: wG
abbrev b_Cond_take : ByteArray := prog_2_method_7_code
def y_Cond_take : MethodName := ⟨R_Cond, "take", "(IILPrivateQueries$Table;I)V"⟩
def w_Cond_take : List Cond := .code y_Cond_take b_Cond_take 7 none :: wG
abbrev b_Cond_joined : ByteArray := prog_2_method_8_code
def y_Cond_joined : MethodName := ⟨R_Cond, "joined", "(III)I"⟩
def w_Cond_joined : List Cond := .code y_Cond_joined b_Cond_joined 3 (some (.int)) :: wG
abbrev b_Cond_compares : ByteArray := prog_2_method_9_code
def y_Cond_compares : MethodName := ⟨R_Cond, "compares", "(III)Z"⟩
def w_Cond_compares : List Cond := .code y_Cond_compares b_Cond_compares 3 (some (.boolean)) :: wG
abbrev b_Cond_push : ByteArray := prog_2_method_10_code
def y_Cond_push : MethodName := ⟨R_Cond, "push", "(I)V"⟩
def w_Cond_push : List Cond := .code y_Cond_push b_Cond_push 2 none :: wG
abbrev b_Cond_pop : ByteArray := prog_2_method_11_code
def y_Cond_pop : MethodName := ⟨R_Cond, "pop", "()I"⟩
def w_Cond_pop : List Cond := .code y_Cond_pop b_Cond_pop 1 (some (.int)) :: wG
abbrev b_Qu_init : ByteArray := prog_7_method_1_code
def y_Qu_init : MethodName := ⟨R_Qu, "<init>", "()V"⟩
def w_Qu_init : List Cond := .code y_Qu_init b_Qu_init 1 none :: wG
abbrev b_Qu_begin : ByteArray := prog_7_method_2_code
def y_Qu_begin : MethodName := ⟨R_Qu, "begin", "(I)V"⟩
def w_Qu_begin : List Cond := .code y_Qu_begin b_Qu_begin 2 none :: wG
abbrev b_Qu_part : ByteArray := prog_7_method_3_code
def y_Qu_part : MethodName := ⟨R_Qu, "part", "(I)I"⟩
def w_Qu_part : List Cond := .code y_Qu_part b_Qu_part 2 (some (.int)) :: wG
abbrev b_Qu_units : ByteArray := prog_7_method_4_code
def y_Qu_units : MethodName := ⟨R_Qu, "units", "()I"⟩
def w_Qu_units : List Cond := .code y_Qu_units b_Qu_units 2 (some (.int)) :: wG
abbrev b_Qu_numbers : ByteArray := prog_7_method_5_code
def y_Qu_numbers : MethodName := ⟨R_Qu, "numbers", "()I"⟩
def w_Qu_numbers : List Cond := .code y_Qu_numbers b_Qu_numbers 1 (some (.int)) :: wG
abbrev b_Qu_enter : ByteArray := prog_7_method_6_code
def y_Qu_enter : MethodName := ⟨R_Qu, "enter", "(I[II)V"⟩
def w_Qu_enter : List Cond := .code y_Qu_enter b_Qu_enter 6 none :: wG
abbrev b_Qu_divide : ByteArray := prog_7_method_7_code
def y_Qu_divide : MethodName := ⟨R_Qu, "divide", "([II)V"⟩
def w_Qu_divide : List Cond := .code y_Qu_divide b_Qu_divide 3 none :: wG
abbrev b_Scr_init : ByteArray := prog_8_method_1_code
def y_Scr_init : MethodName := ⟨R_Scr, "<init>", "()V"⟩
def w_Scr_init : List Cond := .code y_Scr_init b_Scr_init 2 none :: wG
abbrev b_Scr_cut : ByteArray := prog_8_method_2_code
def y_Scr_cut : MethodName := ⟨R_Scr, "cut", "(LPrivateQueries$Text;)V"⟩
def w_Scr_cut : List Cond := .code y_Scr_cut b_Scr_cut 2 none :: wG
abbrev b_Scr_asked : ByteArray := prog_8_method_3_code
def y_Scr_asked : MethodName := ⟨R_Scr, "asked", "()I"⟩
def w_Scr_asked : List Cond := .code y_Scr_asked b_Scr_asked 1 (some (.int)) :: wG
abbrev b_Scr_lets : ByteArray := prog_8_method_4_code
def y_Scr_lets : MethodName := ⟨R_Scr, "lets", "()I"⟩
def w_Scr_lets : List Cond := .code y_Scr_lets b_Scr_lets 1 (some (.int)) :: wG
abbrev b_Scr_questionAt : ByteArray := prog_8_method_5_code
def y_Scr_questionAt : MethodName := ⟨R_Scr, "questionAt", "(I)LPrivateQueries$Question;"⟩
def w_Scr_questionAt : List Cond := .code y_Scr_questionAt b_Scr_questionAt 2 (some (.object "PrivateQueries$Question")) :: wG
abbrev b_Scr_letOf : ByteArray := prog_8_method_6_code
def y_Scr_letOf : MethodName := ⟨R_Scr, "letOf", "(I)I"⟩
def w_Scr_letOf : List Cond := .code y_Scr_letOf b_Scr_letOf 2 (some (.int)) :: wG
abbrev b_Scr_addLet : ByteArray := prog_8_method_7_code
def y_Scr_addLet : MethodName := ⟨R_Scr, "addLet", "(II)V"⟩
def w_Scr_addLet : List Cond := .code y_Scr_addLet b_Scr_addLet 3 none :: wG
abbrev b_Scr_addQuestion : ByteArray := prog_8_method_8_code
def y_Scr_addQuestion : MethodName := ⟨R_Scr, "addQuestion", "()V"⟩
def w_Scr_addQuestion : List Cond := .code y_Scr_addQuestion b_Scr_addQuestion 1 none :: wG
abbrev b_Scr_all : ByteArray := prog_8_method_9_code
def y_Scr_all : MethodName := ⟨R_Scr, "all", "(I)I"⟩
def w_Scr_all : List Cond := .code y_Scr_all b_Scr_all 4 (some (.int)) :: wG
abbrev b_Scr_work : ByteArray := prog_8_method_10_code
def y_Scr_work : MethodName := ⟨R_Scr, "work", "(LPrivateQueries$Table;[I)V"⟩
def w_Scr_work : List Cond := .code y_Scr_work b_Scr_work 5 none :: wG
abbrev b_Scr_settleLets : ByteArray := prog_8_method_11_code
def y_Scr_settleLets : MethodName := ⟨R_Scr, "settleLets", "(LPrivateQueries$Table;I)V"⟩
def w_Scr_settleLets : List Cond := .code y_Scr_settleLets b_Scr_settleLets 4 none :: wG
abbrev b_Scr_enterRow : ByteArray := prog_8_method_12_code
def y_Scr_enterRow : MethodName := ⟨R_Scr, "enterRow", "(LPrivateQueries$Table;I[I)V"⟩
def w_Scr_enterRow : List Cond := .code y_Scr_enterRow b_Scr_enterRow 7 none :: wG
abbrev b_Scr_writeInto : ByteArray := prog_8_method_13_code
def y_Scr_writeInto : MethodName := ⟨R_Scr, "writeInto", "(LPrivateQueries$Out;)V"⟩
def w_Scr_writeInto : List Cond := .code y_Scr_writeInto b_Scr_writeInto 2 none :: wG
abbrev b_Par_init : ByteArray := prog_4_method_1_code
def y_Par_init : MethodName := ⟨R_Par, "<init>", "(LPrivateQueries$Script;)V"⟩
def w_Par_init : List Cond := .code y_Par_init b_Par_init 2 none :: wG
abbrev b_Par_parse : ByteArray := prog_4_method_2_code
def y_Par_parse : MethodName := ⟨R_Par, "parse", "()I"⟩
def w_Par_parse : List Cond := .code y_Par_parse b_Par_parse 3 (some (.int)) :: wG
abbrev b_Par_kind : ByteArray := prog_4_method_3_code
def y_Par_kind : MethodName := ⟨R_Par, "kind", "()I"⟩
def w_Par_kind : List Cond := .code y_Par_kind b_Par_kind 1 (some (.int)) :: wG
abbrev b_Par_value : ByteArray := prog_4_method_4_code
def y_Par_value : MethodName := ⟨R_Par, "value", "()I"⟩
def w_Par_value : List Cond := .code y_Par_value b_Par_value 1 (some (.int)) :: wG
abbrev b_Par_take : ByteArray := prog_4_method_5_code
def y_Par_take : MethodName := ⟨R_Par, "take", "(I)Z"⟩
def w_Par_take : List Cond := .code y_Par_take b_Par_take 2 (some (.boolean)) :: wG
abbrev b_Par_takeJoint : ByteArray := prog_4_method_6_code
def y_Par_takeJoint : MethodName := ⟨R_Par, "takeJoint", "()Z"⟩
def w_Par_takeJoint : List Cond := .code y_Par_takeJoint b_Par_takeJoint 1 (some (.boolean)) :: wG
abbrev b_Par_takeDeeper : ByteArray := prog_4_method_7_code
def y_Par_takeDeeper : MethodName := ⟨R_Par, "takeDeeper", "(I)Z"⟩
def w_Par_takeDeeper : List Cond := .code y_Par_takeDeeper b_Par_takeDeeper 2 (some (.boolean)) :: wG
abbrev b_Par_isNumber : ByteArray := prog_4_method_8_code
def y_Par_isNumber : MethodName := ⟨R_Par, "isNumber", "(II)Z"⟩
def w_Par_isNumber : List Cond := .code y_Par_isNumber b_Par_isNumber 3 (some (.boolean)) :: wG
abbrev b_Par_let : ByteArray := prog_4_method_9_code
def y_Par_let : MethodName := ⟨R_Par, "let", "()Z"⟩
def w_Par_let : List Cond := .code y_Par_let b_Par_let 3 (some (.boolean)) :: wG
abbrev b_Par_asks : ByteArray := prog_4_method_10_code
def y_Par_asks : MethodName := ⟨R_Par, "asks", "()Z"⟩
def w_Par_asks : List Cond := .code y_Par_asks b_Par_asks 2 (some (.boolean)) :: wG
abbrev b_Par_head : ByteArray := prog_4_method_11_code
def y_Par_head : MethodName := ⟨R_Par, "head", "(LPrivateQueries$Question;)Z"⟩
def w_Par_head : List Cond := .code y_Par_head b_Par_head 2 (some (.boolean)) :: wG
abbrev b_Par_column : ByteArray := prog_4_method_12_code
def y_Par_column : MethodName := ⟨R_Par, "column", "(LPrivateQueries$Question;)Z"⟩
def w_Par_column : List Cond := .code y_Par_column b_Par_column 2 (some (.boolean)) :: wG
abbrev b_Par_bounds : ByteArray := prog_4_method_13_code
def y_Par_bounds : MethodName := ⟨R_Par, "bounds", "(LPrivateQueries$Question;)Z"⟩
def w_Par_bounds : List Cond := .code y_Par_bounds b_Par_bounds 2 (some (.boolean)) :: wG
abbrev b_Par_range : ByteArray := prog_4_method_14_code
def y_Par_range : MethodName := ⟨R_Par, "range", "(LPrivateQueries$Question;)Z"⟩
def w_Par_range : List Cond := .code y_Par_range b_Par_range 6 (some (.boolean)) :: wG
abbrev b_Par_condition : ByteArray := prog_4_method_15_code
def y_Par_condition : MethodName := ⟨R_Par, "condition", "(I)Z"⟩
def w_Par_condition : List Cond := .code y_Par_condition b_Par_condition 5 (some (.boolean)) :: wG
abbrev b_Par_truth : ByteArray := prog_4_method_16_code
def y_Par_truth : MethodName := ⟨R_Par, "truth", "(I)Z"⟩
def w_Par_truth : List Cond := .code y_Par_truth b_Par_truth 4 (some (.boolean)) :: wG
abbrev b_Par_sum : ByteArray := prog_4_method_17_code
def y_Par_sum : MethodName := ⟨R_Par, "sum", "(I)Z"⟩
def w_Par_sum : List Cond := .code y_Par_sum b_Par_sum 5 (some (.boolean)) :: wG
abbrev b_Par_factor : ByteArray := prog_4_method_18_code
def y_Par_factor : MethodName := ⟨R_Par, "factor", "(I)Z"⟩
def w_Par_factor : List Cond := .code y_Par_factor b_Par_factor 3 (some (.boolean)) :: wG
abbrev b_Mo_init : ByteArray := prog_14_method_1_code
def y_Mo_init : MethodName := ⟨R_Mo, "<init>", "(II)V"⟩
def w_Mo_init : List Cond := .code y_Mo_init b_Mo_init 3 none :: wG
abbrev b_Mo_in : ByteArray := prog_14_method_2_code
def y_Mo_in : MethodName := ⟨R_Mo, "in", "(III)Z"⟩
def w_Mo_in : List Cond := .code y_Mo_in b_Mo_in 3 (some (.boolean)) :: wG
abbrev b_Mo_row : ByteArray := prog_14_method_3_code
def y_Mo_row : MethodName := ⟨R_Mo, "row", "(IIIIII)I"⟩
def w_Mo_row : List Cond := .code y_Mo_row b_Mo_row 8 (some (.int)) :: wG
abbrev b_Mo_drop : ByteArray := prog_14_method_4_code
def y_Mo_drop : MethodName := ⟨R_Mo, "drop", "(I)I"⟩
def w_Mo_drop : List Cond := .code y_Mo_drop b_Mo_drop 3 (some (.int)) :: wG
abbrev b_Mo_isCell : ByteArray := prog_14_method_5_code
def y_Mo_isCell : MethodName := ⟨R_Mo, "isCell", "(I)Z"⟩
def w_Mo_isCell : List Cond := .code y_Mo_isCell b_Mo_isCell 2 (some (.boolean)) :: wG
abbrev b_Mo_draws : ByteArray := prog_14_method_6_code
def y_Mo_draws : MethodName := ⟨R_Mo, "draws", "(II)I"⟩
def w_Mo_draws : List Cond := .code y_Mo_draws b_Mo_draws 4 (some (.int)) :: wG
abbrev b_Mo_count : ByteArray := prog_14_method_7_code
def y_Mo_count : MethodName := ⟨R_Mo, "count", "(I)I"⟩
def w_Mo_count : List Cond := .code y_Mo_count b_Mo_count 2 (some (.int)) :: wG
abbrev b_Mo_budget : ByteArray := prog_14_method_8_code
def y_Mo_budget : MethodName := ⟨R_Mo, "budget", "(II)I"⟩
def w_Mo_budget : List Cond := .code y_Mo_budget b_Mo_budget 4 (some (.int)) :: wG
abbrev b_Mo_ledger : ByteArray := prog_14_method_9_code
def y_Mo_ledger : MethodName := ⟨R_Mo, "ledger", "(II)I"⟩
def w_Mo_ledger : List Cond := .code y_Mo_ledger b_Mo_ledger 3 (some (.int)) :: wG
abbrev b_Mo_type : ByteArray := prog_14_method_10_code
def y_Mo_type : MethodName := ⟨R_Mo, "type", "(JI)I"⟩
def w_Mo_type : List Cond := .code y_Mo_type b_Mo_type 6 (some (.int)) :: wG
abbrev b_Mo_isSmall : ByteArray := prog_14_method_11_code
def y_Mo_isSmall : MethodName := ⟨R_Mo, "isSmall", "(I)Z"⟩
def w_Mo_isSmall : List Cond := .code y_Mo_isSmall b_Mo_isSmall 1 (some (.boolean)) :: wG
abbrev b_Mo_isDigit : ByteArray := prog_14_method_12_code
def y_Mo_isDigit : MethodName := ⟨R_Mo, "isDigit", "(I)Z"⟩
def w_Mo_isDigit : List Cond := .code y_Mo_isDigit b_Mo_isDigit 1 (some (.boolean)) :: wG
abbrev b_Mo_wordAt : ByteArray := prog_14_method_13_code
def y_Mo_wordAt : MethodName := ⟨R_Mo, "wordAt", "(II)I"⟩
def w_Mo_wordAt : List Cond := .code y_Mo_wordAt b_Mo_wordAt 5 (some (.int)) :: wG
abbrev b_Mo_wordOf : ByteArray := prog_14_method_14_code
def y_Mo_wordOf : MethodName := ⟨R_Mo, "wordOf", "(IIIII)I"⟩
def w_Mo_wordOf : List Cond := .code y_Mo_wordOf b_Mo_wordOf 6 (some (.int)) :: wG
abbrev b_Mo_classify : ByteArray := prog_14_method_15_code
def y_Mo_classify : MethodName := ⟨R_Mo, "classify", "(II)I"⟩
def w_Mo_classify : List Cond := .code y_Mo_classify b_Mo_classify 4 (some (.int)) :: wG
abbrev b_Mo_signKind : ByteArray := prog_14_method_16_code
def y_Mo_signKind : MethodName := ⟨R_Mo, "signKind", "(I)I"⟩
def w_Mo_signKind : List Cond := .code y_Mo_signKind b_Mo_signKind 2 (some (.int)) :: wG
abbrev b_Mo_peek : ByteArray := prog_14_method_17_code
def y_Mo_peek : MethodName := ⟨R_Mo, "peek", "(I)I"⟩
def w_Mo_peek : List Cond := .code y_Mo_peek b_Mo_peek 2 (some (.int)) :: wG
abbrev b_Mo_compareSign : ByteArray := prog_14_method_18_code
def y_Mo_compareSign : MethodName := ⟨R_Mo, "compareSign", "()V"⟩
def w_Mo_compareSign : List Cond := .code y_Mo_compareSign b_Mo_compareSign 2 none :: wG
abbrev b_Mo_readNumber : ByteArray := prog_14_method_19_code
def y_Mo_readNumber : MethodName := ⟨R_Mo, "readNumber", "()V"⟩
def w_Mo_readNumber : List Cond := .code y_Mo_readNumber b_Mo_readNumber 3 none :: wG
abbrev b_Mo_look : ByteArray := prog_14_method_20_code
def y_Mo_look : MethodName := ⟨R_Mo, "look", "()V"⟩
def w_Mo_look : List Cond := .code y_Mo_look b_Mo_look 2 none :: wG
abbrev b_Mo_pass : ByteArray := prog_14_method_21_code
def y_Mo_pass : MethodName := ⟨R_Mo, "pass", "()Z"⟩
def w_Mo_pass : List Cond := .code y_Mo_pass b_Mo_pass 1 (some (.boolean)) :: wG
abbrev b_Mo_passOne : ByteArray := prog_14_method_22_code
def y_Mo_passOne : MethodName := ⟨R_Mo, "passOne", "(I)Z"⟩
def w_Mo_passOne : List Cond := .code y_Mo_passOne b_Mo_passOne 2 (some (.boolean)) :: wG
abbrev b_Mo_passNumber : ByteArray := prog_14_method_23_code
def y_Mo_passNumber : MethodName := ⟨R_Mo, "passNumber", "(II)Z"⟩
def w_Mo_passNumber : List Cond := .code y_Mo_passNumber b_Mo_passNumber 3 (some (.boolean)) :: wG
abbrev b_Mo_want : ByteArray := prog_14_method_24_code
def y_Mo_want : MethodName := ⟨R_Mo, "want", "(II)V"⟩
def w_Mo_want : List Cond := .code y_Mo_want b_Mo_want 3 none :: wG
abbrev b_Mo_lay : ByteArray := prog_14_method_25_code
def y_Mo_lay : MethodName := ⟨R_Mo, "lay", "(II)V"⟩
def w_Mo_lay : List Cond := .code y_Mo_lay b_Mo_lay 3 none :: wG
abbrev b_Mo_deeper : ByteArray := prog_14_method_26_code
def y_Mo_deeper : MethodName := ⟨R_Mo, "deeper", "()Z"⟩
def w_Mo_deeper : List Cond := .code y_Mo_deeper b_Mo_deeper 1 (some (.boolean)) :: wG
abbrev b_Mo_ask : ByteArray := prog_14_method_27_code
def y_Mo_ask : MethodName := ⟨R_Mo, "ask", "()Z"⟩
def w_Mo_ask : List Cond := .code y_Mo_ask b_Mo_ask 1 (some (.boolean)) :: wG
abbrev b_Mo_isSumStart : ByteArray := prog_14_method_28_code
def y_Mo_isSumStart : MethodName := ⟨R_Mo, "isSumStart", "()Z"⟩
def w_Mo_isSumStart : List Cond := .code y_Mo_isSumStart b_Mo_isSumStart 1 (some (.boolean)) :: wG
abbrev b_Mo_readNot : ByteArray := prog_14_method_29_code
def y_Mo_readNot : MethodName := ⟨R_Mo, "readNot", "()Z"⟩
def w_Mo_readNot : List Cond := .code y_Mo_readNot b_Mo_readNot 1 (some (.boolean)) :: wG
abbrev b_Mo_readSign : ByteArray := prog_14_method_30_code
def y_Mo_readSign : MethodName := ⟨R_Mo, "readSign", "()Z"⟩
def w_Mo_readSign : List Cond := .code y_Mo_readSign b_Mo_readSign 2 (some (.boolean)) :: wG
abbrev b_Mo_readFactor : ByteArray := prog_14_method_31_code
def y_Mo_readFactor : MethodName := ⟨R_Mo, "readFactor", "()Z"⟩
def w_Mo_readFactor : List Cond := .code y_Mo_readFactor b_Mo_readFactor 1 (some (.boolean)) :: wG
abbrev b_Mo_close : ByteArray := prog_14_method_32_code
def y_Mo_close : MethodName := ⟨R_Mo, "close", "(I)Z"⟩
def w_Mo_close : List Cond := .code y_Mo_close b_Mo_close 2 (some (.boolean)) :: wG
abbrev b_Mo_more : ByteArray := prog_14_method_33_code
def y_Mo_more : MethodName := ⟨R_Mo, "more", "(IIIIZ)Z"⟩
def w_Mo_more : List Cond := .code y_Mo_more b_Mo_more 7 (some (.boolean)) :: wG
abbrev b_Mo_reach : ByteArray := prog_14_method_34_code
def y_Mo_reach : MethodName := ⟨R_Mo, "reach", "(II)Z"⟩
def w_Mo_reach : List Cond := .code y_Mo_reach b_Mo_reach 3 (some (.boolean)) :: wG
abbrev b_Mo_readCondition : ByteArray := prog_14_method_35_code
def y_Mo_readCondition : MethodName := ⟨R_Mo, "readCondition", "()Z"⟩
def w_Mo_readCondition : List Cond := .code y_Mo_readCondition b_Mo_readCondition 1 (some (.boolean)) :: wG
abbrev b_Mo_readLet : ByteArray := prog_14_method_36_code
def y_Mo_readLet : MethodName := ⟨R_Mo, "readLet", "()Z"⟩
def w_Mo_readLet : List Cond := .code y_Mo_readLet b_Mo_readLet 3 (some (.boolean)) :: wG
abbrev b_Mo_readWhere : ByteArray := prog_14_method_37_code
def y_Mo_readWhere : MethodName := ⟨R_Mo, "readWhere", "(I)Z"⟩
def w_Mo_readWhere : List Cond := .code y_Mo_readWhere b_Mo_readWhere 3 (some (.boolean)) :: wG
abbrev b_Mo_readColumn : ByteArray := prog_14_method_38_code
def y_Mo_readColumn : MethodName := ⟨R_Mo, "readColumn", "(I)Z"⟩
def w_Mo_readColumn : List Cond := .code y_Mo_readColumn b_Mo_readColumn 2 (some (.boolean)) :: wG
abbrev b_Mo_readSum : ByteArray := prog_14_method_39_code
def y_Mo_readSum : MethodName := ⟨R_Mo, "readSum", "(I)Z"⟩
def w_Mo_readSum : List Cond := .code y_Mo_readSum b_Mo_readSum 3 (some (.boolean)) :: wG
abbrev b_Mo_readBins : ByteArray := prog_14_method_40_code
def y_Mo_readBins : MethodName := ⟨R_Mo, "readBins", "(I)Z"⟩
def w_Mo_readBins : List Cond := .code y_Mo_readBins b_Mo_readBins 3 (some (.boolean)) :: wG
abbrev b_Mo_readQuestion : ByteArray := prog_14_method_41_code
def y_Mo_readQuestion : MethodName := ⟨R_Mo, "readQuestion", "()Z"⟩
def w_Mo_readQuestion : List Cond := .code y_Mo_readQuestion b_Mo_readQuestion 4 (some (.boolean)) :: wG
abbrev b_Mo_readStatement : ByteArray := prog_14_method_42_code
def y_Mo_readStatement : MethodName := ⟨R_Mo, "readStatement", "()Z"⟩
def w_Mo_readStatement : List Cond := .code y_Mo_readStatement b_Mo_readStatement 2 (some (.boolean)) :: wG
abbrev b_Mo_take : ByteArray := prog_14_method_43_code
def y_Mo_take : MethodName := ⟨R_Mo, "take", "()V"⟩
def w_Mo_take : List Cond := .code y_Mo_take b_Mo_take 2 none :: wG
abbrev b_Mo_read : ByteArray := prog_14_method_44_code
def y_Mo_read : MethodName := ⟨R_Mo, "read", "()I"⟩
def w_Mo_read : List Cond := .code y_Mo_read b_Mo_read 2 (some (.int)) :: wG
abbrev b_Mo_unitsOf : ByteArray := prog_14_method_45_code
def y_Mo_unitsOf : MethodName := ⟨R_Mo, "unitsOf", "(I)I"⟩
def w_Mo_unitsOf : List Cond := .code y_Mo_unitsOf b_Mo_unitsOf 2 (some (.int)) :: wG
abbrev b_Mo_numbersOf : ByteArray := prog_14_method_46_code
def y_Mo_numbersOf : MethodName := ⟨R_Mo, "numbersOf", "(I)I"⟩
def w_Mo_numbersOf : List Cond := .code y_Mo_numbersOf b_Mo_numbersOf 2 (some (.int)) :: wG
abbrev b_Mo_aspect : ByteArray := prog_14_method_47_code
def y_Mo_aspect : MethodName := ⟨R_Mo, "aspect", "(II)I"⟩
def w_Mo_aspect : List Cond := .code y_Mo_aspect b_Mo_aspect 3 (some (.int)) :: wG
abbrev b_Mo_question : ByteArray := prog_14_method_48_code
def y_Mo_question : MethodName := ⟨R_Mo, "question", "(II)I"⟩
def w_Mo_question : List Cond := .code y_Mo_question b_Mo_question 3 (some (.int)) :: wG
abbrev b_Mo_wanted : ByteArray := prog_14_method_49_code
def y_Mo_wanted : MethodName := ⟨R_Mo, "wanted", "(I)I"⟩
def w_Mo_wanted : List Cond := .code y_Mo_wanted b_Mo_wanted 4 (some (.int)) :: wG
abbrev b_Mo_wants : ByteArray := prog_14_method_50_code
def y_Mo_wants : MethodName := ⟨R_Mo, "wants", "(I)I"⟩
def w_Mo_wants : List Cond := .code y_Mo_wants b_Mo_wants 2 (some (.int)) :: wG
abbrev b_Mo_judge : ByteArray := prog_14_method_51_code
def y_Mo_judge : MethodName := ⟨R_Mo, "judge", "(III)I"⟩
def w_Mo_judge : List Cond := .code y_Mo_judge b_Mo_judge 4 (some (.int)) :: wG
abbrev b_Mo_work : ByteArray := prog_14_method_52_code
def y_Mo_work : MethodName := ⟨R_Mo, "work", "(III)I"⟩
def w_Mo_work : List Cond := .code y_Mo_work b_Mo_work 10 (some (.int)) :: wG
abbrev b_Mo_holds : ByteArray := prog_14_method_53_code
def y_Mo_holds : MethodName := ⟨R_Mo, "holds", "(II)Z"⟩
def w_Mo_holds : List Cond := .code y_Mo_holds b_Mo_holds 4 (some (.boolean)) :: wG
abbrev b_Mo_numberOf : ByteArray := prog_14_method_54_code
def y_Mo_numberOf : MethodName := ⟨R_Mo, "numberOf", "(II)I"⟩
def w_Mo_numberOf : List Cond := .code y_Mo_numberOf b_Mo_numberOf 6 (some (.int)) :: wG
abbrev b_Mo_noiseAt : ByteArray := prog_14_method_55_code
def y_Mo_noiseAt : MethodName := ⟨R_Mo, "noiseAt", "(II)I"⟩
def w_Mo_noiseAt : List Cond := .code y_Mo_noiseAt b_Mo_noiseAt 5 (some (.int)) :: wG
abbrev b_Mo_bring : ByteArray := prog_14_method_56_code
def y_Mo_bring : MethodName := ⟨R_Mo, "bring", "(II)I"⟩
def w_Mo_bring : List Cond := .code y_Mo_bring b_Mo_bring 2 (some (.int)) :: wG
abbrev b_Mo_run : ByteArray := prog_14_method_57_code
def y_Mo_run : MethodName := ⟨R_Mo, "run", "(I)I"⟩
def w_Mo_run : List Cond := .code y_Mo_run b_Mo_run 7 (some (.int)) :: wG
abbrev b_Mo_told : ByteArray := prog_14_method_58_code
def y_Mo_told : MethodName := ⟨R_Mo, "told", "(I)I"⟩
def w_Mo_told : List Cond := .code y_Mo_told b_Mo_told 2 (some (.int)) :: wG
abbrev b_Mo_noise : ByteArray := prog_14_method_59_code
def y_Mo_noise : MethodName := ⟨R_Mo, "noise", "(II)I"⟩
def w_Mo_noise : List Cond := .code y_Mo_noise b_Mo_noise 3 (some (.int)) :: wG
abbrev b_Mo_write : ByteArray := prog_14_method_60_code
def y_Mo_write : MethodName := ⟨R_Mo, "write", "(I)V"⟩
def w_Mo_write : List Cond := .code y_Mo_write b_Mo_write 2 none :: wG
abbrev b_Mo_writeNumber : ByteArray := prog_14_method_61_code
def y_Mo_writeNumber : MethodName := ⟨R_Mo, "writeNumber", "(I)V"⟩
def w_Mo_writeNumber : List Cond := .code y_Mo_writeNumber b_Mo_writeNumber 3 none :: wG
abbrev b_Mo_writeLetters : ByteArray := prog_14_method_62_code
def y_Mo_writeLetters : MethodName := ⟨R_Mo, "writeLetters", "(IIIII)V"⟩
def w_Mo_writeLetters : List Cond := .code y_Mo_writeLetters b_Mo_writeLetters 6 none :: wG
abbrev b_Mo_writeWord : ByteArray := prog_14_method_63_code
def y_Mo_writeWord : MethodName := ⟨R_Mo, "writeWord", "(I)V"⟩
def w_Mo_writeWord : List Cond := .code y_Mo_writeWord b_Mo_writeWord 2 none :: wG
abbrev b_Mo_writeSign : ByteArray := prog_14_method_64_code
def y_Mo_writeSign : MethodName := ⟨R_Mo, "writeSign", "(I)V"⟩
def w_Mo_writeSign : List Cond := .code y_Mo_writeSign b_Mo_writeSign 2 none :: wG
abbrev b_Mo_writeToken : ByteArray := prog_14_method_65_code
def y_Mo_writeToken : MethodName := ⟨R_Mo, "writeToken", "(I)V"⟩
def w_Mo_writeToken : List Cond := .code y_Mo_writeToken b_Mo_writeToken 3 none :: wG
abbrev b_Mo_print : ByteArray := prog_14_method_66_code
def y_Mo_print : MethodName := ⟨R_Mo, "print", "()I"⟩
def w_Mo_print : List Cond := .code y_Mo_print b_Mo_print 2 (some (.int)) :: wG
abbrev b_Mo_out : ByteArray := prog_14_method_67_code
def y_Mo_out : MethodName := ⟨R_Mo, "out", "(I)I"⟩
def w_Mo_out : List Cond := .code y_Mo_out b_Mo_out 2 (some (.int)) :: wG
abbrev b_Mo_begin : ByteArray := prog_14_method_68_code
def y_Mo_begin : MethodName := ⟨R_Mo, "begin", "([I)V"⟩
def w_Mo_begin : List Cond := .code y_Mo_begin b_Mo_begin 3 none :: wG
abbrev b_Mo_grow : ByteArray := prog_14_method_69_code
def y_Mo_grow : MethodName := ⟨R_Mo, "grow", "([III)V"⟩
def w_Mo_grow : List Cond := .code y_Mo_grow b_Mo_grow 8 none :: wG
abbrev b_Mo_shareInto : ByteArray := prog_14_method_70_code
def y_Mo_shareInto : MethodName := ⟨R_Mo, "shareInto", "([IIII)V"⟩
def w_Mo_shareInto : List Cond := .code y_Mo_shareInto b_Mo_shareInto 6 none :: wG
abbrev b_Mo_share : ByteArray := prog_14_method_71_code
def y_Mo_share : MethodName := ⟨R_Mo, "share", "(III)I"⟩
def w_Mo_share : List Cond := .code y_Mo_share b_Mo_share 6 (some (.int)) :: wG
abbrev b_Mo_isAtMost : ByteArray := prog_14_method_72_code
def y_Mo_isAtMost : MethodName := ⟨R_Mo, "isAtMost", "()Z"⟩
def w_Mo_isAtMost : List Cond := .code y_Mo_isAtMost b_Mo_isAtMost 2 (some (.boolean)) :: wG
abbrev b_Mo_isNear : ByteArray := prog_14_method_73_code
def y_Mo_isNear : MethodName := ⟨R_Mo, "isNear", "(IIII)Z"⟩
def w_Mo_isNear : List Cond := .code y_Mo_isNear b_Mo_isNear 6 (some (.boolean)) :: wG
abbrev b_Mo_within : ByteArray := prog_14_method_74_code
def y_Mo_within : MethodName := ⟨R_Mo, "within", "(III)Z"⟩
def w_Mo_within : List Cond := .code y_Mo_within b_Mo_within 6 (some (.boolean)) :: wG
/-! the literals: how many, their lengths, their bytes, where they are named -/
def nS : Nat := 27
def lenS : List Nat := [3, 5, 3, 4, 4, 2, 2, 5, 2, 3, 2, 3, 2, 2, 2, 1, 1, 1, 1, 1, 1, 1, 1, 1, 1, 1, 0]
def bytS : List (List Int32) := [[108, 101, 116], [99, 111, 117, 110, 116], [115, 117, 109], [98, 105, 110, 115], [102, 114, 111, 109], [116, 111], [98, 121], [119, 104, 101, 114, 101], [105, 110], [97, 110, 100], [111, 114], [110, 111, 116], [60, 61], [62, 61], [60, 62], [60], [62], [61], [43], [45], [42], [59], [40], [41], [91], [93], []]
def refS : List (String × Nat × String × Nat) := [("PrivateQueries$Tokens", 105, "let", 0), ("PrivateQueries$Tokens", 107, "count", 1), ("PrivateQueries$Tokens", 109, "sum", 2), ("PrivateQueries$Tokens", 111, "bins", 3), ("PrivateQueries$Tokens", 113, "from", 4), ("PrivateQueries$Tokens", 115, "to", 5), ("PrivateQueries$Tokens", 117, "by", 6), ("PrivateQueries$Tokens", 119, "where", 7), ("PrivateQueries$Tokens", 121, "in", 8), ("PrivateQueries$Tokens", 123, "and", 9), ("PrivateQueries$Tokens", 125, "or", 10), ("PrivateQueries$Tokens", 127, "not", 11), ("PrivateQueries$Tokens", 129, "<=", 12), ("PrivateQueries$Tokens", 131, ">=", 13), ("PrivateQueries$Tokens", 133, "<>", 14), ("PrivateQueries$Tokens", 135, "<", 15), ("PrivateQueries$Tokens", 137, ">", 16), ("PrivateQueries$Tokens", 139, "=", 17), ("PrivateQueries$Tokens", 141, "+", 18), ("PrivateQueries$Tokens", 143, "-", 19), ("PrivateQueries$Tokens", 145, "*", 20), ("PrivateQueries$Tokens", 147, ";", 21), ("PrivateQueries$Tokens", 149, "(", 22), ("PrivateQueries$Tokens", 151, ")", 23), ("PrivateQueries$Tokens", 153, "[", 24), ("PrivateQueries$Tokens", 155, "]", 25), ("PrivateQueries$Tokens", 157, "", 26)]
