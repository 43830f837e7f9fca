section
-- ===== PART A: goes FIRST, ahead of the names: the tables' words, and 'selects' of the private methods out of them =====
/-- a private method of a class that the tables say can be made, by its rows of tables_1 -/
def lw_okq (q : MethodName × Nat) : Prop := (q.1.cls ≠ "java/lang/invoke/MethodHandle" ∧ q.1.cls ≠ "java/lang/invoke/VarHandle") ∧ Cond.instantiable q.1.cls q.2 ∈ tables_1 ∧ Cond.privateMethod q.1 ∈ tables_1 ∧ Cond.instanceMethod q.1 ∈ tables_1
theorem lw_p0 : lw_okq (⟨"ShellLines$Reader", "readList", "(I)LShellLines$Pipe;"⟩, 7) := ⟨⟨by decide +kernel, by decide +kernel⟩, List.mem_of_getElem? (i := 31) (by decide +kernel), List.mem_of_getElem? (i := 313) (by decide +kernel), List.mem_of_getElem? (i := 314) (by decide +kernel)⟩
theorem lw_p1 : lw_okq (⟨"ShellLines$Reader", "readPipe", "(I)LShellLines$Pipe;"⟩, 7) := ⟨⟨by decide +kernel, by decide +kernel⟩, List.mem_of_getElem? (i := 31) (by decide +kernel), List.mem_of_getElem? (i := 317) (by decide +kernel), List.mem_of_getElem? (i := 318) (by decide +kernel)⟩
theorem lw_p2 : lw_okq (⟨"ShellLines$Reader", "peek", "()I"⟩, 7) := ⟨⟨by decide +kernel, by decide +kernel⟩, List.mem_of_getElem? (i := 31) (by decide +kernel), List.mem_of_getElem? (i := 321) (by decide +kernel), List.mem_of_getElem? (i := 322) (by decide +kernel)⟩
theorem lw_p3 : lw_okq (⟨"ShellLines$Reader", "readBraces", "(I)LShellLines$Stage;"⟩, 7) := ⟨⟨by decide +kernel, by decide +kernel⟩, List.mem_of_getElem? (i := 31) (by decide +kernel), List.mem_of_getElem? (i := 325) (by decide +kernel), List.mem_of_getElem? (i := 326) (by decide +kernel)⟩
theorem lw_p4 : lw_okq (⟨"ShellLines$Reader", "faultAt", "(I)Z"⟩, 7) := ⟨⟨by decide +kernel, by decide +kernel⟩, List.mem_of_getElem? (i := 31) (by decide +kernel), List.mem_of_getElem? (i := 329) (by decide +kernel), List.mem_of_getElem? (i := 330) (by decide +kernel)⟩
theorem lw_p5 : lw_okq (⟨"ShellLines$Reader", "takesOrFaults", "(I)Z"⟩, 7) := ⟨⟨by decide +kernel, by decide +kernel⟩, List.mem_of_getElem? (i := 31) (by decide +kernel), List.mem_of_getElem? (i := 362) (by decide +kernel), List.mem_of_getElem? (i := 363) (by decide +kernel)⟩
theorem lw_p6 : lw_okq (⟨"ShellLines$Reader", "takes", "(I)Z"⟩, 7) := ⟨⟨by decide +kernel, by decide +kernel⟩, List.mem_of_getElem? (i := 31) (by decide +kernel), List.mem_of_getElem? (i := 366) (by decide +kernel), List.mem_of_getElem? (i := 367) (by decide +kernel)⟩
theorem lw_p7 : lw_okq (⟨"ShellLines$Reader", "readCommand", "(Z)LShellLines$Stage;"⟩, 7) := ⟨⟨by decide +kernel, by decide +kernel⟩, List.mem_of_getElem? (i := 31) (by decide +kernel), List.mem_of_getElem? (i := 370) (by decide +kernel), List.mem_of_getElem? (i := 371) (by decide +kernel)⟩
theorem lw_p8 : lw_okq (⟨"ShellLines$Reader", "readWord", "(Z)LShellLines$Word;"⟩, 7) := ⟨⟨by decide +kernel, by decide +kernel⟩, List.mem_of_getElem? (i := 31) (by decide +kernel), List.mem_of_getElem? (i := 374) (by decide +kernel), List.mem_of_getElem? (i := 375) (by decide +kernel)⟩
theorem lw_p9 : lw_okq (⟨"ShellLines$Reader", "wordAt", "(I)LShellLines$Word;"⟩, 7) := ⟨⟨by decide +kernel, by decide +kernel⟩, List.mem_of_getElem? (i := 31) (by decide +kernel), List.mem_of_getElem? (i := 381) (by decide +kernel), List.mem_of_getElem? (i := 382) (by decide +kernel)⟩
theorem lw_p10 : lw_okq (⟨"ShellLines$Reader", "readName", "()I"⟩, 7) := ⟨⟨by decide +kernel, by decide +kernel⟩, List.mem_of_getElem? (i := 31) (by decide +kernel), List.mem_of_getElem? (i := 435) (by decide +kernel), List.mem_of_getElem? (i := 436) (by decide +kernel)⟩
theorem lw_p11 : lw_okq (⟨"ShellLines$Reader", "readTerm", "()I"⟩, 7) := ⟨⟨by decide +kernel, by decide +kernel⟩, List.mem_of_getElem? (i := 31) (by decide +kernel), List.mem_of_getElem? (i := 442) (by decide +kernel), List.mem_of_getElem? (i := 443) (by decide +kernel)⟩
theorem lw_p12 : lw_okq (⟨"ShellLines", "isLine", "(I)Z"⟩, 11) := ⟨⟨by decide +kernel, by decide +kernel⟩, List.mem_of_getElem? (i := 23) (by decide +kernel), List.mem_of_getElem? (i := 514) (by decide +kernel), List.mem_of_getElem? (i := 515) (by decide +kernel)⟩
theorem lw_p13 : lw_okq (⟨"ShellLines", "isLineOrNone", "(I)Z"⟩, 11) := ⟨⟨by decide +kernel, by decide +kernel⟩, List.mem_of_getElem? (i := 23) (by decide +kernel), List.mem_of_getElem? (i := 525) (by decide +kernel), List.mem_of_getElem? (i := 526) (by decide +kernel)⟩
theorem lw_p14 : lw_okq (⟨"ShellLines$Machine", "goList", "(LShellLines$Kept;LShellLines$Pipe;IIILShellLines$Numbers;)I"⟩, 5) := ⟨⟨by decide +kernel, by decide +kernel⟩, List.mem_of_getElem? (i := 75) (by decide +kernel), List.mem_of_getElem? (i := 551) (by decide +kernel), List.mem_of_getElem? (i := 552) (by decide +kernel)⟩
theorem lw_p15 : lw_okq (⟨"ShellLines$Machine", "beginNext", "(LShellLines$Kept;LShellLines$Frame;LShellLines$Pipe;)V"⟩, 5) := ⟨⟨by decide +kernel, by decide +kernel⟩, List.mem_of_getElem? (i := 75) (by decide +kernel), List.mem_of_getElem? (i := 565) (by decide +kernel), List.mem_of_getElem? (i := 566) (by decide +kernel)⟩
def lw_privs_1 : List (MethodName × Nat) := [(⟨"ShellLines$Reader", "readList", "(I)LShellLines$Pipe;"⟩, 7), (⟨"ShellLines$Reader", "readPipe", "(I)LShellLines$Pipe;"⟩, 7), (⟨"ShellLines$Reader", "peek", "()I"⟩, 7), (⟨"ShellLines$Reader", "readBraces", "(I)LShellLines$Stage;"⟩, 7), (⟨"ShellLines$Reader", "faultAt", "(I)Z"⟩, 7), (⟨"ShellLines$Reader", "takesOrFaults", "(I)Z"⟩, 7), (⟨"ShellLines$Reader", "takes", "(I)Z"⟩, 7), (⟨"ShellLines$Reader", "readCommand", "(Z)LShellLines$Stage;"⟩, 7), (⟨"ShellLines$Reader", "readWord", "(Z)LShellLines$Word;"⟩, 7), (⟨"ShellLines$Reader", "wordAt", "(I)LShellLines$Word;"⟩, 7), (⟨"ShellLines$Reader", "readName", "()I"⟩, 7), (⟨"ShellLines$Reader", "readTerm", "()I"⟩, 7), (⟨"ShellLines", "isLine", "(I)Z"⟩, 11), (⟨"ShellLines", "isLineOrNone", "(I)Z"⟩, 11), (⟨"ShellLines$Machine", "goList", "(LShellLines$Kept;LShellLines$Pipe;IIILShellLines$Numbers;)I"⟩, 5), (⟨"ShellLines$Machine", "beginNext", "(LShellLines$Kept;LShellLines$Frame;LShellLines$Pipe;)V"⟩, 5)]
theorem lw_r1 : ∀ q ∈ lw_privs_1, lw_okq q := List.forall_mem_cons.mpr ⟨lw_p0, List.forall_mem_cons.mpr ⟨lw_p1, List.forall_mem_cons.mpr ⟨lw_p2, List.forall_mem_cons.mpr ⟨lw_p3, List.forall_mem_cons.mpr ⟨lw_p4, List.forall_mem_cons.mpr ⟨lw_p5, List.forall_mem_cons.mpr ⟨lw_p6, List.forall_mem_cons.mpr ⟨lw_p7, List.forall_mem_cons.mpr ⟨lw_p8, List.forall_mem_cons.mpr ⟨lw_p9, List.forall_mem_cons.mpr ⟨lw_p10, List.forall_mem_cons.mpr ⟨lw_p11, List.forall_mem_cons.mpr ⟨lw_p12, List.forall_mem_cons.mpr ⟨lw_p13, List.forall_mem_cons.mpr ⟨lw_p14, List.forall_mem_cons.mpr ⟨lw_p15, fun _ h => absurd h List.not_mem_nil⟩⟩⟩⟩⟩⟩⟩⟩⟩⟩⟩⟩⟩⟩⟩⟩
theorem lw_p16 : lw_okq (⟨"ShellLines$Machine", "nextOf", "(LShellLines$Kept;LShellLines$Frame;I)J"⟩, 5) := ⟨⟨by decide +kernel, by decide +kernel⟩, List.mem_of_getElem? (i := 75) (by decide +kernel), List.mem_of_getElem? (i := 588) (by decide +kernel), List.mem_of_getElem? (i := 589) (by decide +kernel)⟩
theorem lw_p17 : lw_okq (⟨"ShellLines$Machine", "asked", "(LShellLines$Kept;LShellLines$Frame;II)J"⟩, 5) := ⟨⟨by decide +kernel, by decide +kernel⟩, List.mem_of_getElem? (i := 75) (by decide +kernel), List.mem_of_getElem? (i := 592) (by decide +kernel), List.mem_of_getElem? (i := 593) (by decide +kernel)⟩
theorem lw_p18 : lw_okq (⟨"ShellLines$Machine", "goInner", "(LShellLines$Kept;LShellLines$Frame;II)I"⟩, 5) := ⟨⟨by decide +kernel, by decide +kernel⟩, List.mem_of_getElem? (i := 75) (by decide +kernel), List.mem_of_getElem? (i := 601) (by decide +kernel), List.mem_of_getElem? (i := 602) (by decide +kernel)⟩
theorem lw_p19 : lw_okq (⟨"ShellLines$Machine", "got", "(LShellLines$Kept;LShellLines$Frame;IJ)J"⟩, 5) := ⟨⟨by decide +kernel, by decide +kernel⟩, List.mem_of_getElem? (i := 75) (by decide +kernel), List.mem_of_getElem? (i := 621) (by decide +kernel), List.mem_of_getElem? (i := 622) (by decide +kernel)⟩
theorem lw_p20 : lw_okq (⟨"ShellLines", "isJob", "(I)Z"⟩, 11) := ⟨⟨by decide +kernel, by decide +kernel⟩, List.mem_of_getElem? (i := 23) (by decide +kernel), List.mem_of_getElem? (i := 653) (by decide +kernel), List.mem_of_getElem? (i := 654) (by decide +kernel)⟩
theorem lw_p21 : lw_okq (⟨"ShellLines", "tryLine", "(LShellLines$Kept;I)V"⟩, 11) := ⟨⟨by decide +kernel, by decide +kernel⟩, List.mem_of_getElem? (i := 23) (by decide +kernel), List.mem_of_getElem? (i := 666) (by decide +kernel), List.mem_of_getElem? (i := 667) (by decide +kernel)⟩
theorem lw_p22 : lw_okq (⟨"ShellLines", "tryLineWith", "(III)V"⟩, 11) := ⟨⟨by decide +kernel, by decide +kernel⟩, List.mem_of_getElem? (i := 23) (by decide +kernel), List.mem_of_getElem? (i := 703) (by decide +kernel), List.mem_of_getElem? (i := 704) (by decide +kernel)⟩
theorem lw_p23 : lw_okq (⟨"ShellLines", "hasAllSeen", "(LShellLines$Numbers;)Z"⟩, 11) := ⟨⟨by decide +kernel, by decide +kernel⟩, List.mem_of_getElem? (i := 23) (by decide +kernel), List.mem_of_getElem? (i := 707) (by decide +kernel), List.mem_of_getElem? (i := 708) (by decide +kernel)⟩
theorem lw_p24 : lw_okq (⟨"ShellLines", "isPlanned", "(II)Z"⟩, 11) := ⟨⟨by decide +kernel, by decide +kernel⟩, List.mem_of_getElem? (i := 23) (by decide +kernel), List.mem_of_getElem? (i := 741) (by decide +kernel), List.mem_of_getElem? (i := 742) (by decide +kernel)⟩
theorem lw_p25 : lw_okq (⟨"ShellLines", "carryOut", "(II)V"⟩, 11) := ⟨⟨by decide +kernel, by decide +kernel⟩, List.mem_of_getElem? (i := 23) (by decide +kernel), List.mem_of_getElem? (i := 749) (by decide +kernel), List.mem_of_getElem? (i := 750) (by decide +kernel)⟩
theorem lw_p26 : lw_okq (⟨"ShellLines", "jobCount", "()I"⟩, 11) := ⟨⟨by decide +kernel, by decide +kernel⟩, List.mem_of_getElem? (i := 23) (by decide +kernel), List.mem_of_getElem? (i := 780) (by decide +kernel), List.mem_of_getElem? (i := 781) (by decide +kernel)⟩
theorem lw_p27 : lw_okq (⟨"ShellLinesModel", "listRead", "(I)I"⟩, 63) := ⟨⟨by decide +kernel, by decide +kernel⟩, List.mem_of_getElem? (i := 813) (by decide +kernel), List.mem_of_getElem? (i := 1037) (by decide +kernel), List.mem_of_getElem? (i := 1038) (by decide +kernel)⟩
theorem lw_p28 : lw_okq (⟨"ShellLinesModel", "pipeRead", "(I)I"⟩, 63) := ⟨⟨by decide +kernel, by decide +kernel⟩, List.mem_of_getElem? (i := 813) (by decide +kernel), List.mem_of_getElem? (i := 1042) (by decide +kernel), List.mem_of_getElem? (i := 1043) (by decide +kernel)⟩
theorem lw_p29 : lw_okq (⟨"ShellLinesModel", "stageRead", "(ZI)I"⟩, 63) := ⟨⟨by decide +kernel, by decide +kernel⟩, List.mem_of_getElem? (i := 813) (by decide +kernel), List.mem_of_getElem? (i := 1046) (by decide +kernel), List.mem_of_getElem? (i := 1047) (by decide +kernel)⟩
theorem lw_p30 : lw_okq (⟨"ShellLinesModel", "byteAt", "(I)I"⟩, 63) := ⟨⟨by decide +kernel, by decide +kernel⟩, List.mem_of_getElem? (i := 813) (by decide +kernel), List.mem_of_getElem? (i := 1050) (by decide +kernel), List.mem_of_getElem? (i := 1051) (by decide +kernel)⟩
theorem lw_p31 : lw_okq (⟨"ShellLinesModel", "stops", "(I)Z"⟩, 63) := ⟨⟨by decide +kernel, by decide +kernel⟩, List.mem_of_getElem? (i := 813) (by decide +kernel), List.mem_of_getElem? (i := 1054) (by decide +kernel), List.mem_of_getElem? (i := 1055) (by decide +kernel)⟩
def lw_privs_2 : List (MethodName × Nat) := [(⟨"ShellLines$Machine", "nextOf", "(LShellLines$Kept;LShellLines$Frame;I)J"⟩, 5), (⟨"ShellLines$Machine", "asked", "(LShellLines$Kept;LShellLines$Frame;II)J"⟩, 5), (⟨"ShellLines$Machine", "goInner", "(LShellLines$Kept;LShellLines$Frame;II)I"⟩, 5), (⟨"ShellLines$Machine", "got", "(LShellLines$Kept;LShellLines$Frame;IJ)J"⟩, 5), (⟨"ShellLines", "isJob", "(I)Z"⟩, 11), (⟨"ShellLines", "tryLine", "(LShellLines$Kept;I)V"⟩, 11), (⟨"ShellLines", "tryLineWith", "(III)V"⟩, 11), (⟨"ShellLines", "hasAllSeen", "(LShellLines$Numbers;)Z"⟩, 11), (⟨"ShellLines", "isPlanned", "(II)Z"⟩, 11), (⟨"ShellLines", "carryOut", "(II)V"⟩, 11), (⟨"ShellLines", "jobCount", "()I"⟩, 11), (⟨"ShellLinesModel", "listRead", "(I)I"⟩, 63), (⟨"ShellLinesModel", "pipeRead", "(I)I"⟩, 63), (⟨"ShellLinesModel", "stageRead", "(ZI)I"⟩, 63), (⟨"ShellLinesModel", "byteAt", "(I)I"⟩, 63), (⟨"ShellLinesModel", "stops", "(I)Z"⟩, 63)]
theorem lw_r2 : ∀ q ∈ lw_privs_2, lw_okq q := List.forall_mem_cons.mpr ⟨lw_p16, List.forall_mem_cons.mpr ⟨lw_p17, List.forall_mem_cons.mpr ⟨lw_p18, List.forall_mem_cons.mpr ⟨lw_p19, List.forall_mem_cons.mpr ⟨lw_p20, List.forall_mem_cons.mpr ⟨lw_p21, List.forall_mem_cons.mpr ⟨lw_p22, List.forall_mem_cons.mpr ⟨lw_p23, List.forall_mem_cons.mpr ⟨lw_p24, List.forall_mem_cons.mpr ⟨lw_p25, List.forall_mem_cons.mpr ⟨lw_p26, List.forall_mem_cons.mpr ⟨lw_p27, List.forall_mem_cons.mpr ⟨lw_p28, List.forall_mem_cons.mpr ⟨lw_p29, List.forall_mem_cons.mpr ⟨lw_p30, List.forall_mem_cons.mpr ⟨lw_p31, fun _ h => absurd h List.not_mem_nil⟩⟩⟩⟩⟩⟩⟩⟩⟩⟩⟩⟩⟩⟩⟩⟩
theorem lw_p32 : lw_okq (⟨"ShellLinesModel", "newStage", "(I)I"⟩, 63) := ⟨⟨by decide +kernel, by decide +kernel⟩, List.mem_of_getElem? (i := 813) (by decide +kernel), List.mem_of_getElem? (i := 1058) (by decide +kernel), List.mem_of_getElem? (i := 1059) (by decide +kernel)⟩
theorem lw_p33 : lw_okq (⟨"ShellLinesModel", "wordOf", "(II)I"⟩, 63) := ⟨⟨by decide +kernel, by decide +kernel⟩, List.mem_of_getElem? (i := 813) (by decide +kernel), List.mem_of_getElem? (i := 1064) (by decide +kernel), List.mem_of_getElem? (i := 1065) (by decide +kernel)⟩
theorem lw_p34 : lw_okq (⟨"ShellLinesModel", "isWhole", "(II)Z"⟩, 63) := ⟨⟨by decide +kernel, by decide +kernel⟩, List.mem_of_getElem? (i := 813) (by decide +kernel), List.mem_of_getElem? (i := 1070) (by decide +kernel), List.mem_of_getElem? (i := 1071) (by decide +kernel)⟩
theorem lw_p35 : lw_okq (⟨"ShellLinesModel", "isNumber", "(I)Z"⟩, 63) := ⟨⟨by decide +kernel, by decide +kernel⟩, List.mem_of_getElem? (i := 813) (by decide +kernel), List.mem_of_getElem? (i := 1075) (by decide +kernel), List.mem_of_getElem? (i := 1076) (by decide +kernel)⟩
theorem lw_p36 : lw_okq (⟨"ShellLinesModel", "isLine", "(I)Z"⟩, 63) := ⟨⟨by decide +kernel, by decide +kernel⟩, List.mem_of_getElem? (i := 813) (by decide +kernel), List.mem_of_getElem? (i := 1085) (by decide +kernel), List.mem_of_getElem? (i := 1086) (by decide +kernel)⟩
theorem lw_p37 : lw_okq (⟨"ShellLinesModel", "runs", "(I)V"⟩, 63) := ⟨⟨by decide +kernel, by decide +kernel⟩, List.mem_of_getElem? (i := 813) (by decide +kernel), List.mem_of_getElem? (i := 1108) (by decide +kernel), List.mem_of_getElem? (i := 1109) (by decide +kernel)⟩
theorem lw_p38 : lw_okq (⟨"ShellLinesModel", "goes", "(IIII)I"⟩, 63) := ⟨⟨by decide +kernel, by decide +kernel⟩, List.mem_of_getElem? (i := 813) (by decide +kernel), List.mem_of_getElem? (i := 1112) (by decide +kernel), List.mem_of_getElem? (i := 1113) (by decide +kernel)⟩
theorem lw_p39 : lw_okq (⟨"ShellLinesModel", "pipeGoes", "(IIII)I"⟩, 63) := ⟨⟨by decide +kernel, by decide +kernel⟩, List.mem_of_getElem? (i := 813) (by decide +kernel), List.mem_of_getElem? (i := 1119) (by decide +kernel), List.mem_of_getElem? (i := 1120) (by decide +kernel)⟩
theorem lw_p40 : lw_okq (⟨"ShellLinesModel", "begins", "(III)V"⟩, 63) := ⟨⟨by decide +kernel, by decide +kernel⟩, List.mem_of_getElem? (i := 813) (by decide +kernel), List.mem_of_getElem? (i := 1123) (by decide +kernel), List.mem_of_getElem? (i := 1124) (by decide +kernel)⟩
theorem lw_p41 : lw_okq (⟨"ShellLinesModel", "stageAt", "(II)I"⟩, 63) := ⟨⟨by decide +kernel, by decide +kernel⟩, List.mem_of_getElem? (i := 813) (by decide +kernel), List.mem_of_getElem? (i := 1127) (by decide +kernel), List.mem_of_getElem? (i := 1128) (by decide +kernel)⟩
theorem lw_p42 : lw_okq (⟨"ShellLinesModel", "next", "(II)J"⟩, 63) := ⟨⟨by decide +kernel, by decide +kernel⟩, List.mem_of_getElem? (i := 813) (by decide +kernel), List.mem_of_getElem? (i := 1131) (by decide +kernel), List.mem_of_getElem? (i := 1132) (by decide +kernel)⟩
theorem lw_p43 : lw_okq (⟨"ShellLinesModel", "asked", "(IIII)J"⟩, 63) := ⟨⟨by decide +kernel, by decide +kernel⟩, List.mem_of_getElem? (i := 813) (by decide +kernel), List.mem_of_getElem? (i := 1135) (by decide +kernel), List.mem_of_getElem? (i := 1136) (by decide +kernel)⟩
theorem lw_p44 : lw_okq (⟨"ShellLinesModel", "ahead", "(II)J"⟩, 63) := ⟨⟨by decide +kernel, by decide +kernel⟩, List.mem_of_getElem? (i := 813) (by decide +kernel), List.mem_of_getElem? (i := 1140) (by decide +kernel), List.mem_of_getElem? (i := 1141) (by decide +kernel)⟩
theorem lw_p45 : lw_okq (⟨"ShellLinesModel", "keeps", "(III)J"⟩, 63) := ⟨⟨by decide +kernel, by decide +kernel⟩, List.mem_of_getElem? (i := 813) (by decide +kernel), List.mem_of_getElem? (i := 1144) (by decide +kernel), List.mem_of_getElem? (i := 1145) (by decide +kernel)⟩
theorem lw_p46 : lw_okq (⟨"ShellLinesModel", "sums", "(II)J"⟩, 63) := ⟨⟨by decide +kernel, by decide +kernel⟩, List.mem_of_getElem? (i := 813) (by decide +kernel), List.mem_of_getElem? (i := 1148) (by decide +kernel), List.mem_of_getElem? (i := 1149) (by decide +kernel)⟩
theorem lw_p47 : lw_okq (⟨"ShellLinesModel", "sets", "(III)J"⟩, 63) := ⟨⟨by decide +kernel, by decide +kernel⟩, List.mem_of_getElem? (i := 813) (by decide +kernel), List.mem_of_getElem? (i := 1152) (by decide +kernel), List.mem_of_getElem? (i := 1153) (by decide +kernel)⟩
def lw_privs_3 : List (MethodName × Nat) := [(⟨"ShellLinesModel", "newStage", "(I)I"⟩, 63), (⟨"ShellLinesModel", "wordOf", "(II)I"⟩, 63), (⟨"ShellLinesModel", "isWhole", "(II)Z"⟩, 63), (⟨"ShellLinesModel", "isNumber", "(I)Z"⟩, 63), (⟨"ShellLinesModel", "isLine", "(I)Z"⟩, 63), (⟨"ShellLinesModel", "runs", "(I)V"⟩, 63), (⟨"ShellLinesModel", "goes", "(IIII)I"⟩, 63), (⟨"ShellLinesModel", "pipeGoes", "(IIII)I"⟩, 63), (⟨"ShellLinesModel", "begins", "(III)V"⟩, 63), (⟨"ShellLinesModel", "stageAt", "(II)I"⟩, 63), (⟨"ShellLinesModel", "next", "(II)J"⟩, 63), (⟨"ShellLinesModel", "asked", "(IIII)J"⟩, 63), (⟨"ShellLinesModel", "ahead", "(II)J"⟩, 63), (⟨"ShellLinesModel", "keeps", "(III)J"⟩, 63), (⟨"ShellLinesModel", "sums", "(II)J"⟩, 63), (⟨"ShellLinesModel", "sets", "(III)J"⟩, 63)]
theorem lw_r3 : ∀ q ∈ lw_privs_3, lw_okq q := List.forall_mem_cons.mpr ⟨lw_p32, List.forall_mem_cons.mpr ⟨lw_p33, List.forall_mem_cons.mpr ⟨lw_p34, List.forall_mem_cons.mpr ⟨lw_p35, List.forall_mem_cons.mpr ⟨lw_p36, List.forall_mem_cons.mpr ⟨lw_p37, List.forall_mem_cons.mpr ⟨lw_p38, List.forall_mem_cons.mpr ⟨lw_p39, List.forall_mem_cons.mpr ⟨lw_p40, List.forall_mem_cons.mpr ⟨lw_p41, List.forall_mem_cons.mpr ⟨lw_p42, List.forall_mem_cons.mpr ⟨lw_p43, List.forall_mem_cons.mpr ⟨lw_p44, List.forall_mem_cons.mpr ⟨lw_p45, List.forall_mem_cons.mpr ⟨lw_p46, List.forall_mem_cons.mpr ⟨lw_p47, fun _ h => absurd h List.not_mem_nil⟩⟩⟩⟩⟩⟩⟩⟩⟩⟩⟩⟩⟩⟩⟩⟩
theorem lw_p48 : lw_okq (⟨"ShellLinesModel", "within", "(III)J"⟩, 63) := ⟨⟨by decide +kernel, by decide +kernel⟩, List.mem_of_getElem? (i := 813) (by decide +kernel), List.mem_of_getElem? (i := 1156) (by decide +kernel), List.mem_of_getElem? (i := 1157) (by decide +kernel)⟩
theorem lw_p49 : lw_okq (⟨"ShellLinesModel", "writes", "(II)V"⟩, 63) := ⟨⟨by decide +kernel, by decide +kernel⟩, List.mem_of_getElem? (i := 813) (by decide +kernel), List.mem_of_getElem? (i := 1160) (by decide +kernel), List.mem_of_getElem? (i := 1161) (by decide +kernel)⟩
theorem lw_p50 : lw_okq (⟨"ShellLinesModel", "jobBegins", "(I)V"⟩, 63) := ⟨⟨by decide +kernel, by decide +kernel⟩, List.mem_of_getElem? (i := 813) (by decide +kernel), List.mem_of_getElem? (i := 1185) (by decide +kernel), List.mem_of_getElem? (i := 1186) (by decide +kernel)⟩
theorem lw_p51 : lw_okq (⟨"ShellLinesModel", "thinks", "(I)V"⟩, 63) := ⟨⟨by decide +kernel, by decide +kernel⟩, List.mem_of_getElem? (i := 813) (by decide +kernel), List.mem_of_getElem? (i := 1197) (by decide +kernel), List.mem_of_getElem? (i := 1198) (by decide +kernel)⟩
theorem lw_p52 : lw_okq (⟨"ShellLinesModel", "isSeen", "()Z"⟩, 63) := ⟨⟨by decide +kernel, by decide +kernel⟩, List.mem_of_getElem? (i := 813) (by decide +kernel), List.mem_of_getElem? (i := 1213) (by decide +kernel), List.mem_of_getElem? (i := 1214) (by decide +kernel)⟩
theorem lw_p53 : lw_okq (⟨"ShellLinesModel", "carries", "(Z)V"⟩, 63) := ⟨⟨by decide +kernel, by decide +kernel⟩, List.mem_of_getElem? (i := 813) (by decide +kernel), List.mem_of_getElem? (i := 1252) (by decide +kernel), List.mem_of_getElem? (i := 1253) (by decide +kernel)⟩
theorem lw_p54 : lw_okq (⟨"ShellLinesModel", "row", "([IIIZ)I"⟩, 63) := ⟨⟨by decide +kernel, by decide +kernel⟩, List.mem_of_getElem? (i := 813) (by decide +kernel), List.mem_of_getElem? (i := 1256) (by decide +kernel), List.mem_of_getElem? (i := 1257) (by decide +kernel)⟩
theorem lw_p55 : lw_okq (⟨"ShellLinesModel", "jobs", "()I"⟩, 63) := ⟨⟨by decide +kernel, by decide +kernel⟩, List.mem_of_getElem? (i := 813) (by decide +kernel), List.mem_of_getElem? (i := 1268) (by decide +kernel), List.mem_of_getElem? (i := 1269) (by decide +kernel)⟩
def lw_privs_4 : List (MethodName × Nat) := [(⟨"ShellLinesModel", "within", "(III)J"⟩, 63), (⟨"ShellLinesModel", "writes", "(II)V"⟩, 63), (⟨"ShellLinesModel", "jobBegins", "(I)V"⟩, 63), (⟨"ShellLinesModel", "thinks", "(I)V"⟩, 63), (⟨"ShellLinesModel", "isSeen", "()Z"⟩, 63), (⟨"ShellLinesModel", "carries", "(Z)V"⟩, 63), (⟨"ShellLinesModel", "row", "([IIIZ)I"⟩, 63), (⟨"ShellLinesModel", "jobs", "()I"⟩, 63)]
theorem lw_r4 : ∀ q ∈ lw_privs_4, lw_okq q := List.forall_mem_cons.mpr ⟨lw_p48, List.forall_mem_cons.mpr ⟨lw_p49, List.forall_mem_cons.mpr ⟨lw_p50, List.forall_mem_cons.mpr ⟨lw_p51, List.forall_mem_cons.mpr ⟨lw_p52, List.forall_mem_cons.mpr ⟨lw_p53, List.forall_mem_cons.mpr ⟨lw_p54, List.forall_mem_cons.mpr ⟨lw_p55, fun _ h => absurd h List.not_mem_nil⟩⟩⟩⟩⟩⟩⟩⟩
def lw_privs : List (MethodName × Nat) := lw_privs_1 ++ (lw_privs_2 ++ (lw_privs_3 ++ (lw_privs_4)))
def lw_tbl : List Cond := k2_sels lw_privs ++ tables_1
theorem lw_privs_ok : ∀ q ∈ lw_privs, lw_okq q := by
  show ∀ q ∈ lw_privs_1 ++ (lw_privs_2 ++ (lw_privs_3 ++ (lw_privs_4))), lw_okq q
  exact List.forall_mem_append.mpr ⟨lw_r1, List.forall_mem_append.mpr ⟨lw_r2, List.forall_mem_append.mpr ⟨lw_r3, lw_r4⟩⟩⟩
end
section
def RX0 : String := "ShellLines$1"
def TX0 : u_T := fun k => match k with
  | _ => ("", "", "", false)
def tyX0 : Nat → FieldType := fun k => match k with
  | _ => .int
abbrev wsX00 : List Cond := u_ws RX0 TX0 0
theorem nmX0 : ∀ a, a < 0 → ∀ b, b < 0 → a ≠ b → (TX0 a).2.1 ≠ (TX0 b).2.1 := by decide +kernel
theorem tyX0_ok : ∀ k, k < 0 → parseFieldDescriptor (TX0 k).2.2.1 = some (tyX0 k) := by decide +kernel
def RX1 : String := "ShellLines$Frame"
def TX1 : u_T := fun k => match k with
  | 0 => ("ShellLines$Frame", "rest", "LShellLines$Pipe;", false)
  | 1 => ("ShellLines$Frame", "pipe", "LShellLines$Pipe;", false)
  | 2 => ("ShellLines$Frame", "status", "I", false)
  | 3 => ("ShellLines$Frame", "parameter", "I", false)
  | 4 => ("ShellLines$Frame", "going", "I", false)
  | 5 => ("ShellLines$Frame", "worked", "[I", true)
  | 6 => ("ShellLines$Frame", "tally", "[I", true)
  | 7 => ("ShellLines$Frame", "over", "[Z", true)
  | 8 => ("ShellLines$Frame", "statuses", "[I", true)
  | 9 => ("ShellLines$Frame", "innerWent", "Z", false)
  | _ => ("ShellLines$Frame", "wrote", "LShellLines$Numbers;", true)
def tyX1 : Nat → FieldType := fun k => match k with
  | 0 => .object "ShellLines$Pipe"
  | 1 => .object "ShellLines$Pipe"
  | 2 => .int
  | 3 => .int
  | 4 => .int
  | 5 => .array .int
  | 6 => .array .int
  | 7 => .array .boolean
  | 8 => .array .int
  | 9 => .boolean
  | _ => .object "ShellLines$Numbers"
abbrev wsX10 : List Cond := u_ws RX1 TX1 11
theorem nmX1 : ∀ a, a < 11 → ∀ b, b < 11 → a ≠ b → (TX1 a).2.1 ≠ (TX1 b).2.1 := by decide +kernel
theorem tyX1_ok : ∀ k, k < 11 → parseFieldDescriptor (TX1 k).2.2.1 = some (tyX1 k) := by decide +kernel
abbrev cX1_init : ByteArray := prog_3_method_1_code
def yX1_init : MethodName := ⟨RX1, "<init>", "()V"⟩
abbrev cX1_open : ByteArray := prog_3_method_2_code
def yX1_open : MethodName := ⟨RX1, "open", "(LShellLines$Pipe;II)V"⟩
abbrev cX1_getsTo : ByteArray := prog_3_method_3_code
def yX1_getsTo : MethodName := ⟨RX1, "getsTo", "(LShellLines$Pipe;)Z"⟩
def RX2 : String := "ShellLines$Kept"
def TX2 : u_T := fun k => match k with
  | 0 => ("ShellLines$Kept", "values", "[I", true)
  | 1 => ("ShellLines$Kept", "functions", "[I", true)
  | 2 => ("ShellLines$Kept", "trap", "I", false)
  | 3 => ("ShellLines$Kept", "out", "LShellLines$Numbers;", true)
  | 4 => ("ShellLines$Kept", "status", "I", false)
  | 5 => ("ShellLines$Kept", "reads", "I", false)
  | 6 => ("ShellLines$Kept", "seen", "LShellLines$Rows;", true)
  | 7 => ("ShellLines$Kept", "plan", "LShellLines$Rows;", true)
  | _ => ("ShellLines$Kept", "book", "LShellLines$Rows;", true)
def tyX2 : Nat → FieldType := fun k => match k with
  | 0 => .array .int
  | 1 => .array .int
  | 2 => .int
  | 3 => .object "ShellLines$Numbers"
  | 4 => .int
  | 5 => .int
  | 6 => .object "ShellLines$Rows"
  | 7 => .object "ShellLines$Rows"
  | _ => .object "ShellLines$Rows"
abbrev wsX20 : List Cond := u_ws RX2 TX2 9
theorem nmX2 : ∀ a, a < 9 → ∀ b, b < 9 → a ≠ b → (TX2 a).2.1 ≠ (TX2 b).2.1 := by decide +kernel
theorem tyX2_ok : ∀ k, k < 9 → parseFieldDescriptor (TX2 k).2.2.1 = some (tyX2 k) := by decide +kernel
abbrev cX2_init : ByteArray := prog_4_method_1_code
def yX2_init : MethodName := ⟨RX2, "<init>", "()V"⟩
abbrev cX2_copyFrom : ByteArray := prog_4_method_2_code
def yX2_copyFrom : MethodName := ⟨RX2, "copyFrom", "(LShellLines$Kept;)V"⟩
def RX3 : String := "ShellLines$Line"
def TX3 : u_T := fun k => match k with
  | 0 => ("ShellLines$Line", "first", "LShellLines$Pipe;", true)
  | 1 => ("ShellLines$Line", "pipes", "I", true)
  | 2 => ("ShellLines$Line", "stages", "I", true)
  | _ => ("ShellLines$Line", "depth", "I", true)
def tyX3 : Nat → FieldType := fun k => match k with
  | 0 => .object "ShellLines$Pipe"
  | 1 => .int
  | 2 => .int
  | _ => .int
abbrev wsX30 : List Cond := u_ws RX3 TX3 4
theorem nmX3 : ∀ a, a < 4 → ∀ b, b < 4 → a ≠ b → (TX3 a).2.1 ≠ (TX3 b).2.1 := by decide +kernel
theorem tyX3_ok : ∀ k, k < 4 → parseFieldDescriptor (TX3 k).2.2.1 = some (tyX3 k) := by decide +kernel
abbrev cX3_init : ByteArray := prog_5_method_1_code
def yX3_init : MethodName := ⟨RX3, "<init>", "(LShellLines$Pipe;III)V"⟩
def RX4 : String := "ShellLines$Machine"
def TX4 : u_T := fun k => match k with
  | 0 => ("ShellLines$Machine", "lines", "[LShellLines$Line;", true)
  | 1 => ("ShellLines$Machine", "lineCount", "I", false)
  | 2 => ("ShellLines$Machine", "frames", "[LShellLines$Frame;", true)
  | 3 => ("ShellLines$Machine", "fuel", "I", false)
  | _ => ("ShellLines$Machine", "reads", "I", false)
def tyX4 : Nat → FieldType := fun k => match k with
  | 0 => .array (.object "ShellLines$Line")
  | 1 => .int
  | 2 => .array (.object "ShellLines$Frame")
  | 3 => .int
  | _ => .int
abbrev wsX40 : List Cond := u_ws RX4 TX4 5
theorem nmX4 : ∀ a, a < 5 → ∀ b, b < 5 → a ≠ b → (TX4 a).2.1 ≠ (TX4 b).2.1 := by decide +kernel
theorem tyX4_ok : ∀ k, k < 5 → parseFieldDescriptor (TX4 k).2.2.1 = some (tyX4 k) := by decide +kernel
abbrev cX4_init : ByteArray := prog_6_method_1_code
def yX4_init : MethodName := ⟨RX4, "<init>", "()V"⟩
abbrev cX4_add : ByteArray := prog_6_method_2_code
def yX4_add : MethodName := ⟨RX4, "add", "(LShellLines$Line;)I"⟩
abbrev cX4_runLine : ByteArray := prog_6_method_3_code
def yX4_runLine : MethodName := ⟨RX4, "runLine", "(LShellLines$Kept;I)V"⟩
abbrev cX4_firstOf : ByteArray := prog_6_method_4_code
def yX4_firstOf : MethodName := ⟨RX4, "firstOf", "(I)LShellLines$Pipe;"⟩
abbrev cX4_goList : ByteArray := prog_6_method_5_code
def yX4_goList : MethodName := ⟨RX4, "goList", "(LShellLines$Kept;LShellLines$Pipe;IIILShellLines$Numbers;)I"⟩
abbrev cX4_goOn : ByteArray := prog_6_method_6_code
def yX4_goOn : MethodName := ⟨RX4, "goOn", "(LShellLines$Kept;LShellLines$Frame;I)J"⟩
abbrev cX4_beginNext : ByteArray := prog_6_method_7_code
def yX4_beginNext : MethodName := ⟨RX4, "beginNext", "(LShellLines$Kept;LShellLines$Frame;LShellLines$Pipe;)V"⟩
abbrev cX4_worth : ByteArray := prog_6_method_8_code
def yX4_worth : MethodName := ⟨RX4, "worth", "(LShellLines$Kept;LShellLines$Frame;I)I"⟩
abbrev cX4_statusAtFirst : ByteArray := prog_6_method_9_code
def yX4_statusAtFirst : MethodName := ⟨RX4, "statusAtFirst", "(LShellLines$Word;I)I"⟩
abbrev cX4_nextOf : ByteArray := prog_6_method_10_code
def yX4_nextOf : MethodName := ⟨RX4, "nextOf", "(LShellLines$Kept;LShellLines$Frame;I)J"⟩
abbrev cX4_asked : ByteArray := prog_6_method_11_code
def yX4_asked : MethodName := ⟨RX4, "asked", "(LShellLines$Kept;LShellLines$Frame;II)J"⟩
abbrev cX4_got : ByteArray := prog_6_method_12_code
def yX4_got : MethodName := ⟨RX4, "got", "(LShellLines$Kept;LShellLines$Frame;IJ)J"⟩
abbrev cX4_gotEnd : ByteArray := prog_6_method_13_code
def yX4_gotEnd : MethodName := ⟨RX4, "gotEnd", "(LShellLines$Kept;LShellLines$Frame;I)J"⟩
abbrev cX4_gives : ByteArray := prog_6_method_14_code
def yX4_gives : MethodName := ⟨RX4, "gives", "(LShellLines$Frame;IJ)J"⟩
abbrev cX4_end : ByteArray := prog_6_method_15_code
def yX4_end : MethodName := ⟨RX4, "end", "(LShellLines$Frame;I)J"⟩
abbrev cX4_goInner : ByteArray := prog_6_method_16_code
def yX4_goInner : MethodName := ⟨RX4, "goInner", "(LShellLines$Kept;LShellLines$Frame;II)I"⟩
def RX5 : String := "ShellLines$Numbers"
def TX5 : u_T := fun k => match k with
  | 0 => ("ShellLines$Numbers", "items", "[I", true)
  | _ => ("ShellLines$Numbers", "size", "I", false)
def tyX5 : Nat → FieldType := fun k => match k with
  | 0 => .array .int
  | _ => .int
abbrev wsX50 : List Cond := u_ws RX5 TX5 2
theorem nmX5 : ∀ a, a < 2 → ∀ b, b < 2 → a ≠ b → (TX5 a).2.1 ≠ (TX5 b).2.1 := by decide +kernel
theorem tyX5_ok : ∀ k, k < 2 → parseFieldDescriptor (TX5 k).2.2.1 = some (tyX5 k) := by decide +kernel
abbrev cX5_init : ByteArray := prog_7_method_1_code
def yX5_init : MethodName := ⟨RX5, "<init>", "()V"⟩
abbrev cX5_add : ByteArray := prog_7_method_2_code
def yX5_add : MethodName := ⟨RX5, "add", "(J)V"⟩
abbrev cX5_at : ByteArray := prog_7_method_3_code
def yX5_at : MethodName := ⟨RX5, "at", "(I)J"⟩
abbrev cX5_sum : ByteArray := prog_7_method_4_code
def yX5_sum : MethodName := ⟨RX5, "sum", "()J"⟩
abbrev cX5_isLike : ByteArray := prog_7_method_5_code
def yX5_isLike : MethodName := ⟨RX5, "isLike", "(LShellLines$Numbers;)Z"⟩
abbrev cX5_copyFrom : ByteArray := prog_7_method_6_code
def yX5_copyFrom : MethodName := ⟨RX5, "copyFrom", "(LShellLines$Numbers;)V"⟩
def RX6 : String := "ShellLines$Pipe"
def TX6 : u_T := fun k => match k with
  | 0 => ("ShellLines$Pipe", "stages", "[LShellLines$Stage;", true)
  | 1 => ("ShellLines$Pipe", "size", "I", false)
  | 2 => ("ShellLines$Pipe", "join", "I", false)
  | _ => ("ShellLines$Pipe", "next", "LShellLines$Pipe;", false)
def tyX6 : Nat → FieldType := fun k => match k with
  | 0 => .array (.object "ShellLines$Stage")
  | 1 => .int
  | 2 => .int
  | _ => .object "ShellLines$Pipe"
abbrev wsX60 : List Cond := u_ws RX6 TX6 4
theorem nmX6 : ∀ a, a < 4 → ∀ b, b < 4 → a ≠ b → (TX6 a).2.1 ≠ (TX6 b).2.1 := by decide +kernel
theorem tyX6_ok : ∀ k, k < 4 → parseFieldDescriptor (TX6 k).2.2.1 = some (tyX6 k) := by decide +kernel
abbrev cX6_init : ByteArray := prog_8_method_1_code
def yX6_init : MethodName := ⟨RX6, "<init>", "(LShellLines$Stage;)V"⟩
def RX7 : String := "ShellLines$Reader"
def TX7 : u_T := fun k => match k with
  | 0 => ("ShellLines$Reader", "words", "[LShellLines$Word;", true)
  | 1 => ("ShellLines$Reader", "text", "[B", true)
  | 2 => ("ShellLines$Reader", "length", "I", false)
  | 3 => ("ShellLines$Reader", "fault", "I", false)
  | 4 => ("ShellLines$Reader", "at", "I", false)
  | 5 => ("ShellLines$Reader", "stages", "I", false)
  | _ => ("ShellLines$Reader", "deepest", "I", false)
def tyX7 : Nat → FieldType := fun k => match k with
  | 0 => .array (.object "ShellLines$Word")
  | 1 => .array .byte
  | 2 => .int
  | 3 => .int
  | 4 => .int
  | 5 => .int
  | _ => .int
abbrev wsX70 : List Cond := u_ws RX7 TX7 7
theorem nmX7 : ∀ a, a < 7 → ∀ b, b < 7 → a ≠ b → (TX7 a).2.1 ≠ (TX7 b).2.1 := by decide +kernel
theorem tyX7_ok : ∀ k, k < 7 → parseFieldDescriptor (TX7 k).2.2.1 = some (tyX7 k) := by decide +kernel
abbrev cX7_init : ByteArray := prog_9_method_1_code
def yX7_init : MethodName := ⟨RX7, "<init>", "()V"⟩
abbrev cX7_add : ByteArray := prog_9_method_2_code
def yX7_add : MethodName := ⟨RX7, "add", "(I)Z"⟩
abbrev cX7_readLine : ByteArray := prog_9_method_3_code
def yX7_readLine : MethodName := ⟨RX7, "readLine", "()LShellLines$Line;"⟩
abbrev cX7_sizeOf : ByteArray := prog_9_method_4_code
def yX7_sizeOf : MethodName := ⟨RX7, "sizeOf", "(LShellLines$Pipe;)I"⟩
abbrev cX7_readList : ByteArray := prog_9_method_5_code
def yX7_readList : MethodName := ⟨RX7, "readList", "(I)LShellLines$Pipe;"⟩
abbrev cX7_readPipe : ByteArray := prog_9_method_6_code
def yX7_readPipe : MethodName := ⟨RX7, "readPipe", "(I)LShellLines$Pipe;"⟩
abbrev cX7_readBraces : ByteArray := prog_9_method_7_code
def yX7_readBraces : MethodName := ⟨RX7, "readBraces", "(I)LShellLines$Stage;"⟩
abbrev cX7_readCommand : ByteArray := prog_9_method_8_code
def yX7_readCommand : MethodName := ⟨RX7, "readCommand", "(Z)LShellLines$Stage;"⟩
abbrev cX7_readWord : ByteArray := prog_9_method_9_code
def yX7_readWord : MethodName := ⟨RX7, "readWord", "(Z)LShellLines$Word;"⟩
abbrev cX7_wordAt : ByteArray := prog_9_method_10_code
def yX7_wordAt : MethodName := ⟨RX7, "wordAt", "(I)LShellLines$Word;"⟩
abbrev cX7_readTerm : ByteArray := prog_9_method_11_code
def yX7_readTerm : MethodName := ⟨RX7, "readTerm", "()I"⟩
abbrev cX7_readName : ByteArray := prog_9_method_12_code
def yX7_readName : MethodName := ⟨RX7, "readName", "()I"⟩
abbrev cX7_peek : ByteArray := prog_9_method_13_code
def yX7_peek : MethodName := ⟨RX7, "peek", "()I"⟩
abbrev cX7_takes : ByteArray := prog_9_method_14_code
def yX7_takes : MethodName := ⟨RX7, "takes", "(I)Z"⟩
abbrev cX7_takesOrFaults : ByteArray := prog_9_method_15_code
def yX7_takesOrFaults : MethodName := ⟨RX7, "takesOrFaults", "(I)Z"⟩
abbrev cX7_faultAt : ByteArray := prog_9_method_16_code
def yX7_faultAt : MethodName := ⟨RX7, "faultAt", "(I)Z"⟩
abbrev cX7_isJoin : ByteArray := prog_9_method_17_code
def yX7_isJoin : MethodName := ⟨RX7, "isJoin", "(I)Z"⟩
abbrev cX7_isLetter : ByteArray := prog_9_method_18_code
def yX7_isLetter : MethodName := ⟨RX7, "isLetter", "(I)Z"⟩
abbrev cX7_isDigit : ByteArray := prog_9_method_19_code
def yX7_isDigit : MethodName := ⟨RX7, "isDigit", "(I)Z"⟩
def RX8 : String := "ShellLines$Rows"
def TX8 : u_T := fun k => match k with
  | 0 => ("ShellLines$Rows", "left", "[I", true)
  | 1 => ("ShellLines$Rows", "right", "[I", true)
  | _ => ("ShellLines$Rows", "size", "I", false)
def tyX8 : Nat → FieldType := fun k => match k with
  | 0 => .array .int
  | 1 => .array .int
  | _ => .int
abbrev wsX80 : List Cond := u_ws RX8 TX8 3
theorem nmX8 : ∀ a, a < 3 → ∀ b, b < 3 → a ≠ b → (TX8 a).2.1 ≠ (TX8 b).2.1 := by decide +kernel
theorem tyX8_ok : ∀ k, k < 3 → parseFieldDescriptor (TX8 k).2.2.1 = some (tyX8 k) := by decide +kernel
abbrev cX8_init : ByteArray := prog_10_method_1_code
def yX8_init : MethodName := ⟨RX8, "<init>", "(I)V"⟩
abbrev cX8_add : ByteArray := prog_10_method_2_code
def yX8_add : MethodName := ⟨RX8, "add", "(II)I"⟩
abbrev cX8_clear : ByteArray := prog_10_method_3_code
def yX8_clear : MethodName := ⟨RX8, "clear", "()I"⟩
abbrev cX8_copyFrom : ByteArray := prog_10_method_4_code
def yX8_copyFrom : MethodName := ⟨RX8, "copyFrom", "(LShellLines$Rows;)V"⟩
def RX9 : String := "ShellLines$Stage"
def TX9 : u_T := fun k => match k with
  | 0 => ("ShellLines$Stage", "word", "LShellLines$Word;", true)
  | 1 => ("ShellLines$Stage", "terms", "[I", true)
  | 2 => ("ShellLines$Stage", "termCount", "I", false)
  | _ => ("ShellLines$Stage", "inner", "LShellLines$Pipe;", false)
def tyX9 : Nat → FieldType := fun k => match k with
  | 0 => .object "ShellLines$Word"
  | 1 => .array .int
  | 2 => .int
  | _ => .object "ShellLines$Pipe"
abbrev wsX90 : List Cond := u_ws RX9 TX9 4
theorem nmX9 : ∀ a, a < 4 → ∀ b, b < 4 → a ≠ b → (TX9 a).2.1 ≠ (TX9 b).2.1 := by decide +kernel
theorem tyX9_ok : ∀ k, k < 4 → parseFieldDescriptor (TX9 k).2.2.1 = some (tyX9 k) := by decide +kernel
abbrev cX9_init : ByteArray := prog_11_method_1_code
def yX9_init : MethodName := ⟨RX9, "<init>", "(LShellLines$Word;)V"⟩
abbrev cX9_hasList : ByteArray := prog_11_method_2_code
def yX9_hasList : MethodName := ⟨RX9, "hasList", "()Z"⟩
def RX10 : String := "ShellLines$Tape"
def TX10 : u_T := fun k => match k with
  | 0 => ("ShellLines$Tape", "sort", "I", false)
  | 1 => ("ShellLines$Tape", "size", "I", false)
  | _ => ("ShellLines$Tape", "items", "[J", true)
def tyX10 : Nat → FieldType := fun k => match k with
  | 0 => .int
  | 1 => .int
  | _ => .array .long
theorem nmX10 : ∀ a, a < 3 → ∀ b, b < 3 → a ≠ b → (TX10 a).2.1 ≠ (TX10 b).2.1 := by decide +kernel
theorem tyX10_ok : ∀ k, k < 3 → parseFieldDescriptor (TX10 k).2.2.1 = some (tyX10 k) := by decide +kernel
abbrev cX10_init : ByteArray := prog_12_method_1_code
def yX10_init : MethodName := ⟨RX10, "<init>", "()V"⟩
abbrev cX10_become : ByteArray := prog_12_method_2_code
def yX10_become : MethodName := ⟨RX10, "become", "(II)I"⟩
abbrev cX10_held : ByteArray := prog_12_method_3_code
def yX10_held : MethodName := ⟨RX10, "held", "(J)J"⟩
abbrev cX10_has : ByteArray := prog_12_method_4_code
def yX10_has : MethodName := ⟨RX10, "has", "(II)Z"⟩
def RX11 : String := "ShellLines$Word"
def TX11 : u_T := fun k => match k with
  | _ => ("", "", "", false)
def tyX11 : Nat → FieldType := fun k => match k with
  | _ => .int
theorem nmX11 : ∀ a, a < 0 → ∀ b, b < 0 → a ≠ b → (TX11 a).2.1 ≠ (TX11 b).2.1 := by decide +kernel
theorem tyX11_ok : ∀ k, k < 0 → parseFieldDescriptor (TX11 k).2.2.1 = some (tyX11 k) := by decide +kernel
abbrev cX11_values : ByteArray := prog_13_method_1_code
def yX11_values : MethodName := ⟨RX11, "values", "()[LShellLines$Word;"⟩
def RX12 : String := "ShellLines"
def TX12 : u_T := fun k => match k with
  | 0 => ("ShellLines", "reader", "LShellLines$Reader;", true)
  | 1 => ("ShellLines", "machine", "LShellLines$Machine;", true)
  | 2 => ("ShellLines", "now", "LShellLines$Kept;", true)
  | 3 => ("ShellLines", "imaged", "LShellLines$Kept;", true)
  | 4 => ("ShellLines", "imageTaken", "Z", false)
  | 5 => ("ShellLines", "trial", "LShellLines$Kept;", true)
  | 6 => ("ShellLines", "rival", "LShellLines$Kept;", true)
  | 7 => ("ShellLines", "jobs", "[LShellLines$Frame;", true)
  | 8 => ("ShellLines", "jobLines", "[I", true)
  | 9 => ("ShellLines", "jobFuel", "[I", true)
  | _ => ("ShellLines", "tapes", "[LShellLines$Tape;", true)
def tyX12 : Nat → FieldType := fun k => match k with
  | 0 => .object "ShellLines$Reader"
  | 1 => .object "ShellLines$Machine"
  | 2 => .object "ShellLines$Kept"
  | 3 => .object "ShellLines$Kept"
  | 4 => .boolean
  | 5 => .object "ShellLines$Kept"
  | 6 => .object "ShellLines$Kept"
  | 7 => .array (.object "ShellLines$Frame")
  | 8 => .array .int
  | 9 => .array .int
  | _ => .array (.object "ShellLines$Tape")
theorem nmX12 : ∀ a, a < 11 → ∀ b, b < 11 → a ≠ b → (TX12 a).2.1 ≠ (TX12 b).2.1 := by decide +kernel
theorem tyX12_ok : ∀ k, k < 11 → parseFieldDescriptor (TX12 k).2.2.1 = some (tyX12 k) := by decide +kernel
abbrev cX12_init : ByteArray := prog_1_method_1_code
def yX12_init : MethodName := ⟨RX12, "<init>", "()V"⟩
abbrev cX12_feed : ByteArray := prog_1_method_2_code
def yX12_feed : MethodName := ⟨RX12, "feed", "(I)I"⟩
abbrev cX12_line : ByteArray := prog_1_method_3_code
def yX12_line : MethodName := ⟨RX12, "line", "()I"⟩
abbrev cX12_of : ByteArray := prog_1_method_4_code
def yX12_of : MethodName := ⟨RX12, "of", "(II)I"⟩
abbrev cX12_define : ByteArray := prog_1_method_5_code
def yX12_define : MethodName := ⟨RX12, "define", "(II)I"⟩
abbrev cX12_trap : ByteArray := prog_1_method_6_code
def yX12_trap : MethodName := ⟨RX12, "trap", "(I)I"⟩
abbrev cX12_value : ByteArray := prog_1_method_7_code
def yX12_value : MethodName := ⟨RX12, "value", "(II)J"⟩
abbrev cX12_isLine : ByteArray := prog_1_method_8_code
def yX12_isLine : MethodName := ⟨RX12, "isLine", "(I)Z"⟩
abbrev cX12_isLineOrNone : ByteArray := prog_1_method_9_code
def yX12_isLineOrNone : MethodName := ⟨RX12, "isLineOrNone", "(I)Z"⟩
abbrev cX12_isName : ByteArray := prog_1_method_10_code
def yX12_isName : MethodName := ⟨RX12, "isName", "(I)Z"⟩
abbrev cX12_isFunction : ByteArray := prog_1_method_11_code
def yX12_isFunction : MethodName := ⟨RX12, "isFunction", "(I)Z"⟩
abbrev cX12_run : ByteArray := prog_1_method_12_code
def yX12_run : MethodName := ⟨RX12, "run", "(I)I"⟩
abbrev cX12_told : ByteArray := prog_1_method_13_code
def yX12_told : MethodName := ⟨RX12, "told", "(I)J"⟩
abbrev cX12_ofRun : ByteArray := prog_1_method_14_code
def yX12_ofRun : MethodName := ⟨RX12, "ofRun", "(LShellLines$Kept;I)J"⟩
abbrev cX12_job : ByteArray := prog_1_method_15_code
def yX12_job : MethodName := ⟨RX12, "job", "(I)I"⟩
abbrev cX12_turn : ByteArray := prog_1_method_16_code
def yX12_turn : MethodName := ⟨RX12, "turn", "(I)J"⟩
abbrev cX12_stop : ByteArray := prog_1_method_17_code
def yX12_stop : MethodName := ⟨RX12, "stop", "(I)I"⟩
abbrev cX12_isJob : ByteArray := prog_1_method_18_code
def yX12_isJob : MethodName := ⟨RX12, "isJob", "(I)Z"⟩
abbrev cX12_on : ByteArray := prog_1_method_19_code
def yX12_on : MethodName := ⟨RX12, "on", "(II)J"⟩
abbrev cX12_tryLine : ByteArray := prog_1_method_20_code
def yX12_tryLine : MethodName := ⟨RX12, "tryLine", "(LShellLines$Kept;I)V"⟩
abbrev cX12_tryLineWith : ByteArray := prog_1_method_21_code
def yX12_tryLineWith : MethodName := ⟨RX12, "tryLineWith", "(III)V"⟩
abbrev cX12_see : ByteArray := prog_1_method_22_code
def yX12_see : MethodName := ⟨RX12, "see", "(II)I"⟩
abbrev cX12_fits : ByteArray := prog_1_method_23_code
def yX12_fits : MethodName := ⟨RX12, "fits", "(III)I"⟩
abbrev cX12_hasAllSeen : ByteArray := prog_1_method_24_code
def yX12_hasAllSeen : MethodName := ⟨RX12, "hasAllSeen", "(LShellLines$Numbers;)Z"⟩
abbrev cX12_alike : ByteArray := prog_1_method_25_code
def yX12_alike : MethodName := ⟨RX12, "alike", "(II)I"⟩
abbrev cX12_odds : ByteArray := prog_1_method_26_code
def yX12_odds : MethodName := ⟨RX12, "odds", "(III)J"⟩
abbrev cX12_mean : ByteArray := prog_1_method_27_code
def yX12_mean : MethodName := ⟨RX12, "mean", "(II)J"⟩
abbrev cX12_isPart : ByteArray := prog_1_method_28_code
def yX12_isPart : MethodName := ⟨RX12, "isPart", "(I)Z"⟩
abbrev cX12_lowest : ByteArray := prog_1_method_29_code
def yX12_lowest : MethodName := ⟨RX12, "lowest", "(JII)J"⟩
abbrev cX12_plan : ByteArray := prog_1_method_30_code
def yX12_plan : MethodName := ⟨RX12, "plan", "(II)I"⟩
abbrev cX12_isPlanned : ByteArray := prog_1_method_31_code
def yX12_isPlanned : MethodName := ⟨RX12, "isPlanned", "(II)Z"⟩
abbrev cX12_ends : ByteArray := prog_1_method_32_code
def yX12_ends : MethodName := ⟨RX12, "ends", "(I)J"⟩
abbrev cX12_carryOut : ByteArray := prog_1_method_33_code
def yX12_carryOut : MethodName := ⟨RX12, "carryOut", "(II)V"⟩
abbrev cX12_book : ByteArray := prog_1_method_34_code
def yX12_book : MethodName := ⟨RX12, "book", "(II)I"⟩
abbrev cX12_looked : ByteArray := prog_1_method_35_code
def yX12_looked : MethodName := ⟨RX12, "looked", "()I"⟩
abbrev cX12_judge : ByteArray := prog_1_method_36_code
def yX12_judge : MethodName := ⟨RX12, "judge", "(II)I"⟩
abbrev cX12_image : ByteArray := prog_1_method_37_code
def yX12_image : MethodName := ⟨RX12, "image", "()I"⟩
abbrev cX12_undo : ByteArray := prog_1_method_38_code
def yX12_undo : MethodName := ⟨RX12, "undo", "()I"⟩
abbrev cX12_count : ByteArray := prog_1_method_39_code
def yX12_count : MethodName := ⟨RX12, "count", "(I)I"⟩
abbrev cX12_jobCount : ByteArray := prog_1_method_40_code
def yX12_jobCount : MethodName := ⟨RX12, "jobCount", "()I"⟩
abbrev cX12_tape : ByteArray := prog_1_method_41_code
def yX12_tape : MethodName := ⟨RX12, "tape", "(III)I"⟩
abbrev cX12_item : ByteArray := prog_1_method_42_code
def yX12_item : MethodName := ⟨RX12, "item", "(IIJ)I"⟩
abbrev cX12_read : ByteArray := prog_1_method_43_code
def yX12_read : MethodName := ⟨RX12, "read", "(II)J"⟩
abbrev cX12_shift : ByteArray := prog_1_method_44_code
def yX12_shift : MethodName := ⟨RX12, "shift", "(IIIII)I"⟩
abbrev cX12_isTape : ByteArray := prog_1_method_45_code
def yX12_isTape : MethodName := ⟨RX12, "isTape", "(I)Z"⟩
def RX13 : String := "ShellLinesModel"
def TX13 : u_T := fun k => match k with
  | 0 => ("ShellLinesModel", "words", "[Ljava/lang/String;", true)
  | 1 => ("ShellLinesModel", "listFirst", "[I", true)
  | 2 => ("ShellLinesModel", "listNext", "[I", true)
  | 3 => ("ShellLinesModel", "joint", "[I", true)
  | 4 => ("ShellLinesModel", "stageFirst", "[I", true)
  | 5 => ("ShellLinesModel", "stageMany", "[I", true)
  | 6 => ("ShellLinesModel", "word", "[I", true)
  | 7 => ("ShellLinesModel", "inner", "[I", true)
  | 8 => ("ShellLinesModel", "many", "[I", true)
  | 9 => ("ShellLinesModel", "number", "[I", true)
  | 10 => ("ShellLinesModel", "stagesIn", "[I", true)
  | 11 => ("ShellLinesModel", "deepIn", "[I", true)
  | 12 => ("ShellLinesModel", "lines", "I", false)
  | 13 => ("ShellLinesModel", "values", "[I", true)
  | 14 => ("ShellLinesModel", "functions", "[I", true)
  | 15 => ("ShellLinesModel", "trap", "I", false)
  | 16 => ("ShellLinesModel", "text", "[I", true)
  | 17 => ("ShellLinesModel", "texted", "I", false)
  | 18 => ("ShellLinesModel", "at", "I", false)
  | 19 => ("ShellLinesModel", "fault", "I", false)
  | 20 => ("ShellLinesModel", "readLists", "I", false)
  | 21 => ("ShellLinesModel", "readPipes", "I", false)
  | 22 => ("ShellLinesModel", "readStages", "I", false)
  | 23 => ("ShellLinesModel", "deepest", "I", false)
  | 24 => ("ShellLinesModel", "pipeOf", "[I", true)
  | 25 => ("ShellLinesModel", "parameter", "[I", true)
  | 26 => ("ShellLinesModel", "worked", "[I", true)
  | 27 => ("ShellLinesModel", "place", "[I", true)
  | 28 => ("ShellLinesModel", "ended", "[Z", true)
  | 29 => ("ShellLinesModel", "status", "[I", true)
  | 30 => ("ShellLinesModel", "written", "[I", true)
  | 31 => ("ShellLinesModel", "writtenMany", "[I", true)
  | 32 => ("ShellLinesModel", "fuel", "I", false)
  | 33 => ("ShellLinesModel", "going", "I", false)
  | 34 => ("ShellLinesModel", "reads", "I", false)
  | 35 => ("ShellLinesModel", "out", "[I", true)
  | 36 => ("ShellLinesModel", "outMany", "I", false)
  | 37 => ("ShellLinesModel", "ranStatus", "I", false)
  | 38 => ("ShellLinesModel", "lastOut", "[I", true)
  | 39 => ("ShellLinesModel", "lastMany", "I", false)
  | 40 => ("ShellLinesModel", "lastStatus", "I", false)
  | 41 => ("ShellLinesModel", "lastReads", "I", false)
  | 42 => ("ShellLinesModel", "jobLine", "[I", true)
  | 43 => ("ShellLinesModel", "jobFuel", "[I", true)
  | 44 => ("ShellLinesModel", "jobPipe", "[I", true)
  | 45 => ("ShellLinesModel", "jobGoes", "[Z", true)
  | 46 => ("ShellLinesModel", "jobStatus", "[I", true)
  | 47 => ("ShellLinesModel", "wasValues", "[I", true)
  | 48 => ("ShellLinesModel", "seen", "[I", true)
  | 49 => ("ShellLinesModel", "seenMany", "I", false)
  | 50 => ("ShellLinesModel", "otherOut", "[I", true)
  | 51 => ("ShellLinesModel", "plans", "[I", true)
  | 52 => ("ShellLinesModel", "planMany", "I", false)
  | 53 => ("ShellLinesModel", "books", "[I", true)
  | 54 => ("ShellLinesModel", "bookMany", "I", false)
  | 55 => ("ShellLinesModel", "planValues", "[I", true)
  | 56 => ("ShellLinesModel", "planFunctions", "[I", true)
  | 57 => ("ShellLinesModel", "kept", "[I", true)
  | 58 => ("ShellLinesModel", "hasImage", "Z", false)
  | 59 => ("ShellLinesModel", "singles", "[I", true)
  | 60 => ("ShellLinesModel", "sorts", "[I", true)
  | 61 => ("ShellLinesModel", "sizes", "[I", true)
  | _ => ("ShellLinesModel", "items", "[J", true)
def tyX13 : Nat → FieldType := fun k => match k with
  | 0 => .array (.object "java/lang/String")
  | 1 => .array .int
  | 2 => .array .int
  | 3 => .array .int
  | 4 => .array .int
  | 5 => .array .int
  | 6 => .array .int
  | 7 => .array .int
  | 8 => .array .int
  | 9 => .array .int
  | 10 => .array .int
  | 11 => .array .int
  | 12 => .int
  | 13 => .array .int
  | 14 => .array .int
  | 15 => .int
  | 16 => .array .int
  | 17 => .int
  | 18 => .int
  | 19 => .int
  | 20 => .int
  | 21 => .int
  | 22 => .int
  | 23 => .int
  | 24 => .array .int
  | 25 => .array .int
  | 26 => .array .int
  | 27 => .array .int
  | 28 => .array .boolean
  | 29 => .array .int
  | 30 => .array .int
  | 31 => .array .int
  | 32 => .int
  | 33 => .int
  | 34 => .int
  | 35 => .array .int
  | 36 => .int
  | 37 => .int
  | 38 => .array .int
  | 39 => .int
  | 40 => .int
  | 41 => .int
  | 42 => .array .int
  | 43 => .array .int
  | 44 => .array .int
  | 45 => .array .boolean
  | 46 => .array .int
  | 47 => .array .int
  | 48 => .array .int
  | 49 => .int
  | 50 => .array .int
  | 51 => .array .int
  | 52 => .int
  | 53 => .array .int
  | 54 => .int
  | 55 => .array .int
  | 56 => .array .int
  | 57 => .array .int
  | 58 => .boolean
  | 59 => .array .int
  | 60 => .array .int
  | 61 => .array .int
  | _ => .array .long
theorem nmX13 : ∀ a, a < 63 → ∀ b, b < 63 → a ≠ b → (TX13 a).2.1 ≠ (TX13 b).2.1 := by decide +kernel
theorem tyX13_ok : ∀ k, k < 63 → parseFieldDescriptor (TX13 k).2.2.1 = some (tyX13 k) := by decide +kernel
abbrev cX13_init : ByteArray := prog_15_method_1_code
def yX13_init : MethodName := ⟨RX13, "<init>", "()V"⟩
abbrev cX13_in : ByteArray := prog_15_method_2_code
def yX13_in : MethodName := ⟨RX13, "in", "(JJJ)Z"⟩
abbrev cX13_feed : ByteArray := prog_15_method_3_code
def yX13_feed : MethodName := ⟨RX13, "feed", "(I)I"⟩
abbrev cX13_byteAt : ByteArray := prog_15_method_4_code
def yX13_byteAt : MethodName := ⟨RX13, "byteAt", "(I)I"⟩
abbrev cX13_stops : ByteArray := prog_15_method_5_code
def yX13_stops : MethodName := ⟨RX13, "stops", "(I)Z"⟩
abbrev cX13_listRead : ByteArray := prog_15_method_6_code
def yX13_listRead : MethodName := ⟨RX13, "listRead", "(I)I"⟩
abbrev cX13_pipeRead : ByteArray := prog_15_method_7_code
def yX13_pipeRead : MethodName := ⟨RX13, "pipeRead", "(I)I"⟩
abbrev cX13_stageRead : ByteArray := prog_15_method_8_code
def yX13_stageRead : MethodName := ⟨RX13, "stageRead", "(ZI)I"⟩
abbrev cX13_newStage : ByteArray := prog_15_method_9_code
def yX13_newStage : MethodName := ⟨RX13, "newStage", "(I)I"⟩
abbrev cX13_wordOf : ByteArray := prog_15_method_10_code
def yX13_wordOf : MethodName := ⟨RX13, "wordOf", "(II)I"⟩
abbrev cX13_isWhole : ByteArray := prog_15_method_11_code
def yX13_isWhole : MethodName := ⟨RX13, "isWhole", "(II)Z"⟩
abbrev cX13_isNumber : ByteArray := prog_15_method_12_code
def yX13_isNumber : MethodName := ⟨RX13, "isNumber", "(I)Z"⟩
abbrev cX13_line : ByteArray := prog_15_method_13_code
def yX13_line : MethodName := ⟨RX13, "line", "()I"⟩
abbrev cX13_isLine : ByteArray := prog_15_method_14_code
def yX13_isLine : MethodName := ⟨RX13, "isLine", "(I)Z"⟩
abbrev cX13_of : ByteArray := prog_15_method_15_code
def yX13_of : MethodName := ⟨RX13, "of", "(II)I"⟩
abbrev cX13_define : ByteArray := prog_15_method_16_code
def yX13_define : MethodName := ⟨RX13, "define", "(II)I"⟩
abbrev cX13_trap : ByteArray := prog_15_method_17_code
def yX13_trap : MethodName := ⟨RX13, "trap", "(I)I"⟩
abbrev cX13_value : ByteArray := prog_15_method_18_code
def yX13_value : MethodName := ⟨RX13, "value", "(II)J"⟩
abbrev cX13_writes : ByteArray := prog_15_method_19_code
def yX13_writes : MethodName := ⟨RX13, "writes", "(II)V"⟩
abbrev cX13_begins : ByteArray := prog_15_method_20_code
def yX13_begins : MethodName := ⟨RX13, "begins", "(III)V"⟩
abbrev cX13_stageAt : ByteArray := prog_15_method_21_code
def yX13_stageAt : MethodName := ⟨RX13, "stageAt", "(II)I"⟩
abbrev cX13_ahead : ByteArray := prog_15_method_22_code
def yX13_ahead : MethodName := ⟨RX13, "ahead", "(II)J"⟩
abbrev cX13_next : ByteArray := prog_15_method_23_code
def yX13_next : MethodName := ⟨RX13, "next", "(II)J"⟩
abbrev cX13_asked : ByteArray := prog_15_method_24_code
def yX13_asked : MethodName := ⟨RX13, "asked", "(IIII)J"⟩
abbrev cX13_keeps : ByteArray := prog_15_method_25_code
def yX13_keeps : MethodName := ⟨RX13, "keeps", "(III)J"⟩
abbrev cX13_sums : ByteArray := prog_15_method_26_code
def yX13_sums : MethodName := ⟨RX13, "sums", "(II)J"⟩
abbrev cX13_sets : ByteArray := prog_15_method_27_code
def yX13_sets : MethodName := ⟨RX13, "sets", "(III)J"⟩
abbrev cX13_within : ByteArray := prog_15_method_28_code
def yX13_within : MethodName := ⟨RX13, "within", "(III)J"⟩
abbrev cX13_isOn : ByteArray := prog_15_method_29_code
def yX13_isOn : MethodName := ⟨RX13, "isOn", "(II)Z"⟩
abbrev cX13_goes : ByteArray := prog_15_method_30_code
def yX13_goes : MethodName := ⟨RX13, "goes", "(IIII)I"⟩
abbrev cX13_pipeGoes : ByteArray := prog_15_method_31_code
def yX13_pipeGoes : MethodName := ⟨RX13, "pipeGoes", "(IIII)I"⟩
abbrev cX13_runs : ByteArray := prog_15_method_32_code
def yX13_runs : MethodName := ⟨RX13, "runs", "(I)V"⟩
abbrev cX13_run : ByteArray := prog_15_method_33_code
def yX13_run : MethodName := ⟨RX13, "run", "(I)I"⟩
abbrev cX13_copies : ByteArray := prog_15_method_34_code
def yX13_copies : MethodName := ⟨RX13, "copies", "([I[I)V"⟩
abbrev cX13_told : ByteArray := prog_15_method_35_code
def yX13_told : MethodName := ⟨RX13, "told", "(I)J"⟩
abbrev cX13_job : ByteArray := prog_15_method_36_code
def yX13_job : MethodName := ⟨RX13, "job", "(I)I"⟩
abbrev cX13_jobBegins : ByteArray := prog_15_method_37_code
def yX13_jobBegins : MethodName := ⟨RX13, "jobBegins", "(I)V"⟩
abbrev cX13_turn : ByteArray := prog_15_method_38_code
def yX13_turn : MethodName := ⟨RX13, "turn", "(I)J"⟩
abbrev cX13_stop : ByteArray := prog_15_method_39_code
def yX13_stop : MethodName := ⟨RX13, "stop", "(I)I"⟩
abbrev cX13_thinks : ByteArray := prog_15_method_40_code
def yX13_thinks : MethodName := ⟨RX13, "thinks", "(I)V"⟩
abbrev cX13_on : ByteArray := prog_15_method_41_code
def yX13_on : MethodName := ⟨RX13, "on", "(II)J"⟩
abbrev cX13_see : ByteArray := prog_15_method_42_code
def yX13_see : MethodName := ⟨RX13, "see", "(II)I"⟩
abbrev cX13_isSeen : ByteArray := prog_15_method_43_code
def yX13_isSeen : MethodName := ⟨RX13, "isSeen", "()Z"⟩
abbrev cX13_isName : ByteArray := prog_15_method_44_code
def yX13_isName : MethodName := ⟨RX13, "isName", "(I)Z"⟩
abbrev cX13_fits : ByteArray := prog_15_method_45_code
def yX13_fits : MethodName := ⟨RX13, "fits", "(III)I"⟩
abbrev cX13_alike : ByteArray := prog_15_method_46_code
def yX13_alike : MethodName := ⟨RX13, "alike", "(II)I"⟩
abbrev cX13_lowest : ByteArray := prog_15_method_47_code
def yX13_lowest : MethodName := ⟨RX13, "lowest", "(JJI)J"⟩
abbrev cX13_odds : ByteArray := prog_15_method_48_code
def yX13_odds : MethodName := ⟨RX13, "odds", "(III)J"⟩
abbrev cX13_mean : ByteArray := prog_15_method_49_code
def yX13_mean : MethodName := ⟨RX13, "mean", "(II)J"⟩
abbrev cX13_plan : ByteArray := prog_15_method_50_code
def yX13_plan : MethodName := ⟨RX13, "plan", "(II)I"⟩
abbrev cX13_ends : ByteArray := prog_15_method_51_code
def yX13_ends : MethodName := ⟨RX13, "ends", "(I)J"⟩
abbrev cX13_book : ByteArray := prog_15_method_52_code
def yX13_book : MethodName := ⟨RX13, "book", "(II)I"⟩
abbrev cX13_looked : ByteArray := prog_15_method_53_code
def yX13_looked : MethodName := ⟨RX13, "looked", "()I"⟩
abbrev cX13_row : ByteArray := prog_15_method_54_code
def yX13_row : MethodName := ⟨RX13, "row", "([IIIZ)I"⟩
abbrev cX13_carries : ByteArray := prog_15_method_55_code
def yX13_carries : MethodName := ⟨RX13, "carries", "(Z)V"⟩
abbrev cX13_image : ByteArray := prog_15_method_56_code
def yX13_image : MethodName := ⟨RX13, "image", "()I"⟩
abbrev cX13_undo : ByteArray := prog_15_method_57_code
def yX13_undo : MethodName := ⟨RX13, "undo", "()I"⟩
abbrev cX13_jobs : ByteArray := prog_15_method_58_code
def yX13_jobs : MethodName := ⟨RX13, "jobs", "()I"⟩
abbrev cX13_count : ByteArray := prog_15_method_59_code
def yX13_count : MethodName := ⟨RX13, "count", "(I)I"⟩
abbrev cX13_judge : ByteArray := prog_15_method_60_code
def yX13_judge : MethodName := ⟨RX13, "judge", "(II)I"⟩
abbrev cX13_tape : ByteArray := prog_15_method_61_code
def yX13_tape : MethodName := ⟨RX13, "tape", "(III)I"⟩
abbrev cX13_lowestBits : ByteArray := prog_15_method_62_code
def yX13_lowestBits : MethodName := ⟨RX13, "lowestBits", "(IJ)J"⟩
abbrev cX13_item : ByteArray := prog_15_method_63_code
def yX13_item : MethodName := ⟨RX13, "item", "(IIJ)I"⟩
abbrev cX13_read : ByteArray := prog_15_method_64_code
def yX13_read : MethodName := ⟨RX13, "read", "(II)J"⟩
abbrev cX13_shift : ByteArray := prog_15_method_65_code
def yX13_shift : MethodName := ⟨RX13, "shift", "(IIIII)I"⟩
def RJx8e188 : String := "java/lang/Cloneable"
def TJx8e188 : u_T := fun k => match k with
  | _ => ("", "", "", false)
def tyJx8e188 : Nat → FieldType := fun k => match k with
  | _ => .int
def RJx29ce0 : String := "java/lang/Enum"
def TJx29ce0 : u_T := fun k => match k with
  | _ => ("", "", "", false)
def tyJx29ce0 : Nat → FieldType := fun k => match k with
  | _ => .int
abbrev cJx29ce0_ordinal_8abf5 : ByteArray := prog_17_method_2_code
def yJx29ce0_ordinal_8abf5 : MethodName := ⟨RJx29ce0, "ordinal", "()I"⟩
def RJ9 : String := "java/lang/Math"
def TJ9 : u_T := fun k => match k with
  | _ => ("", "", "", false)
def tyJ9 : Nat → FieldType := fun k => match k with
  | _ => .int
abbrev cJ9_max_7cf53 : ByteArray := prog_18_method_65_code
def yJ9_max_7cf53 : MethodName := ⟨RJ9, "max", "(II)I"⟩
abbrev cJ9_min_7cf53 : ByteArray := prog_18_method_69_code
def yJ9_min_7cf53 : MethodName := ⟨RJ9, "min", "(II)I"⟩
def RJ0 : String := "java/lang/String"
def TJ0 : u_T := fun k => match k with
  | _ => ("", "", "", false)
def tyJ0 : Nat → FieldType := fun k => match k with
  | _ => .int
abbrev cJ0_length_8abf5 : ByteArray := prog_19_method_54_code
def yJ0_length_8abf5 : MethodName := ⟨RJ0, "length", "()I"⟩
abbrev cJ0_charAt_5068e : ByteArray := prog_19_method_56_code
def yJ0_charAt_5068e : MethodName := ⟨RJ0, "charAt", "(I)C"⟩
abbrev cJ0_coder_7d493 : ByteArray := prog_19_method_152_code
def yJ0_coder_7d493 : MethodName := ⟨RJ0, "coder", "()B"⟩
abbrev cJ0_isLatin1_aae02 : ByteArray := prog_19_method_154_code
def yJ0_isLatin1_aae02 : MethodName := ⟨RJ0, "isLatin1", "()Z"⟩
abbrev cJ0_checkIndex_df160 : ByteArray := prog_19_method_155_code
def yJ0_checkIndex_df160 : MethodName := ⟨RJ0, "checkIndex", "(II)V"⟩
def RJ1 : String := "java/lang/StringLatin1"
def TJ1 : u_T := fun k => match k with
  | _ => ("", "", "", false)
def tyJ1 : Nat → FieldType := fun k => match k with
  | _ => .int
abbrev cJ1_charAt_3b067 : ByteArray := prog_20_method_2_code
def yJ1_charAt_3b067 : MethodName := ⟨RJ1, "charAt", "([BI)C"⟩
def RJ2 : String := "java/lang/StringUTF16"
def TJ2 : u_T := fun k => match k with
  | _ => ("", "", "", false)
def tyJ2 : Nat → FieldType := fun k => match k with
  | _ => .int
abbrev cJ2_getChar_3b067 : ByteArray := prog_21_method_5_code
def yJ2_getChar_3b067 : MethodName := ⟨RJ2, "getChar", "([BI)C"⟩
abbrev cJ2_length_9d52b : ByteArray := prog_21_method_6_code
def yJ2_length_9d52b : MethodName := ⟨RJ2, "length", "([B)I"⟩
abbrev cJ2_charAt_3b067 : ByteArray := prog_21_method_83_code
def yJ2_charAt_3b067 : MethodName := ⟨RJ2, "charAt", "([BI)C"⟩
abbrev cJ2_checkIndex_2214a : ByteArray := prog_21_method_91_code
def yJ2_checkIndex_2214a : MethodName := ⟨RJ2, "checkIndex", "(I[B)V"⟩
def RJ10 : String := "java/lang/System"
def TJ10 : u_T := fun k => match k with
  | _ => ("", "", "", false)
def tyJ10 : Nat → FieldType := fun k => match k with
  | _ => .int
def RJ3 : String := "jdk/internal/util/Preconditions"
def TJ3 : u_T := fun k => match k with
  | _ => ("", "", "", false)
def tyJ3 : Nat → FieldType := fun k => match k with
  | _ => .int
abbrev cJ3_checkIndex_8e157 : ByteArray := prog_23_method_11_code
def yJ3_checkIndex_8e157 : MethodName := ⟨RJ3, "checkIndex", "(IILjava/util/function/BiFunction;)I"⟩
def RL : String := "ShellLinesLaw"
abbrev cL_law : ByteArray := code
def yL_law : MethodName := ⟨RL, "law", "([I)Z"⟩
abbrev vwCl : List vw_C := [(RX1, TX1, 11), (RX2, TX2, 9), (RX3, TX3, 4), (RX4, TX4, 5), (RX5, TX5, 2), (RX6, TX6, 4), (RX7, TX7, 7), (RX8, TX8, 3), (RX9, TX9, 4), (RX10, TX10, 3), (RX12, TX12, 11), (RX13, TX13, 63)]
end
section
theorem dX1_init_0 : decode cX1_init 0 = .ok (.aload_n 0, 1) := by decide +kernel
theorem dX1_init_1 : decode cX1_init 1 = .ok (.invokespecial 3, 3) := by decide +kernel
theorem dX1_init_4 : decode cX1_init 4 = .ok (.aload_n 0, 1) := by decide +kernel
theorem dX1_init_5 : decode cX1_init 5 = .ok (.bipush 24, 2) := by decide +kernel
theorem dX1_init_7 : decode cX1_init 7 = .ok (.newarray .int, 2) := by decide +kernel
theorem dX1_init_9 : decode cX1_init 9 = .ok (.putfield 9, 3) := by decide +kernel
theorem dX1_init_12 : decode cX1_init 12 = .ok (.aload_n 0, 1) := by decide +kernel
theorem dX1_init_13 : decode cX1_init 13 = .ok (.bipush 6, 2) := by decide +kernel
theorem dX1_init_15 : decode cX1_init 15 = .ok (.newarray .int, 2) := by decide +kernel
theorem dX1_init_17 : decode cX1_init 17 = .ok (.putfield 15, 3) := by decide +kernel
theorem dX1_init_20 : decode cX1_init 20 = .ok (.aload_n 0, 1) := by decide +kernel
theorem dX1_init_21 : decode cX1_init 21 = .ok (.bipush 6, 2) := by decide +kernel
theorem dX1_init_23 : decode cX1_init 23 = .ok (.newarray .boolean, 2) := by decide +kernel
theorem dX1_init_25 : decode cX1_init 25 = .ok (.putfield 18, 3) := by decide +kernel
theorem dX1_init_28 : decode cX1_init 28 = .ok (.aload_n 0, 1) := by decide +kernel
theorem dX1_init_29 : decode cX1_init 29 = .ok (.bipush 6, 2) := by decide +kernel
theorem dX1_init_31 : decode cX1_init 31 = .ok (.newarray .int, 2) := by decide +kernel
theorem dX1_init_33 : decode cX1_init 33 = .ok (.putfield 22, 3) := by decide +kernel
theorem dX1_init_36 : decode cX1_init 36 = .ok (.aload_n 0, 1) := by decide +kernel
theorem dX1_init_37 : decode cX1_init 37 = .ok (.new 25, 3) := by decide +kernel
theorem dX1_init_40 : decode cX1_init 40 = .ok (.dup, 1) := by decide +kernel
theorem dX1_init_41 : decode cX1_init 41 = .ok (.invokespecial 27, 3) := by decide +kernel
theorem dX1_init_44 : decode cX1_init 44 = .ok (.putfield 28, 3) := by decide +kernel
theorem dX1_init_47 : decode cX1_init 47 = .ok (.return_, 1) := by decide +kernel
theorem dX1_open_0 : decode cX1_open 0 = .ok (.aload_n 0, 1) := by decide +kernel
theorem dX1_open_1 : decode cX1_open 1 = .ok (.aload_n 1, 1) := by decide +kernel
theorem dX1_open_2 : decode cX1_open 2 = .ok (.putfield 32, 3) := by decide +kernel
theorem dX1_open_5 : decode cX1_open 5 = .ok (.aload_n 0, 1) := by decide +kernel
theorem dX1_open_6 : decode cX1_open 6 = .ok (.aconst_null, 1) := by decide +kernel
theorem dX1_open_7 : decode cX1_open 7 = .ok (.putfield 36, 3) := by decide +kernel
theorem dX1_open_10 : decode cX1_open 10 = .ok (.aload_n 0, 1) := by decide +kernel
theorem dX1_open_11 : decode cX1_open 11 = .ok (.iconst 0, 1) := by decide +kernel
theorem dX1_open_12 : decode cX1_open 12 = .ok (.putfield 39, 3) := by decide +kernel
theorem dX1_open_15 : decode cX1_open 15 = .ok (.aload_n 0, 1) := by decide +kernel
theorem dX1_open_16 : decode cX1_open 16 = .ok (.iload_n 2, 1) := by decide +kernel
theorem dX1_open_17 : decode cX1_open 17 = .ok (.putfield 43, 3) := by decide +kernel
theorem dX1_open_20 : decode cX1_open 20 = .ok (.aload_n 0, 1) := by decide +kernel
theorem dX1_open_21 : decode cX1_open 21 = .ok (.iload_n 3, 1) := by decide +kernel
theorem dX1_open_22 : decode cX1_open 22 = .ok (.putfield 46, 3) := by decide +kernel
theorem dX1_open_25 : decode cX1_open 25 = .ok (.return_, 1) := by decide +kernel
theorem dX1_getsTo_0 : decode cX1_getsTo 0 = .ok (.aload_n 0, 1) := by decide +kernel
theorem dX1_getsTo_1 : decode cX1_getsTo 1 = .ok (.aload_n 1, 1) := by decide +kernel
theorem dX1_getsTo_2 : decode cX1_getsTo 2 = .ok (.getfield 49, 3) := by decide +kernel
theorem dX1_getsTo_5 : decode cX1_getsTo 5 = .ok (.putfield 32, 3) := by decide +kernel
theorem dX1_getsTo_8 : decode cX1_getsTo 8 = .ok (.aload_n 1, 1) := by decide +kernel
theorem dX1_getsTo_9 : decode cX1_getsTo 9 = .ok (.getfield 54, 3) := by decide +kernel
theorem dX1_getsTo_12 : decode cX1_getsTo 12 = .ok (.bipush 59, 2) := by decide +kernel
theorem dX1_getsTo_14 : decode cX1_getsTo 14 = .ok (.if_icmp .eq 32, 3) := by decide +kernel
theorem dX1_getsTo_17 : decode cX1_getsTo 17 = .ok (.aload_n 1, 1) := by decide +kernel
theorem dX1_getsTo_18 : decode cX1_getsTo 18 = .ok (.getfield 54, 3) := by decide +kernel
theorem dX1_getsTo_21 : decode cX1_getsTo 21 = .ok (.bipush 38, 2) := by decide +kernel
theorem dX1_getsTo_23 : decode cX1_getsTo 23 = .ok (.if_icmp .ne 7, 3) := by decide +kernel
theorem dX1_getsTo_26 : decode cX1_getsTo 26 = .ok (.iconst 1, 1) := by decide +kernel
theorem dX1_getsTo_27 : decode cX1_getsTo 27 = .ok (.goto 4, 3) := by decide +kernel
theorem dX1_getsTo_30 : decode cX1_getsTo 30 = .ok (.iconst 0, 1) := by decide +kernel
theorem dX1_getsTo_31 : decode cX1_getsTo 31 = .ok (.aload_n 0, 1) := by decide +kernel
theorem dX1_getsTo_32 : decode cX1_getsTo 32 = .ok (.getfield 39, 3) := by decide +kernel
theorem dX1_getsTo_35 : decode cX1_getsTo 35 = .ok (.ifCond .ne 7, 3) := by decide +kernel
theorem dX1_getsTo_38 : decode cX1_getsTo 38 = .ok (.iconst 1, 1) := by decide +kernel
theorem dX1_getsTo_39 : decode cX1_getsTo 39 = .ok (.goto 4, 3) := by decide +kernel
theorem dX1_getsTo_42 : decode cX1_getsTo 42 = .ok (.iconst 0, 1) := by decide +kernel
theorem dX1_getsTo_43 : decode cX1_getsTo 43 = .ok (.if_icmp .ne 7, 3) := by decide +kernel
theorem dX1_getsTo_46 : decode cX1_getsTo 46 = .ok (.iconst 1, 1) := by decide +kernel
theorem dX1_getsTo_47 : decode cX1_getsTo 47 = .ok (.goto 4, 3) := by decide +kernel
theorem dX1_getsTo_50 : decode cX1_getsTo 50 = .ok (.iconst 0, 1) := by decide +kernel
theorem dX1_getsTo_51 : decode cX1_getsTo 51 = .ok (.ireturn, 1) := by decide +kernel
theorem dX2_init_0 : decode cX2_init 0 = .ok (.aload_n 0, 1) := by decide +kernel
theorem dX2_init_1 : decode cX2_init 1 = .ok (.invokespecial 3, 3) := by decide +kernel
theorem dX2_init_4 : decode cX2_init 4 = .ok (.aload_n 0, 1) := by decide +kernel
theorem dX2_init_5 : decode cX2_init 5 = .ok (.iconst 5, 1) := by decide +kernel
theorem dX2_init_6 : decode cX2_init 6 = .ok (.newarray .int, 2) := by decide +kernel
theorem dX2_init_8 : decode cX2_init 8 = .ok (.putfield 9, 3) := by decide +kernel
theorem dX2_init_11 : decode cX2_init 11 = .ok (.aload_n 0, 1) := by decide +kernel
theorem dX2_init_12 : decode cX2_init 12 = .ok (.iconst 3, 1) := by decide +kernel
theorem dX2_init_13 : decode cX2_init 13 = .ok (.newarray .int, 2) := by decide +kernel
theorem dX2_init_15 : decode cX2_init 15 = .ok (.putfield 15, 3) := by decide +kernel
theorem dX2_init_18 : decode cX2_init 18 = .ok (.aload_n 0, 1) := by decide +kernel
theorem dX2_init_19 : decode cX2_init 19 = .ok (.bipush (-5), 2) := by decide +kernel
theorem dX2_init_21 : decode cX2_init 21 = .ok (.putfield 18, 3) := by decide +kernel
theorem dX2_init_24 : decode cX2_init 24 = .ok (.aload_n 0, 1) := by decide +kernel
theorem dX2_init_25 : decode cX2_init 25 = .ok (.new 22, 3) := by decide +kernel
theorem dX2_init_28 : decode cX2_init 28 = .ok (.dup, 1) := by decide +kernel
theorem dX2_init_29 : decode cX2_init 29 = .ok (.invokespecial 24, 3) := by decide +kernel
theorem dX2_init_32 : decode cX2_init 32 = .ok (.putfield 25, 3) := by decide +kernel
theorem dX2_init_35 : decode cX2_init 35 = .ok (.aload_n 0, 1) := by decide +kernel
theorem dX2_init_36 : decode cX2_init 36 = .ok (.new 29, 3) := by decide +kernel
theorem dX2_init_39 : decode cX2_init 39 = .ok (.dup, 1) := by decide +kernel
theorem dX2_init_40 : decode cX2_init 40 = .ok (.iconst 5, 1) := by decide +kernel
theorem dX2_init_41 : decode cX2_init 41 = .ok (.invokespecial 31, 3) := by decide +kernel
theorem dX2_init_44 : decode cX2_init 44 = .ok (.putfield 34, 3) := by decide +kernel
theorem dX2_init_47 : decode cX2_init 47 = .ok (.aload_n 0, 1) := by decide +kernel
theorem dX2_init_48 : decode cX2_init 48 = .ok (.new 29, 3) := by decide +kernel
theorem dX2_init_51 : decode cX2_init 51 = .ok (.dup, 1) := by decide +kernel
theorem dX2_init_52 : decode cX2_init 52 = .ok (.bipush 10, 2) := by decide +kernel
theorem dX2_init_54 : decode cX2_init 54 = .ok (.invokespecial 31, 3) := by decide +kernel
theorem dX2_init_57 : decode cX2_init 57 = .ok (.putfield 38, 3) := by decide +kernel
theorem dX2_init_60 : decode cX2_init 60 = .ok (.aload_n 0, 1) := by decide +kernel
theorem dX2_init_61 : decode cX2_init 61 = .ok (.new 29, 3) := by decide +kernel
theorem dX2_init_64 : decode cX2_init 64 = .ok (.dup, 1) := by decide +kernel
theorem dX2_init_65 : decode cX2_init 65 = .ok (.bipush 8, 2) := by decide +kernel
theorem dX2_init_67 : decode cX2_init 67 = .ok (.invokespecial 31, 3) := by decide +kernel
theorem dX2_init_70 : decode cX2_init 70 = .ok (.putfield 41, 3) := by decide +kernel
theorem dX2_init_73 : decode cX2_init 73 = .ok (.iconst 0, 1) := by decide +kernel
theorem dX2_init_74 : decode cX2_init 74 = .ok (.istore_n 1, 1) := by decide +kernel
theorem dX2_init_75 : decode cX2_init 75 = .ok (.iload_n 1, 1) := by decide +kernel
theorem dX2_init_76 : decode cX2_init 76 = .ok (.iconst 3, 1) := by decide +kernel
theorem dX2_init_77 : decode cX2_init 77 = .ok (.if_icmp .ge 17, 3) := by decide +kernel
theorem dX2_init_80 : decode cX2_init 80 = .ok (.aload_n 0, 1) := by decide +kernel
theorem dX2_init_81 : decode cX2_init 81 = .ok (.getfield 15, 3) := by decide +kernel
theorem dX2_init_84 : decode cX2_init 84 = .ok (.iload_n 1, 1) := by decide +kernel
theorem dX2_init_85 : decode cX2_init 85 = .ok (.bipush (-5), 2) := by decide +kernel
theorem dX2_init_87 : decode cX2_init 87 = .ok (.iastore, 1) := by decide +kernel
theorem dX2_init_88 : decode cX2_init 88 = .ok (.iinc 1 1, 3) := by decide +kernel
theorem dX2_init_91 : decode cX2_init 91 = .ok (.goto (-16), 3) := by decide +kernel
theorem dX2_init_94 : decode cX2_init 94 = .ok (.return_, 1) := by decide +kernel
theorem dX2_copyFrom_0 : decode cX2_copyFrom 0 = .ok (.aload_n 1, 1) := by decide +kernel
theorem dX2_copyFrom_1 : decode cX2_copyFrom 1 = .ok (.getfield 9, 3) := by decide +kernel
theorem dX2_copyFrom_4 : decode cX2_copyFrom 4 = .ok (.iconst 0, 1) := by decide +kernel
theorem dX2_copyFrom_5 : decode cX2_copyFrom 5 = .ok (.aload_n 0, 1) := by decide +kernel
theorem dX2_copyFrom_6 : decode cX2_copyFrom 6 = .ok (.getfield 9, 3) := by decide +kernel
theorem dX2_copyFrom_9 : decode cX2_copyFrom 9 = .ok (.iconst 0, 1) := by decide +kernel
theorem dX2_copyFrom_10 : decode cX2_copyFrom 10 = .ok (.iconst 5, 1) := by decide +kernel
theorem dX2_copyFrom_11 : decode cX2_copyFrom 11 = .ok (.invokestatic 44, 3) := by decide +kernel
theorem dX2_copyFrom_14 : decode cX2_copyFrom 14 = .ok (.aload_n 1, 1) := by decide +kernel
theorem dX2_copyFrom_15 : decode cX2_copyFrom 15 = .ok (.getfield 15, 3) := by decide +kernel
theorem dX2_copyFrom_18 : decode cX2_copyFrom 18 = .ok (.iconst 0, 1) := by decide +kernel
theorem dX2_copyFrom_19 : decode cX2_copyFrom 19 = .ok (.aload_n 0, 1) := by decide +kernel
theorem dX2_copyFrom_20 : decode cX2_copyFrom 20 = .ok (.getfield 15, 3) := by decide +kernel
theorem dX2_copyFrom_23 : decode cX2_copyFrom 23 = .ok (.iconst 0, 1) := by decide +kernel
theorem dX2_copyFrom_24 : decode cX2_copyFrom 24 = .ok (.iconst 3, 1) := by decide +kernel
theorem dX2_copyFrom_25 : decode cX2_copyFrom 25 = .ok (.invokestatic 44, 3) := by decide +kernel
theorem dX2_copyFrom_28 : decode cX2_copyFrom 28 = .ok (.aload_n 0, 1) := by decide +kernel
theorem dX2_copyFrom_29 : decode cX2_copyFrom 29 = .ok (.aload_n 1, 1) := by decide +kernel
theorem dX2_copyFrom_30 : decode cX2_copyFrom 30 = .ok (.getfield 18, 3) := by decide +kernel
theorem dX2_copyFrom_33 : decode cX2_copyFrom 33 = .ok (.putfield 18, 3) := by decide +kernel
theorem dX2_copyFrom_36 : decode cX2_copyFrom 36 = .ok (.aload_n 0, 1) := by decide +kernel
theorem dX2_copyFrom_37 : decode cX2_copyFrom 37 = .ok (.getfield 25, 3) := by decide +kernel
theorem dX2_copyFrom_40 : decode cX2_copyFrom 40 = .ok (.aload_n 1, 1) := by decide +kernel
theorem dX2_copyFrom_41 : decode cX2_copyFrom 41 = .ok (.getfield 25, 3) := by decide +kernel
theorem dX2_copyFrom_44 : decode cX2_copyFrom 44 = .ok (.invokevirtual 50, 3) := by decide +kernel
theorem dX2_copyFrom_47 : decode cX2_copyFrom 47 = .ok (.aload_n 0, 1) := by decide +kernel
theorem dX2_copyFrom_48 : decode cX2_copyFrom 48 = .ok (.aload_n 1, 1) := by decide +kernel
theorem dX2_copyFrom_49 : decode cX2_copyFrom 49 = .ok (.getfield 54, 3) := by decide +kernel
theorem dX2_copyFrom_52 : decode cX2_copyFrom 52 = .ok (.putfield 54, 3) := by decide +kernel
theorem dX2_copyFrom_55 : decode cX2_copyFrom 55 = .ok (.aload_n 0, 1) := by decide +kernel
theorem dX2_copyFrom_56 : decode cX2_copyFrom 56 = .ok (.aload_n 1, 1) := by decide +kernel
theorem dX2_copyFrom_57 : decode cX2_copyFrom 57 = .ok (.getfield 57, 3) := by decide +kernel
theorem dX2_copyFrom_60 : decode cX2_copyFrom 60 = .ok (.putfield 57, 3) := by decide +kernel
theorem dX2_copyFrom_63 : decode cX2_copyFrom 63 = .ok (.aload_n 0, 1) := by decide +kernel
theorem dX2_copyFrom_64 : decode cX2_copyFrom 64 = .ok (.getfield 34, 3) := by decide +kernel
theorem dX2_copyFrom_67 : decode cX2_copyFrom 67 = .ok (.aload_n 1, 1) := by decide +kernel
theorem dX2_copyFrom_68 : decode cX2_copyFrom 68 = .ok (.getfield 34, 3) := by decide +kernel
theorem dX2_copyFrom_71 : decode cX2_copyFrom 71 = .ok (.invokevirtual 60, 3) := by decide +kernel
theorem dX2_copyFrom_74 : decode cX2_copyFrom 74 = .ok (.aload_n 0, 1) := by decide +kernel
theorem dX2_copyFrom_75 : decode cX2_copyFrom 75 = .ok (.getfield 38, 3) := by decide +kernel
theorem dX2_copyFrom_78 : decode cX2_copyFrom 78 = .ok (.aload_n 1, 1) := by decide +kernel
theorem dX2_copyFrom_79 : decode cX2_copyFrom 79 = .ok (.getfield 38, 3) := by decide +kernel
theorem dX2_copyFrom_82 : decode cX2_copyFrom 82 = .ok (.invokevirtual 60, 3) := by decide +kernel
theorem dX2_copyFrom_85 : decode cX2_copyFrom 85 = .ok (.aload_n 0, 1) := by decide +kernel
theorem dX2_copyFrom_86 : decode cX2_copyFrom 86 = .ok (.getfield 41, 3) := by decide +kernel
theorem dX2_copyFrom_89 : decode cX2_copyFrom 89 = .ok (.aload_n 1, 1) := by decide +kernel
theorem dX2_copyFrom_90 : decode cX2_copyFrom 90 = .ok (.getfield 41, 3) := by decide +kernel
theorem dX2_copyFrom_93 : decode cX2_copyFrom 93 = .ok (.invokevirtual 60, 3) := by decide +kernel
theorem dX2_copyFrom_96 : decode cX2_copyFrom 96 = .ok (.return_, 1) := by decide +kernel
theorem dX3_init_0 : decode cX3_init 0 = .ok (.aload_n 0, 1) := by decide +kernel
theorem dX3_init_1 : decode cX3_init 1 = .ok (.invokespecial 1, 3) := by decide +kernel
theorem dX3_init_4 : decode cX3_init 4 = .ok (.aload_n 0, 1) := by decide +kernel
theorem dX3_init_5 : decode cX3_init 5 = .ok (.aload_n 1, 1) := by decide +kernel
theorem dX3_init_6 : decode cX3_init 6 = .ok (.putfield 7, 3) := by decide +kernel
theorem dX3_init_9 : decode cX3_init 9 = .ok (.aload_n 0, 1) := by decide +kernel
theorem dX3_init_10 : decode cX3_init 10 = .ok (.iload_n 2, 1) := by decide +kernel
theorem dX3_init_11 : decode cX3_init 11 = .ok (.putfield 13, 3) := by decide +kernel
theorem dX3_init_14 : decode cX3_init 14 = .ok (.aload_n 0, 1) := by decide +kernel
theorem dX3_init_15 : decode cX3_init 15 = .ok (.iload_n 3, 1) := by decide +kernel
theorem dX3_init_16 : decode cX3_init 16 = .ok (.putfield 17, 3) := by decide +kernel
theorem dX3_init_19 : decode cX3_init 19 = .ok (.aload_n 0, 1) := by decide +kernel
theorem dX3_init_20 : decode cX3_init 20 = .ok (.iload 4, 2) := by decide +kernel
theorem dX3_init_22 : decode cX3_init 22 = .ok (.putfield 20, 3) := by decide +kernel
theorem dX3_init_25 : decode cX3_init 25 = .ok (.return_, 1) := by decide +kernel
theorem dX4_init_0 : decode cX4_init 0 = .ok (.aload_n 0, 1) := by decide +kernel
theorem dX4_init_1 : decode cX4_init 1 = .ok (.invokespecial 3, 3) := by decide +kernel
theorem dX4_init_4 : decode cX4_init 4 = .ok (.aload_n 0, 1) := by decide +kernel
theorem dX4_init_5 : decode cX4_init 5 = .ok (.bipush 8, 2) := by decide +kernel
theorem dX4_init_7 : decode cX4_init 7 = .ok (.anewarray 9, 3) := by decide +kernel
theorem dX4_init_10 : decode cX4_init 10 = .ok (.putfield 11, 3) := by decide +kernel
theorem dX4_init_13 : decode cX4_init 13 = .ok (.aload_n 0, 1) := by decide +kernel
theorem dX4_init_14 : decode cX4_init 14 = .ok (.bipush 20, 2) := by decide +kernel
theorem dX4_init_16 : decode cX4_init 16 = .ok (.anewarray 17, 3) := by decide +kernel
theorem dX4_init_19 : decode cX4_init 19 = .ok (.putfield 19, 3) := by decide +kernel
theorem dX4_init_22 : decode cX4_init 22 = .ok (.iconst 0, 1) := by decide +kernel
theorem dX4_init_23 : decode cX4_init 23 = .ok (.istore_n 1, 1) := by decide +kernel
theorem dX4_init_24 : decode cX4_init 24 = .ok (.iload_n 1, 1) := by decide +kernel
theorem dX4_init_25 : decode cX4_init 25 = .ok (.bipush 20, 2) := by decide +kernel
theorem dX4_init_27 : decode cX4_init 27 = .ok (.if_icmp .ge 22, 3) := by decide +kernel
theorem dX4_init_30 : decode cX4_init 30 = .ok (.aload_n 0, 1) := by decide +kernel
theorem dX4_init_31 : decode cX4_init 31 = .ok (.getfield 19, 3) := by decide +kernel
theorem dX4_init_34 : decode cX4_init 34 = .ok (.iload_n 1, 1) := by decide +kernel
theorem dX4_init_35 : decode cX4_init 35 = .ok (.new 17, 3) := by decide +kernel
theorem dX4_init_38 : decode cX4_init 38 = .ok (.dup, 1) := by decide +kernel
theorem dX4_init_39 : decode cX4_init 39 = .ok (.invokespecial 23, 3) := by decide +kernel
theorem dX4_init_42 : decode cX4_init 42 = .ok (.aastore, 1) := by decide +kernel
theorem dX4_init_43 : decode cX4_init 43 = .ok (.iinc 1 1, 3) := by decide +kernel
theorem dX4_init_46 : decode cX4_init 46 = .ok (.goto (-22), 3) := by decide +kernel
theorem dX4_init_49 : decode cX4_init 49 = .ok (.return_, 1) := by decide +kernel
theorem dX4_add_0 : decode cX4_add 0 = .ok (.aload_n 0, 1) := by decide +kernel
theorem dX4_add_1 : decode cX4_add 1 = .ok (.getfield 24, 3) := by decide +kernel
theorem dX4_add_4 : decode cX4_add 4 = .ok (.bipush 8, 2) := by decide +kernel
theorem dX4_add_6 : decode cX4_add 6 = .ok (.if_icmp .lt 6, 3) := by decide +kernel
theorem dX4_add_9 : decode cX4_add 9 = .ok (.bipush (-4), 2) := by decide +kernel
theorem dX4_add_11 : decode cX4_add 11 = .ok (.ireturn, 1) := by decide +kernel
theorem dX4_add_12 : decode cX4_add 12 = .ok (.aload_n 0, 1) := by decide +kernel
theorem dX4_add_13 : decode cX4_add 13 = .ok (.getfield 11, 3) := by decide +kernel
theorem dX4_add_16 : decode cX4_add 16 = .ok (.aload_n 0, 1) := by decide +kernel
theorem dX4_add_17 : decode cX4_add 17 = .ok (.getfield 24, 3) := by decide +kernel
theorem dX4_add_20 : decode cX4_add 20 = .ok (.aload_n 1, 1) := by decide +kernel
theorem dX4_add_21 : decode cX4_add 21 = .ok (.aastore, 1) := by decide +kernel
theorem dX4_add_22 : decode cX4_add 22 = .ok (.aload_n 0, 1) := by decide +kernel
theorem dX4_add_23 : decode cX4_add 23 = .ok (.dup, 1) := by decide +kernel
theorem dX4_add_24 : decode cX4_add 24 = .ok (.getfield 24, 3) := by decide +kernel
theorem dX4_add_27 : decode cX4_add 27 = .ok (.iconst 1, 1) := by decide +kernel
theorem dX4_add_28 : decode cX4_add 28 = .ok (.iadd, 1) := by decide +kernel
theorem dX4_add_29 : decode cX4_add 29 = .ok (.putfield 24, 3) := by decide +kernel
theorem dX4_add_32 : decode cX4_add 32 = .ok (.aload_n 0, 1) := by decide +kernel
theorem dX4_add_33 : decode cX4_add 33 = .ok (.getfield 24, 3) := by decide +kernel
theorem dX4_add_36 : decode cX4_add 36 = .ok (.iconst 1, 1) := by decide +kernel
theorem dX4_add_37 : decode cX4_add 37 = .ok (.isub, 1) := by decide +kernel
theorem dX4_add_38 : decode cX4_add 38 = .ok (.ireturn, 1) := by decide +kernel
theorem dX4_runLine_0 : decode cX4_runLine 0 = .ok (.aload_n 0, 1) := by decide +kernel
theorem dX4_runLine_1 : decode cX4_runLine 1 = .ok (.bipush 60, 2) := by decide +kernel
theorem dX4_runLine_3 : decode cX4_runLine 3 = .ok (.putfield 28, 3) := by decide +kernel
theorem dX4_runLine_6 : decode cX4_runLine 6 = .ok (.aload_n 0, 1) := by decide +kernel
theorem dX4_runLine_7 : decode cX4_runLine 7 = .ok (.iconst 0, 1) := by decide +kernel
theorem dX4_runLine_8 : decode cX4_runLine 8 = .ok (.putfield 31, 3) := by decide +kernel
theorem dX4_runLine_11 : decode cX4_runLine 11 = .ok (.aload_n 1, 1) := by decide +kernel
theorem dX4_runLine_12 : decode cX4_runLine 12 = .ok (.getfield 34, 3) := by decide +kernel
theorem dX4_runLine_15 : decode cX4_runLine 15 = .ok (.iconst 0, 1) := by decide +kernel
theorem dX4_runLine_16 : decode cX4_runLine 16 = .ok (.putfield 40, 3) := by decide +kernel
theorem dX4_runLine_19 : decode cX4_runLine 19 = .ok (.aload_n 1, 1) := by decide +kernel
theorem dX4_runLine_20 : decode cX4_runLine 20 = .ok (.aload_n 0, 1) := by decide +kernel
theorem dX4_runLine_21 : decode cX4_runLine 21 = .ok (.aload_n 1, 1) := by decide +kernel
theorem dX4_runLine_22 : decode cX4_runLine 22 = .ok (.aload_n 0, 1) := by decide +kernel
theorem dX4_runLine_23 : decode cX4_runLine 23 = .ok (.iload_n 2, 1) := by decide +kernel
theorem dX4_runLine_24 : decode cX4_runLine 24 = .ok (.invokevirtual 45, 3) := by decide +kernel
theorem dX4_runLine_27 : decode cX4_runLine 27 = .ok (.iconst 0, 1) := by decide +kernel
theorem dX4_runLine_28 : decode cX4_runLine 28 = .ok (.iconst 0, 1) := by decide +kernel
theorem dX4_runLine_29 : decode cX4_runLine 29 = .ok (.iconst 0, 1) := by decide +kernel
theorem dX4_runLine_30 : decode cX4_runLine 30 = .ok (.aload_n 1, 1) := by decide +kernel
theorem dX4_runLine_31 : decode cX4_runLine 31 = .ok (.getfield 34, 3) := by decide +kernel
theorem dX4_runLine_34 : decode cX4_runLine 34 = .ok (.invokevirtual 49, 3) := by decide +kernel
theorem dX4_runLine_37 : decode cX4_runLine 37 = .ok (.putfield 53, 3) := by decide +kernel
theorem dX4_runLine_40 : decode cX4_runLine 40 = .ok (.aload_n 1, 1) := by decide +kernel
theorem dX4_runLine_41 : decode cX4_runLine 41 = .ok (.getfield 53, 3) := by decide +kernel
theorem dX4_runLine_44 : decode cX4_runLine 44 = .ok (.ifCond .eq 33, 3) := by decide +kernel
theorem dX4_runLine_47 : decode cX4_runLine 47 = .ok (.aload_n 1, 1) := by decide +kernel
theorem dX4_runLine_48 : decode cX4_runLine 48 = .ok (.getfield 56, 3) := by decide +kernel
theorem dX4_runLine_51 : decode cX4_runLine 51 = .ok (.bipush (-5), 2) := by decide +kernel
theorem dX4_runLine_53 : decode cX4_runLine 53 = .ok (.if_icmp .eq 24, 3) := by decide +kernel
theorem dX4_runLine_56 : decode cX4_runLine 56 = .ok (.aload_n 0, 1) := by decide +kernel
theorem dX4_runLine_57 : decode cX4_runLine 57 = .ok (.aload_n 1, 1) := by decide +kernel
theorem dX4_runLine_58 : decode cX4_runLine 58 = .ok (.aload_n 0, 1) := by decide +kernel
theorem dX4_runLine_59 : decode cX4_runLine 59 = .ok (.aload_n 1, 1) := by decide +kernel
theorem dX4_runLine_60 : decode cX4_runLine 60 = .ok (.getfield 56, 3) := by decide +kernel
theorem dX4_runLine_63 : decode cX4_runLine 63 = .ok (.invokevirtual 45, 3) := by decide +kernel
theorem dX4_runLine_66 : decode cX4_runLine 66 = .ok (.iconst 0, 1) := by decide +kernel
theorem dX4_runLine_67 : decode cX4_runLine 67 = .ok (.iconst 0, 1) := by decide +kernel
theorem dX4_runLine_68 : decode cX4_runLine 68 = .ok (.iconst 0, 1) := by decide +kernel
theorem dX4_runLine_69 : decode cX4_runLine 69 = .ok (.aload_n 1, 1) := by decide +kernel
theorem dX4_runLine_70 : decode cX4_runLine 70 = .ok (.getfield 34, 3) := by decide +kernel
theorem dX4_runLine_73 : decode cX4_runLine 73 = .ok (.invokevirtual 49, 3) := by decide +kernel
theorem dX4_runLine_76 : decode cX4_runLine 76 = .ok (.pop, 1) := by decide +kernel
theorem dX4_runLine_77 : decode cX4_runLine 77 = .ok (.aload_n 1, 1) := by decide +kernel
theorem dX4_runLine_78 : decode cX4_runLine 78 = .ok (.aload_n 0, 1) := by decide +kernel
theorem dX4_runLine_79 : decode cX4_runLine 79 = .ok (.getfield 31, 3) := by decide +kernel
theorem dX4_runLine_82 : decode cX4_runLine 82 = .ok (.putfield 59, 3) := by decide +kernel
theorem dX4_runLine_85 : decode cX4_runLine 85 = .ok (.return_, 1) := by decide +kernel
theorem dX4_firstOf_0 : decode cX4_firstOf 0 = .ok (.iload_n 1, 1) := by decide +kernel
theorem dX4_firstOf_1 : decode cX4_firstOf 1 = .ok (.ifCond .lt 23, 3) := by decide +kernel
theorem dX4_firstOf_4 : decode cX4_firstOf 4 = .ok (.iload_n 1, 1) := by decide +kernel
theorem dX4_firstOf_5 : decode cX4_firstOf 5 = .ok (.aload_n 0, 1) := by decide +kernel
theorem dX4_firstOf_6 : decode cX4_firstOf 6 = .ok (.getfield 24, 3) := by decide +kernel
theorem dX4_firstOf_9 : decode cX4_firstOf 9 = .ok (.if_icmp .ge 15, 3) := by decide +kernel
theorem dX4_firstOf_12 : decode cX4_firstOf 12 = .ok (.aload_n 0, 1) := by decide +kernel
theorem dX4_firstOf_13 : decode cX4_firstOf 13 = .ok (.getfield 11, 3) := by decide +kernel
theorem dX4_firstOf_16 : decode cX4_firstOf 16 = .ok (.iload_n 1, 1) := by decide +kernel
theorem dX4_firstOf_17 : decode cX4_firstOf 17 = .ok (.aaload, 1) := by decide +kernel
theorem dX4_firstOf_18 : decode cX4_firstOf 18 = .ok (.getfield 60, 3) := by decide +kernel
theorem dX4_firstOf_21 : decode cX4_firstOf 21 = .ok (.goto 4, 3) := by decide +kernel
theorem dX4_firstOf_24 : decode cX4_firstOf 24 = .ok (.aconst_null, 1) := by decide +kernel
theorem dX4_firstOf_25 : decode cX4_firstOf 25 = .ok (.areturn, 1) := by decide +kernel
theorem dX4_goList_0 : decode cX4_goList 0 = .ok (.aload_n 0, 1) := by decide +kernel
theorem dX4_goList_1 : decode cX4_goList 1 = .ok (.getfield 19, 3) := by decide +kernel
theorem dX4_goList_4 : decode cX4_goList 4 = .ok (.iload 5, 2) := by decide +kernel
theorem dX4_goList_6 : decode cX4_goList 6 = .ok (.aaload, 1) := by decide +kernel
theorem dX4_goList_7 : decode cX4_goList 7 = .ok (.astore 7, 2) := by decide +kernel
theorem dX4_goList_9 : decode cX4_goList 9 = .ok (.aload 7, 2) := by decide +kernel
theorem dX4_goList_11 : decode cX4_goList 11 = .ok (.aload_n 2, 1) := by decide +kernel
theorem dX4_goList_12 : decode cX4_goList 12 = .ok (.iload_n 3, 1) := by decide +kernel
theorem dX4_goList_13 : decode cX4_goList 13 = .ok (.iload 4, 2) := by decide +kernel
theorem dX4_goList_15 : decode cX4_goList 15 = .ok (.invokevirtual 64, 3) := by decide +kernel
theorem dX4_goList_18 : decode cX4_goList 18 = .ok (.iconst 0, 1) := by decide +kernel
theorem dX4_goList_19 : decode cX4_goList 19 = .ok (.istore 8, 2) := by decide +kernel
theorem dX4_goList_21 : decode cX4_goList 21 = .ok (.iload 8, 2) := by decide +kernel
theorem dX4_goList_23 : decode cX4_goList 23 = .ok (.ldc 68, 2) := by decide +kernel
theorem dX4_goList_25 : decode cX4_goList 25 = .ok (.if_icmp .ge 42, 3) := by decide +kernel
theorem dX4_goList_28 : decode cX4_goList 28 = .ok (.aload_n 0, 1) := by decide +kernel
theorem dX4_goList_29 : decode cX4_goList 29 = .ok (.aload_n 1, 1) := by decide +kernel
theorem dX4_goList_30 : decode cX4_goList 30 = .ok (.aload 7, 2) := by decide +kernel
theorem dX4_goList_32 : decode cX4_goList 32 = .ok (.iload 5, 2) := by decide +kernel
theorem dX4_goList_34 : decode cX4_goList 34 = .ok (.invokevirtual 69, 3) := by decide +kernel
theorem dX4_goList_37 : decode cX4_goList 37 = .ok (.lstore 9, 2) := by decide +kernel
theorem dX4_goList_39 : decode cX4_goList 39 = .ok (.lload 9, 2) := by decide +kernel
theorem dX4_goList_41 : decode cX4_goList 41 = .ok (.ldc2_w 73, 3) := by decide +kernel
theorem dX4_goList_44 : decode cX4_goList 44 = .ok (.lcmp, 1) := by decide +kernel
theorem dX4_goList_45 : decode cX4_goList 45 = .ok (.ifCond .ne 9, 3) := by decide +kernel
theorem dX4_goList_48 : decode cX4_goList 48 = .ok (.aload 7, 2) := by decide +kernel
theorem dX4_goList_50 : decode cX4_goList 50 = .ok (.getfield 75, 3) := by decide +kernel
theorem dX4_goList_53 : decode cX4_goList 53 = .ok (.ireturn, 1) := by decide +kernel
theorem dX4_goList_54 : decode cX4_goList 54 = .ok (.aload 6, 2) := by decide +kernel
theorem dX4_goList_56 : decode cX4_goList 56 = .ok (.lload 9, 2) := by decide +kernel
theorem dX4_goList_58 : decode cX4_goList 58 = .ok (.invokevirtual 76, 3) := by decide +kernel
theorem dX4_goList_61 : decode cX4_goList 61 = .ok (.iinc 8 1, 3) := by decide +kernel
theorem dX4_goList_64 : decode cX4_goList 64 = .ok (.goto (-43), 3) := by decide +kernel
theorem dX4_goList_67 : decode cX4_goList 67 = .ok (.aload 7, 2) := by decide +kernel
theorem dX4_goList_69 : decode cX4_goList 69 = .ok (.getfield 75, 3) := by decide +kernel
theorem dX4_goList_72 : decode cX4_goList 72 = .ok (.ireturn, 1) := by decide +kernel
theorem dX4_goOn_0 : decode cX4_goOn 0 = .ok (.iconst 0, 1) := by decide +kernel
theorem dX4_goOn_1 : decode cX4_goOn 1 = .ok (.istore 4, 2) := by decide +kernel
theorem dX4_goOn_3 : decode cX4_goOn 3 = .ok (.iload 4, 2) := by decide +kernel
theorem dX4_goOn_5 : decode cX4_goOn 5 = .ok (.bipush 100, 2) := by decide +kernel
theorem dX4_goOn_7 : decode cX4_goOn 7 = .ok (.if_icmp .gt 88, 3) := by decide +kernel
theorem dX4_goOn_10 : decode cX4_goOn 10 = .ok (.aload_n 2, 1) := by decide +kernel
theorem dX4_goOn_11 : decode cX4_goOn 11 = .ok (.getfield 80, 3) := by decide +kernel
theorem dX4_goOn_14 : decode cX4_goOn 14 = .ok (.ifnonnull 24, 3) := by decide +kernel
theorem dX4_goOn_17 : decode cX4_goOn 17 = .ok (.aload_n 2, 1) := by decide +kernel
theorem dX4_goOn_18 : decode cX4_goOn 18 = .ok (.getfield 83, 3) := by decide +kernel
theorem dX4_goOn_21 : decode cX4_goOn 21 = .ok (.ifnonnull 7, 3) := by decide +kernel
theorem dX4_goOn_24 : decode cX4_goOn 24 = .ok (.ldc2_w 73, 3) := by decide +kernel
theorem dX4_goOn_27 : decode cX4_goOn 27 = .ok (.lreturn, 1) := by decide +kernel
theorem dX4_goOn_28 : decode cX4_goOn 28 = .ok (.aload_n 0, 1) := by decide +kernel
theorem dX4_goOn_29 : decode cX4_goOn 29 = .ok (.aload_n 1, 1) := by decide +kernel
theorem dX4_goOn_30 : decode cX4_goOn 30 = .ok (.aload_n 2, 1) := by decide +kernel
theorem dX4_goOn_31 : decode cX4_goOn 31 = .ok (.aload_n 2, 1) := by decide +kernel
theorem dX4_goOn_32 : decode cX4_goOn 32 = .ok (.getfield 83, 3) := by decide +kernel
theorem dX4_goOn_35 : decode cX4_goOn 35 = .ok (.invokevirtual 86, 3) := by decide +kernel
theorem dX4_goOn_38 : decode cX4_goOn 38 = .ok (.aload_n 2, 1) := by decide +kernel
theorem dX4_goOn_39 : decode cX4_goOn 39 = .ok (.getfield 80, 3) := by decide +kernel
theorem dX4_goOn_42 : decode cX4_goOn 42 = .ok (.ifnull 47, 3) := by decide +kernel
theorem dX4_goOn_45 : decode cX4_goOn 45 = .ok (.aload_n 0, 1) := by decide +kernel
theorem dX4_goOn_46 : decode cX4_goOn 46 = .ok (.aload_n 1, 1) := by decide +kernel
theorem dX4_goOn_47 : decode cX4_goOn 47 = .ok (.aload_n 2, 1) := by decide +kernel
theorem dX4_goOn_48 : decode cX4_goOn 48 = .ok (.iload_n 3, 1) := by decide +kernel
theorem dX4_goOn_49 : decode cX4_goOn 49 = .ok (.invokevirtual 90, 3) := by decide +kernel
theorem dX4_goOn_52 : decode cX4_goOn 52 = .ok (.lstore 5, 2) := by decide +kernel
theorem dX4_goOn_54 : decode cX4_goOn 54 = .ok (.lload 5, 2) := by decide +kernel
theorem dX4_goOn_56 : decode cX4_goOn 56 = .ok (.ldc2_w 73, 3) := by decide +kernel
theorem dX4_goOn_59 : decode cX4_goOn 59 = .ok (.lcmp, 1) := by decide +kernel
theorem dX4_goOn_60 : decode cX4_goOn 60 = .ok (.ifCond .eq 6, 3) := by decide +kernel
theorem dX4_goOn_63 : decode cX4_goOn 63 = .ok (.lload 5, 2) := by decide +kernel
theorem dX4_goOn_65 : decode cX4_goOn 65 = .ok (.lreturn, 1) := by decide +kernel
theorem dX4_goOn_66 : decode cX4_goOn 66 = .ok (.aload_n 2, 1) := by decide +kernel
theorem dX4_goOn_67 : decode cX4_goOn 67 = .ok (.aload_n 2, 1) := by decide +kernel
theorem dX4_goOn_68 : decode cX4_goOn 68 = .ok (.getfield 93, 3) := by decide +kernel
theorem dX4_goOn_71 : decode cX4_goOn 71 = .ok (.aload_n 2, 1) := by decide +kernel
theorem dX4_goOn_72 : decode cX4_goOn 72 = .ok (.getfield 80, 3) := by decide +kernel
theorem dX4_goOn_75 : decode cX4_goOn 75 = .ok (.getfield 97, 3) := by decide +kernel
theorem dX4_goOn_78 : decode cX4_goOn 78 = .ok (.iconst 1, 1) := by decide +kernel
theorem dX4_goOn_79 : decode cX4_goOn 79 = .ok (.isub, 1) := by decide +kernel
theorem dX4_goOn_80 : decode cX4_goOn 80 = .ok (.iaload, 1) := by decide +kernel
theorem dX4_goOn_81 : decode cX4_goOn 81 = .ok (.putfield 75, 3) := by decide +kernel
theorem dX4_goOn_84 : decode cX4_goOn 84 = .ok (.aload_n 2, 1) := by decide +kernel
theorem dX4_goOn_85 : decode cX4_goOn 85 = .ok (.aconst_null, 1) := by decide +kernel
theorem dX4_goOn_86 : decode cX4_goOn 86 = .ok (.putfield 80, 3) := by decide +kernel
theorem dX4_goOn_89 : decode cX4_goOn 89 = .ok (.iinc 4 1, 3) := by decide +kernel
theorem dX4_goOn_92 : decode cX4_goOn 92 = .ok (.goto (-89), 3) := by decide +kernel
theorem dX4_goOn_95 : decode cX4_goOn 95 = .ok (.ldc2_w 73, 3) := by decide +kernel
theorem dX4_goOn_98 : decode cX4_goOn 98 = .ok (.lreturn, 1) := by decide +kernel
theorem dX4_beginNext_0 : decode cX4_beginNext 0 = .ok (.aload_n 2, 1) := by decide +kernel
theorem dX4_beginNext_1 : decode cX4_beginNext 1 = .ok (.aload_n 3, 1) := by decide +kernel
theorem dX4_beginNext_2 : decode cX4_beginNext 2 = .ok (.invokevirtual 100, 3) := by decide +kernel
theorem dX4_beginNext_5 : decode cX4_beginNext 5 = .ok (.ifCond .ne 4, 3) := by decide +kernel
theorem dX4_beginNext_8 : decode cX4_beginNext 8 = .ok (.return_, 1) := by decide +kernel
theorem dX4_beginNext_9 : decode cX4_beginNext 9 = .ok (.aload_n 0, 1) := by decide +kernel
theorem dX4_beginNext_10 : decode cX4_beginNext 10 = .ok (.getfield 28, 3) := by decide +kernel
theorem dX4_beginNext_13 : decode cX4_beginNext 13 = .ok (.ifCond .gt 10, 3) := by decide +kernel
theorem dX4_beginNext_16 : decode cX4_beginNext 16 = .ok (.aload_n 2, 1) := by decide +kernel
theorem dX4_beginNext_17 : decode cX4_beginNext 17 = .ok (.bipush 8, 2) := by decide +kernel
theorem dX4_beginNext_19 : decode cX4_beginNext 19 = .ok (.putfield 75, 3) := by decide +kernel
theorem dX4_beginNext_22 : decode cX4_beginNext 22 = .ok (.return_, 1) := by decide +kernel
theorem dX4_beginNext_23 : decode cX4_beginNext 23 = .ok (.aload_n 0, 1) := by decide +kernel
theorem dX4_beginNext_24 : decode cX4_beginNext 24 = .ok (.dup, 1) := by decide +kernel
theorem dX4_beginNext_25 : decode cX4_beginNext 25 = .ok (.getfield 28, 3) := by decide +kernel
theorem dX4_beginNext_28 : decode cX4_beginNext 28 = .ok (.iconst 1, 1) := by decide +kernel
theorem dX4_beginNext_29 : decode cX4_beginNext 29 = .ok (.isub, 1) := by decide +kernel
theorem dX4_beginNext_30 : decode cX4_beginNext 30 = .ok (.putfield 28, 3) := by decide +kernel
theorem dX4_beginNext_33 : decode cX4_beginNext 33 = .ok (.aload_n 2, 1) := by decide +kernel
theorem dX4_beginNext_34 : decode cX4_beginNext 34 = .ok (.aload_n 3, 1) := by decide +kernel
theorem dX4_beginNext_35 : decode cX4_beginNext 35 = .ok (.putfield 80, 3) := by decide +kernel
theorem dX4_beginNext_38 : decode cX4_beginNext 38 = .ok (.aload_n 2, 1) := by decide +kernel
theorem dX4_beginNext_39 : decode cX4_beginNext 39 = .ok (.iconst 0, 1) := by decide +kernel
theorem dX4_beginNext_40 : decode cX4_beginNext 40 = .ok (.putfield 104, 3) := by decide +kernel
theorem dX4_beginNext_43 : decode cX4_beginNext 43 = .ok (.iconst 0, 1) := by decide +kernel
theorem dX4_beginNext_44 : decode cX4_beginNext 44 = .ok (.istore 4, 2) := by decide +kernel
theorem dX4_beginNext_46 : decode cX4_beginNext 46 = .ok (.iload 4, 2) := by decide +kernel
theorem dX4_beginNext_48 : decode cX4_beginNext 48 = .ok (.aload_n 3, 1) := by decide +kernel
theorem dX4_beginNext_49 : decode cX4_beginNext 49 = .ok (.getfield 97, 3) := by decide +kernel
theorem dX4_beginNext_52 : decode cX4_beginNext 52 = .ok (.if_icmp .ge 102, 3) := by decide +kernel
theorem dX4_beginNext_55 : decode cX4_beginNext 55 = .ok (.aload_n 3, 1) := by decide +kernel
theorem dX4_beginNext_56 : decode cX4_beginNext 56 = .ok (.getfield 108, 3) := by decide +kernel
theorem dX4_beginNext_59 : decode cX4_beginNext 59 = .ok (.iload 4, 2) := by decide +kernel
theorem dX4_beginNext_61 : decode cX4_beginNext 61 = .ok (.aaload, 1) := by decide +kernel
theorem dX4_beginNext_62 : decode cX4_beginNext 62 = .ok (.astore 5, 2) := by decide +kernel
theorem dX4_beginNext_64 : decode cX4_beginNext 64 = .ok (.iconst 0, 1) := by decide +kernel
theorem dX4_beginNext_65 : decode cX4_beginNext 65 = .ok (.istore 6, 2) := by decide +kernel
theorem dX4_beginNext_67 : decode cX4_beginNext 67 = .ok (.iload 6, 2) := by decide +kernel
theorem dX4_beginNext_69 : decode cX4_beginNext 69 = .ok (.aload 5, 2) := by decide +kernel
theorem dX4_beginNext_71 : decode cX4_beginNext 71 = .ok (.getfield 112, 3) := by decide +kernel
theorem dX4_beginNext_74 : decode cX4_beginNext 74 = .ok (.if_icmp .ge 34, 3) := by decide +kernel
theorem dX4_beginNext_77 : decode cX4_beginNext 77 = .ok (.aload_n 2, 1) := by decide +kernel
theorem dX4_beginNext_78 : decode cX4_beginNext 78 = .ok (.getfield 117, 3) := by decide +kernel
theorem dX4_beginNext_81 : decode cX4_beginNext 81 = .ok (.iload 4, 2) := by decide +kernel
theorem dX4_beginNext_83 : decode cX4_beginNext 83 = .ok (.iconst 4, 1) := by decide +kernel
theorem dX4_beginNext_84 : decode cX4_beginNext 84 = .ok (.imul, 1) := by decide +kernel
theorem dX4_beginNext_85 : decode cX4_beginNext 85 = .ok (.iload 6, 2) := by decide +kernel
theorem dX4_beginNext_87 : decode cX4_beginNext 87 = .ok (.iadd, 1) := by decide +kernel
theorem dX4_beginNext_88 : decode cX4_beginNext 88 = .ok (.aload_n 1, 1) := by decide +kernel
theorem dX4_beginNext_89 : decode cX4_beginNext 89 = .ok (.aload_n 2, 1) := by decide +kernel
theorem dX4_beginNext_90 : decode cX4_beginNext 90 = .ok (.aload 5, 2) := by decide +kernel
theorem dX4_beginNext_92 : decode cX4_beginNext 92 = .ok (.getfield 120, 3) := by decide +kernel
theorem dX4_beginNext_95 : decode cX4_beginNext 95 = .ok (.iload 6, 2) := by decide +kernel
theorem dX4_beginNext_97 : decode cX4_beginNext 97 = .ok (.iaload, 1) := by decide +kernel
theorem dX4_beginNext_98 : decode cX4_beginNext 98 = .ok (.invokestatic 123, 3) := by decide +kernel
theorem dX4_beginNext_101 : decode cX4_beginNext 101 = .ok (.iastore, 1) := by decide +kernel
theorem dX4_beginNext_102 : decode cX4_beginNext 102 = .ok (.iinc 6 1, 3) := by decide +kernel
theorem dX4_beginNext_105 : decode cX4_beginNext 105 = .ok (.goto (-38), 3) := by decide +kernel
theorem dX4_beginNext_108 : decode cX4_beginNext 108 = .ok (.aload_n 2, 1) := by decide +kernel
theorem dX4_beginNext_109 : decode cX4_beginNext 109 = .ok (.getfield 127, 3) := by decide +kernel
theorem dX4_beginNext_112 : decode cX4_beginNext 112 = .ok (.iload 4, 2) := by decide +kernel
theorem dX4_beginNext_114 : decode cX4_beginNext 114 = .ok (.iconst 0, 1) := by decide +kernel
theorem dX4_beginNext_115 : decode cX4_beginNext 115 = .ok (.iastore, 1) := by decide +kernel
theorem dX4_beginNext_116 : decode cX4_beginNext 116 = .ok (.aload_n 2, 1) := by decide +kernel
theorem dX4_beginNext_117 : decode cX4_beginNext 117 = .ok (.getfield 130, 3) := by decide +kernel
theorem dX4_beginNext_120 : decode cX4_beginNext 120 = .ok (.iload 4, 2) := by decide +kernel
theorem dX4_beginNext_122 : decode cX4_beginNext 122 = .ok (.iconst 0, 1) := by decide +kernel
theorem dX4_beginNext_123 : decode cX4_beginNext 123 = .ok (.bastore, 1) := by decide +kernel
theorem dX4_beginNext_124 : decode cX4_beginNext 124 = .ok (.aload_n 2, 1) := by decide +kernel
theorem dX4_beginNext_125 : decode cX4_beginNext 125 = .ok (.getfield 93, 3) := by decide +kernel
theorem dX4_beginNext_128 : decode cX4_beginNext 128 = .ok (.iload 4, 2) := by decide +kernel
theorem dX4_beginNext_130 : decode cX4_beginNext 130 = .ok (.aload 5, 2) := by decide +kernel
theorem dX4_beginNext_132 : decode cX4_beginNext 132 = .ok (.getfield 134, 3) := by decide +kernel
theorem dX4_beginNext_135 : decode cX4_beginNext 135 = .ok (.aload_n 2, 1) := by decide +kernel
theorem dX4_beginNext_136 : decode cX4_beginNext 136 = .ok (.getfield 117, 3) := by decide +kernel
theorem dX4_beginNext_139 : decode cX4_beginNext 139 = .ok (.iload 4, 2) := by decide +kernel
theorem dX4_beginNext_141 : decode cX4_beginNext 141 = .ok (.iconst 4, 1) := by decide +kernel
theorem dX4_beginNext_142 : decode cX4_beginNext 142 = .ok (.imul, 1) := by decide +kernel
theorem dX4_beginNext_143 : decode cX4_beginNext 143 = .ok (.iaload, 1) := by decide +kernel
theorem dX4_beginNext_144 : decode cX4_beginNext 144 = .ok (.invokestatic 138, 3) := by decide +kernel
theorem dX4_beginNext_147 : decode cX4_beginNext 147 = .ok (.iastore, 1) := by decide +kernel
theorem dX4_beginNext_148 : decode cX4_beginNext 148 = .ok (.iinc 4 1, 3) := by decide +kernel
theorem dX4_beginNext_151 : decode cX4_beginNext 151 = .ok (.goto (-105), 3) := by decide +kernel
theorem dX4_beginNext_154 : decode cX4_beginNext 154 = .ok (.return_, 1) := by decide +kernel
theorem dX4_worth_0 : decode cX4_worth 0 = .ok (.iload_n 2, 1) := by decide +kernel
theorem dX4_worth_1 : decode cX4_worth 1 = .ok (.ifCond .lt 5, 3) := by decide +kernel
theorem dX4_worth_4 : decode cX4_worth 4 = .ok (.iload_n 2, 1) := by decide +kernel
theorem dX4_worth_5 : decode cX4_worth 5 = .ok (.ireturn, 1) := by decide +kernel
theorem dX4_worth_6 : decode cX4_worth 6 = .ok (.iconst (-1), 1) := by decide +kernel
theorem dX4_worth_7 : decode cX4_worth 7 = .ok (.iload_n 2, 1) := by decide +kernel
theorem dX4_worth_8 : decode cX4_worth 8 = .ok (.isub, 1) := by decide +kernel
theorem dX4_worth_9 : decode cX4_worth 9 = .ok (.istore_n 3, 1) := by decide +kernel
theorem dX4_worth_10 : decode cX4_worth 10 = .ok (.iload_n 3, 1) := by decide +kernel
theorem dX4_worth_11 : decode cX4_worth 11 = .ok (.invokestatic 142, 3) := by decide +kernel
theorem dX4_worth_14 : decode cX4_worth 14 = .ok (.ifCond .eq 12, 3) := by decide +kernel
theorem dX4_worth_17 : decode cX4_worth 17 = .ok (.aload_n 0, 1) := by decide +kernel
theorem dX4_worth_18 : decode cX4_worth 18 = .ok (.getfield 146, 3) := by decide +kernel
theorem dX4_worth_21 : decode cX4_worth 21 = .ok (.iload_n 3, 1) := by decide +kernel
theorem dX4_worth_22 : decode cX4_worth 22 = .ok (.iaload, 1) := by decide +kernel
theorem dX4_worth_23 : decode cX4_worth 23 = .ok (.goto 7, 3) := by decide +kernel
theorem dX4_worth_26 : decode cX4_worth 26 = .ok (.aload_n 1, 1) := by decide +kernel
theorem dX4_worth_27 : decode cX4_worth 27 = .ok (.getfield 149, 3) := by decide +kernel
theorem dX4_worth_30 : decode cX4_worth 30 = .ok (.ireturn, 1) := by decide +kernel
theorem dX4_statusAtFirst_0 : decode cX4_statusAtFirst 0 = .ok (.getstatic 152, 3) := by decide +kernel
theorem dX4_statusAtFirst_3 : decode cX4_statusAtFirst 3 = .ok (.aload_n 0, 1) := by decide +kernel
theorem dX4_statusAtFirst_4 : decode cX4_statusAtFirst 4 = .ok (.invokevirtual 157, 3) := by decide +kernel
theorem dX4_statusAtFirst_7 : decode cX4_statusAtFirst 7 = .ok (.iaload, 1) := by decide +kernel
theorem dX4_statusAtFirst_8 : decode cX4_statusAtFirst 8 = .ok (.tableswitch 42 1 3 #[28, 30, 40], 28) := by decide +kernel
theorem dX4_statusAtFirst_36 : decode cX4_statusAtFirst 36 = .ok (.iload_n 1, 1) := by decide +kernel
theorem dX4_statusAtFirst_37 : decode cX4_statusAtFirst 37 = .ok (.ireturn, 1) := by decide +kernel
theorem dX4_statusAtFirst_38 : decode cX4_statusAtFirst 38 = .ok (.iload_n 1, 1) := by decide +kernel
theorem dX4_statusAtFirst_39 : decode cX4_statusAtFirst 39 = .ok (.ifCond .ne 7, 3) := by decide +kernel
theorem dX4_statusAtFirst_42 : decode cX4_statusAtFirst 42 = .ok (.iconst 2, 1) := by decide +kernel
theorem dX4_statusAtFirst_43 : decode cX4_statusAtFirst 43 = .ok (.goto 4, 3) := by decide +kernel
theorem dX4_statusAtFirst_46 : decode cX4_statusAtFirst 46 = .ok (.iconst 0, 1) := by decide +kernel
theorem dX4_statusAtFirst_47 : decode cX4_statusAtFirst 47 = .ok (.ireturn, 1) := by decide +kernel
theorem dX4_statusAtFirst_48 : decode cX4_statusAtFirst 48 = .ok (.iconst 1, 1) := by decide +kernel
theorem dX4_statusAtFirst_49 : decode cX4_statusAtFirst 49 = .ok (.ireturn, 1) := by decide +kernel
theorem dX4_statusAtFirst_50 : decode cX4_statusAtFirst 50 = .ok (.iconst 0, 1) := by decide +kernel
theorem dX4_statusAtFirst_51 : decode cX4_statusAtFirst 51 = .ok (.ireturn, 1) := by decide +kernel
theorem dX4_nextOf_0 : decode cX4_nextOf 0 = .ok (.aload_n 2, 1) := by decide +kernel
theorem dX4_nextOf_1 : decode cX4_nextOf 1 = .ok (.getfield 80, 3) := by decide +kernel
theorem dX4_nextOf_4 : decode cX4_nextOf 4 = .ok (.getfield 97, 3) := by decide +kernel
theorem dX4_nextOf_7 : decode cX4_nextOf 7 = .ok (.iconst 1, 1) := by decide +kernel
theorem dX4_nextOf_8 : decode cX4_nextOf 8 = .ok (.isub, 1) := by decide +kernel
theorem dX4_nextOf_9 : decode cX4_nextOf 9 = .ok (.istore 4, 2) := by decide +kernel
theorem dX4_nextOf_11 : decode cX4_nextOf 11 = .ok (.iload 4, 2) := by decide +kernel
theorem dX4_nextOf_13 : decode cX4_nextOf 13 = .ok (.istore 5, 2) := by decide +kernel
theorem dX4_nextOf_15 : decode cX4_nextOf 15 = .ok (.aload_n 0, 1) := by decide +kernel
theorem dX4_nextOf_16 : decode cX4_nextOf 16 = .ok (.aload_n 1, 1) := by decide +kernel
theorem dX4_nextOf_17 : decode cX4_nextOf 17 = .ok (.aload_n 2, 1) := by decide +kernel
theorem dX4_nextOf_18 : decode cX4_nextOf 18 = .ok (.iload 5, 2) := by decide +kernel
theorem dX4_nextOf_20 : decode cX4_nextOf 20 = .ok (.iload_n 3, 1) := by decide +kernel
theorem dX4_nextOf_21 : decode cX4_nextOf 21 = .ok (.invokevirtual 163, 3) := by decide +kernel
theorem dX4_nextOf_24 : decode cX4_nextOf 24 = .ok (.lstore 6, 2) := by decide +kernel
theorem dX4_nextOf_26 : decode cX4_nextOf 26 = .ok (.iconst 0, 1) := by decide +kernel
theorem dX4_nextOf_27 : decode cX4_nextOf 27 = .ok (.istore 8, 2) := by decide +kernel
theorem dX4_nextOf_29 : decode cX4_nextOf 29 = .ok (.iload 8, 2) := by decide +kernel
theorem dX4_nextOf_31 : decode cX4_nextOf 31 = .ok (.ldc 68, 2) := by decide +kernel
theorem dX4_nextOf_33 : decode cX4_nextOf 33 = .ok (.if_icmp .ge 71, 3) := by decide +kernel
theorem dX4_nextOf_36 : decode cX4_nextOf 36 = .ok (.lload 6, 2) := by decide +kernel
theorem dX4_nextOf_38 : decode cX4_nextOf 38 = .ok (.ldc2_w 167, 3) := by decide +kernel
theorem dX4_nextOf_41 : decode cX4_nextOf 41 = .ok (.lcmp, 1) := by decide +kernel
theorem dX4_nextOf_42 : decode cX4_nextOf 42 = .ok (.ifCond .ne 31, 3) := by decide +kernel
theorem dX4_nextOf_45 : decode cX4_nextOf 45 = .ok (.iinc 5 (-1), 3) := by decide +kernel
theorem dX4_nextOf_48 : decode cX4_nextOf 48 = .ok (.iload 5, 2) := by decide +kernel
theorem dX4_nextOf_50 : decode cX4_nextOf 50 = .ok (.ifCond .ge 9, 3) := by decide +kernel
theorem dX4_nextOf_53 : decode cX4_nextOf 53 = .ok (.ldc2_w 73, 3) := by decide +kernel
theorem dX4_nextOf_56 : decode cX4_nextOf 56 = .ok (.goto 12, 3) := by decide +kernel
theorem dX4_nextOf_59 : decode cX4_nextOf 59 = .ok (.aload_n 0, 1) := by decide +kernel
theorem dX4_nextOf_60 : decode cX4_nextOf 60 = .ok (.aload_n 1, 1) := by decide +kernel
theorem dX4_nextOf_61 : decode cX4_nextOf 61 = .ok (.aload_n 2, 1) := by decide +kernel
theorem dX4_nextOf_62 : decode cX4_nextOf 62 = .ok (.iload 5, 2) := by decide +kernel
theorem dX4_nextOf_64 : decode cX4_nextOf 64 = .ok (.iload_n 3, 1) := by decide +kernel
theorem dX4_nextOf_65 : decode cX4_nextOf 65 = .ok (.invokevirtual 163, 3) := by decide +kernel
theorem dX4_nextOf_68 : decode cX4_nextOf 68 = .ok (.lstore 6, 2) := by decide +kernel
theorem dX4_nextOf_70 : decode cX4_nextOf 70 = .ok (.goto 28, 3) := by decide +kernel
theorem dX4_nextOf_73 : decode cX4_nextOf 73 = .ok (.iload 5, 2) := by decide +kernel
theorem dX4_nextOf_75 : decode cX4_nextOf 75 = .ok (.iload 4, 2) := by decide +kernel
theorem dX4_nextOf_77 : decode cX4_nextOf 77 = .ok (.if_icmp .ne 6, 3) := by decide +kernel
theorem dX4_nextOf_80 : decode cX4_nextOf 80 = .ok (.lload 6, 2) := by decide +kernel
theorem dX4_nextOf_82 : decode cX4_nextOf 82 = .ok (.lreturn, 1) := by decide +kernel
theorem dX4_nextOf_83 : decode cX4_nextOf 83 = .ok (.iinc 5 1, 3) := by decide +kernel
theorem dX4_nextOf_86 : decode cX4_nextOf 86 = .ok (.aload_n 0, 1) := by decide +kernel
theorem dX4_nextOf_87 : decode cX4_nextOf 87 = .ok (.aload_n 1, 1) := by decide +kernel
theorem dX4_nextOf_88 : decode cX4_nextOf 88 = .ok (.aload_n 2, 1) := by decide +kernel
theorem dX4_nextOf_89 : decode cX4_nextOf 89 = .ok (.iload 5, 2) := by decide +kernel
theorem dX4_nextOf_91 : decode cX4_nextOf 91 = .ok (.lload 6, 2) := by decide +kernel
theorem dX4_nextOf_93 : decode cX4_nextOf 93 = .ok (.invokevirtual 169, 3) := by decide +kernel
theorem dX4_nextOf_96 : decode cX4_nextOf 96 = .ok (.lstore 6, 2) := by decide +kernel
theorem dX4_nextOf_98 : decode cX4_nextOf 98 = .ok (.iinc 8 1, 3) := by decide +kernel
theorem dX4_nextOf_101 : decode cX4_nextOf 101 = .ok (.goto (-72), 3) := by decide +kernel
theorem dX4_nextOf_104 : decode cX4_nextOf 104 = .ok (.ldc2_w 73, 3) := by decide +kernel
theorem dX4_nextOf_107 : decode cX4_nextOf 107 = .ok (.lreturn, 1) := by decide +kernel
theorem dX4_asked_0 : decode cX4_asked 0 = .ok (.aload_n 2, 1) := by decide +kernel
theorem dX4_asked_1 : decode cX4_asked 1 = .ok (.getfield 130, 3) := by decide +kernel
theorem dX4_asked_4 : decode cX4_asked 4 = .ok (.iload_n 3, 1) := by decide +kernel
theorem dX4_asked_5 : decode cX4_asked 5 = .ok (.baload, 1) := by decide +kernel
theorem dX4_asked_6 : decode cX4_asked 6 = .ok (.ifCond .eq 7, 3) := by decide +kernel
theorem dX4_asked_9 : decode cX4_asked 9 = .ok (.ldc2_w 73, 3) := by decide +kernel
theorem dX4_asked_12 : decode cX4_asked 12 = .ok (.lreturn, 1) := by decide +kernel
theorem dX4_asked_13 : decode cX4_asked 13 = .ok (.aload_n 2, 1) := by decide +kernel
theorem dX4_asked_14 : decode cX4_asked 14 = .ok (.getfield 80, 3) := by decide +kernel
theorem dX4_asked_17 : decode cX4_asked 17 = .ok (.getfield 108, 3) := by decide +kernel
theorem dX4_asked_20 : decode cX4_asked 20 = .ok (.iload_n 3, 1) := by decide +kernel
theorem dX4_asked_21 : decode cX4_asked 21 = .ok (.aaload, 1) := by decide +kernel
theorem dX4_asked_22 : decode cX4_asked 22 = .ok (.astore 5, 2) := by decide +kernel
theorem dX4_asked_24 : decode cX4_asked 24 = .ok (.aload 5, 2) := by decide +kernel
theorem dX4_asked_26 : decode cX4_asked 26 = .ok (.invokevirtual 173, 3) := by decide +kernel
theorem dX4_asked_29 : decode cX4_asked 29 = .ok (.ifCond .eq 40, 3) := by decide +kernel
theorem dX4_asked_32 : decode cX4_asked 32 = .ok (.aload_n 2, 1) := by decide +kernel
theorem dX4_asked_33 : decode cX4_asked 33 = .ok (.getfield 104, 3) := by decide +kernel
theorem dX4_asked_36 : decode cX4_asked 36 = .ok (.ifCond .ne 33, 3) := by decide +kernel
theorem dX4_asked_39 : decode cX4_asked 39 = .ok (.aload_n 2, 1) := by decide +kernel
theorem dX4_asked_40 : decode cX4_asked 40 = .ok (.iconst 1, 1) := by decide +kernel
theorem dX4_asked_41 : decode cX4_asked 41 = .ok (.putfield 104, 3) := by decide +kernel
theorem dX4_asked_44 : decode cX4_asked 44 = .ok (.aload_n 2, 1) := by decide +kernel
theorem dX4_asked_45 : decode cX4_asked 45 = .ok (.getfield 177, 3) := by decide +kernel
theorem dX4_asked_48 : decode cX4_asked 48 = .ok (.iconst 0, 1) := by decide +kernel
theorem dX4_asked_49 : decode cX4_asked 49 = .ok (.putfield 40, 3) := by decide +kernel
theorem dX4_asked_52 : decode cX4_asked 52 = .ok (.aload_n 2, 1) := by decide +kernel
theorem dX4_asked_53 : decode cX4_asked 53 = .ok (.getfield 93, 3) := by decide +kernel
theorem dX4_asked_56 : decode cX4_asked 56 = .ok (.iload_n 3, 1) := by decide +kernel
theorem dX4_asked_57 : decode cX4_asked 57 = .ok (.aload_n 0, 1) := by decide +kernel
theorem dX4_asked_58 : decode cX4_asked 58 = .ok (.aload_n 1, 1) := by decide +kernel
theorem dX4_asked_59 : decode cX4_asked 59 = .ok (.aload_n 2, 1) := by decide +kernel
theorem dX4_asked_60 : decode cX4_asked 60 = .ok (.iload_n 3, 1) := by decide +kernel
theorem dX4_asked_61 : decode cX4_asked 61 = .ok (.iload 4, 2) := by decide +kernel
theorem dX4_asked_63 : decode cX4_asked 63 = .ok (.iconst 1, 1) := by decide +kernel
theorem dX4_asked_64 : decode cX4_asked 64 = .ok (.iadd, 1) := by decide +kernel
theorem dX4_asked_65 : decode cX4_asked 65 = .ok (.invokevirtual 180, 3) := by decide +kernel
theorem dX4_asked_68 : decode cX4_asked 68 = .ok (.iastore, 1) := by decide +kernel
theorem dX4_asked_69 : decode cX4_asked 69 = .ok (.aload_n 2, 1) := by decide +kernel
theorem dX4_asked_70 : decode cX4_asked 70 = .ok (.getfield 127, 3) := by decide +kernel
theorem dX4_asked_73 : decode cX4_asked 73 = .ok (.iload_n 3, 1) := by decide +kernel
theorem dX4_asked_74 : decode cX4_asked 74 = .ok (.iaload, 1) := by decide +kernel
theorem dX4_asked_75 : decode cX4_asked 75 = .ok (.istore 6, 2) := by decide +kernel
theorem dX4_asked_77 : decode cX4_asked 77 = .ok (.aload_n 2, 1) := by decide +kernel
theorem dX4_asked_78 : decode cX4_asked 78 = .ok (.getfield 117, 3) := by decide +kernel
theorem dX4_asked_81 : decode cX4_asked 81 = .ok (.iload_n 3, 1) := by decide +kernel
theorem dX4_asked_82 : decode cX4_asked 82 = .ok (.iconst 4, 1) := by decide +kernel
theorem dX4_asked_83 : decode cX4_asked 83 = .ok (.imul, 1) := by decide +kernel
theorem dX4_asked_84 : decode cX4_asked 84 = .ok (.iaload, 1) := by decide +kernel
theorem dX4_asked_85 : decode cX4_asked 85 = .ok (.istore 7, 2) := by decide +kernel
theorem dX4_asked_87 : decode cX4_asked 87 = .ok (.getstatic 152, 3) := by decide +kernel
theorem dX4_asked_90 : decode cX4_asked 90 = .ok (.aload 5, 2) := by decide +kernel
theorem dX4_asked_92 : decode cX4_asked 92 = .ok (.getfield 134, 3) := by decide +kernel
theorem dX4_asked_95 : decode cX4_asked 95 = .ok (.invokevirtual 157, 3) := by decide +kernel
theorem dX4_asked_98 : decode cX4_asked 98 = .ok (.iaload, 1) := by decide +kernel
theorem dX4_asked_99 : decode cX4_asked 99 = .ok (.tableswitch 201 1 11 #[159, 165, 201, 57, 93, 124, 124, 124, 124, 159, 182], 57) := by decide +kernel
theorem dX4_asked_156 : decode cX4_asked 156 = .ok (.iload 6, 2) := by decide +kernel
theorem dX4_asked_158 : decode cX4_asked 158 = .ok (.aload 5, 2) := by decide +kernel
theorem dX4_asked_160 : decode cX4_asked 160 = .ok (.getfield 112, 3) := by decide +kernel
theorem dX4_asked_163 : decode cX4_asked 163 = .ok (.if_icmp .ge 23, 3) := by decide +kernel
theorem dX4_asked_166 : decode cX4_asked 166 = .ok (.aload_n 2, 1) := by decide +kernel
theorem dX4_asked_167 : decode cX4_asked 167 = .ok (.iload_n 3, 1) := by decide +kernel
theorem dX4_asked_168 : decode cX4_asked 168 = .ok (.aload_n 2, 1) := by decide +kernel
theorem dX4_asked_169 : decode cX4_asked 169 = .ok (.getfield 117, 3) := by decide +kernel
theorem dX4_asked_172 : decode cX4_asked 172 = .ok (.iload_n 3, 1) := by decide +kernel
theorem dX4_asked_173 : decode cX4_asked 173 = .ok (.iconst 4, 1) := by decide +kernel
theorem dX4_asked_174 : decode cX4_asked 174 = .ok (.imul, 1) := by decide +kernel
theorem dX4_asked_175 : decode cX4_asked 175 = .ok (.iload 6, 2) := by decide +kernel
theorem dX4_asked_177 : decode cX4_asked 177 = .ok (.iadd, 1) := by decide +kernel
theorem dX4_asked_178 : decode cX4_asked 178 = .ok (.iaload, 1) := by decide +kernel
theorem dX4_asked_179 : decode cX4_asked 179 = .ok (.i2l, 1) := by decide +kernel
theorem dX4_asked_180 : decode cX4_asked 180 = .ok (.invokestatic 184, 3) := by decide +kernel
theorem dX4_asked_183 : decode cX4_asked 183 = .ok (.goto 8, 3) := by decide +kernel
theorem dX4_asked_186 : decode cX4_asked 186 = .ok (.aload_n 2, 1) := by decide +kernel
theorem dX4_asked_187 : decode cX4_asked 187 = .ok (.iload_n 3, 1) := by decide +kernel
theorem dX4_asked_188 : decode cX4_asked 188 = .ok (.invokestatic 188, 3) := by decide +kernel
theorem dX4_asked_191 : decode cX4_asked 191 = .ok (.lreturn, 1) := by decide +kernel
theorem dX4_asked_192 : decode cX4_asked 192 = .ok (.iload 6, 2) := by decide +kernel
theorem dX4_asked_194 : decode cX4_asked 194 = .ok (.iload 7, 2) := by decide +kernel
theorem dX4_asked_196 : decode cX4_asked 196 = .ok (.bipush 99, 2) := by decide +kernel
theorem dX4_asked_198 : decode cX4_asked 198 = .ok (.invokestatic 192, 3) := by decide +kernel
theorem dX4_asked_201 : decode cX4_asked 201 = .ok (.if_icmp .ge 16, 3) := by decide +kernel
theorem dX4_asked_204 : decode cX4_asked 204 = .ok (.aload_n 2, 1) := by decide +kernel
theorem dX4_asked_205 : decode cX4_asked 205 = .ok (.iload_n 3, 1) := by decide +kernel
theorem dX4_asked_206 : decode cX4_asked 206 = .ok (.iload 6, 2) := by decide +kernel
theorem dX4_asked_208 : decode cX4_asked 208 = .ok (.iconst 1, 1) := by decide +kernel
theorem dX4_asked_209 : decode cX4_asked 209 = .ok (.iadd, 1) := by decide +kernel
theorem dX4_asked_210 : decode cX4_asked 210 = .ok (.i2l, 1) := by decide +kernel
theorem dX4_asked_211 : decode cX4_asked 211 = .ok (.invokestatic 184, 3) := by decide +kernel
theorem dX4_asked_214 : decode cX4_asked 214 = .ok (.goto 8, 3) := by decide +kernel
theorem dX4_asked_217 : decode cX4_asked 217 = .ok (.aload_n 2, 1) := by decide +kernel
theorem dX4_asked_218 : decode cX4_asked 218 = .ok (.iload_n 3, 1) := by decide +kernel
theorem dX4_asked_219 : decode cX4_asked 219 = .ok (.invokestatic 188, 3) := by decide +kernel
theorem dX4_asked_222 : decode cX4_asked 222 = .ok (.lreturn, 1) := by decide +kernel
theorem dX4_asked_223 : decode cX4_asked 223 = .ok (.iload 6, 2) := by decide +kernel
theorem dX4_asked_225 : decode cX4_asked 225 = .ok (.aload_n 2, 1) := by decide +kernel
theorem dX4_asked_226 : decode cX4_asked 226 = .ok (.getfield 177, 3) := by decide +kernel
theorem dX4_asked_229 : decode cX4_asked 229 = .ok (.getfield 40, 3) := by decide +kernel
theorem dX4_asked_232 : decode cX4_asked 232 = .ok (.if_icmp .ge 20, 3) := by decide +kernel
theorem dX4_asked_235 : decode cX4_asked 235 = .ok (.aload_n 2, 1) := by decide +kernel
theorem dX4_asked_236 : decode cX4_asked 236 = .ok (.iload_n 3, 1) := by decide +kernel
theorem dX4_asked_237 : decode cX4_asked 237 = .ok (.aload_n 2, 1) := by decide +kernel
theorem dX4_asked_238 : decode cX4_asked 238 = .ok (.getfield 177, 3) := by decide +kernel
theorem dX4_asked_241 : decode cX4_asked 241 = .ok (.iload 6, 2) := by decide +kernel
theorem dX4_asked_243 : decode cX4_asked 243 = .ok (.invokevirtual 198, 3) := by decide +kernel
theorem dX4_asked_246 : decode cX4_asked 246 = .ok (.invokestatic 184, 3) := by decide +kernel
theorem dX4_asked_249 : decode cX4_asked 249 = .ok (.goto 8, 3) := by decide +kernel
theorem dX4_asked_252 : decode cX4_asked 252 = .ok (.aload_n 2, 1) := by decide +kernel
theorem dX4_asked_253 : decode cX4_asked 253 = .ok (.iload_n 3, 1) := by decide +kernel
theorem dX4_asked_254 : decode cX4_asked 254 = .ok (.invokestatic 188, 3) := by decide +kernel
theorem dX4_asked_257 : decode cX4_asked 257 = .ok (.lreturn, 1) := by decide +kernel
theorem dX4_asked_258 : decode cX4_asked 258 = .ok (.aload_n 2, 1) := by decide +kernel
theorem dX4_asked_259 : decode cX4_asked 259 = .ok (.iload_n 3, 1) := by decide +kernel
theorem dX4_asked_260 : decode cX4_asked 260 = .ok (.invokestatic 188, 3) := by decide +kernel
theorem dX4_asked_263 : decode cX4_asked 263 = .ok (.lreturn, 1) := by decide +kernel
theorem dX4_asked_264 : decode cX4_asked 264 = .ok (.iload 7, 2) := by decide +kernel
theorem dX4_asked_266 : decode cX4_asked 266 = .ok (.ifCond .ne 11, 3) := by decide +kernel
theorem dX4_asked_269 : decode cX4_asked 269 = .ok (.aload_n 2, 1) := by decide +kernel
theorem dX4_asked_270 : decode cX4_asked 270 = .ok (.iload_n 3, 1) := by decide +kernel
theorem dX4_asked_271 : decode cX4_asked 271 = .ok (.invokestatic 188, 3) := by decide +kernel
theorem dX4_asked_274 : decode cX4_asked 274 = .ok (.goto 6, 3) := by decide +kernel
theorem dX4_asked_277 : decode cX4_asked 277 = .ok (.ldc2_w 167, 3) := by decide +kernel
theorem dX4_asked_280 : decode cX4_asked 280 = .ok (.lreturn, 1) := by decide +kernel
theorem dX4_asked_281 : decode cX4_asked 281 = .ok (.iload 6, 2) := by decide +kernel
theorem dX4_asked_283 : decode cX4_asked 283 = .ok (.iload 7, 2) := by decide +kernel
theorem dX4_asked_285 : decode cX4_asked 285 = .ok (.if_icmp .ge 9, 3) := by decide +kernel
theorem dX4_asked_288 : decode cX4_asked 288 = .ok (.ldc2_w 167, 3) := by decide +kernel
theorem dX4_asked_291 : decode cX4_asked 291 = .ok (.goto 8, 3) := by decide +kernel
theorem dX4_asked_294 : decode cX4_asked 294 = .ok (.aload_n 2, 1) := by decide +kernel
theorem dX4_asked_295 : decode cX4_asked 295 = .ok (.iload_n 3, 1) := by decide +kernel
theorem dX4_asked_296 : decode cX4_asked 296 = .ok (.invokestatic 188, 3) := by decide +kernel
theorem dX4_asked_299 : decode cX4_asked 299 = .ok (.lreturn, 1) := by decide +kernel
theorem dX4_asked_300 : decode cX4_asked 300 = .ok (.ldc2_w 167, 3) := by decide +kernel
theorem dX4_asked_303 : decode cX4_asked 303 = .ok (.lreturn, 1) := by decide +kernel
theorem dX4_got_0 : decode cX4_got 0 = .ok (.lload 4, 2) := by decide +kernel
theorem dX4_got_2 : decode cX4_got 2 = .ok (.ldc2_w 73, 3) := by decide +kernel
theorem dX4_got_5 : decode cX4_got 5 = .ok (.lcmp, 1) := by decide +kernel
theorem dX4_got_6 : decode cX4_got 6 = .ok (.ifCond .ne 10, 3) := by decide +kernel
theorem dX4_got_9 : decode cX4_got 9 = .ok (.aload_n 1, 1) := by decide +kernel
theorem dX4_got_10 : decode cX4_got 10 = .ok (.aload_n 2, 1) := by decide +kernel
theorem dX4_got_11 : decode cX4_got 11 = .ok (.iload_n 3, 1) := by decide +kernel
theorem dX4_got_12 : decode cX4_got 12 = .ok (.invokestatic 202, 3) := by decide +kernel
theorem dX4_got_15 : decode cX4_got 15 = .ok (.lreturn, 1) := by decide +kernel
theorem dX4_got_16 : decode cX4_got 16 = .ok (.aload_n 0, 1) := by decide +kernel
theorem dX4_got_17 : decode cX4_got 17 = .ok (.dup, 1) := by decide +kernel
theorem dX4_got_18 : decode cX4_got 18 = .ok (.getfield 31, 3) := by decide +kernel
theorem dX4_got_21 : decode cX4_got 21 = .ok (.iconst 1, 1) := by decide +kernel
theorem dX4_got_22 : decode cX4_got 22 = .ok (.iadd, 1) := by decide +kernel
theorem dX4_got_23 : decode cX4_got 23 = .ok (.putfield 31, 3) := by decide +kernel
theorem dX4_got_26 : decode cX4_got 26 = .ok (.lload 4, 2) := by decide +kernel
theorem dX4_got_28 : decode cX4_got 28 = .ok (.l2i, 1) := by decide +kernel
theorem dX4_got_29 : decode cX4_got 29 = .ok (.istore 6, 2) := by decide +kernel
theorem dX4_got_31 : decode cX4_got 31 = .ok (.aload_n 2, 1) := by decide +kernel
theorem dX4_got_32 : decode cX4_got 32 = .ok (.getfield 117, 3) := by decide +kernel
theorem dX4_got_35 : decode cX4_got 35 = .ok (.iload_n 3, 1) := by decide +kernel
theorem dX4_got_36 : decode cX4_got 36 = .ok (.iconst 4, 1) := by decide +kernel
theorem dX4_got_37 : decode cX4_got 37 = .ok (.imul, 1) := by decide +kernel
theorem dX4_got_38 : decode cX4_got 38 = .ok (.iaload, 1) := by decide +kernel
theorem dX4_got_39 : decode cX4_got 39 = .ok (.istore 7, 2) := by decide +kernel
theorem dX4_got_41 : decode cX4_got 41 = .ok (.getstatic 152, 3) := by decide +kernel
theorem dX4_got_44 : decode cX4_got 44 = .ok (.aload_n 2, 1) := by decide +kernel
theorem dX4_got_45 : decode cX4_got 45 = .ok (.getfield 80, 3) := by decide +kernel
theorem dX4_got_48 : decode cX4_got 48 = .ok (.getfield 108, 3) := by decide +kernel
theorem dX4_got_51 : decode cX4_got 51 = .ok (.iload_n 3, 1) := by decide +kernel
theorem dX4_got_52 : decode cX4_got 52 = .ok (.aaload, 1) := by decide +kernel
theorem dX4_got_53 : decode cX4_got 53 = .ok (.getfield 134, 3) := by decide +kernel
theorem dX4_got_56 : decode cX4_got 56 = .ok (.invokevirtual 157, 3) := by decide +kernel
theorem dX4_got_59 : decode cX4_got 59 = .ok (.iaload, 1) := by decide +kernel
theorem dX4_got_60 : decode cX4_got 60 = .ok (.tableswitch 180 2 15 #[86, 161, 180, 180, 180, 180, 180, 180, 180, 137, 72, 79, 106, 146], 72) := by decide +kernel
theorem dX4_got_132 : decode cX4_got 132 = .ok (.iload 6, 2) := by decide +kernel
theorem dX4_got_134 : decode cX4_got 134 = .ok (.iload 7, 2) := by decide +kernel
theorem dX4_got_136 : decode cX4_got 136 = .ok (.iadd, 1) := by decide +kernel
theorem dX4_got_137 : decode cX4_got 137 = .ok (.i2l, 1) := by decide +kernel
theorem dX4_got_138 : decode cX4_got 138 = .ok (.lreturn, 1) := by decide +kernel
theorem dX4_got_139 : decode cX4_got 139 = .ok (.iload 6, 2) := by decide +kernel
theorem dX4_got_141 : decode cX4_got 141 = .ok (.iload 7, 2) := by decide +kernel
theorem dX4_got_143 : decode cX4_got 143 = .ok (.imul, 1) := by decide +kernel
theorem dX4_got_144 : decode cX4_got 144 = .ok (.i2l, 1) := by decide +kernel
theorem dX4_got_145 : decode cX4_got 145 = .ok (.lreturn, 1) := by decide +kernel
theorem dX4_got_146 : decode cX4_got 146 = .ok (.iload 7, 2) := by decide +kernel
theorem dX4_got_148 : decode cX4_got 148 = .ok (.ifCond .ne 11, 3) := by decide +kernel
theorem dX4_got_151 : decode cX4_got 151 = .ok (.aload_n 2, 1) := by decide +kernel
theorem dX4_got_152 : decode cX4_got 152 = .ok (.iload_n 3, 1) := by decide +kernel
theorem dX4_got_153 : decode cX4_got 153 = .ok (.invokestatic 188, 3) := by decide +kernel
theorem dX4_got_156 : decode cX4_got 156 = .ok (.goto 9, 3) := by decide +kernel
theorem dX4_got_159 : decode cX4_got 159 = .ok (.iload 6, 2) := by decide +kernel
theorem dX4_got_161 : decode cX4_got 161 = .ok (.iload 7, 2) := by decide +kernel
theorem dX4_got_163 : decode cX4_got 163 = .ok (.irem, 1) := by decide +kernel
theorem dX4_got_164 : decode cX4_got 164 = .ok (.i2l, 1) := by decide +kernel
theorem dX4_got_165 : decode cX4_got 165 = .ok (.lreturn, 1) := by decide +kernel
theorem dX4_got_166 : decode cX4_got 166 = .ok (.iload 7, 2) := by decide +kernel
theorem dX4_got_168 : decode cX4_got 168 = .ok (.ifCond .ne 11, 3) := by decide +kernel
theorem dX4_got_171 : decode cX4_got 171 = .ok (.iload 6, 2) := by decide +kernel
theorem dX4_got_173 : decode cX4_got 173 = .ok (.ifCond .ne 20, 3) := by decide +kernel
theorem dX4_got_176 : decode cX4_got 176 = .ok (.goto 11, 3) := by decide +kernel
theorem dX4_got_179 : decode cX4_got 179 = .ok (.iload 6, 2) := by decide +kernel
theorem dX4_got_181 : decode cX4_got 181 = .ok (.iload 7, 2) := by decide +kernel
theorem dX4_got_183 : decode cX4_got 183 = .ok (.irem, 1) := by decide +kernel
theorem dX4_got_184 : decode cX4_got 184 = .ok (.ifCond .ne 9, 3) := by decide +kernel
theorem dX4_got_187 : decode cX4_got 187 = .ok (.iload 6, 2) := by decide +kernel
theorem dX4_got_189 : decode cX4_got 189 = .ok (.i2l, 1) := by decide +kernel
theorem dX4_got_190 : decode cX4_got 190 = .ok (.goto 6, 3) := by decide +kernel
theorem dX4_got_193 : decode cX4_got 193 = .ok (.ldc2_w 167, 3) := by decide +kernel
theorem dX4_got_196 : decode cX4_got 196 = .ok (.lreturn, 1) := by decide +kernel
theorem dX4_got_197 : decode cX4_got 197 = .ok (.aload_n 2, 1) := by decide +kernel
theorem dX4_got_198 : decode cX4_got 198 = .ok (.iload_n 3, 1) := by decide +kernel
theorem dX4_got_199 : decode cX4_got 199 = .ok (.iload 6, 2) := by decide +kernel
theorem dX4_got_201 : decode cX4_got 201 = .ok (.i2l, 1) := by decide +kernel
theorem dX4_got_202 : decode cX4_got 202 = .ok (.invokestatic 184, 3) := by decide +kernel
theorem dX4_got_205 : decode cX4_got 205 = .ok (.lreturn, 1) := by decide +kernel
theorem dX4_got_206 : decode cX4_got 206 = .ok (.aload_n 2, 1) := by decide +kernel
theorem dX4_got_207 : decode cX4_got 207 = .ok (.getfield 127, 3) := by decide +kernel
theorem dX4_got_210 : decode cX4_got 210 = .ok (.iload_n 3, 1) := by decide +kernel
theorem dX4_got_211 : decode cX4_got 211 = .ok (.dup2, 1) := by decide +kernel
theorem dX4_got_212 : decode cX4_got 212 = .ok (.iaload, 1) := by decide +kernel
theorem dX4_got_213 : decode cX4_got 213 = .ok (.iload 6, 2) := by decide +kernel
theorem dX4_got_215 : decode cX4_got 215 = .ok (.iadd, 1) := by decide +kernel
theorem dX4_got_216 : decode cX4_got 216 = .ok (.iastore, 1) := by decide +kernel
theorem dX4_got_217 : decode cX4_got 217 = .ok (.ldc2_w 167, 3) := by decide +kernel
theorem dX4_got_220 : decode cX4_got 220 = .ok (.lreturn, 1) := by decide +kernel
theorem dX4_got_221 : decode cX4_got 221 = .ok (.aload_n 2, 1) := by decide +kernel
theorem dX4_got_222 : decode cX4_got 222 = .ok (.getfield 127, 3) := by decide +kernel
theorem dX4_got_225 : decode cX4_got 225 = .ok (.iload_n 3, 1) := by decide +kernel
theorem dX4_got_226 : decode cX4_got 226 = .ok (.iload 6, 2) := by decide +kernel
theorem dX4_got_228 : decode cX4_got 228 = .ok (.iastore, 1) := by decide +kernel
theorem dX4_got_229 : decode cX4_got 229 = .ok (.aload_n 2, 1) := by decide +kernel
theorem dX4_got_230 : decode cX4_got 230 = .ok (.getfield 93, 3) := by decide +kernel
theorem dX4_got_233 : decode cX4_got 233 = .ok (.iload_n 3, 1) := by decide +kernel
theorem dX4_got_234 : decode cX4_got 234 = .ok (.iconst 0, 1) := by decide +kernel
theorem dX4_got_235 : decode cX4_got 235 = .ok (.iastore, 1) := by decide +kernel
theorem dX4_got_236 : decode cX4_got 236 = .ok (.ldc2_w 167, 3) := by decide +kernel
theorem dX4_got_239 : decode cX4_got 239 = .ok (.lreturn, 1) := by decide +kernel
theorem dX4_got_240 : decode cX4_got 240 = .ok (.aload_n 2, 1) := by decide +kernel
theorem dX4_got_241 : decode cX4_got 241 = .ok (.iload_n 3, 1) := by decide +kernel
theorem dX4_got_242 : decode cX4_got 242 = .ok (.invokestatic 188, 3) := by decide +kernel
theorem dX4_got_245 : decode cX4_got 245 = .ok (.lreturn, 1) := by decide +kernel
theorem dX4_gotEnd_0 : decode cX4_gotEnd 0 = .ok (.aload_n 1, 1) := by decide +kernel
theorem dX4_gotEnd_1 : decode cX4_gotEnd 1 = .ok (.getfield 80, 3) := by decide +kernel
theorem dX4_gotEnd_4 : decode cX4_gotEnd 4 = .ok (.getfield 108, 3) := by decide +kernel
theorem dX4_gotEnd_7 : decode cX4_gotEnd 7 = .ok (.iload_n 2, 1) := by decide +kernel
theorem dX4_gotEnd_8 : decode cX4_gotEnd 8 = .ok (.aaload, 1) := by decide +kernel
theorem dX4_gotEnd_9 : decode cX4_gotEnd 9 = .ok (.astore_n 3, 1) := by decide +kernel
theorem dX4_gotEnd_10 : decode cX4_gotEnd 10 = .ok (.aload_n 1, 1) := by decide +kernel
theorem dX4_gotEnd_11 : decode cX4_gotEnd 11 = .ok (.getfield 130, 3) := by decide +kernel
theorem dX4_gotEnd_14 : decode cX4_gotEnd 14 = .ok (.iload_n 2, 1) := by decide +kernel
theorem dX4_gotEnd_15 : decode cX4_gotEnd 15 = .ok (.iconst 1, 1) := by decide +kernel
theorem dX4_gotEnd_16 : decode cX4_gotEnd 16 = .ok (.bastore, 1) := by decide +kernel
theorem dX4_gotEnd_17 : decode cX4_gotEnd 17 = .ok (.aload_n 3, 1) := by decide +kernel
theorem dX4_gotEnd_18 : decode cX4_gotEnd 18 = .ok (.getfield 134, 3) := by decide +kernel
theorem dX4_gotEnd_21 : decode cX4_gotEnd 21 = .ok (.getstatic 205, 3) := by decide +kernel
theorem dX4_gotEnd_24 : decode cX4_gotEnd 24 = .ok (.if_acmp .ne 11, 3) := by decide +kernel
theorem dX4_gotEnd_27 : decode cX4_gotEnd 27 = .ok (.aload_n 1, 1) := by decide +kernel
theorem dX4_gotEnd_28 : decode cX4_gotEnd 28 = .ok (.getfield 127, 3) := by decide +kernel
theorem dX4_gotEnd_31 : decode cX4_gotEnd 31 = .ok (.iload_n 2, 1) := by decide +kernel
theorem dX4_gotEnd_32 : decode cX4_gotEnd 32 = .ok (.iaload, 1) := by decide +kernel
theorem dX4_gotEnd_33 : decode cX4_gotEnd 33 = .ok (.i2l, 1) := by decide +kernel
theorem dX4_gotEnd_34 : decode cX4_gotEnd 34 = .ok (.lreturn, 1) := by decide +kernel
theorem dX4_gotEnd_35 : decode cX4_gotEnd 35 = .ok (.iconst (-1), 1) := by decide +kernel
theorem dX4_gotEnd_36 : decode cX4_gotEnd 36 = .ok (.aload_n 3, 1) := by decide +kernel
theorem dX4_gotEnd_37 : decode cX4_gotEnd 37 = .ok (.getfield 120, 3) := by decide +kernel
theorem dX4_gotEnd_40 : decode cX4_gotEnd 40 = .ok (.iconst 0, 1) := by decide +kernel
theorem dX4_gotEnd_41 : decode cX4_gotEnd 41 = .ok (.iaload, 1) := by decide +kernel
theorem dX4_gotEnd_42 : decode cX4_gotEnd 42 = .ok (.isub, 1) := by decide +kernel
theorem dX4_gotEnd_43 : decode cX4_gotEnd 43 = .ok (.istore 4, 2) := by decide +kernel
theorem dX4_gotEnd_45 : decode cX4_gotEnd 45 = .ok (.aload_n 3, 1) := by decide +kernel
theorem dX4_gotEnd_46 : decode cX4_gotEnd 46 = .ok (.getfield 134, 3) := by decide +kernel
theorem dX4_gotEnd_49 : decode cX4_gotEnd 49 = .ok (.getstatic 208, 3) := by decide +kernel
theorem dX4_gotEnd_52 : decode cX4_gotEnd 52 = .ok (.if_acmp .ne 33, 3) := by decide +kernel
theorem dX4_gotEnd_55 : decode cX4_gotEnd 55 = .ok (.aload_n 1, 1) := by decide +kernel
theorem dX4_gotEnd_56 : decode cX4_gotEnd 56 = .ok (.getfield 93, 3) := by decide +kernel
theorem dX4_gotEnd_59 : decode cX4_gotEnd 59 = .ok (.iload_n 2, 1) := by decide +kernel
theorem dX4_gotEnd_60 : decode cX4_gotEnd 60 = .ok (.iaload, 1) := by decide +kernel
theorem dX4_gotEnd_61 : decode cX4_gotEnd 61 = .ok (.ifCond .ne 24, 3) := by decide +kernel
theorem dX4_gotEnd_64 : decode cX4_gotEnd 64 = .ok (.iload 4, 2) := by decide +kernel
theorem dX4_gotEnd_66 : decode cX4_gotEnd 66 = .ok (.invokestatic 142, 3) := by decide +kernel
theorem dX4_gotEnd_69 : decode cX4_gotEnd 69 = .ok (.ifCond .eq 16, 3) := by decide +kernel
theorem dX4_gotEnd_72 : decode cX4_gotEnd 72 = .ok (.aload_n 0, 1) := by decide +kernel
theorem dX4_gotEnd_73 : decode cX4_gotEnd 73 = .ok (.getfield 146, 3) := by decide +kernel
theorem dX4_gotEnd_76 : decode cX4_gotEnd 76 = .ok (.iload 4, 2) := by decide +kernel
theorem dX4_gotEnd_78 : decode cX4_gotEnd 78 = .ok (.aload_n 1, 1) := by decide +kernel
theorem dX4_gotEnd_79 : decode cX4_gotEnd 79 = .ok (.getfield 127, 3) := by decide +kernel
theorem dX4_gotEnd_82 : decode cX4_gotEnd 82 = .ok (.iload_n 2, 1) := by decide +kernel
theorem dX4_gotEnd_83 : decode cX4_gotEnd 83 = .ok (.iaload, 1) := by decide +kernel
theorem dX4_gotEnd_84 : decode cX4_gotEnd 84 = .ok (.iastore, 1) := by decide +kernel
theorem dX4_gotEnd_85 : decode cX4_gotEnd 85 = .ok (.ldc2_w 73, 3) := by decide +kernel
theorem dX4_gotEnd_88 : decode cX4_gotEnd 88 = .ok (.lreturn, 1) := by decide +kernel
theorem dX4_gives_0 : decode cX4_gives 0 = .ok (.aload_n 0, 1) := by decide +kernel
theorem dX4_gives_1 : decode cX4_gives 1 = .ok (.getfield 127, 3) := by decide +kernel
theorem dX4_gives_4 : decode cX4_gives 4 = .ok (.iload_n 1, 1) := by decide +kernel
theorem dX4_gives_5 : decode cX4_gives 5 = .ok (.dup2, 1) := by decide +kernel
theorem dX4_gives_6 : decode cX4_gives 6 = .ok (.iaload, 1) := by decide +kernel
theorem dX4_gives_7 : decode cX4_gives 7 = .ok (.iconst 1, 1) := by decide +kernel
theorem dX4_gives_8 : decode cX4_gives 8 = .ok (.iadd, 1) := by decide +kernel
theorem dX4_gives_9 : decode cX4_gives 9 = .ok (.iastore, 1) := by decide +kernel
theorem dX4_gives_10 : decode cX4_gives 10 = .ok (.lload_n 2, 1) := by decide +kernel
theorem dX4_gives_11 : decode cX4_gives 11 = .ok (.lreturn, 1) := by decide +kernel
theorem dX4_end_0 : decode cX4_end 0 = .ok (.aload_n 0, 1) := by decide +kernel
theorem dX4_end_1 : decode cX4_end 1 = .ok (.getfield 130, 3) := by decide +kernel
theorem dX4_end_4 : decode cX4_end 4 = .ok (.iload_n 1, 1) := by decide +kernel
theorem dX4_end_5 : decode cX4_end 5 = .ok (.iconst 1, 1) := by decide +kernel
theorem dX4_end_6 : decode cX4_end 6 = .ok (.bastore, 1) := by decide +kernel
theorem dX4_end_7 : decode cX4_end 7 = .ok (.ldc2_w 73, 3) := by decide +kernel
theorem dX4_end_10 : decode cX4_end 10 = .ok (.lreturn, 1) := by decide +kernel
theorem dX4_goInner_0 : decode cX4_goInner 0 = .ok (.aload_n 2, 1) := by decide +kernel
theorem dX4_goInner_1 : decode cX4_goInner 1 = .ok (.getfield 80, 3) := by decide +kernel
theorem dX4_goInner_4 : decode cX4_goInner 4 = .ok (.getfield 108, 3) := by decide +kernel
theorem dX4_goInner_7 : decode cX4_goInner 7 = .ok (.iload_n 3, 1) := by decide +kernel
theorem dX4_goInner_8 : decode cX4_goInner 8 = .ok (.aaload, 1) := by decide +kernel
theorem dX4_goInner_9 : decode cX4_goInner 9 = .ok (.astore 5, 2) := by decide +kernel
theorem dX4_goInner_11 : decode cX4_goInner 11 = .ok (.aload 5, 2) := by decide +kernel
theorem dX4_goInner_13 : decode cX4_goInner 13 = .ok (.getfield 134, 3) := by decide +kernel
theorem dX4_goInner_16 : decode cX4_goInner 16 = .ok (.getfield 211, 3) := by decide +kernel
theorem dX4_goInner_19 : decode cX4_goInner 19 = .ok (.istore 6, 2) := by decide +kernel
theorem dX4_goInner_21 : decode cX4_goInner 21 = .ok (.iload 6, 2) := by decide +kernel
theorem dX4_goInner_23 : decode cX4_goInner 23 = .ok (.invokestatic 214, 3) := by decide +kernel
theorem dX4_goInner_26 : decode cX4_goInner 26 = .ok (.istore 7, 2) := by decide +kernel
theorem dX4_goInner_28 : decode cX4_goInner 28 = .ok (.iload 7, 2) := by decide +kernel
theorem dX4_goInner_30 : decode cX4_goInner 30 = .ok (.ifCond .eq 17, 3) := by decide +kernel
theorem dX4_goInner_33 : decode cX4_goInner 33 = .ok (.aload_n 0, 1) := by decide +kernel
theorem dX4_goInner_34 : decode cX4_goInner 34 = .ok (.aload_n 1, 1) := by decide +kernel
theorem dX4_goInner_35 : decode cX4_goInner 35 = .ok (.getfield 217, 3) := by decide +kernel
theorem dX4_goInner_38 : decode cX4_goInner 38 = .ok (.iload 6, 2) := by decide +kernel
theorem dX4_goInner_40 : decode cX4_goInner 40 = .ok (.iaload, 1) := by decide +kernel
theorem dX4_goInner_41 : decode cX4_goInner 41 = .ok (.invokevirtual 45, 3) := by decide +kernel
theorem dX4_goInner_44 : decode cX4_goInner 44 = .ok (.goto 8, 3) := by decide +kernel
theorem dX4_goInner_47 : decode cX4_goInner 47 = .ok (.aload 5, 2) := by decide +kernel
theorem dX4_goInner_49 : decode cX4_goInner 49 = .ok (.getfield 220, 3) := by decide +kernel
theorem dX4_goInner_52 : decode cX4_goInner 52 = .ok (.astore 8, 2) := by decide +kernel
theorem dX4_goInner_54 : decode cX4_goInner 54 = .ok (.iload 7, 2) := by decide +kernel
theorem dX4_goInner_56 : decode cX4_goInner 56 = .ok (.ifCond .eq 12, 3) := by decide +kernel
theorem dX4_goInner_59 : decode cX4_goInner 59 = .ok (.aload_n 2, 1) := by decide +kernel
theorem dX4_goInner_60 : decode cX4_goInner 60 = .ok (.getfield 223, 3) := by decide +kernel
theorem dX4_goInner_63 : decode cX4_goInner 63 = .ok (.iconst 1, 1) := by decide +kernel
theorem dX4_goInner_64 : decode cX4_goInner 64 = .ok (.iadd, 1) := by decide +kernel
theorem dX4_goInner_65 : decode cX4_goInner 65 = .ok (.goto 7, 3) := by decide +kernel
theorem dX4_goInner_68 : decode cX4_goInner 68 = .ok (.aload_n 2, 1) := by decide +kernel
theorem dX4_goInner_69 : decode cX4_goInner 69 = .ok (.getfield 223, 3) := by decide +kernel
theorem dX4_goInner_72 : decode cX4_goInner 72 = .ok (.istore 9, 2) := by decide +kernel
theorem dX4_goInner_74 : decode cX4_goInner 74 = .ok (.aload 8, 2) := by decide +kernel
theorem dX4_goInner_76 : decode cX4_goInner 76 = .ok (.ifnonnull 5, 3) := by decide +kernel
theorem dX4_goInner_79 : decode cX4_goInner 79 = .ok (.iconst 1, 1) := by decide +kernel
theorem dX4_goInner_80 : decode cX4_goInner 80 = .ok (.ireturn, 1) := by decide +kernel
theorem dX4_goInner_81 : decode cX4_goInner 81 = .ok (.iload 9, 2) := by decide +kernel
theorem dX4_goInner_83 : decode cX4_goInner 83 = .ok (.iconst 4, 1) := by decide +kernel
theorem dX4_goInner_84 : decode cX4_goInner 84 = .ok (.if_icmp .gt 10, 3) := by decide +kernel
theorem dX4_goInner_87 : decode cX4_goInner 87 = .ok (.iload 4, 2) := by decide +kernel
theorem dX4_goInner_89 : decode cX4_goInner 89 = .ok (.bipush 20, 2) := by decide +kernel
theorem dX4_goInner_91 : decode cX4_goInner 91 = .ok (.if_icmp .lt 6, 3) := by decide +kernel
theorem dX4_goInner_94 : decode cX4_goInner 94 = .ok (.bipush 9, 2) := by decide +kernel
theorem dX4_goInner_96 : decode cX4_goInner 96 = .ok (.ireturn, 1) := by decide +kernel
theorem dX4_goInner_97 : decode cX4_goInner 97 = .ok (.iload 7, 2) := by decide +kernel
theorem dX4_goInner_99 : decode cX4_goInner 99 = .ok (.ifCond .eq 14, 3) := by decide +kernel
theorem dX4_goInner_102 : decode cX4_goInner 102 = .ok (.aload_n 2, 1) := by decide +kernel
theorem dX4_goInner_103 : decode cX4_goInner 103 = .ok (.getfield 117, 3) := by decide +kernel
theorem dX4_goInner_106 : decode cX4_goInner 106 = .ok (.iload_n 3, 1) := by decide +kernel
theorem dX4_goInner_107 : decode cX4_goInner 107 = .ok (.iconst 4, 1) := by decide +kernel
theorem dX4_goInner_108 : decode cX4_goInner 108 = .ok (.imul, 1) := by decide +kernel
theorem dX4_goInner_109 : decode cX4_goInner 109 = .ok (.iaload, 1) := by decide +kernel
theorem dX4_goInner_110 : decode cX4_goInner 110 = .ok (.goto 7, 3) := by decide +kernel
theorem dX4_goInner_113 : decode cX4_goInner 113 = .ok (.aload_n 2, 1) := by decide +kernel
theorem dX4_goInner_114 : decode cX4_goInner 114 = .ok (.getfield 149, 3) := by decide +kernel
theorem dX4_goInner_117 : decode cX4_goInner 117 = .ok (.istore 10, 2) := by decide +kernel
theorem dX4_goInner_119 : decode cX4_goInner 119 = .ok (.aload_n 0, 1) := by decide +kernel
theorem dX4_goInner_120 : decode cX4_goInner 120 = .ok (.aload_n 1, 1) := by decide +kernel
theorem dX4_goInner_121 : decode cX4_goInner 121 = .ok (.aload 8, 2) := by decide +kernel
theorem dX4_goInner_123 : decode cX4_goInner 123 = .ok (.iload 10, 2) := by decide +kernel
theorem dX4_goInner_125 : decode cX4_goInner 125 = .ok (.iload 9, 2) := by decide +kernel
theorem dX4_goInner_127 : decode cX4_goInner 127 = .ok (.iload 4, 2) := by decide +kernel
theorem dX4_goInner_129 : decode cX4_goInner 129 = .ok (.aload_n 2, 1) := by decide +kernel
theorem dX4_goInner_130 : decode cX4_goInner 130 = .ok (.getfield 177, 3) := by decide +kernel
theorem dX4_goInner_133 : decode cX4_goInner 133 = .ok (.invokevirtual 49, 3) := by decide +kernel
theorem dX4_goInner_136 : decode cX4_goInner 136 = .ok (.ireturn, 1) := by decide +kernel
theorem dX5_init_0 : decode cX5_init 0 = .ok (.aload_n 0, 1) := by decide +kernel
theorem dX5_init_1 : decode cX5_init 1 = .ok (.invokespecial 3, 3) := by decide +kernel
theorem dX5_init_4 : decode cX5_init 4 = .ok (.aload_n 0, 1) := by decide +kernel
theorem dX5_init_5 : decode cX5_init 5 = .ok (.bipush 60, 2) := by decide +kernel
theorem dX5_init_7 : decode cX5_init 7 = .ok (.newarray .int, 2) := by decide +kernel
theorem dX5_init_9 : decode cX5_init 9 = .ok (.putfield 9, 3) := by decide +kernel
theorem dX5_init_12 : decode cX5_init 12 = .ok (.return_, 1) := by decide +kernel
theorem dX5_add_0 : decode cX5_add 0 = .ok (.aload_n 0, 1) := by decide +kernel
theorem dX5_add_1 : decode cX5_add 1 = .ok (.getfield 15, 3) := by decide +kernel
theorem dX5_add_4 : decode cX5_add 4 = .ok (.bipush 60, 2) := by decide +kernel
theorem dX5_add_6 : decode cX5_add 6 = .ok (.if_icmp .ge 24, 3) := by decide +kernel
theorem dX5_add_9 : decode cX5_add 9 = .ok (.aload_n 0, 1) := by decide +kernel
theorem dX5_add_10 : decode cX5_add 10 = .ok (.getfield 9, 3) := by decide +kernel
theorem dX5_add_13 : decode cX5_add 13 = .ok (.aload_n 0, 1) := by decide +kernel
theorem dX5_add_14 : decode cX5_add 14 = .ok (.getfield 15, 3) := by decide +kernel
theorem dX5_add_17 : decode cX5_add 17 = .ok (.lload_n 1, 1) := by decide +kernel
theorem dX5_add_18 : decode cX5_add 18 = .ok (.l2i, 1) := by decide +kernel
theorem dX5_add_19 : decode cX5_add 19 = .ok (.iastore, 1) := by decide +kernel
theorem dX5_add_20 : decode cX5_add 20 = .ok (.aload_n 0, 1) := by decide +kernel
theorem dX5_add_21 : decode cX5_add 21 = .ok (.dup, 1) := by decide +kernel
theorem dX5_add_22 : decode cX5_add 22 = .ok (.getfield 15, 3) := by decide +kernel
theorem dX5_add_25 : decode cX5_add 25 = .ok (.iconst 1, 1) := by decide +kernel
theorem dX5_add_26 : decode cX5_add 26 = .ok (.iadd, 1) := by decide +kernel
theorem dX5_add_27 : decode cX5_add 27 = .ok (.putfield 15, 3) := by decide +kernel
theorem dX5_add_30 : decode cX5_add 30 = .ok (.return_, 1) := by decide +kernel
theorem dX5_at_0 : decode cX5_at 0 = .ok (.iload_n 1, 1) := by decide +kernel
theorem dX5_at_1 : decode cX5_at 1 = .ok (.ifCond .lt 21, 3) := by decide +kernel
theorem dX5_at_4 : decode cX5_at 4 = .ok (.iload_n 1, 1) := by decide +kernel
theorem dX5_at_5 : decode cX5_at 5 = .ok (.aload_n 0, 1) := by decide +kernel
theorem dX5_at_6 : decode cX5_at 6 = .ok (.getfield 15, 3) := by decide +kernel
theorem dX5_at_9 : decode cX5_at 9 = .ok (.if_icmp .ge 13, 3) := by decide +kernel
theorem dX5_at_12 : decode cX5_at 12 = .ok (.aload_n 0, 1) := by decide +kernel
theorem dX5_at_13 : decode cX5_at 13 = .ok (.getfield 9, 3) := by decide +kernel
theorem dX5_at_16 : decode cX5_at 16 = .ok (.iload_n 1, 1) := by decide +kernel
theorem dX5_at_17 : decode cX5_at 17 = .ok (.iaload, 1) := by decide +kernel
theorem dX5_at_18 : decode cX5_at 18 = .ok (.i2l, 1) := by decide +kernel
theorem dX5_at_19 : decode cX5_at 19 = .ok (.goto 6, 3) := by decide +kernel
theorem dX5_at_22 : decode cX5_at 22 = .ok (.ldc2_w 19, 3) := by decide +kernel
theorem dX5_at_25 : decode cX5_at 25 = .ok (.lreturn, 1) := by decide +kernel
theorem dX5_sum_0 : decode cX5_sum 0 = .ok (.lconst 0, 1) := by decide +kernel
theorem dX5_sum_1 : decode cX5_sum 1 = .ok (.lstore_n 1, 1) := by decide +kernel
theorem dX5_sum_2 : decode cX5_sum 2 = .ok (.iconst 0, 1) := by decide +kernel
theorem dX5_sum_3 : decode cX5_sum 3 = .ok (.istore_n 3, 1) := by decide +kernel
theorem dX5_sum_4 : decode cX5_sum 4 = .ok (.iload_n 3, 1) := by decide +kernel
theorem dX5_sum_5 : decode cX5_sum 5 = .ok (.aload_n 0, 1) := by decide +kernel
theorem dX5_sum_6 : decode cX5_sum 6 = .ok (.getfield 15, 3) := by decide +kernel
theorem dX5_sum_9 : decode cX5_sum 9 = .ok (.if_icmp .ge 19, 3) := by decide +kernel
theorem dX5_sum_12 : decode cX5_sum 12 = .ok (.lload_n 1, 1) := by decide +kernel
theorem dX5_sum_13 : decode cX5_sum 13 = .ok (.aload_n 0, 1) := by decide +kernel
theorem dX5_sum_14 : decode cX5_sum 14 = .ok (.getfield 9, 3) := by decide +kernel
theorem dX5_sum_17 : decode cX5_sum 17 = .ok (.iload_n 3, 1) := by decide +kernel
theorem dX5_sum_18 : decode cX5_sum 18 = .ok (.iaload, 1) := by decide +kernel
theorem dX5_sum_19 : decode cX5_sum 19 = .ok (.i2l, 1) := by decide +kernel
theorem dX5_sum_20 : decode cX5_sum 20 = .ok (.ladd, 1) := by decide +kernel
theorem dX5_sum_21 : decode cX5_sum 21 = .ok (.lstore_n 1, 1) := by decide +kernel
theorem dX5_sum_22 : decode cX5_sum 22 = .ok (.iinc 3 1, 3) := by decide +kernel
theorem dX5_sum_25 : decode cX5_sum 25 = .ok (.goto (-21), 3) := by decide +kernel
theorem dX5_sum_28 : decode cX5_sum 28 = .ok (.lload_n 1, 1) := by decide +kernel
theorem dX5_sum_29 : decode cX5_sum 29 = .ok (.lreturn, 1) := by decide +kernel
theorem dX5_isLike_0 : decode cX5_isLike 0 = .ok (.aload_n 0, 1) := by decide +kernel
theorem dX5_isLike_1 : decode cX5_isLike 1 = .ok (.getfield 15, 3) := by decide +kernel
theorem dX5_isLike_4 : decode cX5_isLike 4 = .ok (.aload_n 1, 1) := by decide +kernel
theorem dX5_isLike_5 : decode cX5_isLike 5 = .ok (.getfield 15, 3) := by decide +kernel
theorem dX5_isLike_8 : decode cX5_isLike 8 = .ok (.if_icmp .ne 7, 3) := by decide +kernel
theorem dX5_isLike_11 : decode cX5_isLike 11 = .ok (.iconst 1, 1) := by decide +kernel
theorem dX5_isLike_12 : decode cX5_isLike 12 = .ok (.goto 4, 3) := by decide +kernel
theorem dX5_isLike_15 : decode cX5_isLike 15 = .ok (.iconst 0, 1) := by decide +kernel
theorem dX5_isLike_16 : decode cX5_isLike 16 = .ok (.istore_n 2, 1) := by decide +kernel
theorem dX5_isLike_17 : decode cX5_isLike 17 = .ok (.iconst 0, 1) := by decide +kernel
theorem dX5_isLike_18 : decode cX5_isLike 18 = .ok (.istore_n 3, 1) := by decide +kernel
theorem dX5_isLike_19 : decode cX5_isLike 19 = .ok (.iload_n 2, 1) := by decide +kernel
theorem dX5_isLike_20 : decode cX5_isLike 20 = .ok (.ifCond .eq 38, 3) := by decide +kernel
theorem dX5_isLike_23 : decode cX5_isLike 23 = .ok (.iload_n 3, 1) := by decide +kernel
theorem dX5_isLike_24 : decode cX5_isLike 24 = .ok (.aload_n 0, 1) := by decide +kernel
theorem dX5_isLike_25 : decode cX5_isLike 25 = .ok (.getfield 15, 3) := by decide +kernel
theorem dX5_isLike_28 : decode cX5_isLike 28 = .ok (.if_icmp .ge 30, 3) := by decide +kernel
theorem dX5_isLike_31 : decode cX5_isLike 31 = .ok (.aload_n 0, 1) := by decide +kernel
theorem dX5_isLike_32 : decode cX5_isLike 32 = .ok (.getfield 9, 3) := by decide +kernel
theorem dX5_isLike_35 : decode cX5_isLike 35 = .ok (.iload_n 3, 1) := by decide +kernel
theorem dX5_isLike_36 : decode cX5_isLike 36 = .ok (.iaload, 1) := by decide +kernel
theorem dX5_isLike_37 : decode cX5_isLike 37 = .ok (.aload_n 1, 1) := by decide +kernel
theorem dX5_isLike_38 : decode cX5_isLike 38 = .ok (.getfield 9, 3) := by decide +kernel
theorem dX5_isLike_41 : decode cX5_isLike 41 = .ok (.iload_n 3, 1) := by decide +kernel
theorem dX5_isLike_42 : decode cX5_isLike 42 = .ok (.iaload, 1) := by decide +kernel
theorem dX5_isLike_43 : decode cX5_isLike 43 = .ok (.if_icmp .ne 7, 3) := by decide +kernel
theorem dX5_isLike_46 : decode cX5_isLike 46 = .ok (.iconst 1, 1) := by decide +kernel
theorem dX5_isLike_47 : decode cX5_isLike 47 = .ok (.goto 4, 3) := by decide +kernel
theorem dX5_isLike_50 : decode cX5_isLike 50 = .ok (.iconst 0, 1) := by decide +kernel
theorem dX5_isLike_51 : decode cX5_isLike 51 = .ok (.istore_n 2, 1) := by decide +kernel
theorem dX5_isLike_52 : decode cX5_isLike 52 = .ok (.iinc 3 1, 3) := by decide +kernel
theorem dX5_isLike_55 : decode cX5_isLike 55 = .ok (.goto (-36), 3) := by decide +kernel
theorem dX5_isLike_58 : decode cX5_isLike 58 = .ok (.iload_n 2, 1) := by decide +kernel
theorem dX5_isLike_59 : decode cX5_isLike 59 = .ok (.ireturn, 1) := by decide +kernel
theorem dX5_copyFrom_0 : decode cX5_copyFrom 0 = .ok (.aload_n 1, 1) := by decide +kernel
theorem dX5_copyFrom_1 : decode cX5_copyFrom 1 = .ok (.getfield 9, 3) := by decide +kernel
theorem dX5_copyFrom_4 : decode cX5_copyFrom 4 = .ok (.iconst 0, 1) := by decide +kernel
theorem dX5_copyFrom_5 : decode cX5_copyFrom 5 = .ok (.aload_n 0, 1) := by decide +kernel
theorem dX5_copyFrom_6 : decode cX5_copyFrom 6 = .ok (.getfield 9, 3) := by decide +kernel
theorem dX5_copyFrom_9 : decode cX5_copyFrom 9 = .ok (.iconst 0, 1) := by decide +kernel
theorem dX5_copyFrom_10 : decode cX5_copyFrom 10 = .ok (.aload_n 1, 1) := by decide +kernel
theorem dX5_copyFrom_11 : decode cX5_copyFrom 11 = .ok (.getfield 15, 3) := by decide +kernel
theorem dX5_copyFrom_14 : decode cX5_copyFrom 14 = .ok (.invokestatic 21, 3) := by decide +kernel
theorem dX5_copyFrom_17 : decode cX5_copyFrom 17 = .ok (.aload_n 0, 1) := by decide +kernel
theorem dX5_copyFrom_18 : decode cX5_copyFrom 18 = .ok (.aload_n 1, 1) := by decide +kernel
theorem dX5_copyFrom_19 : decode cX5_copyFrom 19 = .ok (.getfield 15, 3) := by decide +kernel
theorem dX5_copyFrom_22 : decode cX5_copyFrom 22 = .ok (.putfield 15, 3) := by decide +kernel
theorem dX5_copyFrom_25 : decode cX5_copyFrom 25 = .ok (.return_, 1) := by decide +kernel
theorem dX6_init_0 : decode cX6_init 0 = .ok (.aload_n 0, 1) := by decide +kernel
theorem dX6_init_1 : decode cX6_init 1 = .ok (.invokespecial 3, 3) := by decide +kernel
theorem dX6_init_4 : decode cX6_init 4 = .ok (.aload_n 0, 1) := by decide +kernel
theorem dX6_init_5 : decode cX6_init 5 = .ok (.bipush 6, 2) := by decide +kernel
theorem dX6_init_7 : decode cX6_init 7 = .ok (.anewarray 9, 3) := by decide +kernel
theorem dX6_init_10 : decode cX6_init 10 = .ok (.putfield 11, 3) := by decide +kernel
theorem dX6_init_13 : decode cX6_init 13 = .ok (.aload_n 0, 1) := by decide +kernel
theorem dX6_init_14 : decode cX6_init 14 = .ok (.iconst 1, 1) := by decide +kernel
theorem dX6_init_15 : decode cX6_init 15 = .ok (.putfield 17, 3) := by decide +kernel
theorem dX6_init_18 : decode cX6_init 18 = .ok (.aload_n 0, 1) := by decide +kernel
theorem dX6_init_19 : decode cX6_init 19 = .ok (.bipush 59, 2) := by decide +kernel
theorem dX6_init_21 : decode cX6_init 21 = .ok (.putfield 21, 3) := by decide +kernel
theorem dX6_init_24 : decode cX6_init 24 = .ok (.aload_n 0, 1) := by decide +kernel
theorem dX6_init_25 : decode cX6_init 25 = .ok (.getfield 11, 3) := by decide +kernel
theorem dX6_init_28 : decode cX6_init 28 = .ok (.iconst 0, 1) := by decide +kernel
theorem dX6_init_29 : decode cX6_init 29 = .ok (.aload_n 1, 1) := by decide +kernel
theorem dX6_init_30 : decode cX6_init 30 = .ok (.aastore, 1) := by decide +kernel
theorem dX6_init_31 : decode cX6_init 31 = .ok (.return_, 1) := by decide +kernel
theorem dX7_init_0 : decode cX7_init 0 = .ok (.aload_n 0, 1) := by decide +kernel
theorem dX7_init_1 : decode cX7_init 1 = .ok (.invokespecial 3, 3) := by decide +kernel
theorem dX7_init_4 : decode cX7_init 4 = .ok (.aload_n 0, 1) := by decide +kernel
theorem dX7_init_5 : decode cX7_init 5 = .ok (.invokestatic 9, 3) := by decide +kernel
theorem dX7_init_8 : decode cX7_init 8 = .ok (.putfield 15, 3) := by decide +kernel
theorem dX7_init_11 : decode cX7_init 11 = .ok (.aload_n 0, 1) := by decide +kernel
theorem dX7_init_12 : decode cX7_init 12 = .ok (.bipush 100, 2) := by decide +kernel
theorem dX7_init_14 : decode cX7_init 14 = .ok (.newarray .byte, 2) := by decide +kernel
theorem dX7_init_16 : decode cX7_init 16 = .ok (.putfield 21, 3) := by decide +kernel
theorem dX7_init_19 : decode cX7_init 19 = .ok (.return_, 1) := by decide +kernel
theorem dX7_add_0 : decode cX7_add 0 = .ok (.aload_n 0, 1) := by decide +kernel
theorem dX7_add_1 : decode cX7_add 1 = .ok (.getfield 25, 3) := by decide +kernel
theorem dX7_add_4 : decode cX7_add 4 = .ok (.bipush 100, 2) := by decide +kernel
theorem dX7_add_6 : decode cX7_add 6 = .ok (.if_icmp .lt 5, 3) := by decide +kernel
theorem dX7_add_9 : decode cX7_add 9 = .ok (.iconst 0, 1) := by decide +kernel
theorem dX7_add_10 : decode cX7_add 10 = .ok (.ireturn, 1) := by decide +kernel
theorem dX7_add_11 : decode cX7_add 11 = .ok (.aload_n 0, 1) := by decide +kernel
theorem dX7_add_12 : decode cX7_add 12 = .ok (.getfield 21, 3) := by decide +kernel
theorem dX7_add_15 : decode cX7_add 15 = .ok (.aload_n 0, 1) := by decide +kernel
theorem dX7_add_16 : decode cX7_add 16 = .ok (.getfield 25, 3) := by decide +kernel
theorem dX7_add_19 : decode cX7_add 19 = .ok (.iload_n 1, 1) := by decide +kernel
theorem dX7_add_20 : decode cX7_add 20 = .ok (.i2b, 1) := by decide +kernel
theorem dX7_add_21 : decode cX7_add 21 = .ok (.bastore, 1) := by decide +kernel
theorem dX7_add_22 : decode cX7_add 22 = .ok (.aload_n 0, 1) := by decide +kernel
theorem dX7_add_23 : decode cX7_add 23 = .ok (.dup, 1) := by decide +kernel
theorem dX7_add_24 : decode cX7_add 24 = .ok (.getfield 25, 3) := by decide +kernel
theorem dX7_add_27 : decode cX7_add 27 = .ok (.iconst 1, 1) := by decide +kernel
theorem dX7_add_28 : decode cX7_add 28 = .ok (.iadd, 1) := by decide +kernel
theorem dX7_add_29 : decode cX7_add 29 = .ok (.putfield 25, 3) := by decide +kernel
theorem dX7_add_32 : decode cX7_add 32 = .ok (.iconst 1, 1) := by decide +kernel
theorem dX7_add_33 : decode cX7_add 33 = .ok (.ireturn, 1) := by decide +kernel
theorem dX7_readLine_0 : decode cX7_readLine 0 = .ok (.aload_n 0, 1) := by decide +kernel
theorem dX7_readLine_1 : decode cX7_readLine 1 = .ok (.iconst 0, 1) := by decide +kernel
theorem dX7_readLine_2 : decode cX7_readLine 2 = .ok (.putfield 29, 3) := by decide +kernel
theorem dX7_readLine_5 : decode cX7_readLine 5 = .ok (.aload_n 0, 1) := by decide +kernel
theorem dX7_readLine_6 : decode cX7_readLine 6 = .ok (.iconst 0, 1) := by decide +kernel
theorem dX7_readLine_7 : decode cX7_readLine 7 = .ok (.putfield 32, 3) := by decide +kernel
theorem dX7_readLine_10 : decode cX7_readLine 10 = .ok (.aload_n 0, 1) := by decide +kernel
theorem dX7_readLine_11 : decode cX7_readLine 11 = .ok (.iconst 0, 1) := by decide +kernel
theorem dX7_readLine_12 : decode cX7_readLine 12 = .ok (.putfield 35, 3) := by decide +kernel
theorem dX7_readLine_15 : decode cX7_readLine 15 = .ok (.aload_n 0, 1) := by decide +kernel
theorem dX7_readLine_16 : decode cX7_readLine 16 = .ok (.iconst 0, 1) := by decide +kernel
theorem dX7_readLine_17 : decode cX7_readLine 17 = .ok (.invokevirtual 38, 3) := by decide +kernel
theorem dX7_readLine_20 : decode cX7_readLine 20 = .ok (.astore_n 1, 1) := by decide +kernel
theorem dX7_readLine_21 : decode cX7_readLine 21 = .ok (.aload_n 1, 1) := by decide +kernel
theorem dX7_readLine_22 : decode cX7_readLine 22 = .ok (.ifnull 25, 3) := by decide +kernel
theorem dX7_readLine_25 : decode cX7_readLine 25 = .ok (.aload_n 0, 1) := by decide +kernel
theorem dX7_readLine_26 : decode cX7_readLine 26 = .ok (.getfield 29, 3) := by decide +kernel
theorem dX7_readLine_29 : decode cX7_readLine 29 = .ok (.aload_n 0, 1) := by decide +kernel
theorem dX7_readLine_30 : decode cX7_readLine 30 = .ok (.getfield 25, 3) := by decide +kernel
theorem dX7_readLine_33 : decode cX7_readLine 33 = .ok (.if_icmp .ge 14, 3) := by decide +kernel
theorem dX7_readLine_36 : decode cX7_readLine 36 = .ok (.aload_n 0, 1) := by decide +kernel
theorem dX7_readLine_37 : decode cX7_readLine 37 = .ok (.aload_n 0, 1) := by decide +kernel
theorem dX7_readLine_38 : decode cX7_readLine 38 = .ok (.getfield 29, 3) := by decide +kernel
theorem dX7_readLine_41 : decode cX7_readLine 41 = .ok (.invokevirtual 42, 3) := by decide +kernel
theorem dX7_readLine_44 : decode cX7_readLine 44 = .ok (.pop, 1) := by decide +kernel
theorem dX7_readLine_45 : decode cX7_readLine 45 = .ok (.aconst_null, 1) := by decide +kernel
theorem dX7_readLine_46 : decode cX7_readLine 46 = .ok (.astore_n 1, 1) := by decide +kernel
theorem dX7_readLine_47 : decode cX7_readLine 47 = .ok (.aload_n 0, 1) := by decide +kernel
theorem dX7_readLine_48 : decode cX7_readLine 48 = .ok (.iconst 0, 1) := by decide +kernel
theorem dX7_readLine_49 : decode cX7_readLine 49 = .ok (.putfield 25, 3) := by decide +kernel
theorem dX7_readLine_52 : decode cX7_readLine 52 = .ok (.aload_n 1, 1) := by decide +kernel
theorem dX7_readLine_53 : decode cX7_readLine 53 = .ok (.ifnonnull 7, 3) := by decide +kernel
theorem dX7_readLine_56 : decode cX7_readLine 56 = .ok (.aconst_null, 1) := by decide +kernel
theorem dX7_readLine_57 : decode cX7_readLine 57 = .ok (.goto 23, 3) := by decide +kernel
theorem dX7_readLine_60 : decode cX7_readLine 60 = .ok (.new 46, 3) := by decide +kernel
theorem dX7_readLine_63 : decode cX7_readLine 63 = .ok (.dup, 1) := by decide +kernel
theorem dX7_readLine_64 : decode cX7_readLine 64 = .ok (.aload_n 1, 1) := by decide +kernel
theorem dX7_readLine_65 : decode cX7_readLine 65 = .ok (.aload_n 1, 1) := by decide +kernel
theorem dX7_readLine_66 : decode cX7_readLine 66 = .ok (.invokestatic 48, 3) := by decide +kernel
theorem dX7_readLine_69 : decode cX7_readLine 69 = .ok (.aload_n 0, 1) := by decide +kernel
theorem dX7_readLine_70 : decode cX7_readLine 70 = .ok (.getfield 32, 3) := by decide +kernel
theorem dX7_readLine_73 : decode cX7_readLine 73 = .ok (.aload_n 0, 1) := by decide +kernel
theorem dX7_readLine_74 : decode cX7_readLine 74 = .ok (.getfield 35, 3) := by decide +kernel
theorem dX7_readLine_77 : decode cX7_readLine 77 = .ok (.invokespecial 52, 3) := by decide +kernel
theorem dX7_readLine_80 : decode cX7_readLine 80 = .ok (.areturn, 1) := by decide +kernel
theorem dX7_sizeOf_0 : decode cX7_sizeOf 0 = .ok (.iconst 0, 1) := by decide +kernel
theorem dX7_sizeOf_1 : decode cX7_sizeOf 1 = .ok (.istore_n 1, 1) := by decide +kernel
theorem dX7_sizeOf_2 : decode cX7_sizeOf 2 = .ok (.aload_n 0, 1) := by decide +kernel
theorem dX7_sizeOf_3 : decode cX7_sizeOf 3 = .ok (.astore_n 2, 1) := by decide +kernel
theorem dX7_sizeOf_4 : decode cX7_sizeOf 4 = .ok (.aload_n 2, 1) := by decide +kernel
theorem dX7_sizeOf_5 : decode cX7_sizeOf 5 = .ok (.ifnull 14, 3) := by decide +kernel
theorem dX7_sizeOf_8 : decode cX7_sizeOf 8 = .ok (.iinc 1 1, 3) := by decide +kernel
theorem dX7_sizeOf_11 : decode cX7_sizeOf 11 = .ok (.aload_n 2, 1) := by decide +kernel
theorem dX7_sizeOf_12 : decode cX7_sizeOf 12 = .ok (.getfield 55, 3) := by decide +kernel
theorem dX7_sizeOf_15 : decode cX7_sizeOf 15 = .ok (.astore_n 2, 1) := by decide +kernel
theorem dX7_sizeOf_16 : decode cX7_sizeOf 16 = .ok (.goto (-12), 3) := by decide +kernel
theorem dX7_sizeOf_19 : decode cX7_sizeOf 19 = .ok (.iload_n 1, 1) := by decide +kernel
theorem dX7_sizeOf_20 : decode cX7_sizeOf 20 = .ok (.ireturn, 1) := by decide +kernel
theorem dX7_readList_0 : decode cX7_readList 0 = .ok (.aload_n 0, 1) := by decide +kernel
theorem dX7_readList_1 : decode cX7_readList 1 = .ok (.iload_n 1, 1) := by decide +kernel
theorem dX7_readList_2 : decode cX7_readList 2 = .ok (.invokevirtual 61, 3) := by decide +kernel
theorem dX7_readList_5 : decode cX7_readList 5 = .ok (.astore_n 2, 1) := by decide +kernel
theorem dX7_readList_6 : decode cX7_readList 6 = .ok (.aload_n 2, 1) := by decide +kernel
theorem dX7_readList_7 : decode cX7_readList 7 = .ok (.astore_n 3, 1) := by decide +kernel
theorem dX7_readList_8 : decode cX7_readList 8 = .ok (.iconst 0, 1) := by decide +kernel
theorem dX7_readList_9 : decode cX7_readList 9 = .ok (.istore 4, 2) := by decide +kernel
theorem dX7_readList_11 : decode cX7_readList 11 = .ok (.iload 4, 2) := by decide +kernel
theorem dX7_readList_13 : decode cX7_readList 13 = .ok (.bipush 100, 2) := by decide +kernel
theorem dX7_readList_15 : decode cX7_readList 15 = .ok (.if_icmp .ge 69, 3) := by decide +kernel
theorem dX7_readList_18 : decode cX7_readList 18 = .ok (.aload_n 3, 1) := by decide +kernel
theorem dX7_readList_19 : decode cX7_readList 19 = .ok (.ifnull 65, 3) := by decide +kernel
theorem dX7_readList_22 : decode cX7_readList 22 = .ok (.aload_n 0, 1) := by decide +kernel
theorem dX7_readList_23 : decode cX7_readList 23 = .ok (.invokevirtual 64, 3) := by decide +kernel
theorem dX7_readList_26 : decode cX7_readList 26 = .ok (.invokestatic 68, 3) := by decide +kernel
theorem dX7_readList_29 : decode cX7_readList 29 = .ok (.ifCond .eq 55, 3) := by decide +kernel
theorem dX7_readList_32 : decode cX7_readList 32 = .ok (.aload_n 0, 1) := by decide +kernel
theorem dX7_readList_33 : decode cX7_readList 33 = .ok (.invokevirtual 64, 3) := by decide +kernel
theorem dX7_readList_36 : decode cX7_readList 36 = .ok (.istore 5, 2) := by decide +kernel
theorem dX7_readList_38 : decode cX7_readList 38 = .ok (.aload_n 0, 1) := by decide +kernel
theorem dX7_readList_39 : decode cX7_readList 39 = .ok (.dup, 1) := by decide +kernel
theorem dX7_readList_40 : decode cX7_readList 40 = .ok (.getfield 29, 3) := by decide +kernel
theorem dX7_readList_43 : decode cX7_readList 43 = .ok (.iconst 1, 1) := by decide +kernel
theorem dX7_readList_44 : decode cX7_readList 44 = .ok (.iadd, 1) := by decide +kernel
theorem dX7_readList_45 : decode cX7_readList 45 = .ok (.putfield 29, 3) := by decide +kernel
theorem dX7_readList_48 : decode cX7_readList 48 = .ok (.aload_n 0, 1) := by decide +kernel
theorem dX7_readList_49 : decode cX7_readList 49 = .ok (.iload_n 1, 1) := by decide +kernel
theorem dX7_readList_50 : decode cX7_readList 50 = .ok (.invokevirtual 61, 3) := by decide +kernel
theorem dX7_readList_53 : decode cX7_readList 53 = .ok (.astore 6, 2) := by decide +kernel
theorem dX7_readList_55 : decode cX7_readList 55 = .ok (.aload 6, 2) := by decide +kernel
theorem dX7_readList_57 : decode cX7_readList 57 = .ok (.ifnonnull 5, 3) := by decide +kernel
theorem dX7_readList_60 : decode cX7_readList 60 = .ok (.aconst_null, 1) := by decide +kernel
theorem dX7_readList_61 : decode cX7_readList 61 = .ok (.areturn, 1) := by decide +kernel
theorem dX7_readList_62 : decode cX7_readList 62 = .ok (.aload 6, 2) := by decide +kernel
theorem dX7_readList_64 : decode cX7_readList 64 = .ok (.iload 5, 2) := by decide +kernel
theorem dX7_readList_66 : decode cX7_readList 66 = .ok (.putfield 71, 3) := by decide +kernel
theorem dX7_readList_69 : decode cX7_readList 69 = .ok (.aload_n 3, 1) := by decide +kernel
theorem dX7_readList_70 : decode cX7_readList 70 = .ok (.aload 6, 2) := by decide +kernel
theorem dX7_readList_72 : decode cX7_readList 72 = .ok (.putfield 55, 3) := by decide +kernel
theorem dX7_readList_75 : decode cX7_readList 75 = .ok (.aload 6, 2) := by decide +kernel
theorem dX7_readList_77 : decode cX7_readList 77 = .ok (.astore_n 3, 1) := by decide +kernel
theorem dX7_readList_78 : decode cX7_readList 78 = .ok (.iinc 4 1, 3) := by decide +kernel
theorem dX7_readList_81 : decode cX7_readList 81 = .ok (.goto (-70), 3) := by decide +kernel
theorem dX7_readList_84 : decode cX7_readList 84 = .ok (.aload_n 2, 1) := by decide +kernel
theorem dX7_readList_85 : decode cX7_readList 85 = .ok (.areturn, 1) := by decide +kernel
theorem dX7_readPipe_0 : decode cX7_readPipe 0 = .ok (.aload_n 0, 1) := by decide +kernel
theorem dX7_readPipe_1 : decode cX7_readPipe 1 = .ok (.invokevirtual 64, 3) := by decide +kernel
theorem dX7_readPipe_4 : decode cX7_readPipe 4 = .ok (.bipush 123, 2) := by decide +kernel
theorem dX7_readPipe_6 : decode cX7_readPipe 6 = .ok (.if_icmp .ne 11, 3) := by decide +kernel
theorem dX7_readPipe_9 : decode cX7_readPipe 9 = .ok (.aload_n 0, 1) := by decide +kernel
theorem dX7_readPipe_10 : decode cX7_readPipe 10 = .ok (.iload_n 1, 1) := by decide +kernel
theorem dX7_readPipe_11 : decode cX7_readPipe 11 = .ok (.invokevirtual 74, 3) := by decide +kernel
theorem dX7_readPipe_14 : decode cX7_readPipe 14 = .ok (.goto 8, 3) := by decide +kernel
theorem dX7_readPipe_17 : decode cX7_readPipe 17 = .ok (.aload_n 0, 1) := by decide +kernel
theorem dX7_readPipe_18 : decode cX7_readPipe 18 = .ok (.iconst 1, 1) := by decide +kernel
theorem dX7_readPipe_19 : decode cX7_readPipe 19 = .ok (.invokevirtual 78, 3) := by decide +kernel
theorem dX7_readPipe_22 : decode cX7_readPipe 22 = .ok (.astore_n 2, 1) := by decide +kernel
theorem dX7_readPipe_23 : decode cX7_readPipe 23 = .ok (.aload_n 2, 1) := by decide +kernel
theorem dX7_readPipe_24 : decode cX7_readPipe 24 = .ok (.ifnonnull 5, 3) := by decide +kernel
theorem dX7_readPipe_27 : decode cX7_readPipe 27 = .ok (.aconst_null, 1) := by decide +kernel
theorem dX7_readPipe_28 : decode cX7_readPipe 28 = .ok (.areturn, 1) := by decide +kernel
theorem dX7_readPipe_29 : decode cX7_readPipe 29 = .ok (.new 56, 3) := by decide +kernel
theorem dX7_readPipe_32 : decode cX7_readPipe 32 = .ok (.dup, 1) := by decide +kernel
theorem dX7_readPipe_33 : decode cX7_readPipe 33 = .ok (.aload_n 2, 1) := by decide +kernel
theorem dX7_readPipe_34 : decode cX7_readPipe 34 = .ok (.invokespecial 82, 3) := by decide +kernel
theorem dX7_readPipe_37 : decode cX7_readPipe 37 = .ok (.astore_n 3, 1) := by decide +kernel
theorem dX7_readPipe_38 : decode cX7_readPipe 38 = .ok (.iconst 1, 1) := by decide +kernel
theorem dX7_readPipe_39 : decode cX7_readPipe 39 = .ok (.istore 4, 2) := by decide +kernel
theorem dX7_readPipe_41 : decode cX7_readPipe 41 = .ok (.iload 4, 2) := by decide +kernel
theorem dX7_readPipe_43 : decode cX7_readPipe 43 = .ok (.bipush 6, 2) := by decide +kernel
theorem dX7_readPipe_45 : decode cX7_readPipe 45 = .ok (.if_icmp .ge 49, 3) := by decide +kernel
theorem dX7_readPipe_48 : decode cX7_readPipe 48 = .ok (.aload_n 0, 1) := by decide +kernel
theorem dX7_readPipe_49 : decode cX7_readPipe 49 = .ok (.bipush 124, 2) := by decide +kernel
theorem dX7_readPipe_51 : decode cX7_readPipe 51 = .ok (.invokevirtual 85, 3) := by decide +kernel
theorem dX7_readPipe_54 : decode cX7_readPipe 54 = .ok (.ifCond .eq 40, 3) := by decide +kernel
theorem dX7_readPipe_57 : decode cX7_readPipe 57 = .ok (.aload_n 0, 1) := by decide +kernel
theorem dX7_readPipe_58 : decode cX7_readPipe 58 = .ok (.iconst 0, 1) := by decide +kernel
theorem dX7_readPipe_59 : decode cX7_readPipe 59 = .ok (.invokevirtual 78, 3) := by decide +kernel
theorem dX7_readPipe_62 : decode cX7_readPipe 62 = .ok (.astore 5, 2) := by decide +kernel
theorem dX7_readPipe_64 : decode cX7_readPipe 64 = .ok (.aload 5, 2) := by decide +kernel
theorem dX7_readPipe_66 : decode cX7_readPipe 66 = .ok (.ifnonnull 5, 3) := by decide +kernel
theorem dX7_readPipe_69 : decode cX7_readPipe 69 = .ok (.aconst_null, 1) := by decide +kernel
theorem dX7_readPipe_70 : decode cX7_readPipe 70 = .ok (.areturn, 1) := by decide +kernel
theorem dX7_readPipe_71 : decode cX7_readPipe 71 = .ok (.aload_n 3, 1) := by decide +kernel
theorem dX7_readPipe_72 : decode cX7_readPipe 72 = .ok (.getfield 88, 3) := by decide +kernel
theorem dX7_readPipe_75 : decode cX7_readPipe 75 = .ok (.iload 4, 2) := by decide +kernel
theorem dX7_readPipe_77 : decode cX7_readPipe 77 = .ok (.aload 5, 2) := by decide +kernel
theorem dX7_readPipe_79 : decode cX7_readPipe 79 = .ok (.aastore, 1) := by decide +kernel
theorem dX7_readPipe_80 : decode cX7_readPipe 80 = .ok (.aload_n 3, 1) := by decide +kernel
theorem dX7_readPipe_81 : decode cX7_readPipe 81 = .ok (.iload 4, 2) := by decide +kernel
theorem dX7_readPipe_83 : decode cX7_readPipe 83 = .ok (.iconst 1, 1) := by decide +kernel
theorem dX7_readPipe_84 : decode cX7_readPipe 84 = .ok (.iadd, 1) := by decide +kernel
theorem dX7_readPipe_85 : decode cX7_readPipe 85 = .ok (.putfield 91, 3) := by decide +kernel
theorem dX7_readPipe_88 : decode cX7_readPipe 88 = .ok (.iinc 4 1, 3) := by decide +kernel
theorem dX7_readPipe_91 : decode cX7_readPipe 91 = .ok (.goto (-50), 3) := by decide +kernel
theorem dX7_readPipe_94 : decode cX7_readPipe 94 = .ok (.aload_n 3, 1) := by decide +kernel
theorem dX7_readPipe_95 : decode cX7_readPipe 95 = .ok (.areturn, 1) := by decide +kernel
theorem dX7_readBraces_0 : decode cX7_readBraces 0 = .ok (.iload_n 1, 1) := by decide +kernel
theorem dX7_readBraces_1 : decode cX7_readBraces 1 = .ok (.iconst 3, 1) := by decide +kernel
theorem dX7_readBraces_2 : decode cX7_readBraces 2 = .ok (.if_icmp .lt 14, 3) := by decide +kernel
theorem dX7_readBraces_5 : decode cX7_readBraces 5 = .ok (.aload_n 0, 1) := by decide +kernel
theorem dX7_readBraces_6 : decode cX7_readBraces 6 = .ok (.aload_n 0, 1) := by decide +kernel
theorem dX7_readBraces_7 : decode cX7_readBraces 7 = .ok (.getfield 29, 3) := by decide +kernel
theorem dX7_readBraces_10 : decode cX7_readBraces 10 = .ok (.invokevirtual 42, 3) := by decide +kernel
theorem dX7_readBraces_13 : decode cX7_readBraces 13 = .ok (.pop, 1) := by decide +kernel
theorem dX7_readBraces_14 : decode cX7_readBraces 14 = .ok (.aconst_null, 1) := by decide +kernel
theorem dX7_readBraces_15 : decode cX7_readBraces 15 = .ok (.areturn, 1) := by decide +kernel
theorem dX7_readBraces_16 : decode cX7_readBraces 16 = .ok (.aload_n 0, 1) := by decide +kernel
theorem dX7_readBraces_17 : decode cX7_readBraces 17 = .ok (.dup, 1) := by decide +kernel
theorem dX7_readBraces_18 : decode cX7_readBraces 18 = .ok (.getfield 29, 3) := by decide +kernel
theorem dX7_readBraces_21 : decode cX7_readBraces 21 = .ok (.iconst 1, 1) := by decide +kernel
theorem dX7_readBraces_22 : decode cX7_readBraces 22 = .ok (.iadd, 1) := by decide +kernel
theorem dX7_readBraces_23 : decode cX7_readBraces 23 = .ok (.putfield 29, 3) := by decide +kernel
theorem dX7_readBraces_26 : decode cX7_readBraces 26 = .ok (.aload_n 0, 1) := by decide +kernel
theorem dX7_readBraces_27 : decode cX7_readBraces 27 = .ok (.dup, 1) := by decide +kernel
theorem dX7_readBraces_28 : decode cX7_readBraces 28 = .ok (.getfield 32, 3) := by decide +kernel
theorem dX7_readBraces_31 : decode cX7_readBraces 31 = .ok (.iconst 1, 1) := by decide +kernel
theorem dX7_readBraces_32 : decode cX7_readBraces 32 = .ok (.iadd, 1) := by decide +kernel
theorem dX7_readBraces_33 : decode cX7_readBraces 33 = .ok (.putfield 32, 3) := by decide +kernel
theorem dX7_readBraces_36 : decode cX7_readBraces 36 = .ok (.aload_n 0, 1) := by decide +kernel
theorem dX7_readBraces_37 : decode cX7_readBraces 37 = .ok (.aload_n 0, 1) := by decide +kernel
theorem dX7_readBraces_38 : decode cX7_readBraces 38 = .ok (.getfield 35, 3) := by decide +kernel
theorem dX7_readBraces_41 : decode cX7_readBraces 41 = .ok (.iload_n 1, 1) := by decide +kernel
theorem dX7_readBraces_42 : decode cX7_readBraces 42 = .ok (.iconst 1, 1) := by decide +kernel
theorem dX7_readBraces_43 : decode cX7_readBraces 43 = .ok (.iadd, 1) := by decide +kernel
theorem dX7_readBraces_44 : decode cX7_readBraces 44 = .ok (.invokestatic 94, 3) := by decide +kernel
theorem dX7_readBraces_47 : decode cX7_readBraces 47 = .ok (.putfield 35, 3) := by decide +kernel
theorem dX7_readBraces_50 : decode cX7_readBraces 50 = .ok (.new 100, 3) := by decide +kernel
theorem dX7_readBraces_53 : decode cX7_readBraces 53 = .ok (.dup, 1) := by decide +kernel
theorem dX7_readBraces_54 : decode cX7_readBraces 54 = .ok (.getstatic 102, 3) := by decide +kernel
theorem dX7_readBraces_57 : decode cX7_readBraces 57 = .ok (.invokespecial 106, 3) := by decide +kernel
theorem dX7_readBraces_60 : decode cX7_readBraces 60 = .ok (.astore_n 2, 1) := by decide +kernel
theorem dX7_readBraces_61 : decode cX7_readBraces 61 = .ok (.aload_n 2, 1) := by decide +kernel
theorem dX7_readBraces_62 : decode cX7_readBraces 62 = .ok (.aload_n 0, 1) := by decide +kernel
theorem dX7_readBraces_63 : decode cX7_readBraces 63 = .ok (.iload_n 1, 1) := by decide +kernel
theorem dX7_readBraces_64 : decode cX7_readBraces 64 = .ok (.iconst 1, 1) := by decide +kernel
theorem dX7_readBraces_65 : decode cX7_readBraces 65 = .ok (.iadd, 1) := by decide +kernel
theorem dX7_readBraces_66 : decode cX7_readBraces 66 = .ok (.invokevirtual 38, 3) := by decide +kernel
theorem dX7_readBraces_69 : decode cX7_readBraces 69 = .ok (.putfield 109, 3) := by decide +kernel
theorem dX7_readBraces_72 : decode cX7_readBraces 72 = .ok (.aload_n 2, 1) := by decide +kernel
theorem dX7_readBraces_73 : decode cX7_readBraces 73 = .ok (.getfield 109, 3) := by decide +kernel
theorem dX7_readBraces_76 : decode cX7_readBraces 76 = .ok (.ifnull 16, 3) := by decide +kernel
theorem dX7_readBraces_79 : decode cX7_readBraces 79 = .ok (.aload_n 0, 1) := by decide +kernel
theorem dX7_readBraces_80 : decode cX7_readBraces 80 = .ok (.bipush 125, 2) := by decide +kernel
theorem dX7_readBraces_82 : decode cX7_readBraces 82 = .ok (.invokevirtual 112, 3) := by decide +kernel
theorem dX7_readBraces_85 : decode cX7_readBraces 85 = .ok (.ifCond .eq 7, 3) := by decide +kernel
theorem dX7_readBraces_88 : decode cX7_readBraces 88 = .ok (.aload_n 2, 1) := by decide +kernel
theorem dX7_readBraces_89 : decode cX7_readBraces 89 = .ok (.goto 4, 3) := by decide +kernel
theorem dX7_readBraces_92 : decode cX7_readBraces 92 = .ok (.aconst_null, 1) := by decide +kernel
theorem dX7_readBraces_93 : decode cX7_readBraces 93 = .ok (.areturn, 1) := by decide +kernel
theorem dX7_readCommand_0 : decode cX7_readCommand 0 = .ok (.aload_n 0, 1) := by decide +kernel
theorem dX7_readCommand_1 : decode cX7_readCommand 1 = .ok (.iload_n 1, 1) := by decide +kernel
theorem dX7_readCommand_2 : decode cX7_readCommand 2 = .ok (.invokevirtual 115, 3) := by decide +kernel
theorem dX7_readCommand_5 : decode cX7_readCommand 5 = .ok (.astore_n 2, 1) := by decide +kernel
theorem dX7_readCommand_6 : decode cX7_readCommand 6 = .ok (.aload_n 2, 1) := by decide +kernel
theorem dX7_readCommand_7 : decode cX7_readCommand 7 = .ok (.ifnonnull 5, 3) := by decide +kernel
theorem dX7_readCommand_10 : decode cX7_readCommand 10 = .ok (.aconst_null, 1) := by decide +kernel
theorem dX7_readCommand_11 : decode cX7_readCommand 11 = .ok (.areturn, 1) := by decide +kernel
theorem dX7_readCommand_12 : decode cX7_readCommand 12 = .ok (.aload_n 0, 1) := by decide +kernel
theorem dX7_readCommand_13 : decode cX7_readCommand 13 = .ok (.dup, 1) := by decide +kernel
theorem dX7_readCommand_14 : decode cX7_readCommand 14 = .ok (.getfield 32, 3) := by decide +kernel
theorem dX7_readCommand_17 : decode cX7_readCommand 17 = .ok (.iconst 1, 1) := by decide +kernel
theorem dX7_readCommand_18 : decode cX7_readCommand 18 = .ok (.iadd, 1) := by decide +kernel
theorem dX7_readCommand_19 : decode cX7_readCommand 19 = .ok (.putfield 32, 3) := by decide +kernel
theorem dX7_readCommand_22 : decode cX7_readCommand 22 = .ok (.new 100, 3) := by decide +kernel
theorem dX7_readCommand_25 : decode cX7_readCommand 25 = .ok (.dup, 1) := by decide +kernel
theorem dX7_readCommand_26 : decode cX7_readCommand 26 = .ok (.aload_n 2, 1) := by decide +kernel
theorem dX7_readCommand_27 : decode cX7_readCommand 27 = .ok (.invokespecial 106, 3) := by decide +kernel
theorem dX7_readCommand_30 : decode cX7_readCommand 30 = .ok (.astore_n 3, 1) := by decide +kernel
theorem dX7_readCommand_31 : decode cX7_readCommand 31 = .ok (.iconst 0, 1) := by decide +kernel
theorem dX7_readCommand_32 : decode cX7_readCommand 32 = .ok (.istore 4, 2) := by decide +kernel
theorem dX7_readCommand_34 : decode cX7_readCommand 34 = .ok (.iload 4, 2) := by decide +kernel
theorem dX7_readCommand_36 : decode cX7_readCommand 36 = .ok (.aload_n 2, 1) := by decide +kernel
theorem dX7_readCommand_37 : decode cX7_readCommand 37 = .ok (.getfield 119, 3) := by decide +kernel
theorem dX7_readCommand_40 : decode cX7_readCommand 40 = .ok (.if_icmp .ge 93, 3) := by decide +kernel
theorem dX7_readCommand_43 : decode cX7_readCommand 43 = .ok (.iload 4, 2) := by decide +kernel
theorem dX7_readCommand_45 : decode cX7_readCommand 45 = .ok (.iconst 4, 1) := by decide +kernel
theorem dX7_readCommand_46 : decode cX7_readCommand 46 = .ok (.if_icmp .ge 87, 3) := by decide +kernel
theorem dX7_readCommand_49 : decode cX7_readCommand 49 = .ok (.iload 4, 2) := by decide +kernel
theorem dX7_readCommand_51 : decode cX7_readCommand 51 = .ok (.aload_n 2, 1) := by decide +kernel
theorem dX7_readCommand_52 : decode cX7_readCommand 52 = .ok (.getfield 122, 3) := by decide +kernel
theorem dX7_readCommand_55 : decode cX7_readCommand 55 = .ok (.if_icmp .lt 14, 3) := by decide +kernel
theorem dX7_readCommand_58 : decode cX7_readCommand 58 = .ok (.aload_n 0, 1) := by decide +kernel
theorem dX7_readCommand_59 : decode cX7_readCommand 59 = .ok (.invokevirtual 64, 3) := by decide +kernel
theorem dX7_readCommand_62 : decode cX7_readCommand 62 = .ok (.bipush 32, 2) := by decide +kernel
theorem dX7_readCommand_64 : decode cX7_readCommand 64 = .ok (.if_icmp .eq 5, 3) := by decide +kernel
theorem dX7_readCommand_67 : decode cX7_readCommand 67 = .ok (.aload_n 3, 1) := by decide +kernel
theorem dX7_readCommand_68 : decode cX7_readCommand 68 = .ok (.areturn, 1) := by decide +kernel
theorem dX7_readCommand_69 : decode cX7_readCommand 69 = .ok (.aload_n 0, 1) := by decide +kernel
theorem dX7_readCommand_70 : decode cX7_readCommand 70 = .ok (.bipush 32, 2) := by decide +kernel
theorem dX7_readCommand_72 : decode cX7_readCommand 72 = .ok (.invokevirtual 112, 3) := by decide +kernel
theorem dX7_readCommand_75 : decode cX7_readCommand 75 = .ok (.ifCond .ne 5, 3) := by decide +kernel
theorem dX7_readCommand_78 : decode cX7_readCommand 78 = .ok (.aconst_null, 1) := by decide +kernel
theorem dX7_readCommand_79 : decode cX7_readCommand 79 = .ok (.areturn, 1) := by decide +kernel
theorem dX7_readCommand_80 : decode cX7_readCommand 80 = .ok (.aload_n 3, 1) := by decide +kernel
theorem dX7_readCommand_81 : decode cX7_readCommand 81 = .ok (.getfield 125, 3) := by decide +kernel
theorem dX7_readCommand_84 : decode cX7_readCommand 84 = .ok (.iload 4, 2) := by decide +kernel
theorem dX7_readCommand_86 : decode cX7_readCommand 86 = .ok (.aload_n 2, 1) := by decide +kernel
theorem dX7_readCommand_87 : decode cX7_readCommand 87 = .ok (.getstatic 129, 3) := by decide +kernel
theorem dX7_readCommand_90 : decode cX7_readCommand 90 = .ok (.if_acmp .ne 10, 3) := by decide +kernel
theorem dX7_readCommand_93 : decode cX7_readCommand 93 = .ok (.aload_n 0, 1) := by decide +kernel
theorem dX7_readCommand_94 : decode cX7_readCommand 94 = .ok (.invokevirtual 132, 3) := by decide +kernel
theorem dX7_readCommand_97 : decode cX7_readCommand 97 = .ok (.goto 7, 3) := by decide +kernel
theorem dX7_readCommand_100 : decode cX7_readCommand 100 = .ok (.aload_n 0, 1) := by decide +kernel
theorem dX7_readCommand_101 : decode cX7_readCommand 101 = .ok (.invokevirtual 135, 3) := by decide +kernel
theorem dX7_readCommand_104 : decode cX7_readCommand 104 = .ok (.iastore, 1) := by decide +kernel
theorem dX7_readCommand_105 : decode cX7_readCommand 105 = .ok (.aload_n 3, 1) := by decide +kernel
theorem dX7_readCommand_106 : decode cX7_readCommand 106 = .ok (.iload 4, 2) := by decide +kernel
theorem dX7_readCommand_108 : decode cX7_readCommand 108 = .ok (.iconst 1, 1) := by decide +kernel
theorem dX7_readCommand_109 : decode cX7_readCommand 109 = .ok (.iadd, 1) := by decide +kernel
theorem dX7_readCommand_110 : decode cX7_readCommand 110 = .ok (.putfield 138, 3) := by decide +kernel
theorem dX7_readCommand_113 : decode cX7_readCommand 113 = .ok (.aload_n 3, 1) := by decide +kernel
theorem dX7_readCommand_114 : decode cX7_readCommand 114 = .ok (.getfield 125, 3) := by decide +kernel
theorem dX7_readCommand_117 : decode cX7_readCommand 117 = .ok (.iload 4, 2) := by decide +kernel
theorem dX7_readCommand_119 : decode cX7_readCommand 119 = .ok (.iaload, 1) := by decide +kernel
theorem dX7_readCommand_120 : decode cX7_readCommand 120 = .ok (.bipush (-7), 2) := by decide +kernel
theorem dX7_readCommand_122 : decode cX7_readCommand 122 = .ok (.if_icmp .ne 5, 3) := by decide +kernel
theorem dX7_readCommand_125 : decode cX7_readCommand 125 = .ok (.aconst_null, 1) := by decide +kernel
theorem dX7_readCommand_126 : decode cX7_readCommand 126 = .ok (.areturn, 1) := by decide +kernel
theorem dX7_readCommand_127 : decode cX7_readCommand 127 = .ok (.iinc 4 1, 3) := by decide +kernel
theorem dX7_readCommand_130 : decode cX7_readCommand 130 = .ok (.goto (-96), 3) := by decide +kernel
theorem dX7_readCommand_133 : decode cX7_readCommand 133 = .ok (.aload_n 3, 1) := by decide +kernel
theorem dX7_readCommand_134 : decode cX7_readCommand 134 = .ok (.areturn, 1) := by decide +kernel
theorem dX7_readWord_0 : decode cX7_readWord 0 = .ok (.aload_n 0, 1) := by decide +kernel
theorem dX7_readWord_1 : decode cX7_readWord 1 = .ok (.getfield 29, 3) := by decide +kernel
theorem dX7_readWord_4 : decode cX7_readWord 4 = .ok (.istore_n 2, 1) := by decide +kernel
theorem dX7_readWord_5 : decode cX7_readWord 5 = .ok (.aload_n 0, 1) := by decide +kernel
theorem dX7_readWord_6 : decode cX7_readWord 6 = .ok (.getfield 29, 3) := by decide +kernel
theorem dX7_readWord_9 : decode cX7_readWord 9 = .ok (.istore_n 3, 1) := by decide +kernel
theorem dX7_readWord_10 : decode cX7_readWord 10 = .ok (.iload_n 3, 1) := by decide +kernel
theorem dX7_readWord_11 : decode cX7_readWord 11 = .ok (.aload_n 0, 1) := by decide +kernel
theorem dX7_readWord_12 : decode cX7_readWord 12 = .ok (.getfield 25, 3) := by decide +kernel
theorem dX7_readWord_15 : decode cX7_readWord 15 = .ok (.if_icmp .ge 25, 3) := by decide +kernel
theorem dX7_readWord_18 : decode cX7_readWord 18 = .ok (.aload_n 0, 1) := by decide +kernel
theorem dX7_readWord_19 : decode cX7_readWord 19 = .ok (.getfield 21, 3) := by decide +kernel
theorem dX7_readWord_22 : decode cX7_readWord 22 = .ok (.iload_n 3, 1) := by decide +kernel
theorem dX7_readWord_23 : decode cX7_readWord 23 = .ok (.baload, 1) := by decide +kernel
theorem dX7_readWord_24 : decode cX7_readWord 24 = .ok (.invokestatic 141, 3) := by decide +kernel
theorem dX7_readWord_27 : decode cX7_readWord 27 = .ok (.ifCond .eq 13, 3) := by decide +kernel
theorem dX7_readWord_30 : decode cX7_readWord 30 = .ok (.iload_n 3, 1) := by decide +kernel
theorem dX7_readWord_31 : decode cX7_readWord 31 = .ok (.iconst 1, 1) := by decide +kernel
theorem dX7_readWord_32 : decode cX7_readWord 32 = .ok (.iadd, 1) := by decide +kernel
theorem dX7_readWord_33 : decode cX7_readWord 33 = .ok (.istore_n 2, 1) := by decide +kernel
theorem dX7_readWord_34 : decode cX7_readWord 34 = .ok (.iinc 3 1, 3) := by decide +kernel
theorem dX7_readWord_37 : decode cX7_readWord 37 = .ok (.goto (-27), 3) := by decide +kernel
theorem dX7_readWord_40 : decode cX7_readWord 40 = .ok (.aload_n 0, 1) := by decide +kernel
theorem dX7_readWord_41 : decode cX7_readWord 41 = .ok (.iload_n 2, 1) := by decide +kernel
theorem dX7_readWord_42 : decode cX7_readWord 42 = .ok (.invokevirtual 144, 3) := by decide +kernel
theorem dX7_readWord_45 : decode cX7_readWord 45 = .ok (.astore_n 3, 1) := by decide +kernel
theorem dX7_readWord_46 : decode cX7_readWord 46 = .ok (.aload_n 3, 1) := by decide +kernel
theorem dX7_readWord_47 : decode cX7_readWord 47 = .ok (.ifnull 14, 3) := by decide +kernel
theorem dX7_readWord_50 : decode cX7_readWord 50 = .ok (.iload_n 1, 1) := by decide +kernel
theorem dX7_readWord_51 : decode cX7_readWord 51 = .ok (.ifCond .ne 21, 3) := by decide +kernel
theorem dX7_readWord_54 : decode cX7_readWord 54 = .ok (.aload_n 3, 1) := by decide +kernel
theorem dX7_readWord_55 : decode cX7_readWord 55 = .ok (.getfield 148, 3) := by decide +kernel
theorem dX7_readWord_58 : decode cX7_readWord 58 = .ok (.ifCond .lt 14, 3) := by decide +kernel
theorem dX7_readWord_61 : decode cX7_readWord 61 = .ok (.aload_n 0, 1) := by decide +kernel
theorem dX7_readWord_62 : decode cX7_readWord 62 = .ok (.aload_n 0, 1) := by decide +kernel
theorem dX7_readWord_63 : decode cX7_readWord 63 = .ok (.getfield 29, 3) := by decide +kernel
theorem dX7_readWord_66 : decode cX7_readWord 66 = .ok (.invokevirtual 42, 3) := by decide +kernel
theorem dX7_readWord_69 : decode cX7_readWord 69 = .ok (.pop, 1) := by decide +kernel
theorem dX7_readWord_70 : decode cX7_readWord 70 = .ok (.aconst_null, 1) := by decide +kernel
theorem dX7_readWord_71 : decode cX7_readWord 71 = .ok (.areturn, 1) := by decide +kernel
theorem dX7_readWord_72 : decode cX7_readWord 72 = .ok (.aload_n 0, 1) := by decide +kernel
theorem dX7_readWord_73 : decode cX7_readWord 73 = .ok (.iload_n 2, 1) := by decide +kernel
theorem dX7_readWord_74 : decode cX7_readWord 74 = .ok (.putfield 29, 3) := by decide +kernel
theorem dX7_readWord_77 : decode cX7_readWord 77 = .ok (.aload_n 3, 1) := by decide +kernel
theorem dX7_readWord_78 : decode cX7_readWord 78 = .ok (.areturn, 1) := by decide +kernel
theorem dX7_wordAt_0 : decode cX7_wordAt 0 = .ok (.iconst 0, 1) := by decide +kernel
theorem dX7_wordAt_1 : decode cX7_wordAt 1 = .ok (.istore_n 2, 1) := by decide +kernel
theorem dX7_wordAt_2 : decode cX7_wordAt 2 = .ok (.iload_n 2, 1) := by decide +kernel
theorem dX7_wordAt_3 : decode cX7_wordAt 3 = .ok (.aload_n 0, 1) := by decide +kernel
theorem dX7_wordAt_4 : decode cX7_wordAt 4 = .ok (.getfield 15, 3) := by decide +kernel
theorem dX7_wordAt_7 : decode cX7_wordAt 7 = .ok (.arraylength, 1) := by decide +kernel
theorem dX7_wordAt_8 : decode cX7_wordAt 8 = .ok (.if_icmp .ge 116, 3) := by decide +kernel
theorem dX7_wordAt_11 : decode cX7_wordAt 11 = .ok (.aload_n 0, 1) := by decide +kernel
theorem dX7_wordAt_12 : decode cX7_wordAt 12 = .ok (.getfield 15, 3) := by decide +kernel
theorem dX7_wordAt_15 : decode cX7_wordAt 15 = .ok (.iload_n 2, 1) := by decide +kernel
theorem dX7_wordAt_16 : decode cX7_wordAt 16 = .ok (.aaload, 1) := by decide +kernel
theorem dX7_wordAt_17 : decode cX7_wordAt 17 = .ok (.getfield 151, 3) := by decide +kernel
theorem dX7_wordAt_20 : decode cX7_wordAt 20 = .ok (.astore_n 3, 1) := by decide +kernel
theorem dX7_wordAt_21 : decode cX7_wordAt 21 = .ok (.aload_n 3, 1) := by decide +kernel
theorem dX7_wordAt_22 : decode cX7_wordAt 22 = .ok (.invokevirtual 154, 3) := by decide +kernel
theorem dX7_wordAt_25 : decode cX7_wordAt 25 = .ok (.iload_n 1, 1) := by decide +kernel
theorem dX7_wordAt_26 : decode cX7_wordAt 26 = .ok (.aload_n 0, 1) := by decide +kernel
theorem dX7_wordAt_27 : decode cX7_wordAt 27 = .ok (.getfield 29, 3) := by decide +kernel
theorem dX7_wordAt_30 : decode cX7_wordAt 30 = .ok (.isub, 1) := by decide +kernel
theorem dX7_wordAt_31 : decode cX7_wordAt 31 = .ok (.if_icmp .ne 7, 3) := by decide +kernel
theorem dX7_wordAt_34 : decode cX7_wordAt 34 = .ok (.iconst 1, 1) := by decide +kernel
theorem dX7_wordAt_35 : decode cX7_wordAt 35 = .ok (.goto 4, 3) := by decide +kernel
theorem dX7_wordAt_38 : decode cX7_wordAt 38 = .ok (.iconst 0, 1) := by decide +kernel
theorem dX7_wordAt_39 : decode cX7_wordAt 39 = .ok (.istore 4, 2) := by decide +kernel
theorem dX7_wordAt_41 : decode cX7_wordAt 41 = .ok (.iconst 0, 1) := by decide +kernel
theorem dX7_wordAt_42 : decode cX7_wordAt 42 = .ok (.istore 5, 2) := by decide +kernel
theorem dX7_wordAt_44 : decode cX7_wordAt 44 = .ok (.iload 4, 2) := by decide +kernel
theorem dX7_wordAt_46 : decode cX7_wordAt 46 = .ok (.ifCond .eq 60, 3) := by decide +kernel
theorem dX7_wordAt_49 : decode cX7_wordAt 49 = .ok (.iload 5, 2) := by decide +kernel
theorem dX7_wordAt_51 : decode cX7_wordAt 51 = .ok (.aload_n 3, 1) := by decide +kernel
theorem dX7_wordAt_52 : decode cX7_wordAt 52 = .ok (.invokevirtual 154, 3) := by decide +kernel
theorem dX7_wordAt_55 : decode cX7_wordAt 55 = .ok (.if_icmp .ge 51, 3) := by decide +kernel
theorem dX7_wordAt_58 : decode cX7_wordAt 58 = .ok (.aload_n 0, 1) := by decide +kernel
theorem dX7_wordAt_59 : decode cX7_wordAt 59 = .ok (.getfield 29, 3) := by decide +kernel
theorem dX7_wordAt_62 : decode cX7_wordAt 62 = .ok (.iload 5, 2) := by decide +kernel
theorem dX7_wordAt_64 : decode cX7_wordAt 64 = .ok (.iadd, 1) := by decide +kernel
theorem dX7_wordAt_65 : decode cX7_wordAt 65 = .ok (.aload_n 0, 1) := by decide +kernel
theorem dX7_wordAt_66 : decode cX7_wordAt 66 = .ok (.getfield 25, 3) := by decide +kernel
theorem dX7_wordAt_69 : decode cX7_wordAt 69 = .ok (.if_icmp .ge 37, 3) := by decide +kernel
theorem dX7_wordAt_72 : decode cX7_wordAt 72 = .ok (.aload_n 0, 1) := by decide +kernel
theorem dX7_wordAt_73 : decode cX7_wordAt 73 = .ok (.getfield 21, 3) := by decide +kernel
theorem dX7_wordAt_76 : decode cX7_wordAt 76 = .ok (.aload_n 0, 1) := by decide +kernel
theorem dX7_wordAt_77 : decode cX7_wordAt 77 = .ok (.getfield 29, 3) := by decide +kernel
theorem dX7_wordAt_80 : decode cX7_wordAt 80 = .ok (.iload 5, 2) := by decide +kernel
theorem dX7_wordAt_82 : decode cX7_wordAt 82 = .ok (.iadd, 1) := by decide +kernel
theorem dX7_wordAt_83 : decode cX7_wordAt 83 = .ok (.baload, 1) := by decide +kernel
theorem dX7_wordAt_84 : decode cX7_wordAt 84 = .ok (.aload_n 3, 1) := by decide +kernel
theorem dX7_wordAt_85 : decode cX7_wordAt 85 = .ok (.iload 5, 2) := by decide +kernel
theorem dX7_wordAt_87 : decode cX7_wordAt 87 = .ok (.invokevirtual 158, 3) := by decide +kernel
theorem dX7_wordAt_90 : decode cX7_wordAt 90 = .ok (.if_icmp .ne 7, 3) := by decide +kernel
theorem dX7_wordAt_93 : decode cX7_wordAt 93 = .ok (.iconst 1, 1) := by decide +kernel
theorem dX7_wordAt_94 : decode cX7_wordAt 94 = .ok (.goto 4, 3) := by decide +kernel
theorem dX7_wordAt_97 : decode cX7_wordAt 97 = .ok (.iconst 0, 1) := by decide +kernel
theorem dX7_wordAt_98 : decode cX7_wordAt 98 = .ok (.istore 4, 2) := by decide +kernel
theorem dX7_wordAt_100 : decode cX7_wordAt 100 = .ok (.iinc 5 1, 3) := by decide +kernel
theorem dX7_wordAt_103 : decode cX7_wordAt 103 = .ok (.goto (-59), 3) := by decide +kernel
theorem dX7_wordAt_106 : decode cX7_wordAt 106 = .ok (.iload 4, 2) := by decide +kernel
theorem dX7_wordAt_108 : decode cX7_wordAt 108 = .ok (.ifCond .eq 10, 3) := by decide +kernel
theorem dX7_wordAt_111 : decode cX7_wordAt 111 = .ok (.aload_n 0, 1) := by decide +kernel
theorem dX7_wordAt_112 : decode cX7_wordAt 112 = .ok (.getfield 15, 3) := by decide +kernel
theorem dX7_wordAt_115 : decode cX7_wordAt 115 = .ok (.iload_n 2, 1) := by decide +kernel
theorem dX7_wordAt_116 : decode cX7_wordAt 116 = .ok (.aaload, 1) := by decide +kernel
theorem dX7_wordAt_117 : decode cX7_wordAt 117 = .ok (.areturn, 1) := by decide +kernel
theorem dX7_wordAt_118 : decode cX7_wordAt 118 = .ok (.iinc 2 1, 3) := by decide +kernel
theorem dX7_wordAt_121 : decode cX7_wordAt 121 = .ok (.goto (-119), 3) := by decide +kernel
theorem dX7_wordAt_124 : decode cX7_wordAt 124 = .ok (.aconst_null, 1) := by decide +kernel
theorem dX7_wordAt_125 : decode cX7_wordAt 125 = .ok (.areturn, 1) := by decide +kernel
theorem dX7_readTerm_0 : decode cX7_readTerm 0 = .ok (.aload_n 0, 1) := by decide +kernel
theorem dX7_readTerm_1 : decode cX7_readTerm 1 = .ok (.bipush 36, 2) := by decide +kernel
theorem dX7_readTerm_3 : decode cX7_readTerm 3 = .ok (.invokevirtual 85, 3) := by decide +kernel
theorem dX7_readTerm_6 : decode cX7_readTerm 6 = .ok (.ifCond .eq 22, 3) := by decide +kernel
theorem dX7_readTerm_9 : decode cX7_readTerm 9 = .ok (.aload_n 0, 1) := by decide +kernel
theorem dX7_readTerm_10 : decode cX7_readTerm 10 = .ok (.bipush 112, 2) := by decide +kernel
theorem dX7_readTerm_12 : decode cX7_readTerm 12 = .ok (.invokevirtual 85, 3) := by decide +kernel
theorem dX7_readTerm_15 : decode cX7_readTerm 15 = .ok (.ifCond .eq 8, 3) := by decide +kernel
theorem dX7_readTerm_18 : decode cX7_readTerm 18 = .ok (.bipush (-6), 2) := by decide +kernel
theorem dX7_readTerm_20 : decode cX7_readTerm 20 = .ok (.goto 7, 3) := by decide +kernel
theorem dX7_readTerm_23 : decode cX7_readTerm 23 = .ok (.aload_n 0, 1) := by decide +kernel
theorem dX7_readTerm_24 : decode cX7_readTerm 24 = .ok (.invokevirtual 132, 3) := by decide +kernel
theorem dX7_readTerm_27 : decode cX7_readTerm 27 = .ok (.ireturn, 1) := by decide +kernel
theorem dX7_readTerm_28 : decode cX7_readTerm 28 = .ok (.bipush (-7), 2) := by decide +kernel
theorem dX7_readTerm_30 : decode cX7_readTerm 30 = .ok (.istore_n 1, 1) := by decide +kernel
theorem dX7_readTerm_31 : decode cX7_readTerm 31 = .ok (.iconst 0, 1) := by decide +kernel
theorem dX7_readTerm_32 : decode cX7_readTerm 32 = .ok (.istore_n 2, 1) := by decide +kernel
theorem dX7_readTerm_33 : decode cX7_readTerm 33 = .ok (.iload_n 2, 1) := by decide +kernel
theorem dX7_readTerm_34 : decode cX7_readTerm 34 = .ok (.iconst 3, 1) := by decide +kernel
theorem dX7_readTerm_35 : decode cX7_readTerm 35 = .ok (.if_icmp .ge 46, 3) := by decide +kernel
theorem dX7_readTerm_38 : decode cX7_readTerm 38 = .ok (.aload_n 0, 1) := by decide +kernel
theorem dX7_readTerm_39 : decode cX7_readTerm 39 = .ok (.invokevirtual 64, 3) := by decide +kernel
theorem dX7_readTerm_42 : decode cX7_readTerm 42 = .ok (.invokestatic 162, 3) := by decide +kernel
theorem dX7_readTerm_45 : decode cX7_readTerm 45 = .ok (.ifCond .eq 36, 3) := by decide +kernel
theorem dX7_readTerm_48 : decode cX7_readTerm 48 = .ok (.iload_n 1, 1) := by decide +kernel
theorem dX7_readTerm_49 : decode cX7_readTerm 49 = .ok (.iconst 0, 1) := by decide +kernel
theorem dX7_readTerm_50 : decode cX7_readTerm 50 = .ok (.invokestatic 94, 3) := by decide +kernel
theorem dX7_readTerm_53 : decode cX7_readTerm 53 = .ok (.bipush 10, 2) := by decide +kernel
theorem dX7_readTerm_55 : decode cX7_readTerm 55 = .ok (.imul, 1) := by decide +kernel
theorem dX7_readTerm_56 : decode cX7_readTerm 56 = .ok (.aload_n 0, 1) := by decide +kernel
theorem dX7_readTerm_57 : decode cX7_readTerm 57 = .ok (.invokevirtual 64, 3) := by decide +kernel
theorem dX7_readTerm_60 : decode cX7_readTerm 60 = .ok (.iadd, 1) := by decide +kernel
theorem dX7_readTerm_61 : decode cX7_readTerm 61 = .ok (.bipush 48, 2) := by decide +kernel
theorem dX7_readTerm_63 : decode cX7_readTerm 63 = .ok (.isub, 1) := by decide +kernel
theorem dX7_readTerm_64 : decode cX7_readTerm 64 = .ok (.istore_n 1, 1) := by decide +kernel
theorem dX7_readTerm_65 : decode cX7_readTerm 65 = .ok (.aload_n 0, 1) := by decide +kernel
theorem dX7_readTerm_66 : decode cX7_readTerm 66 = .ok (.dup, 1) := by decide +kernel
theorem dX7_readTerm_67 : decode cX7_readTerm 67 = .ok (.getfield 29, 3) := by decide +kernel
theorem dX7_readTerm_70 : decode cX7_readTerm 70 = .ok (.iconst 1, 1) := by decide +kernel
theorem dX7_readTerm_71 : decode cX7_readTerm 71 = .ok (.iadd, 1) := by decide +kernel
theorem dX7_readTerm_72 : decode cX7_readTerm 72 = .ok (.putfield 29, 3) := by decide +kernel
theorem dX7_readTerm_75 : decode cX7_readTerm 75 = .ok (.iinc 2 1, 3) := by decide +kernel
theorem dX7_readTerm_78 : decode cX7_readTerm 78 = .ok (.goto (-45), 3) := by decide +kernel
theorem dX7_readTerm_81 : decode cX7_readTerm 81 = .ok (.iload_n 1, 1) := by decide +kernel
theorem dX7_readTerm_82 : decode cX7_readTerm 82 = .ok (.bipush (-7), 2) := by decide +kernel
theorem dX7_readTerm_84 : decode cX7_readTerm 84 = .ok (.if_icmp .ne 12, 3) := by decide +kernel
theorem dX7_readTerm_87 : decode cX7_readTerm 87 = .ok (.aload_n 0, 1) := by decide +kernel
theorem dX7_readTerm_88 : decode cX7_readTerm 88 = .ok (.aload_n 0, 1) := by decide +kernel
theorem dX7_readTerm_89 : decode cX7_readTerm 89 = .ok (.getfield 29, 3) := by decide +kernel
theorem dX7_readTerm_92 : decode cX7_readTerm 92 = .ok (.invokevirtual 42, 3) := by decide +kernel
theorem dX7_readTerm_95 : decode cX7_readTerm 95 = .ok (.pop, 1) := by decide +kernel
theorem dX7_readTerm_96 : decode cX7_readTerm 96 = .ok (.iload_n 1, 1) := by decide +kernel
theorem dX7_readTerm_97 : decode cX7_readTerm 97 = .ok (.ireturn, 1) := by decide +kernel
theorem dX7_readName_0 : decode cX7_readName 0 = .ok (.aload_n 0, 1) := by decide +kernel
theorem dX7_readName_1 : decode cX7_readName 1 = .ok (.invokevirtual 64, 3) := by decide +kernel
theorem dX7_readName_4 : decode cX7_readName 4 = .ok (.bipush 97, 2) := by decide +kernel
theorem dX7_readName_6 : decode cX7_readName 6 = .ok (.isub, 1) := by decide +kernel
theorem dX7_readName_7 : decode cX7_readName 7 = .ok (.istore_n 1, 1) := by decide +kernel
theorem dX7_readName_8 : decode cX7_readName 8 = .ok (.iload_n 1, 1) := by decide +kernel
theorem dX7_readName_9 : decode cX7_readName 9 = .ok (.invokestatic 165, 3) := by decide +kernel
theorem dX7_readName_12 : decode cX7_readName 12 = .ok (.ifCond .ne 15, 3) := by decide +kernel
theorem dX7_readName_15 : decode cX7_readName 15 = .ok (.aload_n 0, 1) := by decide +kernel
theorem dX7_readName_16 : decode cX7_readName 16 = .ok (.aload_n 0, 1) := by decide +kernel
theorem dX7_readName_17 : decode cX7_readName 17 = .ok (.getfield 29, 3) := by decide +kernel
theorem dX7_readName_20 : decode cX7_readName 20 = .ok (.invokevirtual 42, 3) := by decide +kernel
theorem dX7_readName_23 : decode cX7_readName 23 = .ok (.pop, 1) := by decide +kernel
theorem dX7_readName_24 : decode cX7_readName 24 = .ok (.bipush (-7), 2) := by decide +kernel
theorem dX7_readName_26 : decode cX7_readName 26 = .ok (.ireturn, 1) := by decide +kernel
theorem dX7_readName_27 : decode cX7_readName 27 = .ok (.aload_n 0, 1) := by decide +kernel
theorem dX7_readName_28 : decode cX7_readName 28 = .ok (.dup, 1) := by decide +kernel
theorem dX7_readName_29 : decode cX7_readName 29 = .ok (.getfield 29, 3) := by decide +kernel
theorem dX7_readName_32 : decode cX7_readName 32 = .ok (.iconst 1, 1) := by decide +kernel
theorem dX7_readName_33 : decode cX7_readName 33 = .ok (.iadd, 1) := by decide +kernel
theorem dX7_readName_34 : decode cX7_readName 34 = .ok (.putfield 29, 3) := by decide +kernel
theorem dX7_readName_37 : decode cX7_readName 37 = .ok (.iconst (-1), 1) := by decide +kernel
theorem dX7_readName_38 : decode cX7_readName 38 = .ok (.iload_n 1, 1) := by decide +kernel
theorem dX7_readName_39 : decode cX7_readName 39 = .ok (.isub, 1) := by decide +kernel
theorem dX7_readName_40 : decode cX7_readName 40 = .ok (.ireturn, 1) := by decide +kernel
theorem dX7_peek_0 : decode cX7_peek 0 = .ok (.aload_n 0, 1) := by decide +kernel
theorem dX7_peek_1 : decode cX7_peek 1 = .ok (.getfield 29, 3) := by decide +kernel
theorem dX7_peek_4 : decode cX7_peek 4 = .ok (.aload_n 0, 1) := by decide +kernel
theorem dX7_peek_5 : decode cX7_peek 5 = .ok (.getfield 25, 3) := by decide +kernel
theorem dX7_peek_8 : decode cX7_peek 8 = .ok (.if_icmp .ge 24, 3) := by decide +kernel
theorem dX7_peek_11 : decode cX7_peek 11 = .ok (.aload_n 0, 1) := by decide +kernel
theorem dX7_peek_12 : decode cX7_peek 12 = .ok (.getfield 29, 3) := by decide +kernel
theorem dX7_peek_15 : decode cX7_peek 15 = .ok (.bipush 100, 2) := by decide +kernel
theorem dX7_peek_17 : decode cX7_peek 17 = .ok (.if_icmp .ge 15, 3) := by decide +kernel
theorem dX7_peek_20 : decode cX7_peek 20 = .ok (.aload_n 0, 1) := by decide +kernel
theorem dX7_peek_21 : decode cX7_peek 21 = .ok (.getfield 21, 3) := by decide +kernel
theorem dX7_peek_24 : decode cX7_peek 24 = .ok (.aload_n 0, 1) := by decide +kernel
theorem dX7_peek_25 : decode cX7_peek 25 = .ok (.getfield 29, 3) := by decide +kernel
theorem dX7_peek_28 : decode cX7_peek 28 = .ok (.baload, 1) := by decide +kernel
theorem dX7_peek_29 : decode cX7_peek 29 = .ok (.goto 4, 3) := by decide +kernel
theorem dX7_peek_32 : decode cX7_peek 32 = .ok (.iconst (-1), 1) := by decide +kernel
theorem dX7_peek_33 : decode cX7_peek 33 = .ok (.ireturn, 1) := by decide +kernel
theorem dX7_takes_0 : decode cX7_takes 0 = .ok (.aload_n 0, 1) := by decide +kernel
theorem dX7_takes_1 : decode cX7_takes 1 = .ok (.invokevirtual 64, 3) := by decide +kernel
theorem dX7_takes_4 : decode cX7_takes 4 = .ok (.iload_n 1, 1) := by decide +kernel
theorem dX7_takes_5 : decode cX7_takes 5 = .ok (.if_icmp .eq 5, 3) := by decide +kernel
theorem dX7_takes_8 : decode cX7_takes 8 = .ok (.iconst 0, 1) := by decide +kernel
theorem dX7_takes_9 : decode cX7_takes 9 = .ok (.ireturn, 1) := by decide +kernel
theorem dX7_takes_10 : decode cX7_takes 10 = .ok (.aload_n 0, 1) := by decide +kernel
theorem dX7_takes_11 : decode cX7_takes 11 = .ok (.dup, 1) := by decide +kernel
theorem dX7_takes_12 : decode cX7_takes 12 = .ok (.getfield 29, 3) := by decide +kernel
theorem dX7_takes_15 : decode cX7_takes 15 = .ok (.iconst 1, 1) := by decide +kernel
theorem dX7_takes_16 : decode cX7_takes 16 = .ok (.iadd, 1) := by decide +kernel
theorem dX7_takes_17 : decode cX7_takes 17 = .ok (.putfield 29, 3) := by decide +kernel
theorem dX7_takes_20 : decode cX7_takes 20 = .ok (.iconst 1, 1) := by decide +kernel
theorem dX7_takes_21 : decode cX7_takes 21 = .ok (.ireturn, 1) := by decide +kernel
theorem dX7_takesOrFaults_0 : decode cX7_takesOrFaults 0 = .ok (.aload_n 0, 1) := by decide +kernel
theorem dX7_takesOrFaults_1 : decode cX7_takesOrFaults 1 = .ok (.iload_n 1, 1) := by decide +kernel
theorem dX7_takesOrFaults_2 : decode cX7_takesOrFaults 2 = .ok (.invokevirtual 85, 3) := by decide +kernel
theorem dX7_takesOrFaults_5 : decode cX7_takesOrFaults 5 = .ok (.ifCond .ne 14, 3) := by decide +kernel
theorem dX7_takesOrFaults_8 : decode cX7_takesOrFaults 8 = .ok (.aload_n 0, 1) := by decide +kernel
theorem dX7_takesOrFaults_9 : decode cX7_takesOrFaults 9 = .ok (.aload_n 0, 1) := by decide +kernel
theorem dX7_takesOrFaults_10 : decode cX7_takesOrFaults 10 = .ok (.getfield 29, 3) := by decide +kernel
theorem dX7_takesOrFaults_13 : decode cX7_takesOrFaults 13 = .ok (.invokevirtual 42, 3) := by decide +kernel
theorem dX7_takesOrFaults_16 : decode cX7_takesOrFaults 16 = .ok (.ifCond .eq 7, 3) := by decide +kernel
theorem dX7_takesOrFaults_19 : decode cX7_takesOrFaults 19 = .ok (.iconst 1, 1) := by decide +kernel
theorem dX7_takesOrFaults_20 : decode cX7_takesOrFaults 20 = .ok (.goto 4, 3) := by decide +kernel
theorem dX7_takesOrFaults_23 : decode cX7_takesOrFaults 23 = .ok (.iconst 0, 1) := by decide +kernel
theorem dX7_takesOrFaults_24 : decode cX7_takesOrFaults 24 = .ok (.ireturn, 1) := by decide +kernel
theorem dX7_faultAt_0 : decode cX7_faultAt 0 = .ok (.aload_n 0, 1) := by decide +kernel
theorem dX7_faultAt_1 : decode cX7_faultAt 1 = .ok (.iload_n 1, 1) := by decide +kernel
theorem dX7_faultAt_2 : decode cX7_faultAt 2 = .ok (.putfield 168, 3) := by decide +kernel
theorem dX7_faultAt_5 : decode cX7_faultAt 5 = .ok (.iconst 0, 1) := by decide +kernel
theorem dX7_faultAt_6 : decode cX7_faultAt 6 = .ok (.ireturn, 1) := by decide +kernel
theorem dX7_isJoin_0 : decode cX7_isJoin 0 = .ok (.iload_n 0, 1) := by decide +kernel
theorem dX7_isJoin_1 : decode cX7_isJoin 1 = .ok (.bipush 59, 2) := by decide +kernel
theorem dX7_isJoin_3 : decode cX7_isJoin 3 = .ok (.if_icmp .eq 15, 3) := by decide +kernel
theorem dX7_isJoin_6 : decode cX7_isJoin 6 = .ok (.iload_n 0, 1) := by decide +kernel
theorem dX7_isJoin_7 : decode cX7_isJoin 7 = .ok (.bipush 38, 2) := by decide +kernel
theorem dX7_isJoin_9 : decode cX7_isJoin 9 = .ok (.if_icmp .eq 9, 3) := by decide +kernel
theorem dX7_isJoin_12 : decode cX7_isJoin 12 = .ok (.iload_n 0, 1) := by decide +kernel
theorem dX7_isJoin_13 : decode cX7_isJoin 13 = .ok (.bipush 47, 2) := by decide +kernel
theorem dX7_isJoin_15 : decode cX7_isJoin 15 = .ok (.if_icmp .ne 7, 3) := by decide +kernel
theorem dX7_isJoin_18 : decode cX7_isJoin 18 = .ok (.iconst 1, 1) := by decide +kernel
theorem dX7_isJoin_19 : decode cX7_isJoin 19 = .ok (.goto 4, 3) := by decide +kernel
theorem dX7_isJoin_22 : decode cX7_isJoin 22 = .ok (.iconst 0, 1) := by decide +kernel
theorem dX7_isJoin_23 : decode cX7_isJoin 23 = .ok (.ireturn, 1) := by decide +kernel
theorem dX7_isLetter_0 : decode cX7_isLetter 0 = .ok (.iload_n 0, 1) := by decide +kernel
theorem dX7_isLetter_1 : decode cX7_isLetter 1 = .ok (.bipush 97, 2) := by decide +kernel
theorem dX7_isLetter_3 : decode cX7_isLetter 3 = .ok (.if_icmp .lt 13, 3) := by decide +kernel
theorem dX7_isLetter_6 : decode cX7_isLetter 6 = .ok (.iload_n 0, 1) := by decide +kernel
theorem dX7_isLetter_7 : decode cX7_isLetter 7 = .ok (.bipush 122, 2) := by decide +kernel
theorem dX7_isLetter_9 : decode cX7_isLetter 9 = .ok (.if_icmp .gt 7, 3) := by decide +kernel
theorem dX7_isLetter_12 : decode cX7_isLetter 12 = .ok (.iconst 1, 1) := by decide +kernel
theorem dX7_isLetter_13 : decode cX7_isLetter 13 = .ok (.goto 4, 3) := by decide +kernel
theorem dX7_isLetter_16 : decode cX7_isLetter 16 = .ok (.iconst 0, 1) := by decide +kernel
theorem dX7_isLetter_17 : decode cX7_isLetter 17 = .ok (.ireturn, 1) := by decide +kernel
theorem dX7_isDigit_0 : decode cX7_isDigit 0 = .ok (.iload_n 0, 1) := by decide +kernel
theorem dX7_isDigit_1 : decode cX7_isDigit 1 = .ok (.bipush 48, 2) := by decide +kernel
theorem dX7_isDigit_3 : decode cX7_isDigit 3 = .ok (.if_icmp .lt 13, 3) := by decide +kernel
theorem dX7_isDigit_6 : decode cX7_isDigit 6 = .ok (.iload_n 0, 1) := by decide +kernel
theorem dX7_isDigit_7 : decode cX7_isDigit 7 = .ok (.bipush 57, 2) := by decide +kernel
theorem dX7_isDigit_9 : decode cX7_isDigit 9 = .ok (.if_icmp .gt 7, 3) := by decide +kernel
theorem dX7_isDigit_12 : decode cX7_isDigit 12 = .ok (.iconst 1, 1) := by decide +kernel
theorem dX7_isDigit_13 : decode cX7_isDigit 13 = .ok (.goto 4, 3) := by decide +kernel
theorem dX7_isDigit_16 : decode cX7_isDigit 16 = .ok (.iconst 0, 1) := by decide +kernel
theorem dX7_isDigit_17 : decode cX7_isDigit 17 = .ok (.ireturn, 1) := by decide +kernel
theorem dX8_init_0 : decode cX8_init 0 = .ok (.aload_n 0, 1) := by decide +kernel
theorem dX8_init_1 : decode cX8_init 1 = .ok (.invokespecial 3, 3) := by decide +kernel
theorem dX8_init_4 : decode cX8_init 4 = .ok (.aload_n 0, 1) := by decide +kernel
theorem dX8_init_5 : decode cX8_init 5 = .ok (.iload_n 1, 1) := by decide +kernel
theorem dX8_init_6 : decode cX8_init 6 = .ok (.newarray .int, 2) := by decide +kernel
theorem dX8_init_8 : decode cX8_init 8 = .ok (.putfield 9, 3) := by decide +kernel
theorem dX8_init_11 : decode cX8_init 11 = .ok (.aload_n 0, 1) := by decide +kernel
theorem dX8_init_12 : decode cX8_init 12 = .ok (.iload_n 1, 1) := by decide +kernel
theorem dX8_init_13 : decode cX8_init 13 = .ok (.newarray .int, 2) := by decide +kernel
theorem dX8_init_15 : decode cX8_init 15 = .ok (.putfield 15, 3) := by decide +kernel
theorem dX8_init_18 : decode cX8_init 18 = .ok (.return_, 1) := by decide +kernel
theorem dX8_add_0 : decode cX8_add 0 = .ok (.aload_n 0, 1) := by decide +kernel
theorem dX8_add_1 : decode cX8_add 1 = .ok (.getfield 18, 3) := by decide +kernel
theorem dX8_add_4 : decode cX8_add 4 = .ok (.aload_n 0, 1) := by decide +kernel
theorem dX8_add_5 : decode cX8_add 5 = .ok (.getfield 9, 3) := by decide +kernel
theorem dX8_add_8 : decode cX8_add 8 = .ok (.arraylength, 1) := by decide +kernel
theorem dX8_add_9 : decode cX8_add 9 = .ok (.if_icmp .lt 6, 3) := by decide +kernel
theorem dX8_add_12 : decode cX8_add 12 = .ok (.bipush (-4), 2) := by decide +kernel
theorem dX8_add_14 : decode cX8_add 14 = .ok (.ireturn, 1) := by decide +kernel
theorem dX8_add_15 : decode cX8_add 15 = .ok (.aload_n 0, 1) := by decide +kernel
theorem dX8_add_16 : decode cX8_add 16 = .ok (.getfield 9, 3) := by decide +kernel
theorem dX8_add_19 : decode cX8_add 19 = .ok (.aload_n 0, 1) := by decide +kernel
theorem dX8_add_20 : decode cX8_add 20 = .ok (.getfield 18, 3) := by decide +kernel
theorem dX8_add_23 : decode cX8_add 23 = .ok (.iload_n 1, 1) := by decide +kernel
theorem dX8_add_24 : decode cX8_add 24 = .ok (.iastore, 1) := by decide +kernel
theorem dX8_add_25 : decode cX8_add 25 = .ok (.aload_n 0, 1) := by decide +kernel
theorem dX8_add_26 : decode cX8_add 26 = .ok (.getfield 15, 3) := by decide +kernel
theorem dX8_add_29 : decode cX8_add 29 = .ok (.aload_n 0, 1) := by decide +kernel
theorem dX8_add_30 : decode cX8_add 30 = .ok (.getfield 18, 3) := by decide +kernel
theorem dX8_add_33 : decode cX8_add 33 = .ok (.iload_n 2, 1) := by decide +kernel
theorem dX8_add_34 : decode cX8_add 34 = .ok (.iastore, 1) := by decide +kernel
theorem dX8_add_35 : decode cX8_add 35 = .ok (.aload_n 0, 1) := by decide +kernel
theorem dX8_add_36 : decode cX8_add 36 = .ok (.dup, 1) := by decide +kernel
theorem dX8_add_37 : decode cX8_add 37 = .ok (.getfield 18, 3) := by decide +kernel
theorem dX8_add_40 : decode cX8_add 40 = .ok (.iconst 1, 1) := by decide +kernel
theorem dX8_add_41 : decode cX8_add 41 = .ok (.iadd, 1) := by decide +kernel
theorem dX8_add_42 : decode cX8_add 42 = .ok (.putfield 18, 3) := by decide +kernel
theorem dX8_add_45 : decode cX8_add 45 = .ok (.aload_n 0, 1) := by decide +kernel
theorem dX8_add_46 : decode cX8_add 46 = .ok (.getfield 18, 3) := by decide +kernel
theorem dX8_add_49 : decode cX8_add 49 = .ok (.ireturn, 1) := by decide +kernel
theorem dX8_clear_0 : decode cX8_clear 0 = .ok (.aload_n 0, 1) := by decide +kernel
theorem dX8_clear_1 : decode cX8_clear 1 = .ok (.iconst 0, 1) := by decide +kernel
theorem dX8_clear_2 : decode cX8_clear 2 = .ok (.putfield 18, 3) := by decide +kernel
theorem dX8_clear_5 : decode cX8_clear 5 = .ok (.iconst 0, 1) := by decide +kernel
theorem dX8_clear_6 : decode cX8_clear 6 = .ok (.ireturn, 1) := by decide +kernel
theorem dX8_copyFrom_0 : decode cX8_copyFrom 0 = .ok (.aload_n 1, 1) := by decide +kernel
theorem dX8_copyFrom_1 : decode cX8_copyFrom 1 = .ok (.getfield 9, 3) := by decide +kernel
theorem dX8_copyFrom_4 : decode cX8_copyFrom 4 = .ok (.iconst 0, 1) := by decide +kernel
theorem dX8_copyFrom_5 : decode cX8_copyFrom 5 = .ok (.aload_n 0, 1) := by decide +kernel
theorem dX8_copyFrom_6 : decode cX8_copyFrom 6 = .ok (.getfield 9, 3) := by decide +kernel
theorem dX8_copyFrom_9 : decode cX8_copyFrom 9 = .ok (.iconst 0, 1) := by decide +kernel
theorem dX8_copyFrom_10 : decode cX8_copyFrom 10 = .ok (.aload_n 1, 1) := by decide +kernel
theorem dX8_copyFrom_11 : decode cX8_copyFrom 11 = .ok (.getfield 18, 3) := by decide +kernel
theorem dX8_copyFrom_14 : decode cX8_copyFrom 14 = .ok (.invokestatic 22, 3) := by decide +kernel
theorem dX8_copyFrom_17 : decode cX8_copyFrom 17 = .ok (.aload_n 1, 1) := by decide +kernel
theorem dX8_copyFrom_18 : decode cX8_copyFrom 18 = .ok (.getfield 15, 3) := by decide +kernel
theorem dX8_copyFrom_21 : decode cX8_copyFrom 21 = .ok (.iconst 0, 1) := by decide +kernel
theorem dX8_copyFrom_22 : decode cX8_copyFrom 22 = .ok (.aload_n 0, 1) := by decide +kernel
theorem dX8_copyFrom_23 : decode cX8_copyFrom 23 = .ok (.getfield 15, 3) := by decide +kernel
theorem dX8_copyFrom_26 : decode cX8_copyFrom 26 = .ok (.iconst 0, 1) := by decide +kernel
theorem dX8_copyFrom_27 : decode cX8_copyFrom 27 = .ok (.aload_n 1, 1) := by decide +kernel
theorem dX8_copyFrom_28 : decode cX8_copyFrom 28 = .ok (.getfield 18, 3) := by decide +kernel
theorem dX8_copyFrom_31 : decode cX8_copyFrom 31 = .ok (.invokestatic 22, 3) := by decide +kernel
theorem dX8_copyFrom_34 : decode cX8_copyFrom 34 = .ok (.aload_n 0, 1) := by decide +kernel
theorem dX8_copyFrom_35 : decode cX8_copyFrom 35 = .ok (.aload_n 1, 1) := by decide +kernel
theorem dX8_copyFrom_36 : decode cX8_copyFrom 36 = .ok (.getfield 18, 3) := by decide +kernel
theorem dX8_copyFrom_39 : decode cX8_copyFrom 39 = .ok (.putfield 18, 3) := by decide +kernel
theorem dX8_copyFrom_42 : decode cX8_copyFrom 42 = .ok (.return_, 1) := by decide +kernel
theorem dX9_init_0 : decode cX9_init 0 = .ok (.aload_n 0, 1) := by decide +kernel
theorem dX9_init_1 : decode cX9_init 1 = .ok (.invokespecial 3, 3) := by decide +kernel
theorem dX9_init_4 : decode cX9_init 4 = .ok (.aload_n 0, 1) := by decide +kernel
theorem dX9_init_5 : decode cX9_init 5 = .ok (.iconst 4, 1) := by decide +kernel
theorem dX9_init_6 : decode cX9_init 6 = .ok (.newarray .int, 2) := by decide +kernel
theorem dX9_init_8 : decode cX9_init 8 = .ok (.putfield 9, 3) := by decide +kernel
theorem dX9_init_11 : decode cX9_init 11 = .ok (.aload_n 0, 1) := by decide +kernel
theorem dX9_init_12 : decode cX9_init 12 = .ok (.aload_n 1, 1) := by decide +kernel
theorem dX9_init_13 : decode cX9_init 13 = .ok (.putfield 15, 3) := by decide +kernel
theorem dX9_init_16 : decode cX9_init 16 = .ok (.return_, 1) := by decide +kernel
theorem dX9_hasList_0 : decode cX9_hasList 0 = .ok (.aload_n 0, 1) := by decide +kernel
theorem dX9_hasList_1 : decode cX9_hasList 1 = .ok (.getfield 15, 3) := by decide +kernel
theorem dX9_hasList_4 : decode cX9_hasList 4 = .ok (.getstatic 19, 3) := by decide +kernel
theorem dX9_hasList_7 : decode cX9_hasList 7 = .ok (.if_acmp .eq 13, 3) := by decide +kernel
theorem dX9_hasList_10 : decode cX9_hasList 10 = .ok (.aload_n 0, 1) := by decide +kernel
theorem dX9_hasList_11 : decode cX9_hasList 11 = .ok (.getfield 15, 3) := by decide +kernel
theorem dX9_hasList_14 : decode cX9_hasList 14 = .ok (.getfield 24, 3) := by decide +kernel
theorem dX9_hasList_17 : decode cX9_hasList 17 = .ok (.ifCond .lt 7, 3) := by decide +kernel
theorem dX9_hasList_20 : decode cX9_hasList 20 = .ok (.iconst 1, 1) := by decide +kernel
theorem dX9_hasList_21 : decode cX9_hasList 21 = .ok (.goto 4, 3) := by decide +kernel
theorem dX9_hasList_24 : decode cX9_hasList 24 = .ok (.iconst 0, 1) := by decide +kernel
theorem dX9_hasList_25 : decode cX9_hasList 25 = .ok (.ireturn, 1) := by decide +kernel
theorem dX10_init_0 : decode cX10_init 0 = .ok (.aload_n 0, 1) := by decide +kernel
theorem dX10_init_1 : decode cX10_init 1 = .ok (.invokespecial 3, 3) := by decide +kernel
theorem dX10_init_4 : decode cX10_init 4 = .ok (.aload_n 0, 1) := by decide +kernel
theorem dX10_init_5 : decode cX10_init 5 = .ok (.iconst (-1), 1) := by decide +kernel
theorem dX10_init_6 : decode cX10_init 6 = .ok (.putfield 9, 3) := by decide +kernel
theorem dX10_init_9 : decode cX10_init 9 = .ok (.aload_n 0, 1) := by decide +kernel
theorem dX10_init_10 : decode cX10_init 10 = .ok (.bipush 60, 2) := by decide +kernel
theorem dX10_init_12 : decode cX10_init 12 = .ok (.newarray .long, 2) := by decide +kernel
theorem dX10_init_14 : decode cX10_init 14 = .ok (.putfield 15, 3) := by decide +kernel
theorem dX10_init_17 : decode cX10_init 17 = .ok (.return_, 1) := by decide +kernel
theorem dX10_become_0 : decode cX10_become 0 = .ok (.aload_n 0, 1) := by decide +kernel
theorem dX10_become_1 : decode cX10_become 1 = .ok (.iload_n 1, 1) := by decide +kernel
theorem dX10_become_2 : decode cX10_become 2 = .ok (.putfield 9, 3) := by decide +kernel
theorem dX10_become_5 : decode cX10_become 5 = .ok (.aload_n 0, 1) := by decide +kernel
theorem dX10_become_6 : decode cX10_become 6 = .ok (.iload_n 2, 1) := by decide +kernel
theorem dX10_become_7 : decode cX10_become 7 = .ok (.putfield 19, 3) := by decide +kernel
theorem dX10_become_10 : decode cX10_become 10 = .ok (.iconst 0, 1) := by decide +kernel
theorem dX10_become_11 : decode cX10_become 11 = .ok (.istore_n 3, 1) := by decide +kernel
theorem dX10_become_12 : decode cX10_become 12 = .ok (.iload_n 3, 1) := by decide +kernel
theorem dX10_become_13 : decode cX10_become 13 = .ok (.bipush 60, 2) := by decide +kernel
theorem dX10_become_15 : decode cX10_become 15 = .ok (.if_icmp .ge 16, 3) := by decide +kernel
theorem dX10_become_18 : decode cX10_become 18 = .ok (.aload_n 0, 1) := by decide +kernel
theorem dX10_become_19 : decode cX10_become 19 = .ok (.getfield 15, 3) := by decide +kernel
theorem dX10_become_22 : decode cX10_become 22 = .ok (.iload_n 3, 1) := by decide +kernel
theorem dX10_become_23 : decode cX10_become 23 = .ok (.lconst 0, 1) := by decide +kernel
theorem dX10_become_24 : decode cX10_become 24 = .ok (.lastore, 1) := by decide +kernel
theorem dX10_become_25 : decode cX10_become 25 = .ok (.iinc 3 1, 3) := by decide +kernel
theorem dX10_become_28 : decode cX10_become 28 = .ok (.goto (-16), 3) := by decide +kernel
theorem dX10_become_31 : decode cX10_become 31 = .ok (.iconst 1, 1) := by decide +kernel
theorem dX10_become_32 : decode cX10_become 32 = .ok (.ireturn, 1) := by decide +kernel
theorem dX10_held_0 : decode cX10_held 0 = .ok (.aload_n 0, 1) := by decide +kernel
theorem dX10_held_1 : decode cX10_held 1 = .ok (.getfield 9, 3) := by decide +kernel
theorem dX10_held_4 : decode cX10_held 4 = .ok (.tableswitch 62 0 4 #[36, 41, 46, 62, 50], 36) := by decide +kernel
theorem dX10_held_40 : decode cX10_held 40 = .ok (.lload_n 1, 1) := by decide +kernel
theorem dX10_held_41 : decode cX10_held 41 = .ok (.l2i, 1) := by decide +kernel
theorem dX10_held_42 : decode cX10_held 42 = .ok (.i2b, 1) := by decide +kernel
theorem dX10_held_43 : decode cX10_held 43 = .ok (.i2l, 1) := by decide +kernel
theorem dX10_held_44 : decode cX10_held 44 = .ok (.lreturn, 1) := by decide +kernel
theorem dX10_held_45 : decode cX10_held 45 = .ok (.lload_n 1, 1) := by decide +kernel
theorem dX10_held_46 : decode cX10_held 46 = .ok (.l2i, 1) := by decide +kernel
theorem dX10_held_47 : decode cX10_held 47 = .ok (.i2s, 1) := by decide +kernel
theorem dX10_held_48 : decode cX10_held 48 = .ok (.i2l, 1) := by decide +kernel
theorem dX10_held_49 : decode cX10_held 49 = .ok (.lreturn, 1) := by decide +kernel
theorem dX10_held_50 : decode cX10_held 50 = .ok (.lload_n 1, 1) := by decide +kernel
theorem dX10_held_51 : decode cX10_held 51 = .ok (.l2i, 1) := by decide +kernel
theorem dX10_held_52 : decode cX10_held 52 = .ok (.i2l, 1) := by decide +kernel
theorem dX10_held_53 : decode cX10_held 53 = .ok (.lreturn, 1) := by decide +kernel
theorem dX10_held_54 : decode cX10_held 54 = .ok (.lload_n 1, 1) := by decide +kernel
theorem dX10_held_55 : decode cX10_held 55 = .ok (.lconst 0, 1) := by decide +kernel
theorem dX10_held_56 : decode cX10_held 56 = .ok (.lcmp, 1) := by decide +kernel
theorem dX10_held_57 : decode cX10_held 57 = .ok (.ifCond .eq 7, 3) := by decide +kernel
theorem dX10_held_60 : decode cX10_held 60 = .ok (.lconst 1, 1) := by decide +kernel
theorem dX10_held_61 : decode cX10_held 61 = .ok (.goto 4, 3) := by decide +kernel
theorem dX10_held_64 : decode cX10_held 64 = .ok (.lconst 0, 1) := by decide +kernel
theorem dX10_held_65 : decode cX10_held 65 = .ok (.lreturn, 1) := by decide +kernel
theorem dX10_held_66 : decode cX10_held 66 = .ok (.lload_n 1, 1) := by decide +kernel
theorem dX10_held_67 : decode cX10_held 67 = .ok (.lreturn, 1) := by decide +kernel
theorem dX10_has_0 : decode cX10_has 0 = .ok (.iload_n 1, 1) := by decide +kernel
theorem dX10_has_1 : decode cX10_has 1 = .ok (.ifCond .lt 29, 3) := by decide +kernel
theorem dX10_has_4 : decode cX10_has 4 = .ok (.iload_n 2, 1) := by decide +kernel
theorem dX10_has_5 : decode cX10_has 5 = .ok (.ifCond .lt 25, 3) := by decide +kernel
theorem dX10_has_8 : decode cX10_has 8 = .ok (.iload_n 1, 1) := by decide +kernel
theorem dX10_has_9 : decode cX10_has 9 = .ok (.aload_n 0, 1) := by decide +kernel
theorem dX10_has_10 : decode cX10_has 10 = .ok (.getfield 19, 3) := by decide +kernel
theorem dX10_has_13 : decode cX10_has 13 = .ok (.if_icmp .gt 17, 3) := by decide +kernel
theorem dX10_has_16 : decode cX10_has 16 = .ok (.iload_n 2, 1) := by decide +kernel
theorem dX10_has_17 : decode cX10_has 17 = .ok (.aload_n 0, 1) := by decide +kernel
theorem dX10_has_18 : decode cX10_has 18 = .ok (.getfield 19, 3) := by decide +kernel
theorem dX10_has_21 : decode cX10_has 21 = .ok (.iload_n 1, 1) := by decide +kernel
theorem dX10_has_22 : decode cX10_has 22 = .ok (.isub, 1) := by decide +kernel
theorem dX10_has_23 : decode cX10_has 23 = .ok (.if_icmp .gt 7, 3) := by decide +kernel
theorem dX10_has_26 : decode cX10_has 26 = .ok (.iconst 1, 1) := by decide +kernel
theorem dX10_has_27 : decode cX10_has 27 = .ok (.goto 4, 3) := by decide +kernel
theorem dX10_has_30 : decode cX10_has 30 = .ok (.iconst 0, 1) := by decide +kernel
theorem dX10_has_31 : decode cX10_has 31 = .ok (.ireturn, 1) := by decide +kernel
theorem dX11_values_0 : decode cX11_values 0 = .ok (.getstatic 51, 3) := by decide +kernel
theorem dX11_values_3 : decode cX11_values 3 = .ok (.invokevirtual 55, 3) := by decide +kernel
theorem dX11_values_6 : decode cX11_values 6 = .ok (.checkcast 56, 3) := by decide +kernel
theorem dX11_values_9 : decode cX11_values 9 = .ok (.areturn, 1) := by decide +kernel
theorem dX12_init_0 : decode cX12_init 0 = .ok (.aload_n 0, 1) := by decide +kernel
theorem dX12_init_1 : decode cX12_init 1 = .ok (.invokespecial 5, 3) := by decide +kernel
theorem dX12_init_4 : decode cX12_init 4 = .ok (.aload_n 0, 1) := by decide +kernel
theorem dX12_init_5 : decode cX12_init 5 = .ok (.new 11, 3) := by decide +kernel
theorem dX12_init_8 : decode cX12_init 8 = .ok (.dup, 1) := by decide +kernel
theorem dX12_init_9 : decode cX12_init 9 = .ok (.invokespecial 13, 3) := by decide +kernel
theorem dX12_init_12 : decode cX12_init 12 = .ok (.putfield 14, 3) := by decide +kernel
theorem dX12_init_15 : decode cX12_init 15 = .ok (.aload_n 0, 1) := by decide +kernel
theorem dX12_init_16 : decode cX12_init 16 = .ok (.new 18, 3) := by decide +kernel
theorem dX12_init_19 : decode cX12_init 19 = .ok (.dup, 1) := by decide +kernel
theorem dX12_init_20 : decode cX12_init 20 = .ok (.invokespecial 20, 3) := by decide +kernel
theorem dX12_init_23 : decode cX12_init 23 = .ok (.putfield 21, 3) := by decide +kernel
theorem dX12_init_26 : decode cX12_init 26 = .ok (.aload_n 0, 1) := by decide +kernel
theorem dX12_init_27 : decode cX12_init 27 = .ok (.new 25, 3) := by decide +kernel
theorem dX12_init_30 : decode cX12_init 30 = .ok (.dup, 1) := by decide +kernel
theorem dX12_init_31 : decode cX12_init 31 = .ok (.invokespecial 27, 3) := by decide +kernel
theorem dX12_init_34 : decode cX12_init 34 = .ok (.putfield 28, 3) := by decide +kernel
theorem dX12_init_37 : decode cX12_init 37 = .ok (.aload_n 0, 1) := by decide +kernel
theorem dX12_init_38 : decode cX12_init 38 = .ok (.new 25, 3) := by decide +kernel
theorem dX12_init_41 : decode cX12_init 41 = .ok (.dup, 1) := by decide +kernel
theorem dX12_init_42 : decode cX12_init 42 = .ok (.invokespecial 27, 3) := by decide +kernel
theorem dX12_init_45 : decode cX12_init 45 = .ok (.putfield 32, 3) := by decide +kernel
theorem dX12_init_48 : decode cX12_init 48 = .ok (.aload_n 0, 1) := by decide +kernel
theorem dX12_init_49 : decode cX12_init 49 = .ok (.new 25, 3) := by decide +kernel
theorem dX12_init_52 : decode cX12_init 52 = .ok (.dup, 1) := by decide +kernel
theorem dX12_init_53 : decode cX12_init 53 = .ok (.invokespecial 27, 3) := by decide +kernel
theorem dX12_init_56 : decode cX12_init 56 = .ok (.putfield 35, 3) := by decide +kernel
theorem dX12_init_59 : decode cX12_init 59 = .ok (.aload_n 0, 1) := by decide +kernel
theorem dX12_init_60 : decode cX12_init 60 = .ok (.new 25, 3) := by decide +kernel
theorem dX12_init_63 : decode cX12_init 63 = .ok (.dup, 1) := by decide +kernel
theorem dX12_init_64 : decode cX12_init 64 = .ok (.invokespecial 27, 3) := by decide +kernel
theorem dX12_init_67 : decode cX12_init 67 = .ok (.putfield 38, 3) := by decide +kernel
theorem dX12_init_70 : decode cX12_init 70 = .ok (.aload_n 0, 1) := by decide +kernel
theorem dX12_init_71 : decode cX12_init 71 = .ok (.iconst 4, 1) := by decide +kernel
theorem dX12_init_72 : decode cX12_init 72 = .ok (.anewarray 41, 3) := by decide +kernel
theorem dX12_init_75 : decode cX12_init 75 = .ok (.putfield 43, 3) := by decide +kernel
theorem dX12_init_78 : decode cX12_init 78 = .ok (.aload_n 0, 1) := by decide +kernel
theorem dX12_init_79 : decode cX12_init 79 = .ok (.iconst 4, 1) := by decide +kernel
theorem dX12_init_80 : decode cX12_init 80 = .ok (.newarray .int, 2) := by decide +kernel
theorem dX12_init_82 : decode cX12_init 82 = .ok (.putfield 47, 3) := by decide +kernel
theorem dX12_init_85 : decode cX12_init 85 = .ok (.aload_n 0, 1) := by decide +kernel
theorem dX12_init_86 : decode cX12_init 86 = .ok (.iconst 4, 1) := by decide +kernel
theorem dX12_init_87 : decode cX12_init 87 = .ok (.newarray .int, 2) := by decide +kernel
theorem dX12_init_89 : decode cX12_init 89 = .ok (.putfield 51, 3) := by decide +kernel
theorem dX12_init_92 : decode cX12_init 92 = .ok (.aload_n 0, 1) := by decide +kernel
theorem dX12_init_93 : decode cX12_init 93 = .ok (.bipush 6, 2) := by decide +kernel
theorem dX12_init_95 : decode cX12_init 95 = .ok (.anewarray 54, 3) := by decide +kernel
theorem dX12_init_98 : decode cX12_init 98 = .ok (.putfield 56, 3) := by decide +kernel
theorem dX12_init_101 : decode cX12_init 101 = .ok (.iconst 0, 1) := by decide +kernel
theorem dX12_init_102 : decode cX12_init 102 = .ok (.istore_n 1, 1) := by decide +kernel
theorem dX12_init_103 : decode cX12_init 103 = .ok (.iload_n 1, 1) := by decide +kernel
theorem dX12_init_104 : decode cX12_init 104 = .ok (.iconst 4, 1) := by decide +kernel
theorem dX12_init_105 : decode cX12_init 105 = .ok (.if_icmp .ge 30, 3) := by decide +kernel
theorem dX12_init_108 : decode cX12_init 108 = .ok (.aload_n 0, 1) := by decide +kernel
theorem dX12_init_109 : decode cX12_init 109 = .ok (.getfield 43, 3) := by decide +kernel
theorem dX12_init_112 : decode cX12_init 112 = .ok (.iload_n 1, 1) := by decide +kernel
theorem dX12_init_113 : decode cX12_init 113 = .ok (.new 41, 3) := by decide +kernel
theorem dX12_init_116 : decode cX12_init 116 = .ok (.dup, 1) := by decide +kernel
theorem dX12_init_117 : decode cX12_init 117 = .ok (.invokespecial 60, 3) := by decide +kernel
theorem dX12_init_120 : decode cX12_init 120 = .ok (.aastore, 1) := by decide +kernel
theorem dX12_init_121 : decode cX12_init 121 = .ok (.aload_n 0, 1) := by decide +kernel
theorem dX12_init_122 : decode cX12_init 122 = .ok (.getfield 47, 3) := by decide +kernel
theorem dX12_init_125 : decode cX12_init 125 = .ok (.iload_n 1, 1) := by decide +kernel
theorem dX12_init_126 : decode cX12_init 126 = .ok (.bipush (-5), 2) := by decide +kernel
theorem dX12_init_128 : decode cX12_init 128 = .ok (.iastore, 1) := by decide +kernel
theorem dX12_init_129 : decode cX12_init 129 = .ok (.iinc 1 1, 3) := by decide +kernel
theorem dX12_init_132 : decode cX12_init 132 = .ok (.goto (-29), 3) := by decide +kernel
theorem dX12_init_135 : decode cX12_init 135 = .ok (.iconst 0, 1) := by decide +kernel
theorem dX12_init_136 : decode cX12_init 136 = .ok (.istore_n 1, 1) := by decide +kernel
theorem dX12_init_137 : decode cX12_init 137 = .ok (.iload_n 1, 1) := by decide +kernel
theorem dX12_init_138 : decode cX12_init 138 = .ok (.bipush 6, 2) := by decide +kernel
theorem dX12_init_140 : decode cX12_init 140 = .ok (.if_icmp .ge 22, 3) := by decide +kernel
theorem dX12_init_143 : decode cX12_init 143 = .ok (.aload_n 0, 1) := by decide +kernel
theorem dX12_init_144 : decode cX12_init 144 = .ok (.getfield 56, 3) := by decide +kernel
theorem dX12_init_147 : decode cX12_init 147 = .ok (.iload_n 1, 1) := by decide +kernel
theorem dX12_init_148 : decode cX12_init 148 = .ok (.new 54, 3) := by decide +kernel
theorem dX12_init_151 : decode cX12_init 151 = .ok (.dup, 1) := by decide +kernel
theorem dX12_init_152 : decode cX12_init 152 = .ok (.invokespecial 61, 3) := by decide +kernel
theorem dX12_init_155 : decode cX12_init 155 = .ok (.aastore, 1) := by decide +kernel
theorem dX12_init_156 : decode cX12_init 156 = .ok (.iinc 1 1, 3) := by decide +kernel
theorem dX12_init_159 : decode cX12_init 159 = .ok (.goto (-22), 3) := by decide +kernel
theorem dX12_init_162 : decode cX12_init 162 = .ok (.return_, 1) := by decide +kernel
theorem dX12_feed_0 : decode cX12_feed 0 = .ok (.iload_n 1, 1) := by decide +kernel
theorem dX12_feed_1 : decode cX12_feed 1 = .ok (.ifCond .lt 9, 3) := by decide +kernel
theorem dX12_feed_4 : decode cX12_feed 4 = .ok (.iload_n 1, 1) := by decide +kernel
theorem dX12_feed_5 : decode cX12_feed 5 = .ok (.bipush 127, 2) := by decide +kernel
theorem dX12_feed_7 : decode cX12_feed 7 = .ok (.if_icmp .le 6, 3) := by decide +kernel
theorem dX12_feed_10 : decode cX12_feed 10 = .ok (.bipush (-2), 2) := by decide +kernel
theorem dX12_feed_12 : decode cX12_feed 12 = .ok (.ireturn, 1) := by decide +kernel
theorem dX12_feed_13 : decode cX12_feed 13 = .ok (.aload_n 0, 1) := by decide +kernel
theorem dX12_feed_14 : decode cX12_feed 14 = .ok (.getfield 14, 3) := by decide +kernel
theorem dX12_feed_17 : decode cX12_feed 17 = .ok (.iload_n 1, 1) := by decide +kernel
theorem dX12_feed_18 : decode cX12_feed 18 = .ok (.invokevirtual 62, 3) := by decide +kernel
theorem dX12_feed_21 : decode cX12_feed 21 = .ok (.ifCond .eq 13, 3) := by decide +kernel
theorem dX12_feed_24 : decode cX12_feed 24 = .ok (.aload_n 0, 1) := by decide +kernel
theorem dX12_feed_25 : decode cX12_feed 25 = .ok (.getfield 14, 3) := by decide +kernel
theorem dX12_feed_28 : decode cX12_feed 28 = .ok (.getfield 66, 3) := by decide +kernel
theorem dX12_feed_31 : decode cX12_feed 31 = .ok (.goto 5, 3) := by decide +kernel
theorem dX12_feed_34 : decode cX12_feed 34 = .ok (.bipush (-4), 2) := by decide +kernel
theorem dX12_feed_36 : decode cX12_feed 36 = .ok (.ireturn, 1) := by decide +kernel
theorem dX12_line_0 : decode cX12_line 0 = .ok (.aload_n 0, 1) := by decide +kernel
theorem dX12_line_1 : decode cX12_line 1 = .ok (.getfield 21, 3) := by decide +kernel
theorem dX12_line_4 : decode cX12_line 4 = .ok (.getfield 70, 3) := by decide +kernel
theorem dX12_line_7 : decode cX12_line 7 = .ok (.bipush 8, 2) := by decide +kernel
theorem dX12_line_9 : decode cX12_line 9 = .ok (.if_icmp .lt 6, 3) := by decide +kernel
theorem dX12_line_12 : decode cX12_line 12 = .ok (.bipush (-4), 2) := by decide +kernel
theorem dX12_line_14 : decode cX12_line 14 = .ok (.ireturn, 1) := by decide +kernel
theorem dX12_line_15 : decode cX12_line 15 = .ok (.aload_n 0, 1) := by decide +kernel
theorem dX12_line_16 : decode cX12_line 16 = .ok (.getfield 14, 3) := by decide +kernel
theorem dX12_line_19 : decode cX12_line 19 = .ok (.invokevirtual 73, 3) := by decide +kernel
theorem dX12_line_22 : decode cX12_line 22 = .ok (.astore_n 1, 1) := by decide +kernel
theorem dX12_line_23 : decode cX12_line 23 = .ok (.aload_n 1, 1) := by decide +kernel
theorem dX12_line_24 : decode cX12_line 24 = .ok (.ifnonnull 16, 3) := by decide +kernel
theorem dX12_line_27 : decode cX12_line 27 = .ok (.bipush (-10), 2) := by decide +kernel
theorem dX12_line_29 : decode cX12_line 29 = .ok (.aload_n 0, 1) := by decide +kernel
theorem dX12_line_30 : decode cX12_line 30 = .ok (.getfield 14, 3) := by decide +kernel
theorem dX12_line_33 : decode cX12_line 33 = .ok (.getfield 77, 3) := by decide +kernel
theorem dX12_line_36 : decode cX12_line 36 = .ok (.isub, 1) := by decide +kernel
theorem dX12_line_37 : decode cX12_line 37 = .ok (.goto 11, 3) := by decide +kernel
theorem dX12_line_40 : decode cX12_line 40 = .ok (.aload_n 0, 1) := by decide +kernel
theorem dX12_line_41 : decode cX12_line 41 = .ok (.getfield 21, 3) := by decide +kernel
theorem dX12_line_44 : decode cX12_line 44 = .ok (.aload_n 1, 1) := by decide +kernel
theorem dX12_line_45 : decode cX12_line 45 = .ok (.invokevirtual 80, 3) := by decide +kernel
theorem dX12_line_48 : decode cX12_line 48 = .ok (.ireturn, 1) := by decide +kernel
theorem dX12_of_0 : decode cX12_of 0 = .ok (.aload_n 0, 1) := by decide +kernel
theorem dX12_of_1 : decode cX12_of 1 = .ok (.iload_n 1, 1) := by decide +kernel
theorem dX12_of_2 : decode cX12_of 2 = .ok (.invokevirtual 83, 3) := by decide +kernel
theorem dX12_of_5 : decode cX12_of 5 = .ok (.ifCond .ne 5, 3) := by decide +kernel
theorem dX12_of_8 : decode cX12_of 8 = .ok (.iconst (-1), 1) := by decide +kernel
theorem dX12_of_9 : decode cX12_of 9 = .ok (.ireturn, 1) := by decide +kernel
theorem dX12_of_10 : decode cX12_of 10 = .ok (.aload_n 0, 1) := by decide +kernel
theorem dX12_of_11 : decode cX12_of 11 = .ok (.getfield 21, 3) := by decide +kernel
theorem dX12_of_14 : decode cX12_of 14 = .ok (.getfield 86, 3) := by decide +kernel
theorem dX12_of_17 : decode cX12_of 17 = .ok (.iload_n 1, 1) := by decide +kernel
theorem dX12_of_18 : decode cX12_of 18 = .ok (.aaload, 1) := by decide +kernel
theorem dX12_of_19 : decode cX12_of 19 = .ok (.astore_n 3, 1) := by decide +kernel
theorem dX12_of_20 : decode cX12_of 20 = .ok (.iload_n 2, 1) := by decide +kernel
theorem dX12_of_21 : decode cX12_of 21 = .ok (.tableswitch 42 0 2 #[27, 32, 37], 27) := by decide +kernel
theorem dX12_of_48 : decode cX12_of 48 = .ok (.aload_n 3, 1) := by decide +kernel
theorem dX12_of_49 : decode cX12_of 49 = .ok (.getfield 90, 3) := by decide +kernel
theorem dX12_of_52 : decode cX12_of 52 = .ok (.ireturn, 1) := by decide +kernel
theorem dX12_of_53 : decode cX12_of 53 = .ok (.aload_n 3, 1) := by decide +kernel
theorem dX12_of_54 : decode cX12_of 54 = .ok (.getfield 95, 3) := by decide +kernel
theorem dX12_of_57 : decode cX12_of 57 = .ok (.ireturn, 1) := by decide +kernel
theorem dX12_of_58 : decode cX12_of 58 = .ok (.aload_n 3, 1) := by decide +kernel
theorem dX12_of_59 : decode cX12_of 59 = .ok (.getfield 98, 3) := by decide +kernel
theorem dX12_of_62 : decode cX12_of 62 = .ok (.ireturn, 1) := by decide +kernel
theorem dX12_of_63 : decode cX12_of 63 = .ok (.iconst (-1), 1) := by decide +kernel
theorem dX12_of_64 : decode cX12_of 64 = .ok (.ireturn, 1) := by decide +kernel
theorem dX12_define_0 : decode cX12_define 0 = .ok (.iload_n 1, 1) := by decide +kernel
theorem dX12_define_1 : decode cX12_define 1 = .ok (.invokestatic 101, 3) := by decide +kernel
theorem dX12_define_4 : decode cX12_define 4 = .ok (.ifCond .eq 11, 3) := by decide +kernel
theorem dX12_define_7 : decode cX12_define 7 = .ok (.aload_n 0, 1) := by decide +kernel
theorem dX12_define_8 : decode cX12_define 8 = .ok (.iload_n 2, 1) := by decide +kernel
theorem dX12_define_9 : decode cX12_define 9 = .ok (.invokevirtual 104, 3) := by decide +kernel
theorem dX12_define_12 : decode cX12_define 12 = .ok (.ifCond .ne 5, 3) := by decide +kernel
theorem dX12_define_15 : decode cX12_define 15 = .ok (.iconst (-1), 1) := by decide +kernel
theorem dX12_define_16 : decode cX12_define 16 = .ok (.ireturn, 1) := by decide +kernel
theorem dX12_define_17 : decode cX12_define 17 = .ok (.aload_n 0, 1) := by decide +kernel
theorem dX12_define_18 : decode cX12_define 18 = .ok (.getfield 28, 3) := by decide +kernel
theorem dX12_define_21 : decode cX12_define 21 = .ok (.getfield 107, 3) := by decide +kernel
theorem dX12_define_24 : decode cX12_define 24 = .ok (.iload_n 1, 1) := by decide +kernel
theorem dX12_define_25 : decode cX12_define 25 = .ok (.iaload, 1) := by decide +kernel
theorem dX12_define_26 : decode cX12_define 26 = .ok (.istore_n 3, 1) := by decide +kernel
theorem dX12_define_27 : decode cX12_define 27 = .ok (.aload_n 0, 1) := by decide +kernel
theorem dX12_define_28 : decode cX12_define 28 = .ok (.getfield 28, 3) := by decide +kernel
theorem dX12_define_31 : decode cX12_define 31 = .ok (.getfield 107, 3) := by decide +kernel
theorem dX12_define_34 : decode cX12_define 34 = .ok (.iload_n 1, 1) := by decide +kernel
theorem dX12_define_35 : decode cX12_define 35 = .ok (.iload_n 2, 1) := by decide +kernel
theorem dX12_define_36 : decode cX12_define 36 = .ok (.ifCond .ge 8, 3) := by decide +kernel
theorem dX12_define_39 : decode cX12_define 39 = .ok (.bipush (-5), 2) := by decide +kernel
theorem dX12_define_41 : decode cX12_define 41 = .ok (.goto 4, 3) := by decide +kernel
theorem dX12_define_44 : decode cX12_define 44 = .ok (.iload_n 2, 1) := by decide +kernel
theorem dX12_define_45 : decode cX12_define 45 = .ok (.iastore, 1) := by decide +kernel
theorem dX12_define_46 : decode cX12_define 46 = .ok (.iload_n 3, 1) := by decide +kernel
theorem dX12_define_47 : decode cX12_define 47 = .ok (.ireturn, 1) := by decide +kernel
theorem dX12_trap_0 : decode cX12_trap 0 = .ok (.aload_n 0, 1) := by decide +kernel
theorem dX12_trap_1 : decode cX12_trap 1 = .ok (.iload_n 1, 1) := by decide +kernel
theorem dX12_trap_2 : decode cX12_trap 2 = .ok (.invokevirtual 104, 3) := by decide +kernel
theorem dX12_trap_5 : decode cX12_trap 5 = .ok (.ifCond .ne 5, 3) := by decide +kernel
theorem dX12_trap_8 : decode cX12_trap 8 = .ok (.iconst (-1), 1) := by decide +kernel
theorem dX12_trap_9 : decode cX12_trap 9 = .ok (.ireturn, 1) := by decide +kernel
theorem dX12_trap_10 : decode cX12_trap 10 = .ok (.aload_n 0, 1) := by decide +kernel
theorem dX12_trap_11 : decode cX12_trap 11 = .ok (.getfield 28, 3) := by decide +kernel
theorem dX12_trap_14 : decode cX12_trap 14 = .ok (.getfield 110, 3) := by decide +kernel
theorem dX12_trap_17 : decode cX12_trap 17 = .ok (.istore_n 2, 1) := by decide +kernel
theorem dX12_trap_18 : decode cX12_trap 18 = .ok (.aload_n 0, 1) := by decide +kernel
theorem dX12_trap_19 : decode cX12_trap 19 = .ok (.getfield 28, 3) := by decide +kernel
theorem dX12_trap_22 : decode cX12_trap 22 = .ok (.iload_n 1, 1) := by decide +kernel
theorem dX12_trap_23 : decode cX12_trap 23 = .ok (.ifCond .ge 8, 3) := by decide +kernel
theorem dX12_trap_26 : decode cX12_trap 26 = .ok (.bipush (-5), 2) := by decide +kernel
theorem dX12_trap_28 : decode cX12_trap 28 = .ok (.goto 4, 3) := by decide +kernel
theorem dX12_trap_31 : decode cX12_trap 31 = .ok (.iload_n 1, 1) := by decide +kernel
theorem dX12_trap_32 : decode cX12_trap 32 = .ok (.putfield 110, 3) := by decide +kernel
theorem dX12_trap_35 : decode cX12_trap 35 = .ok (.iload_n 2, 1) := by decide +kernel
theorem dX12_trap_36 : decode cX12_trap 36 = .ok (.ireturn, 1) := by decide +kernel
theorem dX12_value_0 : decode cX12_value 0 = .ok (.iload_n 1, 1) := by decide +kernel
theorem dX12_value_1 : decode cX12_value 1 = .ok (.invokestatic 113, 3) := by decide +kernel
theorem dX12_value_4 : decode cX12_value 4 = .ok (.ifCond .ne 7, 3) := by decide +kernel
theorem dX12_value_7 : decode cX12_value 7 = .ok (.ldc2_w 116, 3) := by decide +kernel
theorem dX12_value_10 : decode cX12_value 10 = .ok (.lreturn, 1) := by decide +kernel
theorem dX12_value_11 : decode cX12_value 11 = .ok (.aload_n 0, 1) := by decide +kernel
theorem dX12_value_12 : decode cX12_value 12 = .ok (.getfield 28, 3) := by decide +kernel
theorem dX12_value_15 : decode cX12_value 15 = .ok (.getfield 118, 3) := by decide +kernel
theorem dX12_value_18 : decode cX12_value 18 = .ok (.iload_n 1, 1) := by decide +kernel
theorem dX12_value_19 : decode cX12_value 19 = .ok (.iaload, 1) := by decide +kernel
theorem dX12_value_20 : decode cX12_value 20 = .ok (.istore_n 3, 1) := by decide +kernel
theorem dX12_value_21 : decode cX12_value 21 = .ok (.aload_n 0, 1) := by decide +kernel
theorem dX12_value_22 : decode cX12_value 22 = .ok (.getfield 28, 3) := by decide +kernel
theorem dX12_value_25 : decode cX12_value 25 = .ok (.getfield 118, 3) := by decide +kernel
theorem dX12_value_28 : decode cX12_value 28 = .ok (.iload_n 1, 1) := by decide +kernel
theorem dX12_value_29 : decode cX12_value 29 = .ok (.iload_n 2, 1) := by decide +kernel
theorem dX12_value_30 : decode cX12_value 30 = .ok (.iastore, 1) := by decide +kernel
theorem dX12_value_31 : decode cX12_value 31 = .ok (.iload_n 3, 1) := by decide +kernel
theorem dX12_value_32 : decode cX12_value 32 = .ok (.i2l, 1) := by decide +kernel
theorem dX12_value_33 : decode cX12_value 33 = .ok (.lreturn, 1) := by decide +kernel
theorem dX12_isLine_0 : decode cX12_isLine 0 = .ok (.iload_n 1, 1) := by decide +kernel
theorem dX12_isLine_1 : decode cX12_isLine 1 = .ok (.ifCond .lt 18, 3) := by decide +kernel
theorem dX12_isLine_4 : decode cX12_isLine 4 = .ok (.iload_n 1, 1) := by decide +kernel
theorem dX12_isLine_5 : decode cX12_isLine 5 = .ok (.aload_n 0, 1) := by decide +kernel
theorem dX12_isLine_6 : decode cX12_isLine 6 = .ok (.getfield 21, 3) := by decide +kernel
theorem dX12_isLine_9 : decode cX12_isLine 9 = .ok (.getfield 70, 3) := by decide +kernel
theorem dX12_isLine_12 : decode cX12_isLine 12 = .ok (.if_icmp .ge 7, 3) := by decide +kernel
theorem dX12_isLine_15 : decode cX12_isLine 15 = .ok (.iconst 1, 1) := by decide +kernel
theorem dX12_isLine_16 : decode cX12_isLine 16 = .ok (.goto 4, 3) := by decide +kernel
theorem dX12_isLine_19 : decode cX12_isLine 19 = .ok (.iconst 0, 1) := by decide +kernel
theorem dX12_isLine_20 : decode cX12_isLine 20 = .ok (.ireturn, 1) := by decide +kernel
theorem dX12_isLineOrNone_0 : decode cX12_isLineOrNone 0 = .ok (.iload_n 1, 1) := by decide +kernel
theorem dX12_isLineOrNone_1 : decode cX12_isLineOrNone 1 = .ok (.iconst (-1), 1) := by decide +kernel
theorem dX12_isLineOrNone_2 : decode cX12_isLineOrNone 2 = .ok (.if_icmp .eq 11, 3) := by decide +kernel
theorem dX12_isLineOrNone_5 : decode cX12_isLineOrNone 5 = .ok (.aload_n 0, 1) := by decide +kernel
theorem dX12_isLineOrNone_6 : decode cX12_isLineOrNone 6 = .ok (.iload_n 1, 1) := by decide +kernel
theorem dX12_isLineOrNone_7 : decode cX12_isLineOrNone 7 = .ok (.invokevirtual 83, 3) := by decide +kernel
theorem dX12_isLineOrNone_10 : decode cX12_isLineOrNone 10 = .ok (.ifCond .eq 7, 3) := by decide +kernel
theorem dX12_isLineOrNone_13 : decode cX12_isLineOrNone 13 = .ok (.iconst 1, 1) := by decide +kernel
theorem dX12_isLineOrNone_14 : decode cX12_isLineOrNone 14 = .ok (.goto 4, 3) := by decide +kernel
theorem dX12_isLineOrNone_17 : decode cX12_isLineOrNone 17 = .ok (.iconst 0, 1) := by decide +kernel
theorem dX12_isLineOrNone_18 : decode cX12_isLineOrNone 18 = .ok (.ireturn, 1) := by decide +kernel
theorem dX12_isName_0 : decode cX12_isName 0 = .ok (.iload_n 0, 1) := by decide +kernel
theorem dX12_isName_1 : decode cX12_isName 1 = .ok (.ifCond .lt 12, 3) := by decide +kernel
theorem dX12_isName_4 : decode cX12_isName 4 = .ok (.iload_n 0, 1) := by decide +kernel
theorem dX12_isName_5 : decode cX12_isName 5 = .ok (.iconst 5, 1) := by decide +kernel
theorem dX12_isName_6 : decode cX12_isName 6 = .ok (.if_icmp .ge 7, 3) := by decide +kernel
theorem dX12_isName_9 : decode cX12_isName 9 = .ok (.iconst 1, 1) := by decide +kernel
theorem dX12_isName_10 : decode cX12_isName 10 = .ok (.goto 4, 3) := by decide +kernel
theorem dX12_isName_13 : decode cX12_isName 13 = .ok (.iconst 0, 1) := by decide +kernel
theorem dX12_isName_14 : decode cX12_isName 14 = .ok (.ireturn, 1) := by decide +kernel
theorem dX12_isFunction_0 : decode cX12_isFunction 0 = .ok (.iload_n 0, 1) := by decide +kernel
theorem dX12_isFunction_1 : decode cX12_isFunction 1 = .ok (.ifCond .lt 12, 3) := by decide +kernel
theorem dX12_isFunction_4 : decode cX12_isFunction 4 = .ok (.iload_n 0, 1) := by decide +kernel
theorem dX12_isFunction_5 : decode cX12_isFunction 5 = .ok (.iconst 3, 1) := by decide +kernel
theorem dX12_isFunction_6 : decode cX12_isFunction 6 = .ok (.if_icmp .ge 7, 3) := by decide +kernel
theorem dX12_isFunction_9 : decode cX12_isFunction 9 = .ok (.iconst 1, 1) := by decide +kernel
theorem dX12_isFunction_10 : decode cX12_isFunction 10 = .ok (.goto 4, 3) := by decide +kernel
theorem dX12_isFunction_13 : decode cX12_isFunction 13 = .ok (.iconst 0, 1) := by decide +kernel
theorem dX12_isFunction_14 : decode cX12_isFunction 14 = .ok (.ireturn, 1) := by decide +kernel
theorem dX12_run_0 : decode cX12_run 0 = .ok (.aload_n 0, 1) := by decide +kernel
theorem dX12_run_1 : decode cX12_run 1 = .ok (.iload_n 1, 1) := by decide +kernel
theorem dX12_run_2 : decode cX12_run 2 = .ok (.invokevirtual 83, 3) := by decide +kernel
theorem dX12_run_5 : decode cX12_run 5 = .ok (.ifCond .ne 5, 3) := by decide +kernel
theorem dX12_run_8 : decode cX12_run 8 = .ok (.iconst (-1), 1) := by decide +kernel
theorem dX12_run_9 : decode cX12_run 9 = .ok (.ireturn, 1) := by decide +kernel
theorem dX12_run_10 : decode cX12_run 10 = .ok (.aload_n 0, 1) := by decide +kernel
theorem dX12_run_11 : decode cX12_run 11 = .ok (.getfield 21, 3) := by decide +kernel
theorem dX12_run_14 : decode cX12_run 14 = .ok (.aload_n 0, 1) := by decide +kernel
theorem dX12_run_15 : decode cX12_run 15 = .ok (.getfield 28, 3) := by decide +kernel
theorem dX12_run_18 : decode cX12_run 18 = .ok (.iload_n 1, 1) := by decide +kernel
theorem dX12_run_19 : decode cX12_run 19 = .ok (.invokevirtual 121, 3) := by decide +kernel
theorem dX12_run_22 : decode cX12_run 22 = .ok (.aload_n 0, 1) := by decide +kernel
theorem dX12_run_23 : decode cX12_run 23 = .ok (.getfield 28, 3) := by decide +kernel
theorem dX12_run_26 : decode cX12_run 26 = .ok (.getfield 125, 3) := by decide +kernel
theorem dX12_run_29 : decode cX12_run 29 = .ok (.getfield 129, 3) := by decide +kernel
theorem dX12_run_32 : decode cX12_run 32 = .ok (.ireturn, 1) := by decide +kernel
theorem dX12_told_0 : decode cX12_told 0 = .ok (.iload_n 1, 1) := by decide +kernel
theorem dX12_told_1 : decode cX12_told 1 = .ok (.bipush 10, 2) := by decide +kernel
theorem dX12_told_3 : decode cX12_told 3 = .ok (.if_icmp .lt 23, 3) := by decide +kernel
theorem dX12_told_6 : decode cX12_told 6 = .ok (.iload_n 1, 1) := by decide +kernel
theorem dX12_told_7 : decode cX12_told 7 = .ok (.bipush 15, 2) := by decide +kernel
theorem dX12_told_9 : decode cX12_told 9 = .ok (.if_icmp .ge 17, 3) := by decide +kernel
theorem dX12_told_12 : decode cX12_told 12 = .ok (.aload_n 0, 1) := by decide +kernel
theorem dX12_told_13 : decode cX12_told 13 = .ok (.getfield 28, 3) := by decide +kernel
theorem dX12_told_16 : decode cX12_told 16 = .ok (.getfield 118, 3) := by decide +kernel
theorem dX12_told_19 : decode cX12_told 19 = .ok (.iload_n 1, 1) := by decide +kernel
theorem dX12_told_20 : decode cX12_told 20 = .ok (.bipush 10, 2) := by decide +kernel
theorem dX12_told_22 : decode cX12_told 22 = .ok (.isub, 1) := by decide +kernel
theorem dX12_told_23 : decode cX12_told 23 = .ok (.iaload, 1) := by decide +kernel
theorem dX12_told_24 : decode cX12_told 24 = .ok (.i2l, 1) := by decide +kernel
theorem dX12_told_25 : decode cX12_told 25 = .ok (.lreturn, 1) := by decide +kernel
theorem dX12_told_26 : decode cX12_told 26 = .ok (.iload_n 1, 1) := by decide +kernel
theorem dX12_told_27 : decode cX12_told 27 = .ok (.bipush 20, 2) := by decide +kernel
theorem dX12_told_29 : decode cX12_told 29 = .ok (.if_icmp .lt 23, 3) := by decide +kernel
theorem dX12_told_32 : decode cX12_told 32 = .ok (.iload_n 1, 1) := by decide +kernel
theorem dX12_told_33 : decode cX12_told 33 = .ok (.bipush 23, 2) := by decide +kernel
theorem dX12_told_35 : decode cX12_told 35 = .ok (.if_icmp .ge 17, 3) := by decide +kernel
theorem dX12_told_38 : decode cX12_told 38 = .ok (.aload_n 0, 1) := by decide +kernel
theorem dX12_told_39 : decode cX12_told 39 = .ok (.getfield 28, 3) := by decide +kernel
theorem dX12_told_42 : decode cX12_told 42 = .ok (.getfield 107, 3) := by decide +kernel
theorem dX12_told_45 : decode cX12_told 45 = .ok (.iload_n 1, 1) := by decide +kernel
theorem dX12_told_46 : decode cX12_told 46 = .ok (.bipush 20, 2) := by decide +kernel
theorem dX12_told_48 : decode cX12_told 48 = .ok (.isub, 1) := by decide +kernel
theorem dX12_told_49 : decode cX12_told 49 = .ok (.iaload, 1) := by decide +kernel
theorem dX12_told_50 : decode cX12_told 50 = .ok (.i2l, 1) := by decide +kernel
theorem dX12_told_51 : decode cX12_told 51 = .ok (.lreturn, 1) := by decide +kernel
theorem dX12_told_52 : decode cX12_told 52 = .ok (.iload_n 1, 1) := by decide +kernel
theorem dX12_told_53 : decode cX12_told 53 = .ok (.bipush 30, 2) := by decide +kernel
theorem dX12_told_55 : decode cX12_told 55 = .ok (.if_icmp .ne 14, 3) := by decide +kernel
theorem dX12_told_58 : decode cX12_told 58 = .ok (.aload_n 0, 1) := by decide +kernel
theorem dX12_told_59 : decode cX12_told 59 = .ok (.getfield 28, 3) := by decide +kernel
theorem dX12_told_62 : decode cX12_told 62 = .ok (.getfield 110, 3) := by decide +kernel
theorem dX12_told_65 : decode cX12_told 65 = .ok (.i2l, 1) := by decide +kernel
theorem dX12_told_66 : decode cX12_told 66 = .ok (.goto 11, 3) := by decide +kernel
theorem dX12_told_69 : decode cX12_told 69 = .ok (.aload_n 0, 1) := by decide +kernel
theorem dX12_told_70 : decode cX12_told 70 = .ok (.getfield 28, 3) := by decide +kernel
theorem dX12_told_73 : decode cX12_told 73 = .ok (.iload_n 1, 1) := by decide +kernel
theorem dX12_told_74 : decode cX12_told 74 = .ok (.invokestatic 134, 3) := by decide +kernel
theorem dX12_told_77 : decode cX12_told 77 = .ok (.lreturn, 1) := by decide +kernel
theorem dX12_ofRun_0 : decode cX12_ofRun 0 = .ok (.iload_n 1, 1) := by decide +kernel
theorem dX12_ofRun_1 : decode cX12_ofRun 1 = .ok (.tableswitch 48 0 2 #[27, 36, 42], 27) := by decide +kernel
theorem dX12_ofRun_28 : decode cX12_ofRun 28 = .ok (.aload_n 0, 1) := by decide +kernel
theorem dX12_ofRun_29 : decode cX12_ofRun 29 = .ok (.getfield 125, 3) := by decide +kernel
theorem dX12_ofRun_32 : decode cX12_ofRun 32 = .ok (.getfield 129, 3) := by decide +kernel
theorem dX12_ofRun_35 : decode cX12_ofRun 35 = .ok (.i2l, 1) := by decide +kernel
theorem dX12_ofRun_36 : decode cX12_ofRun 36 = .ok (.lreturn, 1) := by decide +kernel
theorem dX12_ofRun_37 : decode cX12_ofRun 37 = .ok (.aload_n 0, 1) := by decide +kernel
theorem dX12_ofRun_38 : decode cX12_ofRun 38 = .ok (.getfield 138, 3) := by decide +kernel
theorem dX12_ofRun_41 : decode cX12_ofRun 41 = .ok (.i2l, 1) := by decide +kernel
theorem dX12_ofRun_42 : decode cX12_ofRun 42 = .ok (.lreturn, 1) := by decide +kernel
theorem dX12_ofRun_43 : decode cX12_ofRun 43 = .ok (.aload_n 0, 1) := by decide +kernel
theorem dX12_ofRun_44 : decode cX12_ofRun 44 = .ok (.getfield 141, 3) := by decide +kernel
theorem dX12_ofRun_47 : decode cX12_ofRun 47 = .ok (.i2l, 1) := by decide +kernel
theorem dX12_ofRun_48 : decode cX12_ofRun 48 = .ok (.lreturn, 1) := by decide +kernel
theorem dX12_ofRun_49 : decode cX12_ofRun 49 = .ok (.iload_n 1, 1) := by decide +kernel
theorem dX12_ofRun_50 : decode cX12_ofRun 50 = .ok (.bipush 40, 2) := by decide +kernel
theorem dX12_ofRun_52 : decode cX12_ofRun 52 = .ok (.if_icmp .ge 9, 3) := by decide +kernel
theorem dX12_ofRun_55 : decode cX12_ofRun 55 = .ok (.ldc2_w 116, 3) := by decide +kernel
theorem dX12_ofRun_58 : decode cX12_ofRun 58 = .ok (.goto 14, 3) := by decide +kernel
theorem dX12_ofRun_61 : decode cX12_ofRun 61 = .ok (.aload_n 0, 1) := by decide +kernel
theorem dX12_ofRun_62 : decode cX12_ofRun 62 = .ok (.getfield 125, 3) := by decide +kernel
theorem dX12_ofRun_65 : decode cX12_ofRun 65 = .ok (.iload_n 1, 1) := by decide +kernel
theorem dX12_ofRun_66 : decode cX12_ofRun 66 = .ok (.bipush 40, 2) := by decide +kernel
theorem dX12_ofRun_68 : decode cX12_ofRun 68 = .ok (.isub, 1) := by decide +kernel
theorem dX12_ofRun_69 : decode cX12_ofRun 69 = .ok (.invokevirtual 144, 3) := by decide +kernel
theorem dX12_ofRun_72 : decode cX12_ofRun 72 = .ok (.lreturn, 1) := by decide +kernel
theorem dX12_job_0 : decode cX12_job 0 = .ok (.aload_n 0, 1) := by decide +kernel
theorem dX12_job_1 : decode cX12_job 1 = .ok (.iload_n 1, 1) := by decide +kernel
theorem dX12_job_2 : decode cX12_job 2 = .ok (.invokevirtual 83, 3) := by decide +kernel
theorem dX12_job_5 : decode cX12_job 5 = .ok (.ifCond .ne 5, 3) := by decide +kernel
theorem dX12_job_8 : decode cX12_job 8 = .ok (.iconst (-1), 1) := by decide +kernel
theorem dX12_job_9 : decode cX12_job 9 = .ok (.ireturn, 1) := by decide +kernel
theorem dX12_job_10 : decode cX12_job 10 = .ok (.iconst 0, 1) := by decide +kernel
theorem dX12_job_11 : decode cX12_job 11 = .ok (.istore_n 2, 1) := by decide +kernel
theorem dX12_job_12 : decode cX12_job 12 = .ok (.iload_n 2, 1) := by decide +kernel
theorem dX12_job_13 : decode cX12_job 13 = .ok (.iconst 4, 1) := by decide +kernel
theorem dX12_job_14 : decode cX12_job 14 = .ok (.if_icmp .ge 56, 3) := by decide +kernel
theorem dX12_job_17 : decode cX12_job 17 = .ok (.aload_n 0, 1) := by decide +kernel
theorem dX12_job_18 : decode cX12_job 18 = .ok (.getfield 47, 3) := by decide +kernel
theorem dX12_job_21 : decode cX12_job 21 = .ok (.iload_n 2, 1) := by decide +kernel
theorem dX12_job_22 : decode cX12_job 22 = .ok (.iaload, 1) := by decide +kernel
theorem dX12_job_23 : decode cX12_job 23 = .ok (.bipush (-5), 2) := by decide +kernel
theorem dX12_job_25 : decode cX12_job 25 = .ok (.if_icmp .ne 39, 3) := by decide +kernel
theorem dX12_job_28 : decode cX12_job 28 = .ok (.aload_n 0, 1) := by decide +kernel
theorem dX12_job_29 : decode cX12_job 29 = .ok (.getfield 47, 3) := by decide +kernel
theorem dX12_job_32 : decode cX12_job 32 = .ok (.iload_n 2, 1) := by decide +kernel
theorem dX12_job_33 : decode cX12_job 33 = .ok (.iload_n 1, 1) := by decide +kernel
theorem dX12_job_34 : decode cX12_job 34 = .ok (.iastore, 1) := by decide +kernel
theorem dX12_job_35 : decode cX12_job 35 = .ok (.aload_n 0, 1) := by decide +kernel
theorem dX12_job_36 : decode cX12_job 36 = .ok (.getfield 51, 3) := by decide +kernel
theorem dX12_job_39 : decode cX12_job 39 = .ok (.iload_n 2, 1) := by decide +kernel
theorem dX12_job_40 : decode cX12_job 40 = .ok (.bipush 60, 2) := by decide +kernel
theorem dX12_job_42 : decode cX12_job 42 = .ok (.iastore, 1) := by decide +kernel
theorem dX12_job_43 : decode cX12_job 43 = .ok (.aload_n 0, 1) := by decide +kernel
theorem dX12_job_44 : decode cX12_job 44 = .ok (.getfield 43, 3) := by decide +kernel
theorem dX12_job_47 : decode cX12_job 47 = .ok (.iload_n 2, 1) := by decide +kernel
theorem dX12_job_48 : decode cX12_job 48 = .ok (.aaload, 1) := by decide +kernel
theorem dX12_job_49 : decode cX12_job 49 = .ok (.aload_n 0, 1) := by decide +kernel
theorem dX12_job_50 : decode cX12_job 50 = .ok (.getfield 21, 3) := by decide +kernel
theorem dX12_job_53 : decode cX12_job 53 = .ok (.iload_n 1, 1) := by decide +kernel
theorem dX12_job_54 : decode cX12_job 54 = .ok (.invokevirtual 148, 3) := by decide +kernel
theorem dX12_job_57 : decode cX12_job 57 = .ok (.iconst 0, 1) := by decide +kernel
theorem dX12_job_58 : decode cX12_job 58 = .ok (.iconst 0, 1) := by decide +kernel
theorem dX12_job_59 : decode cX12_job 59 = .ok (.invokevirtual 152, 3) := by decide +kernel
theorem dX12_job_62 : decode cX12_job 62 = .ok (.iload_n 2, 1) := by decide +kernel
theorem dX12_job_63 : decode cX12_job 63 = .ok (.ireturn, 1) := by decide +kernel
theorem dX12_job_64 : decode cX12_job 64 = .ok (.iinc 2 1, 3) := by decide +kernel
theorem dX12_job_67 : decode cX12_job 67 = .ok (.goto (-55), 3) := by decide +kernel
theorem dX12_job_70 : decode cX12_job 70 = .ok (.bipush (-4), 2) := by decide +kernel
theorem dX12_job_72 : decode cX12_job 72 = .ok (.ireturn, 1) := by decide +kernel
theorem dX12_turn_0 : decode cX12_turn 0 = .ok (.aload_n 0, 1) := by decide +kernel
theorem dX12_turn_1 : decode cX12_turn 1 = .ok (.iload_n 1, 1) := by decide +kernel
theorem dX12_turn_2 : decode cX12_turn 2 = .ok (.invokevirtual 156, 3) := by decide +kernel
theorem dX12_turn_5 : decode cX12_turn 5 = .ok (.ifCond .ne 7, 3) := by decide +kernel
theorem dX12_turn_8 : decode cX12_turn 8 = .ok (.ldc2_w 116, 3) := by decide +kernel
theorem dX12_turn_11 : decode cX12_turn 11 = .ok (.lreturn, 1) := by decide +kernel
theorem dX12_turn_12 : decode cX12_turn 12 = .ok (.aload_n 0, 1) := by decide +kernel
theorem dX12_turn_13 : decode cX12_turn 13 = .ok (.getfield 21, 3) := by decide +kernel
theorem dX12_turn_16 : decode cX12_turn 16 = .ok (.aload_n 0, 1) := by decide +kernel
theorem dX12_turn_17 : decode cX12_turn 17 = .ok (.getfield 51, 3) := by decide +kernel
theorem dX12_turn_20 : decode cX12_turn 20 = .ok (.iload_n 1, 1) := by decide +kernel
theorem dX12_turn_21 : decode cX12_turn 21 = .ok (.iaload, 1) := by decide +kernel
theorem dX12_turn_22 : decode cX12_turn 22 = .ok (.putfield 159, 3) := by decide +kernel
theorem dX12_turn_25 : decode cX12_turn 25 = .ok (.aload_n 0, 1) := by decide +kernel
theorem dX12_turn_26 : decode cX12_turn 26 = .ok (.getfield 21, 3) := by decide +kernel
theorem dX12_turn_29 : decode cX12_turn 29 = .ok (.aload_n 0, 1) := by decide +kernel
theorem dX12_turn_30 : decode cX12_turn 30 = .ok (.getfield 28, 3) := by decide +kernel
theorem dX12_turn_33 : decode cX12_turn 33 = .ok (.aload_n 0, 1) := by decide +kernel
theorem dX12_turn_34 : decode cX12_turn 34 = .ok (.getfield 43, 3) := by decide +kernel
theorem dX12_turn_37 : decode cX12_turn 37 = .ok (.iload_n 1, 1) := by decide +kernel
theorem dX12_turn_38 : decode cX12_turn 38 = .ok (.aaload, 1) := by decide +kernel
theorem dX12_turn_39 : decode cX12_turn 39 = .ok (.iconst 0, 1) := by decide +kernel
theorem dX12_turn_40 : decode cX12_turn 40 = .ok (.invokevirtual 162, 3) := by decide +kernel
theorem dX12_turn_43 : decode cX12_turn 43 = .ok (.lstore_n 2, 1) := by decide +kernel
theorem dX12_turn_44 : decode cX12_turn 44 = .ok (.aload_n 0, 1) := by decide +kernel
theorem dX12_turn_45 : decode cX12_turn 45 = .ok (.getfield 51, 3) := by decide +kernel
theorem dX12_turn_48 : decode cX12_turn 48 = .ok (.iload_n 1, 1) := by decide +kernel
theorem dX12_turn_49 : decode cX12_turn 49 = .ok (.aload_n 0, 1) := by decide +kernel
theorem dX12_turn_50 : decode cX12_turn 50 = .ok (.getfield 21, 3) := by decide +kernel
theorem dX12_turn_53 : decode cX12_turn 53 = .ok (.getfield 159, 3) := by decide +kernel
theorem dX12_turn_56 : decode cX12_turn 56 = .ok (.iastore, 1) := by decide +kernel
theorem dX12_turn_57 : decode cX12_turn 57 = .ok (.lload_n 2, 1) := by decide +kernel
theorem dX12_turn_58 : decode cX12_turn 58 = .ok (.ldc2_w 116, 3) := by decide +kernel
theorem dX12_turn_61 : decode cX12_turn 61 = .ok (.lcmp, 1) := by decide +kernel
theorem dX12_turn_62 : decode cX12_turn 62 = .ok (.ifCond .ne 11, 3) := by decide +kernel
theorem dX12_turn_65 : decode cX12_turn 65 = .ok (.aload_n 0, 1) := by decide +kernel
theorem dX12_turn_66 : decode cX12_turn 66 = .ok (.getfield 47, 3) := by decide +kernel
theorem dX12_turn_69 : decode cX12_turn 69 = .ok (.iload_n 1, 1) := by decide +kernel
theorem dX12_turn_70 : decode cX12_turn 70 = .ok (.bipush (-5), 2) := by decide +kernel
theorem dX12_turn_72 : decode cX12_turn 72 = .ok (.iastore, 1) := by decide +kernel
theorem dX12_turn_73 : decode cX12_turn 73 = .ok (.lload_n 2, 1) := by decide +kernel
theorem dX12_turn_74 : decode cX12_turn 74 = .ok (.lreturn, 1) := by decide +kernel
theorem dX12_stop_0 : decode cX12_stop 0 = .ok (.aload_n 0, 1) := by decide +kernel
theorem dX12_stop_1 : decode cX12_stop 1 = .ok (.iload_n 1, 1) := by decide +kernel
theorem dX12_stop_2 : decode cX12_stop 2 = .ok (.invokevirtual 156, 3) := by decide +kernel
theorem dX12_stop_5 : decode cX12_stop 5 = .ok (.ifCond .ne 5, 3) := by decide +kernel
theorem dX12_stop_8 : decode cX12_stop 8 = .ok (.iconst (-1), 1) := by decide +kernel
theorem dX12_stop_9 : decode cX12_stop 9 = .ok (.ireturn, 1) := by decide +kernel
theorem dX12_stop_10 : decode cX12_stop 10 = .ok (.aload_n 0, 1) := by decide +kernel
theorem dX12_stop_11 : decode cX12_stop 11 = .ok (.getfield 47, 3) := by decide +kernel
theorem dX12_stop_14 : decode cX12_stop 14 = .ok (.iload_n 1, 1) := by decide +kernel
theorem dX12_stop_15 : decode cX12_stop 15 = .ok (.iaload, 1) := by decide +kernel
theorem dX12_stop_16 : decode cX12_stop 16 = .ok (.istore_n 2, 1) := by decide +kernel
theorem dX12_stop_17 : decode cX12_stop 17 = .ok (.aload_n 0, 1) := by decide +kernel
theorem dX12_stop_18 : decode cX12_stop 18 = .ok (.getfield 47, 3) := by decide +kernel
theorem dX12_stop_21 : decode cX12_stop 21 = .ok (.iload_n 1, 1) := by decide +kernel
theorem dX12_stop_22 : decode cX12_stop 22 = .ok (.bipush (-5), 2) := by decide +kernel
theorem dX12_stop_24 : decode cX12_stop 24 = .ok (.iastore, 1) := by decide +kernel
theorem dX12_stop_25 : decode cX12_stop 25 = .ok (.iload_n 2, 1) := by decide +kernel
theorem dX12_stop_26 : decode cX12_stop 26 = .ok (.ireturn, 1) := by decide +kernel
theorem dX12_isJob_0 : decode cX12_isJob 0 = .ok (.iload_n 1, 1) := by decide +kernel
theorem dX12_isJob_1 : decode cX12_isJob 1 = .ok (.ifCond .lt 23, 3) := by decide +kernel
theorem dX12_isJob_4 : decode cX12_isJob 4 = .ok (.iload_n 1, 1) := by decide +kernel
theorem dX12_isJob_5 : decode cX12_isJob 5 = .ok (.iconst 4, 1) := by decide +kernel
theorem dX12_isJob_6 : decode cX12_isJob 6 = .ok (.if_icmp .ge 18, 3) := by decide +kernel
theorem dX12_isJob_9 : decode cX12_isJob 9 = .ok (.aload_n 0, 1) := by decide +kernel
theorem dX12_isJob_10 : decode cX12_isJob 10 = .ok (.getfield 47, 3) := by decide +kernel
theorem dX12_isJob_13 : decode cX12_isJob 13 = .ok (.iload_n 1, 1) := by decide +kernel
theorem dX12_isJob_14 : decode cX12_isJob 14 = .ok (.iaload, 1) := by decide +kernel
theorem dX12_isJob_15 : decode cX12_isJob 15 = .ok (.bipush (-5), 2) := by decide +kernel
theorem dX12_isJob_17 : decode cX12_isJob 17 = .ok (.if_icmp .eq 7, 3) := by decide +kernel
theorem dX12_isJob_20 : decode cX12_isJob 20 = .ok (.iconst 1, 1) := by decide +kernel
theorem dX12_isJob_21 : decode cX12_isJob 21 = .ok (.goto 4, 3) := by decide +kernel
theorem dX12_isJob_24 : decode cX12_isJob 24 = .ok (.iconst 0, 1) := by decide +kernel
theorem dX12_isJob_25 : decode cX12_isJob 25 = .ok (.ireturn, 1) := by decide +kernel
theorem dX12_on_0 : decode cX12_on 0 = .ok (.aload_n 0, 1) := by decide +kernel
theorem dX12_on_1 : decode cX12_on 1 = .ok (.iload_n 1, 1) := by decide +kernel
theorem dX12_on_2 : decode cX12_on 2 = .ok (.invokevirtual 83, 3) := by decide +kernel
theorem dX12_on_5 : decode cX12_on 5 = .ok (.ifCond .ne 7, 3) := by decide +kernel
theorem dX12_on_8 : decode cX12_on 8 = .ok (.ldc2_w 116, 3) := by decide +kernel
theorem dX12_on_11 : decode cX12_on 11 = .ok (.lreturn, 1) := by decide +kernel
theorem dX12_on_12 : decode cX12_on 12 = .ok (.aload_n 0, 1) := by decide +kernel
theorem dX12_on_13 : decode cX12_on 13 = .ok (.aload_n 0, 1) := by decide +kernel
theorem dX12_on_14 : decode cX12_on 14 = .ok (.getfield 35, 3) := by decide +kernel
theorem dX12_on_17 : decode cX12_on 17 = .ok (.iload_n 1, 1) := by decide +kernel
theorem dX12_on_18 : decode cX12_on 18 = .ok (.invokevirtual 166, 3) := by decide +kernel
theorem dX12_on_21 : decode cX12_on 21 = .ok (.iload_n 2, 1) := by decide +kernel
theorem dX12_on_22 : decode cX12_on 22 = .ok (.iconst 3, 1) := by decide +kernel
theorem dX12_on_23 : decode cX12_on 23 = .ok (.if_icmp .ne 14, 3) := by decide +kernel
theorem dX12_on_26 : decode cX12_on 26 = .ok (.aload_n 0, 1) := by decide +kernel
theorem dX12_on_27 : decode cX12_on 27 = .ok (.getfield 21, 3) := by decide +kernel
theorem dX12_on_30 : decode cX12_on 30 = .ok (.getfield 159, 3) := by decide +kernel
theorem dX12_on_33 : decode cX12_on 33 = .ok (.i2l, 1) := by decide +kernel
theorem dX12_on_34 : decode cX12_on 34 = .ok (.goto 11, 3) := by decide +kernel
theorem dX12_on_37 : decode cX12_on 37 = .ok (.aload_n 0, 1) := by decide +kernel
theorem dX12_on_38 : decode cX12_on 38 = .ok (.getfield 35, 3) := by decide +kernel
theorem dX12_on_41 : decode cX12_on 41 = .ok (.iload_n 2, 1) := by decide +kernel
theorem dX12_on_42 : decode cX12_on 42 = .ok (.invokestatic 134, 3) := by decide +kernel
theorem dX12_on_45 : decode cX12_on 45 = .ok (.lreturn, 1) := by decide +kernel
theorem dX12_tryLine_0 : decode cX12_tryLine 0 = .ok (.aload_n 1, 1) := by decide +kernel
theorem dX12_tryLine_1 : decode cX12_tryLine 1 = .ok (.aload_n 0, 1) := by decide +kernel
theorem dX12_tryLine_2 : decode cX12_tryLine 2 = .ok (.getfield 28, 3) := by decide +kernel
theorem dX12_tryLine_5 : decode cX12_tryLine 5 = .ok (.invokevirtual 169, 3) := by decide +kernel
theorem dX12_tryLine_8 : decode cX12_tryLine 8 = .ok (.aload_n 0, 1) := by decide +kernel
theorem dX12_tryLine_9 : decode cX12_tryLine 9 = .ok (.getfield 21, 3) := by decide +kernel
theorem dX12_tryLine_12 : decode cX12_tryLine 12 = .ok (.aload_n 1, 1) := by decide +kernel
theorem dX12_tryLine_13 : decode cX12_tryLine 13 = .ok (.iload_n 2, 1) := by decide +kernel
theorem dX12_tryLine_14 : decode cX12_tryLine 14 = .ok (.invokevirtual 121, 3) := by decide +kernel
theorem dX12_tryLine_17 : decode cX12_tryLine 17 = .ok (.return_, 1) := by decide +kernel
theorem dX12_tryLineWith_0 : decode cX12_tryLineWith 0 = .ok (.aload_n 0, 1) := by decide +kernel
theorem dX12_tryLineWith_1 : decode cX12_tryLineWith 1 = .ok (.getfield 35, 3) := by decide +kernel
theorem dX12_tryLineWith_4 : decode cX12_tryLineWith 4 = .ok (.aload_n 0, 1) := by decide +kernel
theorem dX12_tryLineWith_5 : decode cX12_tryLineWith 5 = .ok (.getfield 28, 3) := by decide +kernel
theorem dX12_tryLineWith_8 : decode cX12_tryLineWith 8 = .ok (.invokevirtual 169, 3) := by decide +kernel
theorem dX12_tryLineWith_11 : decode cX12_tryLineWith 11 = .ok (.aload_n 0, 1) := by decide +kernel
theorem dX12_tryLineWith_12 : decode cX12_tryLineWith 12 = .ok (.getfield 35, 3) := by decide +kernel
theorem dX12_tryLineWith_15 : decode cX12_tryLineWith 15 = .ok (.getfield 118, 3) := by decide +kernel
theorem dX12_tryLineWith_18 : decode cX12_tryLineWith 18 = .ok (.iload_n 2, 1) := by decide +kernel
theorem dX12_tryLineWith_19 : decode cX12_tryLineWith 19 = .ok (.iload_n 3, 1) := by decide +kernel
theorem dX12_tryLineWith_20 : decode cX12_tryLineWith 20 = .ok (.iastore, 1) := by decide +kernel
theorem dX12_tryLineWith_21 : decode cX12_tryLineWith 21 = .ok (.aload_n 0, 1) := by decide +kernel
theorem dX12_tryLineWith_22 : decode cX12_tryLineWith 22 = .ok (.getfield 21, 3) := by decide +kernel
theorem dX12_tryLineWith_25 : decode cX12_tryLineWith 25 = .ok (.aload_n 0, 1) := by decide +kernel
theorem dX12_tryLineWith_26 : decode cX12_tryLineWith 26 = .ok (.getfield 35, 3) := by decide +kernel
theorem dX12_tryLineWith_29 : decode cX12_tryLineWith 29 = .ok (.iload_n 1, 1) := by decide +kernel
theorem dX12_tryLineWith_30 : decode cX12_tryLineWith 30 = .ok (.invokevirtual 121, 3) := by decide +kernel
theorem dX12_tryLineWith_33 : decode cX12_tryLineWith 33 = .ok (.return_, 1) := by decide +kernel
theorem dX12_see_0 : decode cX12_see 0 = .ok (.iload_n 1, 1) := by decide +kernel
theorem dX12_see_1 : decode cX12_see 1 = .ok (.iconst (-1), 1) := by decide +kernel
theorem dX12_see_2 : decode cX12_see 2 = .ok (.if_icmp .ne 14, 3) := by decide +kernel
theorem dX12_see_5 : decode cX12_see 5 = .ok (.aload_n 0, 1) := by decide +kernel
theorem dX12_see_6 : decode cX12_see 6 = .ok (.getfield 28, 3) := by decide +kernel
theorem dX12_see_9 : decode cX12_see 9 = .ok (.getfield 173, 3) := by decide +kernel
theorem dX12_see_12 : decode cX12_see 12 = .ok (.invokevirtual 177, 3) := by decide +kernel
theorem dX12_see_15 : decode cX12_see 15 = .ok (.ireturn, 1) := by decide +kernel
theorem dX12_see_16 : decode cX12_see 16 = .ok (.iload_n 1, 1) := by decide +kernel
theorem dX12_see_17 : decode cX12_see 17 = .ok (.ifCond .lt 9, 3) := by decide +kernel
theorem dX12_see_20 : decode cX12_see 20 = .ok (.iload_n 1, 1) := by decide +kernel
theorem dX12_see_21 : decode cX12_see 21 = .ok (.bipush 60, 2) := by decide +kernel
theorem dX12_see_23 : decode cX12_see 23 = .ok (.if_icmp .lt 6, 3) := by decide +kernel
theorem dX12_see_26 : decode cX12_see 26 = .ok (.bipush (-2), 2) := by decide +kernel
theorem dX12_see_28 : decode cX12_see 28 = .ok (.ireturn, 1) := by decide +kernel
theorem dX12_see_29 : decode cX12_see 29 = .ok (.aload_n 0, 1) := by decide +kernel
theorem dX12_see_30 : decode cX12_see 30 = .ok (.getfield 28, 3) := by decide +kernel
theorem dX12_see_33 : decode cX12_see 33 = .ok (.getfield 173, 3) := by decide +kernel
theorem dX12_see_36 : decode cX12_see 36 = .ok (.iload_n 1, 1) := by decide +kernel
theorem dX12_see_37 : decode cX12_see 37 = .ok (.iload_n 2, 1) := by decide +kernel
theorem dX12_see_38 : decode cX12_see 38 = .ok (.invokevirtual 183, 3) := by decide +kernel
theorem dX12_see_41 : decode cX12_see 41 = .ok (.ireturn, 1) := by decide +kernel
theorem dX12_fits_0 : decode cX12_fits 0 = .ok (.aload_n 0, 1) := by decide +kernel
theorem dX12_fits_1 : decode cX12_fits 1 = .ok (.iload_n 1, 1) := by decide +kernel
theorem dX12_fits_2 : decode cX12_fits 2 = .ok (.invokevirtual 83, 3) := by decide +kernel
theorem dX12_fits_5 : decode cX12_fits 5 = .ok (.ifCond .eq 19, 3) := by decide +kernel
theorem dX12_fits_8 : decode cX12_fits 8 = .ok (.iload_n 2, 1) := by decide +kernel
theorem dX12_fits_9 : decode cX12_fits 9 = .ok (.invokestatic 113, 3) := by decide +kernel
theorem dX12_fits_12 : decode cX12_fits 12 = .ok (.ifCond .eq 12, 3) := by decide +kernel
theorem dX12_fits_15 : decode cX12_fits 15 = .ok (.iload_n 3, 1) := by decide +kernel
theorem dX12_fits_16 : decode cX12_fits 16 = .ok (.ifCond .lt 8, 3) := by decide +kernel
theorem dX12_fits_19 : decode cX12_fits 19 = .ok (.iload_n 3, 1) := by decide +kernel
theorem dX12_fits_20 : decode cX12_fits 20 = .ok (.iconst 1, 1) := by decide +kernel
theorem dX12_fits_21 : decode cX12_fits 21 = .ok (.if_icmp .le 5, 3) := by decide +kernel
theorem dX12_fits_24 : decode cX12_fits 24 = .ok (.iconst (-1), 1) := by decide +kernel
theorem dX12_fits_25 : decode cX12_fits 25 = .ok (.ireturn, 1) := by decide +kernel
theorem dX12_fits_26 : decode cX12_fits 26 = .ok (.iconst 0, 1) := by decide +kernel
theorem dX12_fits_27 : decode cX12_fits 27 = .ok (.istore 4, 2) := by decide +kernel
theorem dX12_fits_29 : decode cX12_fits 29 = .ok (.bipush (-5), 2) := by decide +kernel
theorem dX12_fits_31 : decode cX12_fits 31 = .ok (.istore 5, 2) := by decide +kernel
theorem dX12_fits_33 : decode cX12_fits 33 = .ok (.iconst 0, 1) := by decide +kernel
theorem dX12_fits_34 : decode cX12_fits 34 = .ok (.istore 6, 2) := by decide +kernel
theorem dX12_fits_36 : decode cX12_fits 36 = .ok (.iload 6, 2) := by decide +kernel
theorem dX12_fits_38 : decode cX12_fits 38 = .ok (.bipush 20, 2) := by decide +kernel
theorem dX12_fits_40 : decode cX12_fits 40 = .ok (.if_icmp .ge 45, 3) := by decide +kernel
theorem dX12_fits_43 : decode cX12_fits 43 = .ok (.aload_n 0, 1) := by decide +kernel
theorem dX12_fits_44 : decode cX12_fits 44 = .ok (.iload_n 1, 1) := by decide +kernel
theorem dX12_fits_45 : decode cX12_fits 45 = .ok (.iload_n 2, 1) := by decide +kernel
theorem dX12_fits_46 : decode cX12_fits 46 = .ok (.iload 6, 2) := by decide +kernel
theorem dX12_fits_48 : decode cX12_fits 48 = .ok (.invokevirtual 186, 3) := by decide +kernel
theorem dX12_fits_51 : decode cX12_fits 51 = .ok (.aload_n 0, 1) := by decide +kernel
theorem dX12_fits_52 : decode cX12_fits 52 = .ok (.aload_n 0, 1) := by decide +kernel
theorem dX12_fits_53 : decode cX12_fits 53 = .ok (.getfield 35, 3) := by decide +kernel
theorem dX12_fits_56 : decode cX12_fits 56 = .ok (.getfield 125, 3) := by decide +kernel
theorem dX12_fits_59 : decode cX12_fits 59 = .ok (.invokevirtual 190, 3) := by decide +kernel
theorem dX12_fits_62 : decode cX12_fits 62 = .ok (.ifCond .eq 17, 3) := by decide +kernel
theorem dX12_fits_65 : decode cX12_fits 65 = .ok (.iinc 4 1, 3) := by decide +kernel
theorem dX12_fits_68 : decode cX12_fits 68 = .ok (.iload 5, 2) := by decide +kernel
theorem dX12_fits_70 : decode cX12_fits 70 = .ok (.bipush (-5), 2) := by decide +kernel
theorem dX12_fits_72 : decode cX12_fits 72 = .ok (.if_icmp .ne 7, 3) := by decide +kernel
theorem dX12_fits_75 : decode cX12_fits 75 = .ok (.iload 6, 2) := by decide +kernel
theorem dX12_fits_77 : decode cX12_fits 77 = .ok (.istore 5, 2) := by decide +kernel
theorem dX12_fits_79 : decode cX12_fits 79 = .ok (.iinc 6 1, 3) := by decide +kernel
theorem dX12_fits_82 : decode cX12_fits 82 = .ok (.goto (-46), 3) := by decide +kernel
theorem dX12_fits_85 : decode cX12_fits 85 = .ok (.iload_n 3, 1) := by decide +kernel
theorem dX12_fits_86 : decode cX12_fits 86 = .ok (.ifCond .ne 8, 3) := by decide +kernel
theorem dX12_fits_89 : decode cX12_fits 89 = .ok (.iload 4, 2) := by decide +kernel
theorem dX12_fits_91 : decode cX12_fits 91 = .ok (.goto 5, 3) := by decide +kernel
theorem dX12_fits_94 : decode cX12_fits 94 = .ok (.iload 5, 2) := by decide +kernel
theorem dX12_fits_96 : decode cX12_fits 96 = .ok (.ireturn, 1) := by decide +kernel
theorem dX12_hasAllSeen_0 : decode cX12_hasAllSeen 0 = .ok (.iconst 0, 1) := by decide +kernel
theorem dX12_hasAllSeen_1 : decode cX12_hasAllSeen 1 = .ok (.istore_n 2, 1) := by decide +kernel
theorem dX12_hasAllSeen_2 : decode cX12_hasAllSeen 2 = .ok (.iload_n 2, 1) := by decide +kernel
theorem dX12_hasAllSeen_3 : decode cX12_hasAllSeen 3 = .ok (.aload_n 0, 1) := by decide +kernel
theorem dX12_hasAllSeen_4 : decode cX12_hasAllSeen 4 = .ok (.getfield 28, 3) := by decide +kernel
theorem dX12_hasAllSeen_7 : decode cX12_hasAllSeen 7 = .ok (.getfield 173, 3) := by decide +kernel
theorem dX12_hasAllSeen_10 : decode cX12_hasAllSeen 10 = .ok (.getfield 194, 3) := by decide +kernel
theorem dX12_hasAllSeen_13 : decode cX12_hasAllSeen 13 = .ok (.if_icmp .ge 44, 3) := by decide +kernel
theorem dX12_hasAllSeen_16 : decode cX12_hasAllSeen 16 = .ok (.aload_n 1, 1) := by decide +kernel
theorem dX12_hasAllSeen_17 : decode cX12_hasAllSeen 17 = .ok (.aload_n 0, 1) := by decide +kernel
theorem dX12_hasAllSeen_18 : decode cX12_hasAllSeen 18 = .ok (.getfield 28, 3) := by decide +kernel
theorem dX12_hasAllSeen_21 : decode cX12_hasAllSeen 21 = .ok (.getfield 173, 3) := by decide +kernel
theorem dX12_hasAllSeen_24 : decode cX12_hasAllSeen 24 = .ok (.getfield 195, 3) := by decide +kernel
theorem dX12_hasAllSeen_27 : decode cX12_hasAllSeen 27 = .ok (.iload_n 2, 1) := by decide +kernel
theorem dX12_hasAllSeen_28 : decode cX12_hasAllSeen 28 = .ok (.iaload, 1) := by decide +kernel
theorem dX12_hasAllSeen_29 : decode cX12_hasAllSeen 29 = .ok (.invokevirtual 144, 3) := by decide +kernel
theorem dX12_hasAllSeen_32 : decode cX12_hasAllSeen 32 = .ok (.aload_n 0, 1) := by decide +kernel
theorem dX12_hasAllSeen_33 : decode cX12_hasAllSeen 33 = .ok (.getfield 28, 3) := by decide +kernel
theorem dX12_hasAllSeen_36 : decode cX12_hasAllSeen 36 = .ok (.getfield 173, 3) := by decide +kernel
theorem dX12_hasAllSeen_39 : decode cX12_hasAllSeen 39 = .ok (.getfield 198, 3) := by decide +kernel
theorem dX12_hasAllSeen_42 : decode cX12_hasAllSeen 42 = .ok (.iload_n 2, 1) := by decide +kernel
theorem dX12_hasAllSeen_43 : decode cX12_hasAllSeen 43 = .ok (.iaload, 1) := by decide +kernel
theorem dX12_hasAllSeen_44 : decode cX12_hasAllSeen 44 = .ok (.i2l, 1) := by decide +kernel
theorem dX12_hasAllSeen_45 : decode cX12_hasAllSeen 45 = .ok (.lcmp, 1) := by decide +kernel
theorem dX12_hasAllSeen_46 : decode cX12_hasAllSeen 46 = .ok (.ifCond .eq 5, 3) := by decide +kernel
theorem dX12_hasAllSeen_49 : decode cX12_hasAllSeen 49 = .ok (.iconst 0, 1) := by decide +kernel
theorem dX12_hasAllSeen_50 : decode cX12_hasAllSeen 50 = .ok (.ireturn, 1) := by decide +kernel
theorem dX12_hasAllSeen_51 : decode cX12_hasAllSeen 51 = .ok (.iinc 2 1, 3) := by decide +kernel
theorem dX12_hasAllSeen_54 : decode cX12_hasAllSeen 54 = .ok (.goto (-52), 3) := by decide +kernel
theorem dX12_hasAllSeen_57 : decode cX12_hasAllSeen 57 = .ok (.iconst 1, 1) := by decide +kernel
theorem dX12_hasAllSeen_58 : decode cX12_hasAllSeen 58 = .ok (.ireturn, 1) := by decide +kernel
theorem dX12_alike_0 : decode cX12_alike 0 = .ok (.aload_n 0, 1) := by decide +kernel
theorem dX12_alike_1 : decode cX12_alike 1 = .ok (.iload_n 1, 1) := by decide +kernel
theorem dX12_alike_2 : decode cX12_alike 2 = .ok (.invokevirtual 83, 3) := by decide +kernel
theorem dX12_alike_5 : decode cX12_alike 5 = .ok (.ifCond .eq 11, 3) := by decide +kernel
theorem dX12_alike_8 : decode cX12_alike 8 = .ok (.aload_n 0, 1) := by decide +kernel
theorem dX12_alike_9 : decode cX12_alike 9 = .ok (.iload_n 2, 1) := by decide +kernel
theorem dX12_alike_10 : decode cX12_alike 10 = .ok (.invokevirtual 83, 3) := by decide +kernel
theorem dX12_alike_13 : decode cX12_alike 13 = .ok (.ifCond .ne 5, 3) := by decide +kernel
theorem dX12_alike_16 : decode cX12_alike 16 = .ok (.iconst (-1), 1) := by decide +kernel
theorem dX12_alike_17 : decode cX12_alike 17 = .ok (.ireturn, 1) := by decide +kernel
theorem dX12_alike_18 : decode cX12_alike 18 = .ok (.aload_n 0, 1) := by decide +kernel
theorem dX12_alike_19 : decode cX12_alike 19 = .ok (.aload_n 0, 1) := by decide +kernel
theorem dX12_alike_20 : decode cX12_alike 20 = .ok (.getfield 35, 3) := by decide +kernel
theorem dX12_alike_23 : decode cX12_alike 23 = .ok (.iload_n 1, 1) := by decide +kernel
theorem dX12_alike_24 : decode cX12_alike 24 = .ok (.invokevirtual 166, 3) := by decide +kernel
theorem dX12_alike_27 : decode cX12_alike 27 = .ok (.aload_n 0, 1) := by decide +kernel
theorem dX12_alike_28 : decode cX12_alike 28 = .ok (.aload_n 0, 1) := by decide +kernel
theorem dX12_alike_29 : decode cX12_alike 29 = .ok (.getfield 38, 3) := by decide +kernel
theorem dX12_alike_32 : decode cX12_alike 32 = .ok (.iload_n 2, 1) := by decide +kernel
theorem dX12_alike_33 : decode cX12_alike 33 = .ok (.invokevirtual 166, 3) := by decide +kernel
theorem dX12_alike_36 : decode cX12_alike 36 = .ok (.aload_n 0, 1) := by decide +kernel
theorem dX12_alike_37 : decode cX12_alike 37 = .ok (.getfield 35, 3) := by decide +kernel
theorem dX12_alike_40 : decode cX12_alike 40 = .ok (.getfield 138, 3) := by decide +kernel
theorem dX12_alike_43 : decode cX12_alike 43 = .ok (.aload_n 0, 1) := by decide +kernel
theorem dX12_alike_44 : decode cX12_alike 44 = .ok (.getfield 38, 3) := by decide +kernel
theorem dX12_alike_47 : decode cX12_alike 47 = .ok (.getfield 138, 3) := by decide +kernel
theorem dX12_alike_50 : decode cX12_alike 50 = .ok (.if_icmp .ne 27, 3) := by decide +kernel
theorem dX12_alike_53 : decode cX12_alike 53 = .ok (.aload_n 0, 1) := by decide +kernel
theorem dX12_alike_54 : decode cX12_alike 54 = .ok (.getfield 35, 3) := by decide +kernel
theorem dX12_alike_57 : decode cX12_alike 57 = .ok (.getfield 125, 3) := by decide +kernel
theorem dX12_alike_60 : decode cX12_alike 60 = .ok (.aload_n 0, 1) := by decide +kernel
theorem dX12_alike_61 : decode cX12_alike 61 = .ok (.getfield 38, 3) := by decide +kernel
theorem dX12_alike_64 : decode cX12_alike 64 = .ok (.getfield 125, 3) := by decide +kernel
theorem dX12_alike_67 : decode cX12_alike 67 = .ok (.invokevirtual 201, 3) := by decide +kernel
theorem dX12_alike_70 : decode cX12_alike 70 = .ok (.ifCond .eq 7, 3) := by decide +kernel
theorem dX12_alike_73 : decode cX12_alike 73 = .ok (.iconst 1, 1) := by decide +kernel
theorem dX12_alike_74 : decode cX12_alike 74 = .ok (.goto 4, 3) := by decide +kernel
theorem dX12_alike_77 : decode cX12_alike 77 = .ok (.iconst 0, 1) := by decide +kernel
theorem dX12_alike_78 : decode cX12_alike 78 = .ok (.istore_n 3, 1) := by decide +kernel
theorem dX12_alike_79 : decode cX12_alike 79 = .ok (.iload_n 3, 1) := by decide +kernel
theorem dX12_alike_80 : decode cX12_alike 80 = .ok (.ifCond .eq 7, 3) := by decide +kernel
theorem dX12_alike_83 : decode cX12_alike 83 = .ok (.iconst 1, 1) := by decide +kernel
theorem dX12_alike_84 : decode cX12_alike 84 = .ok (.goto 4, 3) := by decide +kernel
theorem dX12_alike_87 : decode cX12_alike 87 = .ok (.iconst 0, 1) := by decide +kernel
theorem dX12_alike_88 : decode cX12_alike 88 = .ok (.ireturn, 1) := by decide +kernel
theorem dX12_odds_0 : decode cX12_odds 0 = .ok (.aload_n 0, 1) := by decide +kernel
theorem dX12_odds_1 : decode cX12_odds 1 = .ok (.iload_n 1, 1) := by decide +kernel
theorem dX12_odds_2 : decode cX12_odds 2 = .ok (.invokevirtual 83, 3) := by decide +kernel
theorem dX12_odds_5 : decode cX12_odds 5 = .ok (.ifCond .eq 17, 3) := by decide +kernel
theorem dX12_odds_8 : decode cX12_odds 8 = .ok (.iload_n 2, 1) := by decide +kernel
theorem dX12_odds_9 : decode cX12_odds 9 = .ok (.invokestatic 113, 3) := by decide +kernel
theorem dX12_odds_12 : decode cX12_odds 12 = .ok (.ifCond .eq 10, 3) := by decide +kernel
theorem dX12_odds_15 : decode cX12_odds 15 = .ok (.iload_n 3, 1) := by decide +kernel
theorem dX12_odds_16 : decode cX12_odds 16 = .ok (.invokestatic 204, 3) := by decide +kernel
theorem dX12_odds_19 : decode cX12_odds 19 = .ok (.ifCond .ne 7, 3) := by decide +kernel
theorem dX12_odds_22 : decode cX12_odds 22 = .ok (.ldc2_w 116, 3) := by decide +kernel
theorem dX12_odds_25 : decode cX12_odds 25 = .ok (.lreturn, 1) := by decide +kernel
theorem dX12_odds_26 : decode cX12_odds 26 = .ok (.iconst 0, 1) := by decide +kernel
theorem dX12_odds_27 : decode cX12_odds 27 = .ok (.istore 4, 2) := by decide +kernel
theorem dX12_odds_29 : decode cX12_odds 29 = .ok (.iconst 0, 1) := by decide +kernel
theorem dX12_odds_30 : decode cX12_odds 30 = .ok (.istore 5, 2) := by decide +kernel
theorem dX12_odds_32 : decode cX12_odds 32 = .ok (.iload 5, 2) := by decide +kernel
theorem dX12_odds_34 : decode cX12_odds 34 = .ok (.bipush 10, 2) := by decide +kernel
theorem dX12_odds_36 : decode cX12_odds 36 = .ok (.if_icmp .ge 30, 3) := by decide +kernel
theorem dX12_odds_39 : decode cX12_odds 39 = .ok (.aload_n 0, 1) := by decide +kernel
theorem dX12_odds_40 : decode cX12_odds 40 = .ok (.iload_n 1, 1) := by decide +kernel
theorem dX12_odds_41 : decode cX12_odds 41 = .ok (.iload_n 2, 1) := by decide +kernel
theorem dX12_odds_42 : decode cX12_odds 42 = .ok (.iload 5, 2) := by decide +kernel
theorem dX12_odds_44 : decode cX12_odds 44 = .ok (.invokevirtual 186, 3) := by decide +kernel
theorem dX12_odds_47 : decode cX12_odds 47 = .ok (.aload_n 0, 1) := by decide +kernel
theorem dX12_odds_48 : decode cX12_odds 48 = .ok (.getfield 35, 3) := by decide +kernel
theorem dX12_odds_51 : decode cX12_odds 51 = .ok (.getfield 138, 3) := by decide +kernel
theorem dX12_odds_54 : decode cX12_odds 54 = .ok (.ifCond .ne 6, 3) := by decide +kernel
theorem dX12_odds_57 : decode cX12_odds 57 = .ok (.iinc 4 1, 3) := by decide +kernel
theorem dX12_odds_60 : decode cX12_odds 60 = .ok (.iinc 5 1, 3) := by decide +kernel
theorem dX12_odds_63 : decode cX12_odds 63 = .ok (.goto (-31), 3) := by decide +kernel
theorem dX12_odds_66 : decode cX12_odds 66 = .ok (.iload 4, 2) := by decide +kernel
theorem dX12_odds_68 : decode cX12_odds 68 = .ok (.i2l, 1) := by decide +kernel
theorem dX12_odds_69 : decode cX12_odds 69 = .ok (.bipush 10, 2) := by decide +kernel
theorem dX12_odds_71 : decode cX12_odds 71 = .ok (.iload_n 3, 1) := by decide +kernel
theorem dX12_odds_72 : decode cX12_odds 72 = .ok (.invokestatic 207, 3) := by decide +kernel
theorem dX12_odds_75 : decode cX12_odds 75 = .ok (.lreturn, 1) := by decide +kernel
theorem dX12_mean_0 : decode cX12_mean 0 = .ok (.aload_n 0, 1) := by decide +kernel
theorem dX12_mean_1 : decode cX12_mean 1 = .ok (.iload_n 1, 1) := by decide +kernel
theorem dX12_mean_2 : decode cX12_mean 2 = .ok (.invokevirtual 83, 3) := by decide +kernel
theorem dX12_mean_5 : decode cX12_mean 5 = .ok (.ifCond .eq 10, 3) := by decide +kernel
theorem dX12_mean_8 : decode cX12_mean 8 = .ok (.iload_n 2, 1) := by decide +kernel
theorem dX12_mean_9 : decode cX12_mean 9 = .ok (.invokestatic 204, 3) := by decide +kernel
theorem dX12_mean_12 : decode cX12_mean 12 = .ok (.ifCond .ne 7, 3) := by decide +kernel
theorem dX12_mean_15 : decode cX12_mean 15 = .ok (.ldc2_w 116, 3) := by decide +kernel
theorem dX12_mean_18 : decode cX12_mean 18 = .ok (.lreturn, 1) := by decide +kernel
theorem dX12_mean_19 : decode cX12_mean 19 = .ok (.aload_n 0, 1) := by decide +kernel
theorem dX12_mean_20 : decode cX12_mean 20 = .ok (.aload_n 0, 1) := by decide +kernel
theorem dX12_mean_21 : decode cX12_mean 21 = .ok (.getfield 35, 3) := by decide +kernel
theorem dX12_mean_24 : decode cX12_mean 24 = .ok (.iload_n 1, 1) := by decide +kernel
theorem dX12_mean_25 : decode cX12_mean 25 = .ok (.invokevirtual 166, 3) := by decide +kernel
theorem dX12_mean_28 : decode cX12_mean 28 = .ok (.aload_n 0, 1) := by decide +kernel
theorem dX12_mean_29 : decode cX12_mean 29 = .ok (.getfield 35, 3) := by decide +kernel
theorem dX12_mean_32 : decode cX12_mean 32 = .ok (.getfield 125, 3) := by decide +kernel
theorem dX12_mean_35 : decode cX12_mean 35 = .ok (.getfield 129, 3) := by decide +kernel
theorem dX12_mean_38 : decode cX12_mean 38 = .ok (.ifCond .ne 7, 3) := by decide +kernel
theorem dX12_mean_41 : decode cX12_mean 41 = .ok (.ldc2_w 116, 3) := by decide +kernel
theorem dX12_mean_44 : decode cX12_mean 44 = .ok (.lreturn, 1) := by decide +kernel
theorem dX12_mean_45 : decode cX12_mean 45 = .ok (.aload_n 0, 1) := by decide +kernel
theorem dX12_mean_46 : decode cX12_mean 46 = .ok (.getfield 35, 3) := by decide +kernel
theorem dX12_mean_49 : decode cX12_mean 49 = .ok (.getfield 125, 3) := by decide +kernel
theorem dX12_mean_52 : decode cX12_mean 52 = .ok (.invokevirtual 211, 3) := by decide +kernel
theorem dX12_mean_55 : decode cX12_mean 55 = .ok (.aload_n 0, 1) := by decide +kernel
theorem dX12_mean_56 : decode cX12_mean 56 = .ok (.getfield 35, 3) := by decide +kernel
theorem dX12_mean_59 : decode cX12_mean 59 = .ok (.getfield 125, 3) := by decide +kernel
theorem dX12_mean_62 : decode cX12_mean 62 = .ok (.getfield 129, 3) := by decide +kernel
theorem dX12_mean_65 : decode cX12_mean 65 = .ok (.iload_n 2, 1) := by decide +kernel
theorem dX12_mean_66 : decode cX12_mean 66 = .ok (.invokestatic 207, 3) := by decide +kernel
theorem dX12_mean_69 : decode cX12_mean 69 = .ok (.lreturn, 1) := by decide +kernel
theorem dX12_isPart_0 : decode cX12_isPart 0 = .ok (.iload_n 0, 1) := by decide +kernel
theorem dX12_isPart_1 : decode cX12_isPart 1 = .ok (.ifCond .eq 8, 3) := by decide +kernel
theorem dX12_isPart_4 : decode cX12_isPart 4 = .ok (.iload_n 0, 1) := by decide +kernel
theorem dX12_isPart_5 : decode cX12_isPart 5 = .ok (.iconst 1, 1) := by decide +kernel
theorem dX12_isPart_6 : decode cX12_isPart 6 = .ok (.if_icmp .ne 7, 3) := by decide +kernel
theorem dX12_isPart_9 : decode cX12_isPart 9 = .ok (.iconst 1, 1) := by decide +kernel
theorem dX12_isPart_10 : decode cX12_isPart 10 = .ok (.goto 4, 3) := by decide +kernel
theorem dX12_isPart_13 : decode cX12_isPart 13 = .ok (.iconst 0, 1) := by decide +kernel
theorem dX12_isPart_14 : decode cX12_isPart 14 = .ok (.ireturn, 1) := by decide +kernel
theorem dX12_lowest_0 : decode cX12_lowest 0 = .ok (.lconst 1, 1) := by decide +kernel
theorem dX12_lowest_1 : decode cX12_lowest 1 = .ok (.lstore 4, 2) := by decide +kernel
theorem dX12_lowest_3 : decode cX12_lowest 3 = .ok (.iload_n 2, 1) := by decide +kernel
theorem dX12_lowest_4 : decode cX12_lowest 4 = .ok (.istore 6, 2) := by decide +kernel
theorem dX12_lowest_6 : decode cX12_lowest 6 = .ok (.iload 6, 2) := by decide +kernel
theorem dX12_lowest_8 : decode cX12_lowest 8 = .ok (.iconst 1, 1) := by decide +kernel
theorem dX12_lowest_9 : decode cX12_lowest 9 = .ok (.if_icmp .le 38, 3) := by decide +kernel
theorem dX12_lowest_12 : decode cX12_lowest 12 = .ok (.lload 4, 2) := by decide +kernel
theorem dX12_lowest_14 : decode cX12_lowest 14 = .ok (.lconst 1, 1) := by decide +kernel
theorem dX12_lowest_15 : decode cX12_lowest 15 = .ok (.lcmp, 1) := by decide +kernel
theorem dX12_lowest_16 : decode cX12_lowest 16 = .ok (.ifCond .ne 31, 3) := by decide +kernel
theorem dX12_lowest_19 : decode cX12_lowest 19 = .ok (.lload_n 0, 1) := by decide +kernel
theorem dX12_lowest_20 : decode cX12_lowest 20 = .ok (.iload 6, 2) := by decide +kernel
theorem dX12_lowest_22 : decode cX12_lowest 22 = .ok (.i2l, 1) := by decide +kernel
theorem dX12_lowest_23 : decode cX12_lowest 23 = .ok (.lrem, 1) := by decide +kernel
theorem dX12_lowest_24 : decode cX12_lowest 24 = .ok (.lconst 0, 1) := by decide +kernel
theorem dX12_lowest_25 : decode cX12_lowest 25 = .ok (.lcmp, 1) := by decide +kernel
theorem dX12_lowest_26 : decode cX12_lowest 26 = .ok (.ifCond .ne 15, 3) := by decide +kernel
theorem dX12_lowest_29 : decode cX12_lowest 29 = .ok (.iload_n 2, 1) := by decide +kernel
theorem dX12_lowest_30 : decode cX12_lowest 30 = .ok (.iload 6, 2) := by decide +kernel
theorem dX12_lowest_32 : decode cX12_lowest 32 = .ok (.irem, 1) := by decide +kernel
theorem dX12_lowest_33 : decode cX12_lowest 33 = .ok (.ifCond .ne 8, 3) := by decide +kernel
theorem dX12_lowest_36 : decode cX12_lowest 36 = .ok (.iload 6, 2) := by decide +kernel
theorem dX12_lowest_38 : decode cX12_lowest 38 = .ok (.i2l, 1) := by decide +kernel
theorem dX12_lowest_39 : decode cX12_lowest 39 = .ok (.lstore 4, 2) := by decide +kernel
theorem dX12_lowest_41 : decode cX12_lowest 41 = .ok (.iinc 6 (-1), 3) := by decide +kernel
theorem dX12_lowest_44 : decode cX12_lowest 44 = .ok (.goto (-38), 3) := by decide +kernel
theorem dX12_lowest_47 : decode cX12_lowest 47 = .ok (.iload_n 3, 1) := by decide +kernel
theorem dX12_lowest_48 : decode cX12_lowest 48 = .ok (.ifCond .ne 10, 3) := by decide +kernel
theorem dX12_lowest_51 : decode cX12_lowest 51 = .ok (.lload_n 0, 1) := by decide +kernel
theorem dX12_lowest_52 : decode cX12_lowest 52 = .ok (.lload 4, 2) := by decide +kernel
theorem dX12_lowest_54 : decode cX12_lowest 54 = .ok (.ldiv, 1) := by decide +kernel
theorem dX12_lowest_55 : decode cX12_lowest 55 = .ok (.goto 8, 3) := by decide +kernel
theorem dX12_lowest_58 : decode cX12_lowest 58 = .ok (.iload_n 2, 1) := by decide +kernel
theorem dX12_lowest_59 : decode cX12_lowest 59 = .ok (.i2l, 1) := by decide +kernel
theorem dX12_lowest_60 : decode cX12_lowest 60 = .ok (.lload 4, 2) := by decide +kernel
theorem dX12_lowest_62 : decode cX12_lowest 62 = .ok (.ldiv, 1) := by decide +kernel
theorem dX12_lowest_63 : decode cX12_lowest 63 = .ok (.lreturn, 1) := by decide +kernel
theorem dX12_plan_0 : decode cX12_plan 0 = .ok (.iload_n 1, 1) := by decide +kernel
theorem dX12_plan_1 : decode cX12_plan 1 = .ok (.iconst (-1), 1) := by decide +kernel
theorem dX12_plan_2 : decode cX12_plan 2 = .ok (.if_icmp .ne 14, 3) := by decide +kernel
theorem dX12_plan_5 : decode cX12_plan 5 = .ok (.aload_n 0, 1) := by decide +kernel
theorem dX12_plan_6 : decode cX12_plan 6 = .ok (.getfield 28, 3) := by decide +kernel
theorem dX12_plan_9 : decode cX12_plan 9 = .ok (.getfield 215, 3) := by decide +kernel
theorem dX12_plan_12 : decode cX12_plan 12 = .ok (.invokevirtual 177, 3) := by decide +kernel
theorem dX12_plan_15 : decode cX12_plan 15 = .ok (.ireturn, 1) := by decide +kernel
theorem dX12_plan_16 : decode cX12_plan 16 = .ok (.aload_n 0, 1) := by decide +kernel
theorem dX12_plan_17 : decode cX12_plan 17 = .ok (.iload_n 1, 1) := by decide +kernel
theorem dX12_plan_18 : decode cX12_plan 18 = .ok (.iload_n 2, 1) := by decide +kernel
theorem dX12_plan_19 : decode cX12_plan 19 = .ok (.invokevirtual 218, 3) := by decide +kernel
theorem dX12_plan_22 : decode cX12_plan 22 = .ok (.ifCond .eq 18, 3) := by decide +kernel
theorem dX12_plan_25 : decode cX12_plan 25 = .ok (.aload_n 0, 1) := by decide +kernel
theorem dX12_plan_26 : decode cX12_plan 26 = .ok (.getfield 28, 3) := by decide +kernel
theorem dX12_plan_29 : decode cX12_plan 29 = .ok (.getfield 215, 3) := by decide +kernel
theorem dX12_plan_32 : decode cX12_plan 32 = .ok (.iload_n 1, 1) := by decide +kernel
theorem dX12_plan_33 : decode cX12_plan 33 = .ok (.iload_n 2, 1) := by decide +kernel
theorem dX12_plan_34 : decode cX12_plan 34 = .ok (.invokevirtual 183, 3) := by decide +kernel
theorem dX12_plan_37 : decode cX12_plan 37 = .ok (.goto 4, 3) := by decide +kernel
theorem dX12_plan_40 : decode cX12_plan 40 = .ok (.iconst (-1), 1) := by decide +kernel
theorem dX12_plan_41 : decode cX12_plan 41 = .ok (.ireturn, 1) := by decide +kernel
theorem dX12_isPlanned_0 : decode cX12_isPlanned 0 = .ok (.iload_n 1, 1) := by decide +kernel
theorem dX12_isPlanned_1 : decode cX12_isPlanned 1 = .ok (.tableswitch 49 0 3 #[31, 37, 42, 47], 31) := by decide +kernel
theorem dX12_isPlanned_32 : decode cX12_isPlanned 32 = .ok (.aload_n 0, 1) := by decide +kernel
theorem dX12_isPlanned_33 : decode cX12_isPlanned 33 = .ok (.iload_n 2, 1) := by decide +kernel
theorem dX12_isPlanned_34 : decode cX12_isPlanned 34 = .ok (.invokevirtual 83, 3) := by decide +kernel
theorem dX12_isPlanned_37 : decode cX12_isPlanned 37 = .ok (.ireturn, 1) := by decide +kernel
theorem dX12_isPlanned_38 : decode cX12_isPlanned 38 = .ok (.iload_n 2, 1) := by decide +kernel
theorem dX12_isPlanned_39 : decode cX12_isPlanned 39 = .ok (.invokestatic 113, 3) := by decide +kernel
theorem dX12_isPlanned_42 : decode cX12_isPlanned 42 = .ok (.ireturn, 1) := by decide +kernel
theorem dX12_isPlanned_43 : decode cX12_isPlanned 43 = .ok (.iload_n 2, 1) := by decide +kernel
theorem dX12_isPlanned_44 : decode cX12_isPlanned 44 = .ok (.invokestatic 101, 3) := by decide +kernel
theorem dX12_isPlanned_47 : decode cX12_isPlanned 47 = .ok (.ireturn, 1) := by decide +kernel
theorem dX12_isPlanned_48 : decode cX12_isPlanned 48 = .ok (.iconst 1, 1) := by decide +kernel
theorem dX12_isPlanned_49 : decode cX12_isPlanned 49 = .ok (.ireturn, 1) := by decide +kernel
theorem dX12_isPlanned_50 : decode cX12_isPlanned 50 = .ok (.iconst 0, 1) := by decide +kernel
theorem dX12_isPlanned_51 : decode cX12_isPlanned 51 = .ok (.ireturn, 1) := by decide +kernel
theorem dX12_ends_0 : decode cX12_ends 0 = .ok (.iload_n 1, 1) := by decide +kernel
theorem dX12_ends_1 : decode cX12_ends 1 = .ok (.invokestatic 113, 3) := by decide +kernel
theorem dX12_ends_4 : decode cX12_ends 4 = .ok (.ifCond .ne 7, 3) := by decide +kernel
theorem dX12_ends_7 : decode cX12_ends 7 = .ok (.ldc2_w 116, 3) := by decide +kernel
theorem dX12_ends_10 : decode cX12_ends 10 = .ok (.lreturn, 1) := by decide +kernel
theorem dX12_ends_11 : decode cX12_ends 11 = .ok (.aload_n 0, 1) := by decide +kernel
theorem dX12_ends_12 : decode cX12_ends 12 = .ok (.getfield 35, 3) := by decide +kernel
theorem dX12_ends_15 : decode cX12_ends 15 = .ok (.aload_n 0, 1) := by decide +kernel
theorem dX12_ends_16 : decode cX12_ends 16 = .ok (.getfield 28, 3) := by decide +kernel
theorem dX12_ends_19 : decode cX12_ends 19 = .ok (.invokevirtual 169, 3) := by decide +kernel
theorem dX12_ends_22 : decode cX12_ends 22 = .ok (.iconst 0, 1) := by decide +kernel
theorem dX12_ends_23 : decode cX12_ends 23 = .ok (.istore_n 2, 1) := by decide +kernel
theorem dX12_ends_24 : decode cX12_ends 24 = .ok (.iload_n 2, 1) := by decide +kernel
theorem dX12_ends_25 : decode cX12_ends 25 = .ok (.aload_n 0, 1) := by decide +kernel
theorem dX12_ends_26 : decode cX12_ends 26 = .ok (.getfield 28, 3) := by decide +kernel
theorem dX12_ends_29 : decode cX12_ends 29 = .ok (.getfield 215, 3) := by decide +kernel
theorem dX12_ends_32 : decode cX12_ends 32 = .ok (.getfield 194, 3) := by decide +kernel
theorem dX12_ends_35 : decode cX12_ends 35 = .ok (.if_icmp .ge 37, 3) := by decide +kernel
theorem dX12_ends_38 : decode cX12_ends 38 = .ok (.aload_n 0, 1) := by decide +kernel
theorem dX12_ends_39 : decode cX12_ends 39 = .ok (.aload_n 0, 1) := by decide +kernel
theorem dX12_ends_40 : decode cX12_ends 40 = .ok (.getfield 28, 3) := by decide +kernel
theorem dX12_ends_43 : decode cX12_ends 43 = .ok (.getfield 215, 3) := by decide +kernel
theorem dX12_ends_46 : decode cX12_ends 46 = .ok (.getfield 195, 3) := by decide +kernel
theorem dX12_ends_49 : decode cX12_ends 49 = .ok (.iload_n 2, 1) := by decide +kernel
theorem dX12_ends_50 : decode cX12_ends 50 = .ok (.iaload, 1) := by decide +kernel
theorem dX12_ends_51 : decode cX12_ends 51 = .ok (.aload_n 0, 1) := by decide +kernel
theorem dX12_ends_52 : decode cX12_ends 52 = .ok (.getfield 28, 3) := by decide +kernel
theorem dX12_ends_55 : decode cX12_ends 55 = .ok (.getfield 215, 3) := by decide +kernel
theorem dX12_ends_58 : decode cX12_ends 58 = .ok (.getfield 198, 3) := by decide +kernel
theorem dX12_ends_61 : decode cX12_ends 61 = .ok (.iload_n 2, 1) := by decide +kernel
theorem dX12_ends_62 : decode cX12_ends 62 = .ok (.iaload, 1) := by decide +kernel
theorem dX12_ends_63 : decode cX12_ends 63 = .ok (.invokevirtual 222, 3) := by decide +kernel
theorem dX12_ends_66 : decode cX12_ends 66 = .ok (.iinc 2 1, 3) := by decide +kernel
theorem dX12_ends_69 : decode cX12_ends 69 = .ok (.goto (-45), 3) := by decide +kernel
theorem dX12_ends_72 : decode cX12_ends 72 = .ok (.aload_n 0, 1) := by decide +kernel
theorem dX12_ends_73 : decode cX12_ends 73 = .ok (.getfield 35, 3) := by decide +kernel
theorem dX12_ends_76 : decode cX12_ends 76 = .ok (.getfield 118, 3) := by decide +kernel
theorem dX12_ends_79 : decode cX12_ends 79 = .ok (.iload_n 1, 1) := by decide +kernel
theorem dX12_ends_80 : decode cX12_ends 80 = .ok (.iaload, 1) := by decide +kernel
theorem dX12_ends_81 : decode cX12_ends 81 = .ok (.i2l, 1) := by decide +kernel
theorem dX12_ends_82 : decode cX12_ends 82 = .ok (.lreturn, 1) := by decide +kernel
theorem dX12_carryOut_0 : decode cX12_carryOut 0 = .ok (.iload_n 1, 1) := by decide +kernel
theorem dX12_carryOut_1 : decode cX12_carryOut 1 = .ok (.ifCond .ne 26, 3) := by decide +kernel
theorem dX12_carryOut_4 : decode cX12_carryOut 4 = .ok (.aload_n 0, 1) := by decide +kernel
theorem dX12_carryOut_5 : decode cX12_carryOut 5 = .ok (.iload_n 2, 1) := by decide +kernel
theorem dX12_carryOut_6 : decode cX12_carryOut 6 = .ok (.invokevirtual 83, 3) := by decide +kernel
theorem dX12_carryOut_9 : decode cX12_carryOut 9 = .ok (.ifCond .eq 18, 3) := by decide +kernel
theorem dX12_carryOut_12 : decode cX12_carryOut 12 = .ok (.aload_n 0, 1) := by decide +kernel
theorem dX12_carryOut_13 : decode cX12_carryOut 13 = .ok (.getfield 21, 3) := by decide +kernel
theorem dX12_carryOut_16 : decode cX12_carryOut 16 = .ok (.aload_n 0, 1) := by decide +kernel
theorem dX12_carryOut_17 : decode cX12_carryOut 17 = .ok (.getfield 35, 3) := by decide +kernel
theorem dX12_carryOut_20 : decode cX12_carryOut 20 = .ok (.iload_n 2, 1) := by decide +kernel
theorem dX12_carryOut_21 : decode cX12_carryOut 21 = .ok (.invokevirtual 121, 3) := by decide +kernel
theorem dX12_carryOut_24 : decode cX12_carryOut 24 = .ok (.goto 68, 3) := by decide +kernel
theorem dX12_carryOut_27 : decode cX12_carryOut 27 = .ok (.iload_n 1, 1) := by decide +kernel
theorem dX12_carryOut_28 : decode cX12_carryOut 28 = .ok (.iconst 1, 1) := by decide +kernel
theorem dX12_carryOut_29 : decode cX12_carryOut 29 = .ok (.if_icmp .ne 23, 3) := by decide +kernel
theorem dX12_carryOut_32 : decode cX12_carryOut 32 = .ok (.iload_n 2, 1) := by decide +kernel
theorem dX12_carryOut_33 : decode cX12_carryOut 33 = .ok (.invokestatic 113, 3) := by decide +kernel
theorem dX12_carryOut_36 : decode cX12_carryOut 36 = .ok (.ifCond .eq 16, 3) := by decide +kernel
theorem dX12_carryOut_39 : decode cX12_carryOut 39 = .ok (.aload_n 0, 1) := by decide +kernel
theorem dX12_carryOut_40 : decode cX12_carryOut 40 = .ok (.getfield 35, 3) := by decide +kernel
theorem dX12_carryOut_43 : decode cX12_carryOut 43 = .ok (.getfield 118, 3) := by decide +kernel
theorem dX12_carryOut_46 : decode cX12_carryOut 46 = .ok (.iload_n 2, 1) := by decide +kernel
theorem dX12_carryOut_47 : decode cX12_carryOut 47 = .ok (.iconst 0, 1) := by decide +kernel
theorem dX12_carryOut_48 : decode cX12_carryOut 48 = .ok (.iastore, 1) := by decide +kernel
theorem dX12_carryOut_49 : decode cX12_carryOut 49 = .ok (.goto 43, 3) := by decide +kernel
theorem dX12_carryOut_52 : decode cX12_carryOut 52 = .ok (.iload_n 1, 1) := by decide +kernel
theorem dX12_carryOut_53 : decode cX12_carryOut 53 = .ok (.iconst 2, 1) := by decide +kernel
theorem dX12_carryOut_54 : decode cX12_carryOut 54 = .ok (.if_icmp .ne 24, 3) := by decide +kernel
theorem dX12_carryOut_57 : decode cX12_carryOut 57 = .ok (.iload_n 2, 1) := by decide +kernel
theorem dX12_carryOut_58 : decode cX12_carryOut 58 = .ok (.invokestatic 101, 3) := by decide +kernel
theorem dX12_carryOut_61 : decode cX12_carryOut 61 = .ok (.ifCond .eq 17, 3) := by decide +kernel
theorem dX12_carryOut_64 : decode cX12_carryOut 64 = .ok (.aload_n 0, 1) := by decide +kernel
theorem dX12_carryOut_65 : decode cX12_carryOut 65 = .ok (.getfield 35, 3) := by decide +kernel
theorem dX12_carryOut_68 : decode cX12_carryOut 68 = .ok (.getfield 107, 3) := by decide +kernel
theorem dX12_carryOut_71 : decode cX12_carryOut 71 = .ok (.iload_n 2, 1) := by decide +kernel
theorem dX12_carryOut_72 : decode cX12_carryOut 72 = .ok (.bipush (-5), 2) := by decide +kernel
theorem dX12_carryOut_74 : decode cX12_carryOut 74 = .ok (.iastore, 1) := by decide +kernel
theorem dX12_carryOut_75 : decode cX12_carryOut 75 = .ok (.goto 17, 3) := by decide +kernel
theorem dX12_carryOut_78 : decode cX12_carryOut 78 = .ok (.iload_n 1, 1) := by decide +kernel
theorem dX12_carryOut_79 : decode cX12_carryOut 79 = .ok (.iconst 3, 1) := by decide +kernel
theorem dX12_carryOut_80 : decode cX12_carryOut 80 = .ok (.if_icmp .ne 12, 3) := by decide +kernel
theorem dX12_carryOut_83 : decode cX12_carryOut 83 = .ok (.aload_n 0, 1) := by decide +kernel
theorem dX12_carryOut_84 : decode cX12_carryOut 84 = .ok (.getfield 35, 3) := by decide +kernel
theorem dX12_carryOut_87 : decode cX12_carryOut 87 = .ok (.bipush (-5), 2) := by decide +kernel
theorem dX12_carryOut_89 : decode cX12_carryOut 89 = .ok (.putfield 110, 3) := by decide +kernel
theorem dX12_carryOut_92 : decode cX12_carryOut 92 = .ok (.return_, 1) := by decide +kernel
theorem dX12_book_0 : decode cX12_book 0 = .ok (.iload_n 1, 1) := by decide +kernel
theorem dX12_book_1 : decode cX12_book 1 = .ok (.iconst (-1), 1) := by decide +kernel
theorem dX12_book_2 : decode cX12_book 2 = .ok (.if_icmp .ne 14, 3) := by decide +kernel
theorem dX12_book_5 : decode cX12_book 5 = .ok (.aload_n 0, 1) := by decide +kernel
theorem dX12_book_6 : decode cX12_book 6 = .ok (.getfield 28, 3) := by decide +kernel
theorem dX12_book_9 : decode cX12_book 9 = .ok (.getfield 226, 3) := by decide +kernel
theorem dX12_book_12 : decode cX12_book 12 = .ok (.invokevirtual 177, 3) := by decide +kernel
theorem dX12_book_15 : decode cX12_book 15 = .ok (.ireturn, 1) := by decide +kernel
theorem dX12_book_16 : decode cX12_book 16 = .ok (.iload_n 1, 1) := by decide +kernel
theorem dX12_book_17 : decode cX12_book 17 = .ok (.invokestatic 113, 3) := by decide +kernel
theorem dX12_book_20 : decode cX12_book 20 = .ok (.ifCond .eq 18, 3) := by decide +kernel
theorem dX12_book_23 : decode cX12_book 23 = .ok (.aload_n 0, 1) := by decide +kernel
theorem dX12_book_24 : decode cX12_book 24 = .ok (.getfield 28, 3) := by decide +kernel
theorem dX12_book_27 : decode cX12_book 27 = .ok (.getfield 226, 3) := by decide +kernel
theorem dX12_book_30 : decode cX12_book 30 = .ok (.iload_n 1, 1) := by decide +kernel
theorem dX12_book_31 : decode cX12_book 31 = .ok (.iload_n 2, 1) := by decide +kernel
theorem dX12_book_32 : decode cX12_book 32 = .ok (.invokevirtual 183, 3) := by decide +kernel
theorem dX12_book_35 : decode cX12_book 35 = .ok (.goto 4, 3) := by decide +kernel
theorem dX12_book_38 : decode cX12_book 38 = .ok (.iconst (-1), 1) := by decide +kernel
theorem dX12_book_39 : decode cX12_book 39 = .ok (.ireturn, 1) := by decide +kernel
theorem dX12_looked_0 : decode cX12_looked 0 = .ok (.iconst 0, 1) := by decide +kernel
theorem dX12_looked_1 : decode cX12_looked 1 = .ok (.istore_n 1, 1) := by decide +kernel
theorem dX12_looked_2 : decode cX12_looked 2 = .ok (.iload_n 1, 1) := by decide +kernel
theorem dX12_looked_3 : decode cX12_looked 3 = .ok (.aload_n 0, 1) := by decide +kernel
theorem dX12_looked_4 : decode cX12_looked 4 = .ok (.getfield 28, 3) := by decide +kernel
theorem dX12_looked_7 : decode cX12_looked 7 = .ok (.getfield 226, 3) := by decide +kernel
theorem dX12_looked_10 : decode cX12_looked 10 = .ok (.getfield 194, 3) := by decide +kernel
theorem dX12_looked_13 : decode cX12_looked 13 = .ok (.if_icmp .ge 55, 3) := by decide +kernel
theorem dX12_looked_16 : decode cX12_looked 16 = .ok (.aload_n 0, 1) := by decide +kernel
theorem dX12_looked_17 : decode cX12_looked 17 = .ok (.getfield 28, 3) := by decide +kernel
theorem dX12_looked_20 : decode cX12_looked 20 = .ok (.getfield 226, 3) := by decide +kernel
theorem dX12_looked_23 : decode cX12_looked 23 = .ok (.getfield 195, 3) := by decide +kernel
theorem dX12_looked_26 : decode cX12_looked 26 = .ok (.iload_n 1, 1) := by decide +kernel
theorem dX12_looked_27 : decode cX12_looked 27 = .ok (.iaload, 1) := by decide +kernel
theorem dX12_looked_28 : decode cX12_looked 28 = .ok (.istore_n 2, 1) := by decide +kernel
theorem dX12_looked_29 : decode cX12_looked 29 = .ok (.iload_n 2, 1) := by decide +kernel
theorem dX12_looked_30 : decode cX12_looked 30 = .ok (.invokestatic 113, 3) := by decide +kernel
theorem dX12_looked_33 : decode cX12_looked 33 = .ok (.ifCond .eq 29, 3) := by decide +kernel
theorem dX12_looked_36 : decode cX12_looked 36 = .ok (.aload_n 0, 1) := by decide +kernel
theorem dX12_looked_37 : decode cX12_looked 37 = .ok (.getfield 28, 3) := by decide +kernel
theorem dX12_looked_40 : decode cX12_looked 40 = .ok (.getfield 118, 3) := by decide +kernel
theorem dX12_looked_43 : decode cX12_looked 43 = .ok (.iload_n 2, 1) := by decide +kernel
theorem dX12_looked_44 : decode cX12_looked 44 = .ok (.iaload, 1) := by decide +kernel
theorem dX12_looked_45 : decode cX12_looked 45 = .ok (.aload_n 0, 1) := by decide +kernel
theorem dX12_looked_46 : decode cX12_looked 46 = .ok (.getfield 28, 3) := by decide +kernel
theorem dX12_looked_49 : decode cX12_looked 49 = .ok (.getfield 226, 3) := by decide +kernel
theorem dX12_looked_52 : decode cX12_looked 52 = .ok (.getfield 198, 3) := by decide +kernel
theorem dX12_looked_55 : decode cX12_looked 55 = .ok (.iload_n 1, 1) := by decide +kernel
theorem dX12_looked_56 : decode cX12_looked 56 = .ok (.iaload, 1) := by decide +kernel
theorem dX12_looked_57 : decode cX12_looked 57 = .ok (.if_icmp .eq 5, 3) := by decide +kernel
theorem dX12_looked_60 : decode cX12_looked 60 = .ok (.iload_n 1, 1) := by decide +kernel
theorem dX12_looked_61 : decode cX12_looked 61 = .ok (.ireturn, 1) := by decide +kernel
theorem dX12_looked_62 : decode cX12_looked 62 = .ok (.iinc 1 1, 3) := by decide +kernel
theorem dX12_looked_65 : decode cX12_looked 65 = .ok (.goto (-63), 3) := by decide +kernel
theorem dX12_looked_68 : decode cX12_looked 68 = .ok (.bipush (-5), 2) := by decide +kernel
theorem dX12_looked_70 : decode cX12_looked 70 = .ok (.ireturn, 1) := by decide +kernel
theorem dX12_judge_0 : decode cX12_judge 0 = .ok (.iload_n 1, 1) := by decide +kernel
theorem dX12_judge_1 : decode cX12_judge 1 = .ok (.invokestatic 229, 3) := by decide +kernel
theorem dX12_judge_4 : decode cX12_judge 4 = .ok (.ifCond .ne 5, 3) := by decide +kernel
theorem dX12_judge_7 : decode cX12_judge 7 = .ok (.iconst (-1), 1) := by decide +kernel
theorem dX12_judge_8 : decode cX12_judge 8 = .ok (.ireturn, 1) := by decide +kernel
theorem dX12_judge_9 : decode cX12_judge 9 = .ok (.aload_n 0, 1) := by decide +kernel
theorem dX12_judge_10 : decode cX12_judge 10 = .ok (.getfield 56, 3) := by decide +kernel
theorem dX12_judge_13 : decode cX12_judge 13 = .ok (.iload_n 1, 1) := by decide +kernel
theorem dX12_judge_14 : decode cX12_judge 14 = .ok (.aaload, 1) := by decide +kernel
theorem dX12_judge_15 : decode cX12_judge 15 = .ok (.astore_n 3, 1) := by decide +kernel
theorem dX12_judge_16 : decode cX12_judge 16 = .ok (.aload_n 3, 1) := by decide +kernel
theorem dX12_judge_17 : decode cX12_judge 17 = .ok (.getfield 232, 3) := by decide +kernel
theorem dX12_judge_20 : decode cX12_judge 20 = .ok (.ifCond .lt 14, 3) := by decide +kernel
theorem dX12_judge_23 : decode cX12_judge 23 = .ok (.aload_n 3, 1) := by decide +kernel
theorem dX12_judge_24 : decode cX12_judge 24 = .ok (.getfield 232, 3) := by decide +kernel
theorem dX12_judge_27 : decode cX12_judge 27 = .ok (.iconst 2, 1) := by decide +kernel
theorem dX12_judge_28 : decode cX12_judge 28 = .ok (.if_icmp .eq 6, 3) := by decide +kernel
theorem dX12_judge_31 : decode cX12_judge 31 = .ok (.bipush (-12), 2) := by decide +kernel
theorem dX12_judge_33 : decode cX12_judge 33 = .ok (.ireturn, 1) := by decide +kernel
theorem dX12_judge_34 : decode cX12_judge 34 = .ok (.aload_n 0, 1) := by decide +kernel
theorem dX12_judge_35 : decode cX12_judge 35 = .ok (.getfield 28, 3) := by decide +kernel
theorem dX12_judge_38 : decode cX12_judge 38 = .ok (.getfield 125, 3) := by decide +kernel
theorem dX12_judge_41 : decode cX12_judge 41 = .ok (.getfield 129, 3) := by decide +kernel
theorem dX12_judge_44 : decode cX12_judge 44 = .ok (.ifCond .ne 6, 3) := by decide +kernel
theorem dX12_judge_47 : decode cX12_judge 47 = .ok (.bipush (-5), 2) := by decide +kernel
theorem dX12_judge_49 : decode cX12_judge 49 = .ok (.ireturn, 1) := by decide +kernel
theorem dX12_judge_50 : decode cX12_judge 50 = .ok (.iconst 0, 1) := by decide +kernel
theorem dX12_judge_51 : decode cX12_judge 51 = .ok (.istore 4, 2) := by decide +kernel
theorem dX12_judge_53 : decode cX12_judge 53 = .ok (.iload 4, 2) := by decide +kernel
theorem dX12_judge_55 : decode cX12_judge 55 = .ok (.aload_n 0, 1) := by decide +kernel
theorem dX12_judge_56 : decode cX12_judge 56 = .ok (.getfield 28, 3) := by decide +kernel
theorem dX12_judge_59 : decode cX12_judge 59 = .ok (.getfield 125, 3) := by decide +kernel
theorem dX12_judge_62 : decode cX12_judge 62 = .ok (.getfield 129, 3) := by decide +kernel
theorem dX12_judge_65 : decode cX12_judge 65 = .ok (.if_icmp .ge 58, 3) := by decide +kernel
theorem dX12_judge_68 : decode cX12_judge 68 = .ok (.iload_n 2, 1) := by decide +kernel
theorem dX12_judge_69 : decode cX12_judge 69 = .ok (.ifCond .lt 14, 3) := by decide +kernel
theorem dX12_judge_72 : decode cX12_judge 72 = .ok (.iload_n 2, 1) := by decide +kernel
theorem dX12_judge_73 : decode cX12_judge 73 = .ok (.aload_n 3, 1) := by decide +kernel
theorem dX12_judge_74 : decode cX12_judge 74 = .ok (.getfield 235, 3) := by decide +kernel
theorem dX12_judge_77 : decode cX12_judge 77 = .ok (.iload 4, 2) := by decide +kernel
theorem dX12_judge_79 : decode cX12_judge 79 = .ok (.isub, 1) := by decide +kernel
theorem dX12_judge_80 : decode cX12_judge 80 = .ok (.if_icmp .lt 9, 3) := by decide +kernel
theorem dX12_judge_83 : decode cX12_judge 83 = .ok (.bipush 100, 2) := by decide +kernel
theorem dX12_judge_85 : decode cX12_judge 85 = .ok (.iload 4, 2) := by decide +kernel
theorem dX12_judge_87 : decode cX12_judge 87 = .ok (.iadd, 1) := by decide +kernel
theorem dX12_judge_88 : decode cX12_judge 88 = .ok (.ireturn, 1) := by decide +kernel
theorem dX12_judge_89 : decode cX12_judge 89 = .ok (.aload_n 3, 1) := by decide +kernel
theorem dX12_judge_90 : decode cX12_judge 90 = .ok (.getfield 236, 3) := by decide +kernel
theorem dX12_judge_93 : decode cX12_judge 93 = .ok (.iload_n 2, 1) := by decide +kernel
theorem dX12_judge_94 : decode cX12_judge 94 = .ok (.iload 4, 2) := by decide +kernel
theorem dX12_judge_96 : decode cX12_judge 96 = .ok (.iadd, 1) := by decide +kernel
theorem dX12_judge_97 : decode cX12_judge 97 = .ok (.laload, 1) := by decide +kernel
theorem dX12_judge_98 : decode cX12_judge 98 = .ok (.aload_n 0, 1) := by decide +kernel
theorem dX12_judge_99 : decode cX12_judge 99 = .ok (.getfield 28, 3) := by decide +kernel
theorem dX12_judge_102 : decode cX12_judge 102 = .ok (.getfield 125, 3) := by decide +kernel
theorem dX12_judge_105 : decode cX12_judge 105 = .ok (.iload 4, 2) := by decide +kernel
theorem dX12_judge_107 : decode cX12_judge 107 = .ok (.invokevirtual 144, 3) := by decide +kernel
theorem dX12_judge_110 : decode cX12_judge 110 = .ok (.lcmp, 1) := by decide +kernel
theorem dX12_judge_111 : decode cX12_judge 111 = .ok (.ifCond .eq 6, 3) := by decide +kernel
theorem dX12_judge_114 : decode cX12_judge 114 = .ok (.iload 4, 2) := by decide +kernel
theorem dX12_judge_116 : decode cX12_judge 116 = .ok (.ireturn, 1) := by decide +kernel
theorem dX12_judge_117 : decode cX12_judge 117 = .ok (.iinc 4 1, 3) := by decide +kernel
theorem dX12_judge_120 : decode cX12_judge 120 = .ok (.goto (-67), 3) := by decide +kernel
theorem dX12_judge_123 : decode cX12_judge 123 = .ok (.bipush (-5), 2) := by decide +kernel
theorem dX12_judge_125 : decode cX12_judge 125 = .ok (.ireturn, 1) := by decide +kernel
theorem dX12_image_0 : decode cX12_image 0 = .ok (.aload_n 0, 1) := by decide +kernel
theorem dX12_image_1 : decode cX12_image 1 = .ok (.getfield 32, 3) := by decide +kernel
theorem dX12_image_4 : decode cX12_image 4 = .ok (.aload_n 0, 1) := by decide +kernel
theorem dX12_image_5 : decode cX12_image 5 = .ok (.getfield 28, 3) := by decide +kernel
theorem dX12_image_8 : decode cX12_image 8 = .ok (.invokevirtual 169, 3) := by decide +kernel
theorem dX12_image_11 : decode cX12_image 11 = .ok (.aload_n 0, 1) := by decide +kernel
theorem dX12_image_12 : decode cX12_image 12 = .ok (.iconst 1, 1) := by decide +kernel
theorem dX12_image_13 : decode cX12_image 13 = .ok (.putfield 240, 3) := by decide +kernel
theorem dX12_image_16 : decode cX12_image 16 = .ok (.aload_n 0, 1) := by decide +kernel
theorem dX12_image_17 : decode cX12_image 17 = .ok (.getfield 21, 3) := by decide +kernel
theorem dX12_image_20 : decode cX12_image 20 = .ok (.getfield 70, 3) := by decide +kernel
theorem dX12_image_23 : decode cX12_image 23 = .ok (.ireturn, 1) := by decide +kernel
theorem dX12_undo_0 : decode cX12_undo 0 = .ok (.aload_n 0, 1) := by decide +kernel
theorem dX12_undo_1 : decode cX12_undo 1 = .ok (.getfield 240, 3) := by decide +kernel
theorem dX12_undo_4 : decode cX12_undo 4 = .ok (.ifCond .ne 6, 3) := by decide +kernel
theorem dX12_undo_7 : decode cX12_undo 7 = .ok (.bipush (-3), 2) := by decide +kernel
theorem dX12_undo_9 : decode cX12_undo 9 = .ok (.ireturn, 1) := by decide +kernel
theorem dX12_undo_10 : decode cX12_undo 10 = .ok (.aload_n 0, 1) := by decide +kernel
theorem dX12_undo_11 : decode cX12_undo 11 = .ok (.getfield 28, 3) := by decide +kernel
theorem dX12_undo_14 : decode cX12_undo 14 = .ok (.aload_n 0, 1) := by decide +kernel
theorem dX12_undo_15 : decode cX12_undo 15 = .ok (.getfield 32, 3) := by decide +kernel
theorem dX12_undo_18 : decode cX12_undo 18 = .ok (.invokevirtual 169, 3) := by decide +kernel
theorem dX12_undo_21 : decode cX12_undo 21 = .ok (.aload_n 0, 1) := by decide +kernel
theorem dX12_undo_22 : decode cX12_undo 22 = .ok (.getfield 21, 3) := by decide +kernel
theorem dX12_undo_25 : decode cX12_undo 25 = .ok (.getfield 70, 3) := by decide +kernel
theorem dX12_undo_28 : decode cX12_undo 28 = .ok (.ireturn, 1) := by decide +kernel
theorem dX12_count_0 : decode cX12_count 0 = .ok (.iload_n 1, 1) := by decide +kernel
theorem dX12_count_1 : decode cX12_count 1 = .ok (.tableswitch 93 0 5 #[39, 47, 52, 63, 74, 85], 39) := by decide +kernel
theorem dX12_count_40 : decode cX12_count 40 = .ok (.aload_n 0, 1) := by decide +kernel
theorem dX12_count_41 : decode cX12_count 41 = .ok (.getfield 21, 3) := by decide +kernel
theorem dX12_count_44 : decode cX12_count 44 = .ok (.getfield 70, 3) := by decide +kernel
theorem dX12_count_47 : decode cX12_count 47 = .ok (.ireturn, 1) := by decide +kernel
theorem dX12_count_48 : decode cX12_count 48 = .ok (.aload_n 0, 1) := by decide +kernel
theorem dX12_count_49 : decode cX12_count 49 = .ok (.invokevirtual 244, 3) := by decide +kernel
theorem dX12_count_52 : decode cX12_count 52 = .ok (.ireturn, 1) := by decide +kernel
theorem dX12_count_53 : decode cX12_count 53 = .ok (.aload_n 0, 1) := by decide +kernel
theorem dX12_count_54 : decode cX12_count 54 = .ok (.getfield 28, 3) := by decide +kernel
theorem dX12_count_57 : decode cX12_count 57 = .ok (.getfield 173, 3) := by decide +kernel
theorem dX12_count_60 : decode cX12_count 60 = .ok (.getfield 194, 3) := by decide +kernel
theorem dX12_count_63 : decode cX12_count 63 = .ok (.ireturn, 1) := by decide +kernel
theorem dX12_count_64 : decode cX12_count 64 = .ok (.aload_n 0, 1) := by decide +kernel
theorem dX12_count_65 : decode cX12_count 65 = .ok (.getfield 28, 3) := by decide +kernel
theorem dX12_count_68 : decode cX12_count 68 = .ok (.getfield 215, 3) := by decide +kernel
theorem dX12_count_71 : decode cX12_count 71 = .ok (.getfield 194, 3) := by decide +kernel
theorem dX12_count_74 : decode cX12_count 74 = .ok (.ireturn, 1) := by decide +kernel
theorem dX12_count_75 : decode cX12_count 75 = .ok (.aload_n 0, 1) := by decide +kernel
theorem dX12_count_76 : decode cX12_count 76 = .ok (.getfield 28, 3) := by decide +kernel
theorem dX12_count_79 : decode cX12_count 79 = .ok (.getfield 226, 3) := by decide +kernel
theorem dX12_count_82 : decode cX12_count 82 = .ok (.getfield 194, 3) := by decide +kernel
theorem dX12_count_85 : decode cX12_count 85 = .ok (.ireturn, 1) := by decide +kernel
theorem dX12_count_86 : decode cX12_count 86 = .ok (.aload_n 0, 1) := by decide +kernel
theorem dX12_count_87 : decode cX12_count 87 = .ok (.getfield 14, 3) := by decide +kernel
theorem dX12_count_90 : decode cX12_count 90 = .ok (.getfield 66, 3) := by decide +kernel
theorem dX12_count_93 : decode cX12_count 93 = .ok (.ireturn, 1) := by decide +kernel
theorem dX12_count_94 : decode cX12_count 94 = .ok (.bipush (-2), 2) := by decide +kernel
theorem dX12_count_96 : decode cX12_count 96 = .ok (.ireturn, 1) := by decide +kernel
theorem dX12_jobCount_0 : decode cX12_jobCount 0 = .ok (.iconst 0, 1) := by decide +kernel
theorem dX12_jobCount_1 : decode cX12_jobCount 1 = .ok (.istore_n 1, 1) := by decide +kernel
theorem dX12_jobCount_2 : decode cX12_jobCount 2 = .ok (.iconst 0, 1) := by decide +kernel
theorem dX12_jobCount_3 : decode cX12_jobCount 3 = .ok (.istore_n 2, 1) := by decide +kernel
theorem dX12_jobCount_4 : decode cX12_jobCount 4 = .ok (.iload_n 2, 1) := by decide +kernel
theorem dX12_jobCount_5 : decode cX12_jobCount 5 = .ok (.iconst 4, 1) := by decide +kernel
theorem dX12_jobCount_6 : decode cX12_jobCount 6 = .ok (.if_icmp .ge 20, 3) := by decide +kernel
theorem dX12_jobCount_9 : decode cX12_jobCount 9 = .ok (.aload_n 0, 1) := by decide +kernel
theorem dX12_jobCount_10 : decode cX12_jobCount 10 = .ok (.iload_n 2, 1) := by decide +kernel
theorem dX12_jobCount_11 : decode cX12_jobCount 11 = .ok (.invokevirtual 156, 3) := by decide +kernel
theorem dX12_jobCount_14 : decode cX12_jobCount 14 = .ok (.ifCond .eq 6, 3) := by decide +kernel
theorem dX12_jobCount_17 : decode cX12_jobCount 17 = .ok (.iinc 1 1, 3) := by decide +kernel
theorem dX12_jobCount_20 : decode cX12_jobCount 20 = .ok (.iinc 2 1, 3) := by decide +kernel
theorem dX12_jobCount_23 : decode cX12_jobCount 23 = .ok (.goto (-19), 3) := by decide +kernel
theorem dX12_jobCount_26 : decode cX12_jobCount 26 = .ok (.iload_n 1, 1) := by decide +kernel
theorem dX12_jobCount_27 : decode cX12_jobCount 27 = .ok (.ireturn, 1) := by decide +kernel
theorem dX12_tape_0 : decode cX12_tape 0 = .ok (.iload_n 1, 1) := by decide +kernel
theorem dX12_tape_1 : decode cX12_tape 1 = .ok (.invokestatic 229, 3) := by decide +kernel
theorem dX12_tape_4 : decode cX12_tape 4 = .ok (.ifCond .ne 5, 3) := by decide +kernel
theorem dX12_tape_7 : decode cX12_tape 7 = .ok (.iconst (-1), 1) := by decide +kernel
theorem dX12_tape_8 : decode cX12_tape 8 = .ok (.ireturn, 1) := by decide +kernel
theorem dX12_tape_9 : decode cX12_tape 9 = .ok (.iload_n 2, 1) := by decide +kernel
theorem dX12_tape_10 : decode cX12_tape 10 = .ok (.iconst (-1), 1) := by decide +kernel
theorem dX12_tape_11 : decode cX12_tape 11 = .ok (.if_icmp .ne 15, 3) := by decide +kernel
theorem dX12_tape_14 : decode cX12_tape 14 = .ok (.aload_n 0, 1) := by decide +kernel
theorem dX12_tape_15 : decode cX12_tape 15 = .ok (.getfield 56, 3) := by decide +kernel
theorem dX12_tape_18 : decode cX12_tape 18 = .ok (.iload_n 1, 1) := by decide +kernel
theorem dX12_tape_19 : decode cX12_tape 19 = .ok (.aaload, 1) := by decide +kernel
theorem dX12_tape_20 : decode cX12_tape 20 = .ok (.iconst (-1), 1) := by decide +kernel
theorem dX12_tape_21 : decode cX12_tape 21 = .ok (.iconst 0, 1) := by decide +kernel
theorem dX12_tape_22 : decode cX12_tape 22 = .ok (.invokevirtual 247, 3) := by decide +kernel
theorem dX12_tape_25 : decode cX12_tape 25 = .ok (.ireturn, 1) := by decide +kernel
theorem dX12_tape_26 : decode cX12_tape 26 = .ok (.iload_n 2, 1) := by decide +kernel
theorem dX12_tape_27 : decode cX12_tape 27 = .ok (.ifCond .lt 14, 3) := by decide +kernel
theorem dX12_tape_30 : decode cX12_tape 30 = .ok (.iload_n 2, 1) := by decide +kernel
theorem dX12_tape_31 : decode cX12_tape 31 = .ok (.iconst 4, 1) := by decide +kernel
theorem dX12_tape_32 : decode cX12_tape 32 = .ok (.if_icmp .gt 9, 3) := by decide +kernel
theorem dX12_tape_35 : decode cX12_tape 35 = .ok (.iload_n 3, 1) := by decide +kernel
theorem dX12_tape_36 : decode cX12_tape 36 = .ok (.bipush 60, 2) := by decide +kernel
theorem dX12_tape_38 : decode cX12_tape 38 = .ok (.if_icmp .le 6, 3) := by decide +kernel
theorem dX12_tape_41 : decode cX12_tape 41 = .ok (.bipush (-2), 2) := by decide +kernel
theorem dX12_tape_43 : decode cX12_tape 43 = .ok (.ireturn, 1) := by decide +kernel
theorem dX12_tape_44 : decode cX12_tape 44 = .ok (.iload_n 3, 1) := by decide +kernel
theorem dX12_tape_45 : decode cX12_tape 45 = .ok (.ifCond .ge 8, 3) := by decide +kernel
theorem dX12_tape_48 : decode cX12_tape 48 = .ok (.bipush (-14), 2) := by decide +kernel
theorem dX12_tape_50 : decode cX12_tape 50 = .ok (.goto 14, 3) := by decide +kernel
theorem dX12_tape_53 : decode cX12_tape 53 = .ok (.aload_n 0, 1) := by decide +kernel
theorem dX12_tape_54 : decode cX12_tape 54 = .ok (.getfield 56, 3) := by decide +kernel
theorem dX12_tape_57 : decode cX12_tape 57 = .ok (.iload_n 1, 1) := by decide +kernel
theorem dX12_tape_58 : decode cX12_tape 58 = .ok (.aaload, 1) := by decide +kernel
theorem dX12_tape_59 : decode cX12_tape 59 = .ok (.iload_n 2, 1) := by decide +kernel
theorem dX12_tape_60 : decode cX12_tape 60 = .ok (.iload_n 3, 1) := by decide +kernel
theorem dX12_tape_61 : decode cX12_tape 61 = .ok (.invokevirtual 247, 3) := by decide +kernel
theorem dX12_tape_64 : decode cX12_tape 64 = .ok (.ireturn, 1) := by decide +kernel
theorem dX12_item_0 : decode cX12_item 0 = .ok (.iload_n 1, 1) := by decide +kernel
theorem dX12_item_1 : decode cX12_item 1 = .ok (.invokestatic 229, 3) := by decide +kernel
theorem dX12_item_4 : decode cX12_item 4 = .ok (.ifCond .ne 5, 3) := by decide +kernel
theorem dX12_item_7 : decode cX12_item 7 = .ok (.iconst (-1), 1) := by decide +kernel
theorem dX12_item_8 : decode cX12_item 8 = .ok (.ireturn, 1) := by decide +kernel
theorem dX12_item_9 : decode cX12_item 9 = .ok (.aload_n 0, 1) := by decide +kernel
theorem dX12_item_10 : decode cX12_item 10 = .ok (.getfield 56, 3) := by decide +kernel
theorem dX12_item_13 : decode cX12_item 13 = .ok (.iload_n 1, 1) := by decide +kernel
theorem dX12_item_14 : decode cX12_item 14 = .ok (.aaload, 1) := by decide +kernel
theorem dX12_item_15 : decode cX12_item 15 = .ok (.astore 5, 2) := by decide +kernel
theorem dX12_item_17 : decode cX12_item 17 = .ok (.aload 5, 2) := by decide +kernel
theorem dX12_item_19 : decode cX12_item 19 = .ok (.getfield 232, 3) := by decide +kernel
theorem dX12_item_22 : decode cX12_item 22 = .ok (.ifCond .ge 6, 3) := by decide +kernel
theorem dX12_item_25 : decode cX12_item 25 = .ok (.bipush (-11), 2) := by decide +kernel
theorem dX12_item_27 : decode cX12_item 27 = .ok (.ireturn, 1) := by decide +kernel
theorem dX12_item_28 : decode cX12_item 28 = .ok (.iload_n 2, 1) := by decide +kernel
theorem dX12_item_29 : decode cX12_item 29 = .ok (.ifCond .lt 12, 3) := by decide +kernel
theorem dX12_item_32 : decode cX12_item 32 = .ok (.iload_n 2, 1) := by decide +kernel
theorem dX12_item_33 : decode cX12_item 33 = .ok (.aload 5, 2) := by decide +kernel
theorem dX12_item_35 : decode cX12_item 35 = .ok (.getfield 235, 3) := by decide +kernel
theorem dX12_item_38 : decode cX12_item 38 = .ok (.if_icmp .lt 6, 3) := by decide +kernel
theorem dX12_item_41 : decode cX12_item 41 = .ok (.bipush (-13), 2) := by decide +kernel
theorem dX12_item_43 : decode cX12_item 43 = .ok (.ireturn, 1) := by decide +kernel
theorem dX12_item_44 : decode cX12_item 44 = .ok (.aload 5, 2) := by decide +kernel
theorem dX12_item_46 : decode cX12_item 46 = .ok (.getfield 236, 3) := by decide +kernel
theorem dX12_item_49 : decode cX12_item 49 = .ok (.iload_n 2, 1) := by decide +kernel
theorem dX12_item_50 : decode cX12_item 50 = .ok (.aload 5, 2) := by decide +kernel
theorem dX12_item_52 : decode cX12_item 52 = .ok (.lload_n 3, 1) := by decide +kernel
theorem dX12_item_53 : decode cX12_item 53 = .ok (.invokevirtual 250, 3) := by decide +kernel
theorem dX12_item_56 : decode cX12_item 56 = .ok (.lastore, 1) := by decide +kernel
theorem dX12_item_57 : decode cX12_item 57 = .ok (.iconst 1, 1) := by decide +kernel
theorem dX12_item_58 : decode cX12_item 58 = .ok (.ireturn, 1) := by decide +kernel
theorem dX12_read_0 : decode cX12_read 0 = .ok (.iload_n 1, 1) := by decide +kernel
theorem dX12_read_1 : decode cX12_read 1 = .ok (.invokestatic 229, 3) := by decide +kernel
theorem dX12_read_4 : decode cX12_read 4 = .ok (.ifCond .eq 20, 3) := by decide +kernel
theorem dX12_read_7 : decode cX12_read 7 = .ok (.iload_n 2, 1) := by decide +kernel
theorem dX12_read_8 : decode cX12_read 8 = .ok (.ifCond .lt 16, 3) := by decide +kernel
theorem dX12_read_11 : decode cX12_read 11 = .ok (.iload_n 2, 1) := by decide +kernel
theorem dX12_read_12 : decode cX12_read 12 = .ok (.aload_n 0, 1) := by decide +kernel
theorem dX12_read_13 : decode cX12_read 13 = .ok (.getfield 56, 3) := by decide +kernel
theorem dX12_read_16 : decode cX12_read 16 = .ok (.iload_n 1, 1) := by decide +kernel
theorem dX12_read_17 : decode cX12_read 17 = .ok (.aaload, 1) := by decide +kernel
theorem dX12_read_18 : decode cX12_read 18 = .ok (.getfield 235, 3) := by decide +kernel
theorem dX12_read_21 : decode cX12_read 21 = .ok (.if_icmp .lt 7, 3) := by decide +kernel
theorem dX12_read_24 : decode cX12_read 24 = .ok (.ldc2_w 116, 3) := by decide +kernel
theorem dX12_read_27 : decode cX12_read 27 = .ok (.lreturn, 1) := by decide +kernel
theorem dX12_read_28 : decode cX12_read 28 = .ok (.aload_n 0, 1) := by decide +kernel
theorem dX12_read_29 : decode cX12_read 29 = .ok (.getfield 56, 3) := by decide +kernel
theorem dX12_read_32 : decode cX12_read 32 = .ok (.iload_n 1, 1) := by decide +kernel
theorem dX12_read_33 : decode cX12_read 33 = .ok (.aaload, 1) := by decide +kernel
theorem dX12_read_34 : decode cX12_read 34 = .ok (.getfield 236, 3) := by decide +kernel
theorem dX12_read_37 : decode cX12_read 37 = .ok (.iload_n 2, 1) := by decide +kernel
theorem dX12_read_38 : decode cX12_read 38 = .ok (.laload, 1) := by decide +kernel
theorem dX12_read_39 : decode cX12_read 39 = .ok (.lreturn, 1) := by decide +kernel
theorem dX12_shift_0 : decode cX12_shift 0 = .ok (.iload_n 1, 1) := by decide +kernel
theorem dX12_shift_1 : decode cX12_shift 1 = .ok (.invokestatic 229, 3) := by decide +kernel
theorem dX12_shift_4 : decode cX12_shift 4 = .ok (.ifCond .eq 10, 3) := by decide +kernel
theorem dX12_shift_7 : decode cX12_shift 7 = .ok (.iload_n 3, 1) := by decide +kernel
theorem dX12_shift_8 : decode cX12_shift 8 = .ok (.invokestatic 229, 3) := by decide +kernel
theorem dX12_shift_11 : decode cX12_shift 11 = .ok (.ifCond .ne 5, 3) := by decide +kernel
theorem dX12_shift_14 : decode cX12_shift 14 = .ok (.iconst (-1), 1) := by decide +kernel
theorem dX12_shift_15 : decode cX12_shift 15 = .ok (.ireturn, 1) := by decide +kernel
theorem dX12_shift_16 : decode cX12_shift 16 = .ok (.aload_n 0, 1) := by decide +kernel
theorem dX12_shift_17 : decode cX12_shift 17 = .ok (.getfield 56, 3) := by decide +kernel
theorem dX12_shift_20 : decode cX12_shift 20 = .ok (.iload_n 1, 1) := by decide +kernel
theorem dX12_shift_21 : decode cX12_shift 21 = .ok (.aaload, 1) := by decide +kernel
theorem dX12_shift_22 : decode cX12_shift 22 = .ok (.astore 6, 2) := by decide +kernel
theorem dX12_shift_24 : decode cX12_shift 24 = .ok (.aload_n 0, 1) := by decide +kernel
theorem dX12_shift_25 : decode cX12_shift 25 = .ok (.getfield 56, 3) := by decide +kernel
theorem dX12_shift_28 : decode cX12_shift 28 = .ok (.iload_n 3, 1) := by decide +kernel
theorem dX12_shift_29 : decode cX12_shift 29 = .ok (.aaload, 1) := by decide +kernel
theorem dX12_shift_30 : decode cX12_shift 30 = .ok (.astore 7, 2) := by decide +kernel
theorem dX12_shift_32 : decode cX12_shift 32 = .ok (.aload 6, 2) := by decide +kernel
theorem dX12_shift_34 : decode cX12_shift 34 = .ok (.getfield 232, 3) := by decide +kernel
theorem dX12_shift_37 : decode cX12_shift 37 = .ok (.ifCond .lt 11, 3) := by decide +kernel
theorem dX12_shift_40 : decode cX12_shift 40 = .ok (.aload 7, 2) := by decide +kernel
theorem dX12_shift_42 : decode cX12_shift 42 = .ok (.getfield 232, 3) := by decide +kernel
theorem dX12_shift_45 : decode cX12_shift 45 = .ok (.ifCond .ge 6, 3) := by decide +kernel
theorem dX12_shift_48 : decode cX12_shift 48 = .ok (.bipush (-11), 2) := by decide +kernel
theorem dX12_shift_50 : decode cX12_shift 50 = .ok (.ireturn, 1) := by decide +kernel
theorem dX12_shift_51 : decode cX12_shift 51 = .ok (.aload 6, 2) := by decide +kernel
theorem dX12_shift_53 : decode cX12_shift 53 = .ok (.getfield 232, 3) := by decide +kernel
theorem dX12_shift_56 : decode cX12_shift 56 = .ok (.aload 7, 2) := by decide +kernel
theorem dX12_shift_58 : decode cX12_shift 58 = .ok (.getfield 232, 3) := by decide +kernel
theorem dX12_shift_61 : decode cX12_shift 61 = .ok (.if_icmp .eq 6, 3) := by decide +kernel
theorem dX12_shift_64 : decode cX12_shift 64 = .ok (.bipush (-12), 2) := by decide +kernel
theorem dX12_shift_66 : decode cX12_shift 66 = .ok (.ireturn, 1) := by decide +kernel
theorem dX12_shift_67 : decode cX12_shift 67 = .ok (.aload 6, 2) := by decide +kernel
theorem dX12_shift_69 : decode cX12_shift 69 = .ok (.iload_n 2, 1) := by decide +kernel
theorem dX12_shift_70 : decode cX12_shift 70 = .ok (.iload 5, 2) := by decide +kernel
theorem dX12_shift_72 : decode cX12_shift 72 = .ok (.invokevirtual 254, 3) := by decide +kernel
theorem dX12_shift_75 : decode cX12_shift 75 = .ok (.ifCond .eq 15, 3) := by decide +kernel
theorem dX12_shift_78 : decode cX12_shift 78 = .ok (.aload 7, 2) := by decide +kernel
theorem dX12_shift_80 : decode cX12_shift 80 = .ok (.iload 4, 2) := by decide +kernel
theorem dX12_shift_82 : decode cX12_shift 82 = .ok (.iload 5, 2) := by decide +kernel
theorem dX12_shift_84 : decode cX12_shift 84 = .ok (.invokevirtual 254, 3) := by decide +kernel
theorem dX12_shift_87 : decode cX12_shift 87 = .ok (.ifCond .ne 6, 3) := by decide +kernel
theorem dX12_shift_90 : decode cX12_shift 90 = .ok (.bipush (-13), 2) := by decide +kernel
theorem dX12_shift_92 : decode cX12_shift 92 = .ok (.ireturn, 1) := by decide +kernel
theorem dX12_shift_93 : decode cX12_shift 93 = .ok (.aload 6, 2) := by decide +kernel
theorem dX12_shift_95 : decode cX12_shift 95 = .ok (.getfield 236, 3) := by decide +kernel
theorem dX12_shift_98 : decode cX12_shift 98 = .ok (.iload_n 2, 1) := by decide +kernel
theorem dX12_shift_99 : decode cX12_shift 99 = .ok (.aload 7, 2) := by decide +kernel
theorem dX12_shift_101 : decode cX12_shift 101 = .ok (.getfield 236, 3) := by decide +kernel
theorem dX12_shift_104 : decode cX12_shift 104 = .ok (.iload 4, 2) := by decide +kernel
theorem dX12_shift_106 : decode cX12_shift 106 = .ok (.iload 5, 2) := by decide +kernel
theorem dX12_shift_108 : decode cX12_shift 108 = .ok (.invokestatic 257, 3) := by decide +kernel
theorem dX12_shift_111 : decode cX12_shift 111 = .ok (.iload 5, 2) := by decide +kernel
theorem dX12_shift_113 : decode cX12_shift 113 = .ok (.ireturn, 1) := by decide +kernel
theorem dX12_isTape_0 : decode cX12_isTape 0 = .ok (.iload_n 0, 1) := by decide +kernel
theorem dX12_isTape_1 : decode cX12_isTape 1 = .ok (.ifCond .lt 13, 3) := by decide +kernel
theorem dX12_isTape_4 : decode cX12_isTape 4 = .ok (.iload_n 0, 1) := by decide +kernel
theorem dX12_isTape_5 : decode cX12_isTape 5 = .ok (.bipush 6, 2) := by decide +kernel
theorem dX12_isTape_7 : decode cX12_isTape 7 = .ok (.if_icmp .ge 7, 3) := by decide +kernel
theorem dX12_isTape_10 : decode cX12_isTape 10 = .ok (.iconst 1, 1) := by decide +kernel
theorem dX12_isTape_11 : decode cX12_isTape 11 = .ok (.goto 4, 3) := by decide +kernel
theorem dX12_isTape_14 : decode cX12_isTape 14 = .ok (.iconst 0, 1) := by decide +kernel
theorem dX12_isTape_15 : decode cX12_isTape 15 = .ok (.ireturn, 1) := by decide +kernel
theorem dJx29ce0_ordinal_8abf5_0 : decode cJx29ce0_ordinal_8abf5 0 = .ok (.aload_n 0, 1) := by decide +kernel
theorem dJx29ce0_ordinal_8abf5_1 : decode cJx29ce0_ordinal_8abf5 1 = .ok (.getfield 7, 3) := by decide +kernel
theorem dJx29ce0_ordinal_8abf5_4 : decode cJx29ce0_ordinal_8abf5 4 = .ok (.ireturn, 1) := by decide +kernel
theorem dJ9_max_7cf53_0 : decode cJ9_max_7cf53 0 = .ok (.iload_n 0, 1) := by decide +kernel
theorem dJ9_max_7cf53_1 : decode cJ9_max_7cf53 1 = .ok (.iload_n 1, 1) := by decide +kernel
theorem dJ9_max_7cf53_2 : decode cJ9_max_7cf53 2 = .ok (.if_icmp .lt 7, 3) := by decide +kernel
theorem dJ9_max_7cf53_5 : decode cJ9_max_7cf53 5 = .ok (.iload_n 0, 1) := by decide +kernel
theorem dJ9_max_7cf53_6 : decode cJ9_max_7cf53 6 = .ok (.goto 4, 3) := by decide +kernel
theorem dJ9_max_7cf53_9 : decode cJ9_max_7cf53 9 = .ok (.iload_n 1, 1) := by decide +kernel
theorem dJ9_max_7cf53_10 : decode cJ9_max_7cf53 10 = .ok (.ireturn, 1) := by decide +kernel
theorem dJ9_min_7cf53_0 : decode cJ9_min_7cf53 0 = .ok (.iload_n 0, 1) := by decide +kernel
theorem dJ9_min_7cf53_1 : decode cJ9_min_7cf53 1 = .ok (.iload_n 1, 1) := by decide +kernel
theorem dJ9_min_7cf53_2 : decode cJ9_min_7cf53 2 = .ok (.if_icmp .gt 7, 3) := by decide +kernel
theorem dJ9_min_7cf53_5 : decode cJ9_min_7cf53 5 = .ok (.iload_n 0, 1) := by decide +kernel
theorem dJ9_min_7cf53_6 : decode cJ9_min_7cf53 6 = .ok (.goto 4, 3) := by decide +kernel
theorem dJ9_min_7cf53_9 : decode cJ9_min_7cf53 9 = .ok (.iload_n 1, 1) := by decide +kernel
theorem dJ9_min_7cf53_10 : decode cJ9_min_7cf53 10 = .ok (.ireturn, 1) := by decide +kernel
theorem dJ0_length_8abf5_0 : decode cJ0_length_8abf5 0 = .ok (.aload_n 0, 1) := by decide +kernel
theorem dJ0_length_8abf5_1 : decode cJ0_length_8abf5 1 = .ok (.getfield 9, 3) := by decide +kernel
theorem dJ0_length_8abf5_4 : decode cJ0_length_8abf5 4 = .ok (.arraylength, 1) := by decide +kernel
theorem dJ0_length_8abf5_5 : decode cJ0_length_8abf5 5 = .ok (.aload_n 0, 1) := by decide +kernel
theorem dJ0_length_8abf5_6 : decode cJ0_length_8abf5 6 = .ok (.invokevirtual 335, 3) := by decide +kernel
theorem dJ0_length_8abf5_9 : decode cJ0_length_8abf5 9 = .ok (.ishr, 1) := by decide +kernel
theorem dJ0_length_8abf5_10 : decode cJ0_length_8abf5 10 = .ok (.ireturn, 1) := by decide +kernel
theorem dJ0_charAt_5068e_0 : decode cJ0_charAt_5068e 0 = .ok (.aload_n 0, 1) := by decide +kernel
theorem dJ0_charAt_5068e_1 : decode cJ0_charAt_5068e 1 = .ok (.invokevirtual 492, 3) := by decide +kernel
theorem dJ0_charAt_5068e_4 : decode cJ0_charAt_5068e 4 = .ok (.ifCond .eq 12, 3) := by decide +kernel
theorem dJ0_charAt_5068e_7 : decode cJ0_charAt_5068e 7 = .ok (.aload_n 0, 1) := by decide +kernel
theorem dJ0_charAt_5068e_8 : decode cJ0_charAt_5068e 8 = .ok (.getfield 9, 3) := by decide +kernel
theorem dJ0_charAt_5068e_11 : decode cJ0_charAt_5068e 11 = .ok (.iload_n 1, 1) := by decide +kernel
theorem dJ0_charAt_5068e_12 : decode cJ0_charAt_5068e 12 = .ok (.invokestatic 495, 3) := by decide +kernel
theorem dJ0_charAt_5068e_15 : decode cJ0_charAt_5068e 15 = .ok (.ireturn, 1) := by decide +kernel
theorem dJ0_charAt_5068e_16 : decode cJ0_charAt_5068e 16 = .ok (.aload_n 0, 1) := by decide +kernel
theorem dJ0_charAt_5068e_17 : decode cJ0_charAt_5068e 17 = .ok (.getfield 9, 3) := by decide +kernel
theorem dJ0_charAt_5068e_20 : decode cJ0_charAt_5068e 20 = .ok (.iload_n 1, 1) := by decide +kernel
theorem dJ0_charAt_5068e_21 : decode cJ0_charAt_5068e 21 = .ok (.invokestatic 498, 3) := by decide +kernel
theorem dJ0_charAt_5068e_24 : decode cJ0_charAt_5068e 24 = .ok (.ireturn, 1) := by decide +kernel
theorem dJ0_coder_7d493_0 : decode cJ0_coder_7d493 0 = .ok (.getstatic 38, 3) := by decide +kernel
theorem dJ0_coder_7d493_3 : decode cJ0_coder_7d493 3 = .ok (.ifCond .eq 10, 3) := by decide +kernel
theorem dJ0_coder_7d493_6 : decode cJ0_coder_7d493 6 = .ok (.aload_n 0, 1) := by decide +kernel
theorem dJ0_coder_7d493_7 : decode cJ0_coder_7d493 7 = .ok (.getfield 15, 3) := by decide +kernel
theorem dJ0_coder_7d493_10 : decode cJ0_coder_7d493 10 = .ok (.goto 4, 3) := by decide +kernel
theorem dJ0_coder_7d493_13 : decode cJ0_coder_7d493 13 = .ok (.iconst 1, 1) := by decide +kernel
theorem dJ0_coder_7d493_14 : decode cJ0_coder_7d493 14 = .ok (.ireturn, 1) := by decide +kernel
theorem dJ0_isLatin1_aae02_0 : decode cJ0_isLatin1_aae02 0 = .ok (.getstatic 38, 3) := by decide +kernel
theorem dJ0_isLatin1_aae02_3 : decode cJ0_isLatin1_aae02 3 = .ok (.ifCond .eq 14, 3) := by decide +kernel
theorem dJ0_isLatin1_aae02_6 : decode cJ0_isLatin1_aae02 6 = .ok (.aload_n 0, 1) := by decide +kernel
theorem dJ0_isLatin1_aae02_7 : decode cJ0_isLatin1_aae02 7 = .ok (.getfield 15, 3) := by decide +kernel
theorem dJ0_isLatin1_aae02_10 : decode cJ0_isLatin1_aae02 10 = .ok (.ifCond .ne 7, 3) := by decide +kernel
theorem dJ0_isLatin1_aae02_13 : decode cJ0_isLatin1_aae02 13 = .ok (.iconst 1, 1) := by decide +kernel
theorem dJ0_isLatin1_aae02_14 : decode cJ0_isLatin1_aae02 14 = .ok (.goto 4, 3) := by decide +kernel
theorem dJ0_isLatin1_aae02_17 : decode cJ0_isLatin1_aae02 17 = .ok (.iconst 0, 1) := by decide +kernel
theorem dJ0_isLatin1_aae02_18 : decode cJ0_isLatin1_aae02 18 = .ok (.ireturn, 1) := by decide +kernel
theorem dJ0_checkIndex_df160_0 : decode cJ0_checkIndex_df160 0 = .ok (.iload_n 0, 1) := by decide +kernel
theorem dJ0_checkIndex_df160_1 : decode cJ0_checkIndex_df160 1 = .ok (.iload_n 1, 1) := by decide +kernel
theorem dJ0_checkIndex_df160_2 : decode cJ0_checkIndex_df160 2 = .ok (.getstatic 1053, 3) := by decide +kernel
theorem dJ0_checkIndex_df160_5 : decode cJ0_checkIndex_df160 5 = .ok (.invokestatic 1059, 3) := by decide +kernel
theorem dJ0_checkIndex_df160_8 : decode cJ0_checkIndex_df160 8 = .ok (.pop, 1) := by decide +kernel
theorem dJ0_checkIndex_df160_9 : decode cJ0_checkIndex_df160 9 = .ok (.return_, 1) := by decide +kernel
theorem dJ1_charAt_3b067_0 : decode cJ1_charAt_3b067 0 = .ok (.iload_n 1, 1) := by decide +kernel
theorem dJ1_charAt_3b067_1 : decode cJ1_charAt_3b067 1 = .ok (.aload_n 0, 1) := by decide +kernel
theorem dJ1_charAt_3b067_2 : decode cJ1_charAt_3b067 2 = .ok (.arraylength, 1) := by decide +kernel
theorem dJ1_charAt_3b067_3 : decode cJ1_charAt_3b067 3 = .ok (.invokestatic 9, 3) := by decide +kernel
theorem dJ1_charAt_3b067_6 : decode cJ1_charAt_3b067 6 = .ok (.aload_n 0, 1) := by decide +kernel
theorem dJ1_charAt_3b067_7 : decode cJ1_charAt_3b067 7 = .ok (.iload_n 1, 1) := by decide +kernel
theorem dJ1_charAt_3b067_8 : decode cJ1_charAt_3b067 8 = .ok (.baload, 1) := by decide +kernel
theorem dJ1_charAt_3b067_9 : decode cJ1_charAt_3b067 9 = .ok (.sipush 255, 3) := by decide +kernel
theorem dJ1_charAt_3b067_12 : decode cJ1_charAt_3b067 12 = .ok (.iand, 1) := by decide +kernel
theorem dJ1_charAt_3b067_13 : decode cJ1_charAt_3b067 13 = .ok (.i2c, 1) := by decide +kernel
theorem dJ1_charAt_3b067_14 : decode cJ1_charAt_3b067 14 = .ok (.ireturn, 1) := by decide +kernel
theorem dJ2_getChar_3b067_0 : decode cJ2_getChar_3b067 0 = .ok (.getstatic 44, 3) := by decide +kernel
theorem dJ2_getChar_3b067_3 : decode cJ2_getChar_3b067 3 = .ok (.ifCond .ne 25, 3) := by decide +kernel
theorem dJ2_getChar_3b067_6 : decode cJ2_getChar_3b067 6 = .ok (.iload_n 1, 1) := by decide +kernel
theorem dJ2_getChar_3b067_7 : decode cJ2_getChar_3b067 7 = .ok (.ifCond .lt 11, 3) := by decide +kernel
theorem dJ2_getChar_3b067_10 : decode cJ2_getChar_3b067 10 = .ok (.iload_n 1, 1) := by decide +kernel
theorem dJ2_getChar_3b067_11 : decode cJ2_getChar_3b067 11 = .ok (.aload_n 0, 1) := by decide +kernel
theorem dJ2_getChar_3b067_12 : decode cJ2_getChar_3b067 12 = .ok (.invokestatic 48, 3) := by decide +kernel
theorem dJ2_getChar_3b067_15 : decode cJ2_getChar_3b067 15 = .ok (.if_icmp .lt 13, 3) := by decide +kernel
theorem dJ2_getChar_3b067_18 : decode cJ2_getChar_3b067 18 = .ok (.new 52, 3) := by decide +kernel
theorem dJ2_getChar_3b067_21 : decode cJ2_getChar_3b067 21 = .ok (.dup, 1) := by decide +kernel
theorem dJ2_getChar_3b067_22 : decode cJ2_getChar_3b067 22 = .ok (.ldc 54, 2) := by decide +kernel
theorem dJ2_getChar_3b067_24 : decode cJ2_getChar_3b067 24 = .ok (.invokespecial 56, 3) := by decide +kernel
theorem dJ2_getChar_3b067_27 : decode cJ2_getChar_3b067 27 = .ok (.athrow, 1) := by decide +kernel
theorem dJ2_getChar_3b067_28 : decode cJ2_getChar_3b067 28 = .ok (.iload_n 1, 1) := by decide +kernel
theorem dJ2_getChar_3b067_29 : decode cJ2_getChar_3b067 29 = .ok (.iconst 1, 1) := by decide +kernel
theorem dJ2_getChar_3b067_30 : decode cJ2_getChar_3b067 30 = .ok (.ishl, 1) := by decide +kernel
theorem dJ2_getChar_3b067_31 : decode cJ2_getChar_3b067 31 = .ok (.istore_n 1, 1) := by decide +kernel
theorem dJ2_getChar_3b067_32 : decode cJ2_getChar_3b067 32 = .ok (.aload_n 0, 1) := by decide +kernel
theorem dJ2_getChar_3b067_33 : decode cJ2_getChar_3b067 33 = .ok (.iload_n 1, 1) := by decide +kernel
theorem dJ2_getChar_3b067_34 : decode cJ2_getChar_3b067 34 = .ok (.iinc 1 1, 3) := by decide +kernel
theorem dJ2_getChar_3b067_37 : decode cJ2_getChar_3b067 37 = .ok (.baload, 1) := by decide +kernel
theorem dJ2_getChar_3b067_38 : decode cJ2_getChar_3b067 38 = .ok (.sipush 255, 3) := by decide +kernel
theorem dJ2_getChar_3b067_41 : decode cJ2_getChar_3b067 41 = .ok (.iand, 1) := by decide +kernel
theorem dJ2_getChar_3b067_42 : decode cJ2_getChar_3b067 42 = .ok (.getstatic 59, 3) := by decide +kernel
theorem dJ2_getChar_3b067_45 : decode cJ2_getChar_3b067 45 = .ok (.ishl, 1) := by decide +kernel
theorem dJ2_getChar_3b067_46 : decode cJ2_getChar_3b067 46 = .ok (.aload_n 0, 1) := by decide +kernel
theorem dJ2_getChar_3b067_47 : decode cJ2_getChar_3b067 47 = .ok (.iload_n 1, 1) := by decide +kernel
theorem dJ2_getChar_3b067_48 : decode cJ2_getChar_3b067 48 = .ok (.baload, 1) := by decide +kernel
theorem dJ2_getChar_3b067_49 : decode cJ2_getChar_3b067 49 = .ok (.sipush 255, 3) := by decide +kernel
theorem dJ2_getChar_3b067_52 : decode cJ2_getChar_3b067 52 = .ok (.iand, 1) := by decide +kernel
theorem dJ2_getChar_3b067_53 : decode cJ2_getChar_3b067 53 = .ok (.getstatic 63, 3) := by decide +kernel
theorem dJ2_getChar_3b067_56 : decode cJ2_getChar_3b067 56 = .ok (.ishl, 1) := by decide +kernel
theorem dJ2_getChar_3b067_57 : decode cJ2_getChar_3b067 57 = .ok (.ior, 1) := by decide +kernel
theorem dJ2_getChar_3b067_58 : decode cJ2_getChar_3b067 58 = .ok (.i2c, 1) := by decide +kernel
theorem dJ2_getChar_3b067_59 : decode cJ2_getChar_3b067 59 = .ok (.ireturn, 1) := by decide +kernel
theorem dJ2_length_9d52b_0 : decode cJ2_length_9d52b 0 = .ok (.aload_n 0, 1) := by decide +kernel
theorem dJ2_length_9d52b_1 : decode cJ2_length_9d52b 1 = .ok (.arraylength, 1) := by decide +kernel
theorem dJ2_length_9d52b_2 : decode cJ2_length_9d52b 2 = .ok (.iconst 1, 1) := by decide +kernel
theorem dJ2_length_9d52b_3 : decode cJ2_length_9d52b 3 = .ok (.ishr, 1) := by decide +kernel
theorem dJ2_length_9d52b_4 : decode cJ2_length_9d52b 4 = .ok (.ireturn, 1) := by decide +kernel
theorem dJ2_charAt_3b067_0 : decode cJ2_charAt_3b067 0 = .ok (.iload_n 1, 1) := by decide +kernel
theorem dJ2_charAt_3b067_1 : decode cJ2_charAt_3b067 1 = .ok (.aload_n 0, 1) := by decide +kernel
theorem dJ2_charAt_3b067_2 : decode cJ2_charAt_3b067 2 = .ok (.invokestatic 67, 3) := by decide +kernel
theorem dJ2_charAt_3b067_5 : decode cJ2_charAt_3b067 5 = .ok (.aload_n 0, 1) := by decide +kernel
theorem dJ2_charAt_3b067_6 : decode cJ2_charAt_3b067 6 = .ok (.iload_n 1, 1) := by decide +kernel
theorem dJ2_charAt_3b067_7 : decode cJ2_charAt_3b067 7 = .ok (.invokestatic 71, 3) := by decide +kernel
theorem dJ2_charAt_3b067_10 : decode cJ2_charAt_3b067 10 = .ok (.ireturn, 1) := by decide +kernel
theorem dJ2_checkIndex_2214a_0 : decode cJ2_checkIndex_2214a 0 = .ok (.iload_n 0, 1) := by decide +kernel
theorem dJ2_checkIndex_2214a_1 : decode cJ2_checkIndex_2214a 1 = .ok (.aload_n 1, 1) := by decide +kernel
theorem dJ2_checkIndex_2214a_2 : decode cJ2_checkIndex_2214a 2 = .ok (.invokestatic 48, 3) := by decide +kernel
theorem dJ2_checkIndex_2214a_5 : decode cJ2_checkIndex_2214a 5 = .ok (.invokestatic 414, 3) := by decide +kernel
theorem dJ2_checkIndex_2214a_8 : decode cJ2_checkIndex_2214a 8 = .ok (.return_, 1) := by decide +kernel
theorem dJ3_checkIndex_8e157_0 : decode cJ3_checkIndex_8e157 0 = .ok (.iload_n 0, 1) := by decide +kernel
theorem dJ3_checkIndex_8e157_1 : decode cJ3_checkIndex_8e157 1 = .ok (.ifCond .lt 8, 3) := by decide +kernel
theorem dJ3_checkIndex_8e157_4 : decode cJ3_checkIndex_8e157 4 = .ok (.iload_n 0, 1) := by decide +kernel
theorem dJ3_checkIndex_8e157_5 : decode cJ3_checkIndex_8e157 5 = .ok (.iload_n 1, 1) := by decide +kernel
theorem dJ3_checkIndex_8e157_6 : decode cJ3_checkIndex_8e157 6 = .ok (.if_icmp .lt 10, 3) := by decide +kernel
theorem dJ3_checkIndex_8e157_9 : decode cJ3_checkIndex_8e157 9 = .ok (.aload_n 2, 1) := by decide +kernel
theorem dJ3_checkIndex_8e157_10 : decode cJ3_checkIndex_8e157 10 = .ok (.iload_n 0, 1) := by decide +kernel
theorem dJ3_checkIndex_8e157_11 : decode cJ3_checkIndex_8e157 11 = .ok (.iload_n 1, 1) := by decide +kernel
theorem dJ3_checkIndex_8e157_12 : decode cJ3_checkIndex_8e157 12 = .ok (.invokestatic 95, 3) := by decide +kernel
theorem dJ3_checkIndex_8e157_15 : decode cJ3_checkIndex_8e157 15 = .ok (.athrow, 1) := by decide +kernel
theorem dJ3_checkIndex_8e157_16 : decode cJ3_checkIndex_8e157 16 = .ok (.iload_n 0, 1) := by decide +kernel
theorem dJ3_checkIndex_8e157_17 : decode cJ3_checkIndex_8e157 17 = .ok (.ireturn, 1) := by decide +kernel
end
section
theorem dX13_init_0 : decode cX13_init 0 = .ok (.aload_n 0, 1) := by decide +kernel
theorem dX13_init_1 : decode cX13_init 1 = .ok (.invokespecial 3, 3) := by decide +kernel
theorem dX13_init_4 : decode cX13_init 4 = .ok (.aload_n 0, 1) := by decide +kernel
theorem dX13_init_5 : decode cX13_init 5 = .ok (.bipush 14, 2) := by decide +kernel
theorem dX13_init_7 : decode cX13_init 7 = .ok (.anewarray 9, 3) := by decide +kernel
theorem dX13_init_10 : decode cX13_init 10 = .ok (.dup, 1) := by decide +kernel
theorem dX13_init_11 : decode cX13_init 11 = .ok (.iconst 0, 1) := by decide +kernel
theorem dX13_init_12 : decode cX13_init 12 = .ok (.ldc 11, 2) := by decide +kernel
theorem dX13_init_14 : decode cX13_init 14 = .ok (.aastore, 1) := by decide +kernel
theorem dX13_init_15 : decode cX13_init 15 = .ok (.dup, 1) := by decide +kernel
theorem dX13_init_16 : decode cX13_init 16 = .ok (.iconst 1, 1) := by decide +kernel
theorem dX13_init_17 : decode cX13_init 17 = .ok (.ldc 13, 2) := by decide +kernel
theorem dX13_init_19 : decode cX13_init 19 = .ok (.aastore, 1) := by decide +kernel
theorem dX13_init_20 : decode cX13_init 20 = .ok (.dup, 1) := by decide +kernel
theorem dX13_init_21 : decode cX13_init 21 = .ok (.iconst 2, 1) := by decide +kernel
theorem dX13_init_22 : decode cX13_init 22 = .ok (.ldc 15, 2) := by decide +kernel
theorem dX13_init_24 : decode cX13_init 24 = .ok (.aastore, 1) := by decide +kernel
theorem dX13_init_25 : decode cX13_init 25 = .ok (.dup, 1) := by decide +kernel
theorem dX13_init_26 : decode cX13_init 26 = .ok (.iconst 3, 1) := by decide +kernel
theorem dX13_init_27 : decode cX13_init 27 = .ok (.ldc 17, 2) := by decide +kernel
theorem dX13_init_29 : decode cX13_init 29 = .ok (.aastore, 1) := by decide +kernel
theorem dX13_init_30 : decode cX13_init 30 = .ok (.dup, 1) := by decide +kernel
theorem dX13_init_31 : decode cX13_init 31 = .ok (.iconst 4, 1) := by decide +kernel
theorem dX13_init_32 : decode cX13_init 32 = .ok (.ldc 19, 2) := by decide +kernel
theorem dX13_init_34 : decode cX13_init 34 = .ok (.aastore, 1) := by decide +kernel
theorem dX13_init_35 : decode cX13_init 35 = .ok (.dup, 1) := by decide +kernel
theorem dX13_init_36 : decode cX13_init 36 = .ok (.iconst 5, 1) := by decide +kernel
theorem dX13_init_37 : decode cX13_init 37 = .ok (.ldc 21, 2) := by decide +kernel
theorem dX13_init_39 : decode cX13_init 39 = .ok (.aastore, 1) := by decide +kernel
theorem dX13_init_40 : decode cX13_init 40 = .ok (.dup, 1) := by decide +kernel
theorem dX13_init_41 : decode cX13_init 41 = .ok (.bipush 6, 2) := by decide +kernel
theorem dX13_init_43 : decode cX13_init 43 = .ok (.ldc 23, 2) := by decide +kernel
theorem dX13_init_45 : decode cX13_init 45 = .ok (.aastore, 1) := by decide +kernel
theorem dX13_init_46 : decode cX13_init 46 = .ok (.dup, 1) := by decide +kernel
theorem dX13_init_47 : decode cX13_init 47 = .ok (.bipush 7, 2) := by decide +kernel
theorem dX13_init_49 : decode cX13_init 49 = .ok (.ldc 25, 2) := by decide +kernel
theorem dX13_init_51 : decode cX13_init 51 = .ok (.aastore, 1) := by decide +kernel
theorem dX13_init_52 : decode cX13_init 52 = .ok (.dup, 1) := by decide +kernel
theorem dX13_init_53 : decode cX13_init 53 = .ok (.bipush 8, 2) := by decide +kernel
theorem dX13_init_55 : decode cX13_init 55 = .ok (.ldc 27, 2) := by decide +kernel
theorem dX13_init_57 : decode cX13_init 57 = .ok (.aastore, 1) := by decide +kernel
theorem dX13_init_58 : decode cX13_init 58 = .ok (.dup, 1) := by decide +kernel
theorem dX13_init_59 : decode cX13_init 59 = .ok (.bipush 9, 2) := by decide +kernel
theorem dX13_init_61 : decode cX13_init 61 = .ok (.ldc 29, 2) := by decide +kernel
theorem dX13_init_63 : decode cX13_init 63 = .ok (.aastore, 1) := by decide +kernel
theorem dX13_init_64 : decode cX13_init 64 = .ok (.dup, 1) := by decide +kernel
theorem dX13_init_65 : decode cX13_init 65 = .ok (.bipush 10, 2) := by decide +kernel
theorem dX13_init_67 : decode cX13_init 67 = .ok (.ldc 31, 2) := by decide +kernel
theorem dX13_init_69 : decode cX13_init 69 = .ok (.aastore, 1) := by decide +kernel
theorem dX13_init_70 : decode cX13_init 70 = .ok (.dup, 1) := by decide +kernel
theorem dX13_init_71 : decode cX13_init 71 = .ok (.bipush 11, 2) := by decide +kernel
theorem dX13_init_73 : decode cX13_init 73 = .ok (.ldc 33, 2) := by decide +kernel
theorem dX13_init_75 : decode cX13_init 75 = .ok (.aastore, 1) := by decide +kernel
theorem dX13_init_76 : decode cX13_init 76 = .ok (.dup, 1) := by decide +kernel
theorem dX13_init_77 : decode cX13_init 77 = .ok (.bipush 12, 2) := by decide +kernel
theorem dX13_init_79 : decode cX13_init 79 = .ok (.ldc 35, 2) := by decide +kernel
theorem dX13_init_81 : decode cX13_init 81 = .ok (.aastore, 1) := by decide +kernel
theorem dX13_init_82 : decode cX13_init 82 = .ok (.dup, 1) := by decide +kernel
theorem dX13_init_83 : decode cX13_init 83 = .ok (.bipush 13, 2) := by decide +kernel
theorem dX13_init_85 : decode cX13_init 85 = .ok (.ldc 37, 2) := by decide +kernel
theorem dX13_init_87 : decode cX13_init 87 = .ok (.aastore, 1) := by decide +kernel
theorem dX13_init_88 : decode cX13_init 88 = .ok (.putfield 39, 3) := by decide +kernel
theorem dX13_init_91 : decode cX13_init 91 = .ok (.aload_n 0, 1) := by decide +kernel
theorem dX13_init_92 : decode cX13_init 92 = .ok (.sipush 480, 3) := by decide +kernel
theorem dX13_init_95 : decode cX13_init 95 = .ok (.newarray .int, 2) := by decide +kernel
theorem dX13_init_97 : decode cX13_init 97 = .ok (.putfield 45, 3) := by decide +kernel
theorem dX13_init_100 : decode cX13_init 100 = .ok (.aload_n 0, 1) := by decide +kernel
theorem dX13_init_101 : decode cX13_init 101 = .ok (.sipush 480, 3) := by decide +kernel
theorem dX13_init_104 : decode cX13_init 104 = .ok (.newarray .int, 2) := by decide +kernel
theorem dX13_init_106 : decode cX13_init 106 = .ok (.putfield 49, 3) := by decide +kernel
theorem dX13_init_109 : decode cX13_init 109 = .ok (.aload_n 0, 1) := by decide +kernel
theorem dX13_init_110 : decode cX13_init 110 = .ok (.sipush 480, 3) := by decide +kernel
theorem dX13_init_113 : decode cX13_init 113 = .ok (.newarray .int, 2) := by decide +kernel
theorem dX13_init_115 : decode cX13_init 115 = .ok (.putfield 52, 3) := by decide +kernel
theorem dX13_init_118 : decode cX13_init 118 = .ok (.aload_n 0, 1) := by decide +kernel
theorem dX13_init_119 : decode cX13_init 119 = .ok (.sipush 480, 3) := by decide +kernel
theorem dX13_init_122 : decode cX13_init 122 = .ok (.newarray .int, 2) := by decide +kernel
theorem dX13_init_124 : decode cX13_init 124 = .ok (.putfield 55, 3) := by decide +kernel
theorem dX13_init_127 : decode cX13_init 127 = .ok (.aload_n 0, 1) := by decide +kernel
theorem dX13_init_128 : decode cX13_init 128 = .ok (.sipush 480, 3) := by decide +kernel
theorem dX13_init_131 : decode cX13_init 131 = .ok (.newarray .int, 2) := by decide +kernel
theorem dX13_init_133 : decode cX13_init 133 = .ok (.putfield 58, 3) := by decide +kernel
theorem dX13_init_136 : decode cX13_init 136 = .ok (.aload_n 0, 1) := by decide +kernel
theorem dX13_init_137 : decode cX13_init 137 = .ok (.sipush 480, 3) := by decide +kernel
theorem dX13_init_140 : decode cX13_init 140 = .ok (.newarray .int, 2) := by decide +kernel
theorem dX13_init_142 : decode cX13_init 142 = .ok (.putfield 61, 3) := by decide +kernel
theorem dX13_init_145 : decode cX13_init 145 = .ok (.aload_n 0, 1) := by decide +kernel
theorem dX13_init_146 : decode cX13_init 146 = .ok (.sipush 480, 3) := by decide +kernel
theorem dX13_init_149 : decode cX13_init 149 = .ok (.newarray .int, 2) := by decide +kernel
theorem dX13_init_151 : decode cX13_init 151 = .ok (.putfield 64, 3) := by decide +kernel
theorem dX13_init_154 : decode cX13_init 154 = .ok (.aload_n 0, 1) := by decide +kernel
theorem dX13_init_155 : decode cX13_init 155 = .ok (.sipush 480, 3) := by decide +kernel
theorem dX13_init_158 : decode cX13_init 158 = .ok (.newarray .int, 2) := by decide +kernel
theorem dX13_init_160 : decode cX13_init 160 = .ok (.putfield 67, 3) := by decide +kernel
theorem dX13_init_163 : decode cX13_init 163 = .ok (.aload_n 0, 1) := by decide +kernel
theorem dX13_init_164 : decode cX13_init 164 = .ok (.sipush 1920, 3) := by decide +kernel
theorem dX13_init_167 : decode cX13_init 167 = .ok (.newarray .int, 2) := by decide +kernel
theorem dX13_init_169 : decode cX13_init 169 = .ok (.putfield 70, 3) := by decide +kernel
theorem dX13_init_172 : decode cX13_init 172 = .ok (.aload_n 0, 1) := by decide +kernel
theorem dX13_init_173 : decode cX13_init 173 = .ok (.bipush 8, 2) := by decide +kernel
theorem dX13_init_175 : decode cX13_init 175 = .ok (.newarray .int, 2) := by decide +kernel
theorem dX13_init_177 : decode cX13_init 177 = .ok (.putfield 73, 3) := by decide +kernel
theorem dX13_init_180 : decode cX13_init 180 = .ok (.aload_n 0, 1) := by decide +kernel
theorem dX13_init_181 : decode cX13_init 181 = .ok (.bipush 8, 2) := by decide +kernel
theorem dX13_init_183 : decode cX13_init 183 = .ok (.newarray .int, 2) := by decide +kernel
theorem dX13_init_185 : decode cX13_init 185 = .ok (.putfield 76, 3) := by decide +kernel
theorem dX13_init_188 : decode cX13_init 188 = .ok (.aload_n 0, 1) := by decide +kernel
theorem dX13_init_189 : decode cX13_init 189 = .ok (.iconst 5, 1) := by decide +kernel
theorem dX13_init_190 : decode cX13_init 190 = .ok (.newarray .int, 2) := by decide +kernel
theorem dX13_init_192 : decode cX13_init 192 = .ok (.putfield 79, 3) := by decide +kernel
theorem dX13_init_195 : decode cX13_init 195 = .ok (.aload_n 0, 1) := by decide +kernel
theorem dX13_init_196 : decode cX13_init 196 = .ok (.iconst 3, 1) := by decide +kernel
theorem dX13_init_197 : decode cX13_init 197 = .ok (.newarray .int, 2) := by decide +kernel
theorem dX13_init_199 : decode cX13_init 199 = .ok (.dup, 1) := by decide +kernel
theorem dX13_init_200 : decode cX13_init 200 = .ok (.iconst 0, 1) := by decide +kernel
theorem dX13_init_201 : decode cX13_init 201 = .ok (.bipush (-5), 2) := by decide +kernel
theorem dX13_init_203 : decode cX13_init 203 = .ok (.iastore, 1) := by decide +kernel
theorem dX13_init_204 : decode cX13_init 204 = .ok (.dup, 1) := by decide +kernel
theorem dX13_init_205 : decode cX13_init 205 = .ok (.iconst 1, 1) := by decide +kernel
theorem dX13_init_206 : decode cX13_init 206 = .ok (.bipush (-5), 2) := by decide +kernel
theorem dX13_init_208 : decode cX13_init 208 = .ok (.iastore, 1) := by decide +kernel
theorem dX13_init_209 : decode cX13_init 209 = .ok (.dup, 1) := by decide +kernel
theorem dX13_init_210 : decode cX13_init 210 = .ok (.iconst 2, 1) := by decide +kernel
theorem dX13_init_211 : decode cX13_init 211 = .ok (.bipush (-5), 2) := by decide +kernel
theorem dX13_init_213 : decode cX13_init 213 = .ok (.iastore, 1) := by decide +kernel
theorem dX13_init_214 : decode cX13_init 214 = .ok (.putfield 82, 3) := by decide +kernel
theorem dX13_init_217 : decode cX13_init 217 = .ok (.aload_n 0, 1) := by decide +kernel
theorem dX13_init_218 : decode cX13_init 218 = .ok (.bipush (-5), 2) := by decide +kernel
theorem dX13_init_220 : decode cX13_init 220 = .ok (.putfield 85, 3) := by decide +kernel
theorem dX13_init_223 : decode cX13_init 223 = .ok (.aload_n 0, 1) := by decide +kernel
theorem dX13_init_224 : decode cX13_init 224 = .ok (.bipush 100, 2) := by decide +kernel
theorem dX13_init_226 : decode cX13_init 226 = .ok (.newarray .int, 2) := by decide +kernel
theorem dX13_init_228 : decode cX13_init 228 = .ok (.putfield 89, 3) := by decide +kernel
theorem dX13_init_231 : decode cX13_init 231 = .ok (.aload_n 0, 1) := by decide +kernel
theorem dX13_init_232 : decode cX13_init 232 = .ok (.bipush 28, 2) := by decide +kernel
theorem dX13_init_234 : decode cX13_init 234 = .ok (.newarray .int, 2) := by decide +kernel
theorem dX13_init_236 : decode cX13_init 236 = .ok (.putfield 92, 3) := by decide +kernel
theorem dX13_init_239 : decode cX13_init 239 = .ok (.aload_n 0, 1) := by decide +kernel
theorem dX13_init_240 : decode cX13_init 240 = .ok (.bipush 28, 2) := by decide +kernel
theorem dX13_init_242 : decode cX13_init 242 = .ok (.newarray .int, 2) := by decide +kernel
theorem dX13_init_244 : decode cX13_init 244 = .ok (.putfield 95, 3) := by decide +kernel
theorem dX13_init_247 : decode cX13_init 247 = .ok (.aload_n 0, 1) := by decide +kernel
theorem dX13_init_248 : decode cX13_init 248 = .ok (.sipush 672, 3) := by decide +kernel
theorem dX13_init_251 : decode cX13_init 251 = .ok (.newarray .int, 2) := by decide +kernel
theorem dX13_init_253 : decode cX13_init 253 = .ok (.putfield 98, 3) := by decide +kernel
theorem dX13_init_256 : decode cX13_init 256 = .ok (.aload_n 0, 1) := by decide +kernel
theorem dX13_init_257 : decode cX13_init 257 = .ok (.sipush 168, 3) := by decide +kernel
theorem dX13_init_260 : decode cX13_init 260 = .ok (.newarray .int, 2) := by decide +kernel
theorem dX13_init_262 : decode cX13_init 262 = .ok (.putfield 101, 3) := by decide +kernel
theorem dX13_init_265 : decode cX13_init 265 = .ok (.aload_n 0, 1) := by decide +kernel
theorem dX13_init_266 : decode cX13_init 266 = .ok (.sipush 168, 3) := by decide +kernel
theorem dX13_init_269 : decode cX13_init 269 = .ok (.newarray .boolean, 2) := by decide +kernel
theorem dX13_init_271 : decode cX13_init 271 = .ok (.putfield 104, 3) := by decide +kernel
theorem dX13_init_274 : decode cX13_init 274 = .ok (.aload_n 0, 1) := by decide +kernel
theorem dX13_init_275 : decode cX13_init 275 = .ok (.sipush 168, 3) := by decide +kernel
theorem dX13_init_278 : decode cX13_init 278 = .ok (.newarray .int, 2) := by decide +kernel
theorem dX13_init_280 : decode cX13_init 280 = .ok (.putfield 108, 3) := by decide +kernel
theorem dX13_init_283 : decode cX13_init 283 = .ok (.aload_n 0, 1) := by decide +kernel
theorem dX13_init_284 : decode cX13_init 284 = .ok (.sipush 1680, 3) := by decide +kernel
theorem dX13_init_287 : decode cX13_init 287 = .ok (.newarray .int, 2) := by decide +kernel
theorem dX13_init_289 : decode cX13_init 289 = .ok (.putfield 111, 3) := by decide +kernel
theorem dX13_init_292 : decode cX13_init 292 = .ok (.aload_n 0, 1) := by decide +kernel
theorem dX13_init_293 : decode cX13_init 293 = .ok (.bipush 28, 2) := by decide +kernel
theorem dX13_init_295 : decode cX13_init 295 = .ok (.newarray .int, 2) := by decide +kernel
theorem dX13_init_297 : decode cX13_init 297 = .ok (.putfield 114, 3) := by decide +kernel
theorem dX13_init_300 : decode cX13_init 300 = .ok (.aload_n 0, 1) := by decide +kernel
theorem dX13_init_301 : decode cX13_init 301 = .ok (.bipush 60, 2) := by decide +kernel
theorem dX13_init_303 : decode cX13_init 303 = .ok (.newarray .int, 2) := by decide +kernel
theorem dX13_init_305 : decode cX13_init 305 = .ok (.putfield 117, 3) := by decide +kernel
theorem dX13_init_308 : decode cX13_init 308 = .ok (.aload_n 0, 1) := by decide +kernel
theorem dX13_init_309 : decode cX13_init 309 = .ok (.bipush 60, 2) := by decide +kernel
theorem dX13_init_311 : decode cX13_init 311 = .ok (.newarray .int, 2) := by decide +kernel
theorem dX13_init_313 : decode cX13_init 313 = .ok (.putfield 120, 3) := by decide +kernel
theorem dX13_init_316 : decode cX13_init 316 = .ok (.aload_n 0, 1) := by decide +kernel
theorem dX13_init_317 : decode cX13_init 317 = .ok (.iconst 4, 1) := by decide +kernel
theorem dX13_init_318 : decode cX13_init 318 = .ok (.newarray .int, 2) := by decide +kernel
theorem dX13_init_320 : decode cX13_init 320 = .ok (.dup, 1) := by decide +kernel
theorem dX13_init_321 : decode cX13_init 321 = .ok (.iconst 0, 1) := by decide +kernel
theorem dX13_init_322 : decode cX13_init 322 = .ok (.iconst (-1), 1) := by decide +kernel
theorem dX13_init_323 : decode cX13_init 323 = .ok (.iastore, 1) := by decide +kernel
theorem dX13_init_324 : decode cX13_init 324 = .ok (.dup, 1) := by decide +kernel
theorem dX13_init_325 : decode cX13_init 325 = .ok (.iconst 1, 1) := by decide +kernel
theorem dX13_init_326 : decode cX13_init 326 = .ok (.iconst (-1), 1) := by decide +kernel
theorem dX13_init_327 : decode cX13_init 327 = .ok (.iastore, 1) := by decide +kernel
theorem dX13_init_328 : decode cX13_init 328 = .ok (.dup, 1) := by decide +kernel
theorem dX13_init_329 : decode cX13_init 329 = .ok (.iconst 2, 1) := by decide +kernel
theorem dX13_init_330 : decode cX13_init 330 = .ok (.iconst (-1), 1) := by decide +kernel
theorem dX13_init_331 : decode cX13_init 331 = .ok (.iastore, 1) := by decide +kernel
theorem dX13_init_332 : decode cX13_init 332 = .ok (.dup, 1) := by decide +kernel
theorem dX13_init_333 : decode cX13_init 333 = .ok (.iconst 3, 1) := by decide +kernel
theorem dX13_init_334 : decode cX13_init 334 = .ok (.iconst (-1), 1) := by decide +kernel
theorem dX13_init_335 : decode cX13_init 335 = .ok (.iastore, 1) := by decide +kernel
theorem dX13_init_336 : decode cX13_init 336 = .ok (.putfield 123, 3) := by decide +kernel
theorem dX13_init_339 : decode cX13_init 339 = .ok (.aload_n 0, 1) := by decide +kernel
theorem dX13_init_340 : decode cX13_init 340 = .ok (.iconst 4, 1) := by decide +kernel
theorem dX13_init_341 : decode cX13_init 341 = .ok (.newarray .int, 2) := by decide +kernel
theorem dX13_init_343 : decode cX13_init 343 = .ok (.putfield 126, 3) := by decide +kernel
theorem dX13_init_346 : decode cX13_init 346 = .ok (.aload_n 0, 1) := by decide +kernel
theorem dX13_init_347 : decode cX13_init 347 = .ok (.iconst 4, 1) := by decide +kernel
theorem dX13_init_348 : decode cX13_init 348 = .ok (.newarray .int, 2) := by decide +kernel
theorem dX13_init_350 : decode cX13_init 350 = .ok (.putfield 129, 3) := by decide +kernel
theorem dX13_init_353 : decode cX13_init 353 = .ok (.aload_n 0, 1) := by decide +kernel
theorem dX13_init_354 : decode cX13_init 354 = .ok (.iconst 4, 1) := by decide +kernel
theorem dX13_init_355 : decode cX13_init 355 = .ok (.newarray .boolean, 2) := by decide +kernel
theorem dX13_init_357 : decode cX13_init 357 = .ok (.putfield 132, 3) := by decide +kernel
theorem dX13_init_360 : decode cX13_init 360 = .ok (.aload_n 0, 1) := by decide +kernel
theorem dX13_init_361 : decode cX13_init 361 = .ok (.iconst 4, 1) := by decide +kernel
theorem dX13_init_362 : decode cX13_init 362 = .ok (.newarray .int, 2) := by decide +kernel
theorem dX13_init_364 : decode cX13_init 364 = .ok (.putfield 135, 3) := by decide +kernel
theorem dX13_init_367 : decode cX13_init 367 = .ok (.aload_n 0, 1) := by decide +kernel
theorem dX13_init_368 : decode cX13_init 368 = .ok (.iconst 5, 1) := by decide +kernel
theorem dX13_init_369 : decode cX13_init 369 = .ok (.newarray .int, 2) := by decide +kernel
theorem dX13_init_371 : decode cX13_init 371 = .ok (.putfield 138, 3) := by decide +kernel
theorem dX13_init_374 : decode cX13_init 374 = .ok (.aload_n 0, 1) := by decide +kernel
theorem dX13_init_375 : decode cX13_init 375 = .ok (.bipush 10, 2) := by decide +kernel
theorem dX13_init_377 : decode cX13_init 377 = .ok (.newarray .int, 2) := by decide +kernel
theorem dX13_init_379 : decode cX13_init 379 = .ok (.putfield 141, 3) := by decide +kernel
theorem dX13_init_382 : decode cX13_init 382 = .ok (.aload_n 0, 1) := by decide +kernel
theorem dX13_init_383 : decode cX13_init 383 = .ok (.bipush 60, 2) := by decide +kernel
theorem dX13_init_385 : decode cX13_init 385 = .ok (.newarray .int, 2) := by decide +kernel
theorem dX13_init_387 : decode cX13_init 387 = .ok (.putfield 144, 3) := by decide +kernel
theorem dX13_init_390 : decode cX13_init 390 = .ok (.aload_n 0, 1) := by decide +kernel
theorem dX13_init_391 : decode cX13_init 391 = .ok (.bipush 20, 2) := by decide +kernel
theorem dX13_init_393 : decode cX13_init 393 = .ok (.newarray .int, 2) := by decide +kernel
theorem dX13_init_395 : decode cX13_init 395 = .ok (.putfield 147, 3) := by decide +kernel
theorem dX13_init_398 : decode cX13_init 398 = .ok (.aload_n 0, 1) := by decide +kernel
theorem dX13_init_399 : decode cX13_init 399 = .ok (.bipush 16, 2) := by decide +kernel
theorem dX13_init_401 : decode cX13_init 401 = .ok (.newarray .int, 2) := by decide +kernel
theorem dX13_init_403 : decode cX13_init 403 = .ok (.putfield 150, 3) := by decide +kernel
theorem dX13_init_406 : decode cX13_init 406 = .ok (.aload_n 0, 1) := by decide +kernel
theorem dX13_init_407 : decode cX13_init 407 = .ok (.iconst 5, 1) := by decide +kernel
theorem dX13_init_408 : decode cX13_init 408 = .ok (.newarray .int, 2) := by decide +kernel
theorem dX13_init_410 : decode cX13_init 410 = .ok (.putfield 153, 3) := by decide +kernel
theorem dX13_init_413 : decode cX13_init 413 = .ok (.aload_n 0, 1) := by decide +kernel
theorem dX13_init_414 : decode cX13_init 414 = .ok (.iconst 3, 1) := by decide +kernel
theorem dX13_init_415 : decode cX13_init 415 = .ok (.newarray .int, 2) := by decide +kernel
theorem dX13_init_417 : decode cX13_init 417 = .ok (.putfield 156, 3) := by decide +kernel
theorem dX13_init_420 : decode cX13_init 420 = .ok (.aload_n 0, 1) := by decide +kernel
theorem dX13_init_421 : decode cX13_init 421 = .ok (.sipush 160, 3) := by decide +kernel
theorem dX13_init_424 : decode cX13_init 424 = .ok (.newarray .int, 2) := by decide +kernel
theorem dX13_init_426 : decode cX13_init 426 = .ok (.putfield 159, 3) := by decide +kernel
theorem dX13_init_429 : decode cX13_init 429 = .ok (.aload_n 0, 1) := by decide +kernel
theorem dX13_init_430 : decode cX13_init 430 = .ok (.bipush 7, 2) := by decide +kernel
theorem dX13_init_432 : decode cX13_init 432 = .ok (.newarray .int, 2) := by decide +kernel
theorem dX13_init_434 : decode cX13_init 434 = .ok (.putfield 162, 3) := by decide +kernel
theorem dX13_init_437 : decode cX13_init 437 = .ok (.aload_n 0, 1) := by decide +kernel
theorem dX13_init_438 : decode cX13_init 438 = .ok (.bipush 6, 2) := by decide +kernel
theorem dX13_init_440 : decode cX13_init 440 = .ok (.newarray .int, 2) := by decide +kernel
theorem dX13_init_442 : decode cX13_init 442 = .ok (.dup, 1) := by decide +kernel
theorem dX13_init_443 : decode cX13_init 443 = .ok (.iconst 0, 1) := by decide +kernel
theorem dX13_init_444 : decode cX13_init 444 = .ok (.iconst (-1), 1) := by decide +kernel
theorem dX13_init_445 : decode cX13_init 445 = .ok (.iastore, 1) := by decide +kernel
theorem dX13_init_446 : decode cX13_init 446 = .ok (.dup, 1) := by decide +kernel
theorem dX13_init_447 : decode cX13_init 447 = .ok (.iconst 1, 1) := by decide +kernel
theorem dX13_init_448 : decode cX13_init 448 = .ok (.iconst (-1), 1) := by decide +kernel
theorem dX13_init_449 : decode cX13_init 449 = .ok (.iastore, 1) := by decide +kernel
theorem dX13_init_450 : decode cX13_init 450 = .ok (.dup, 1) := by decide +kernel
theorem dX13_init_451 : decode cX13_init 451 = .ok (.iconst 2, 1) := by decide +kernel
theorem dX13_init_452 : decode cX13_init 452 = .ok (.iconst (-1), 1) := by decide +kernel
theorem dX13_init_453 : decode cX13_init 453 = .ok (.iastore, 1) := by decide +kernel
theorem dX13_init_454 : decode cX13_init 454 = .ok (.dup, 1) := by decide +kernel
theorem dX13_init_455 : decode cX13_init 455 = .ok (.iconst 3, 1) := by decide +kernel
theorem dX13_init_456 : decode cX13_init 456 = .ok (.iconst (-1), 1) := by decide +kernel
theorem dX13_init_457 : decode cX13_init 457 = .ok (.iastore, 1) := by decide +kernel
theorem dX13_init_458 : decode cX13_init 458 = .ok (.dup, 1) := by decide +kernel
theorem dX13_init_459 : decode cX13_init 459 = .ok (.iconst 4, 1) := by decide +kernel
theorem dX13_init_460 : decode cX13_init 460 = .ok (.iconst (-1), 1) := by decide +kernel
theorem dX13_init_461 : decode cX13_init 461 = .ok (.iastore, 1) := by decide +kernel
theorem dX13_init_462 : decode cX13_init 462 = .ok (.dup, 1) := by decide +kernel
theorem dX13_init_463 : decode cX13_init 463 = .ok (.iconst 5, 1) := by decide +kernel
theorem dX13_init_464 : decode cX13_init 464 = .ok (.iconst (-1), 1) := by decide +kernel
theorem dX13_init_465 : decode cX13_init 465 = .ok (.iastore, 1) := by decide +kernel
theorem dX13_init_466 : decode cX13_init 466 = .ok (.putfield 165, 3) := by decide +kernel
theorem dX13_init_469 : decode cX13_init 469 = .ok (.aload_n 0, 1) := by decide +kernel
theorem dX13_init_470 : decode cX13_init 470 = .ok (.bipush 6, 2) := by decide +kernel
theorem dX13_init_472 : decode cX13_init 472 = .ok (.newarray .int, 2) := by decide +kernel
theorem dX13_init_474 : decode cX13_init 474 = .ok (.putfield 168, 3) := by decide +kernel
theorem dX13_init_477 : decode cX13_init 477 = .ok (.aload_n 0, 1) := by decide +kernel
theorem dX13_init_478 : decode cX13_init 478 = .ok (.sipush 360, 3) := by decide +kernel
theorem dX13_init_481 : decode cX13_init 481 = .ok (.newarray .long, 2) := by decide +kernel
theorem dX13_init_483 : decode cX13_init 483 = .ok (.putfield 171, 3) := by decide +kernel
theorem dX13_init_486 : decode cX13_init 486 = .ok (.return_, 1) := by decide +kernel
theorem dX13_in_0 : decode cX13_in 0 = .ok (.lload_n 0, 1) := by decide +kernel
theorem dX13_in_1 : decode cX13_in 1 = .ok (.lload_n 2, 1) := by decide +kernel
theorem dX13_in_2 : decode cX13_in 2 = .ok (.lcmp, 1) := by decide +kernel
theorem dX13_in_3 : decode cX13_in 3 = .ok (.ifCond .lt 14, 3) := by decide +kernel
theorem dX13_in_6 : decode cX13_in 6 = .ok (.lload_n 0, 1) := by decide +kernel
theorem dX13_in_7 : decode cX13_in 7 = .ok (.lload 4, 2) := by decide +kernel
theorem dX13_in_9 : decode cX13_in 9 = .ok (.lcmp, 1) := by decide +kernel
theorem dX13_in_10 : decode cX13_in 10 = .ok (.ifCond .gt 7, 3) := by decide +kernel
theorem dX13_in_13 : decode cX13_in 13 = .ok (.iconst 1, 1) := by decide +kernel
theorem dX13_in_14 : decode cX13_in 14 = .ok (.goto 4, 3) := by decide +kernel
theorem dX13_in_17 : decode cX13_in 17 = .ok (.iconst 0, 1) := by decide +kernel
theorem dX13_in_18 : decode cX13_in 18 = .ok (.ireturn, 1) := by decide +kernel
theorem dX13_feed_0 : decode cX13_feed 0 = .ok (.iload_n 1, 1) := by decide +kernel
theorem dX13_feed_1 : decode cX13_feed 1 = .ok (.i2l, 1) := by decide +kernel
theorem dX13_feed_2 : decode cX13_feed 2 = .ok (.lconst 0, 1) := by decide +kernel
theorem dX13_feed_3 : decode cX13_feed 3 = .ok (.ldc2_w 175, 3) := by decide +kernel
theorem dX13_feed_6 : decode cX13_feed 6 = .ok (.invokestatic 177, 3) := by decide +kernel
theorem dX13_feed_9 : decode cX13_feed 9 = .ok (.ifCond .ne 6, 3) := by decide +kernel
theorem dX13_feed_12 : decode cX13_feed 12 = .ok (.bipush (-2), 2) := by decide +kernel
theorem dX13_feed_14 : decode cX13_feed 14 = .ok (.ireturn, 1) := by decide +kernel
theorem dX13_feed_15 : decode cX13_feed 15 = .ok (.aload_n 0, 1) := by decide +kernel
theorem dX13_feed_16 : decode cX13_feed 16 = .ok (.getfield 181, 3) := by decide +kernel
theorem dX13_feed_19 : decode cX13_feed 19 = .ok (.bipush 100, 2) := by decide +kernel
theorem dX13_feed_21 : decode cX13_feed 21 = .ok (.if_icmp .ne 6, 3) := by decide +kernel
theorem dX13_feed_24 : decode cX13_feed 24 = .ok (.bipush (-4), 2) := by decide +kernel
theorem dX13_feed_26 : decode cX13_feed 26 = .ok (.ireturn, 1) := by decide +kernel
theorem dX13_feed_27 : decode cX13_feed 27 = .ok (.aload_n 0, 1) := by decide +kernel
theorem dX13_feed_28 : decode cX13_feed 28 = .ok (.getfield 89, 3) := by decide +kernel
theorem dX13_feed_31 : decode cX13_feed 31 = .ok (.aload_n 0, 1) := by decide +kernel
theorem dX13_feed_32 : decode cX13_feed 32 = .ok (.getfield 181, 3) := by decide +kernel
theorem dX13_feed_35 : decode cX13_feed 35 = .ok (.iload_n 1, 1) := by decide +kernel
theorem dX13_feed_36 : decode cX13_feed 36 = .ok (.iastore, 1) := by decide +kernel
theorem dX13_feed_37 : decode cX13_feed 37 = .ok (.aload_n 0, 1) := by decide +kernel
theorem dX13_feed_38 : decode cX13_feed 38 = .ok (.dup, 1) := by decide +kernel
theorem dX13_feed_39 : decode cX13_feed 39 = .ok (.getfield 181, 3) := by decide +kernel
theorem dX13_feed_42 : decode cX13_feed 42 = .ok (.iconst 1, 1) := by decide +kernel
theorem dX13_feed_43 : decode cX13_feed 43 = .ok (.iadd, 1) := by decide +kernel
theorem dX13_feed_44 : decode cX13_feed 44 = .ok (.putfield 181, 3) := by decide +kernel
theorem dX13_feed_47 : decode cX13_feed 47 = .ok (.aload_n 0, 1) := by decide +kernel
theorem dX13_feed_48 : decode cX13_feed 48 = .ok (.getfield 181, 3) := by decide +kernel
theorem dX13_feed_51 : decode cX13_feed 51 = .ok (.ireturn, 1) := by decide +kernel
theorem dX13_byteAt_0 : decode cX13_byteAt 0 = .ok (.iload_n 1, 1) := by decide +kernel
theorem dX13_byteAt_1 : decode cX13_byteAt 1 = .ok (.aload_n 0, 1) := by decide +kernel
theorem dX13_byteAt_2 : decode cX13_byteAt 2 = .ok (.getfield 181, 3) := by decide +kernel
theorem dX13_byteAt_5 : decode cX13_byteAt 5 = .ok (.if_icmp .ge 12, 3) := by decide +kernel
theorem dX13_byteAt_8 : decode cX13_byteAt 8 = .ok (.aload_n 0, 1) := by decide +kernel
theorem dX13_byteAt_9 : decode cX13_byteAt 9 = .ok (.getfield 89, 3) := by decide +kernel
theorem dX13_byteAt_12 : decode cX13_byteAt 12 = .ok (.iload_n 1, 1) := by decide +kernel
theorem dX13_byteAt_13 : decode cX13_byteAt 13 = .ok (.iaload, 1) := by decide +kernel
theorem dX13_byteAt_14 : decode cX13_byteAt 14 = .ok (.goto 4, 3) := by decide +kernel
theorem dX13_byteAt_17 : decode cX13_byteAt 17 = .ok (.iconst (-1), 1) := by decide +kernel
theorem dX13_byteAt_18 : decode cX13_byteAt 18 = .ok (.ireturn, 1) := by decide +kernel
theorem dX13_stops_0 : decode cX13_stops 0 = .ok (.aload_n 0, 1) := by decide +kernel
theorem dX13_stops_1 : decode cX13_stops 1 = .ok (.iload_n 1, 1) := by decide +kernel
theorem dX13_stops_2 : decode cX13_stops 2 = .ok (.putfield 184, 3) := by decide +kernel
theorem dX13_stops_5 : decode cX13_stops 5 = .ok (.iconst 0, 1) := by decide +kernel
theorem dX13_stops_6 : decode cX13_stops 6 = .ok (.ireturn, 1) := by decide +kernel
theorem dX13_listRead_0 : decode cX13_listRead 0 = .ok (.aload_n 0, 1) := by decide +kernel
theorem dX13_listRead_1 : decode cX13_listRead 1 = .ok (.aload_n 0, 1) := by decide +kernel
theorem dX13_listRead_2 : decode cX13_listRead 2 = .ok (.getfield 187, 3) := by decide +kernel
theorem dX13_listRead_5 : decode cX13_listRead 5 = .ok (.iload_n 1, 1) := by decide +kernel
theorem dX13_listRead_6 : decode cX13_listRead 6 = .ok (.invokestatic 190, 3) := by decide +kernel
theorem dX13_listRead_9 : decode cX13_listRead 9 = .ok (.putfield 187, 3) := by decide +kernel
theorem dX13_listRead_12 : decode cX13_listRead 12 = .ok (.bipush 60, 2) := by decide +kernel
theorem dX13_listRead_14 : decode cX13_listRead 14 = .ok (.aload_n 0, 1) := by decide +kernel
theorem dX13_listRead_15 : decode cX13_listRead 15 = .ok (.getfield 196, 3) := by decide +kernel
theorem dX13_listRead_18 : decode cX13_listRead 18 = .ok (.imul, 1) := by decide +kernel
theorem dX13_listRead_19 : decode cX13_listRead 19 = .ok (.aload_n 0, 1) := by decide +kernel
theorem dX13_listRead_20 : decode cX13_listRead 20 = .ok (.getfield 199, 3) := by decide +kernel
theorem dX13_listRead_23 : decode cX13_listRead 23 = .ok (.iadd, 1) := by decide +kernel
theorem dX13_listRead_24 : decode cX13_listRead 24 = .ok (.istore_n 2, 1) := by decide +kernel
theorem dX13_listRead_25 : decode cX13_listRead 25 = .ok (.aload_n 0, 1) := by decide +kernel
theorem dX13_listRead_26 : decode cX13_listRead 26 = .ok (.dup, 1) := by decide +kernel
theorem dX13_listRead_27 : decode cX13_listRead 27 = .ok (.getfield 199, 3) := by decide +kernel
theorem dX13_listRead_30 : decode cX13_listRead 30 = .ok (.iconst 1, 1) := by decide +kernel
theorem dX13_listRead_31 : decode cX13_listRead 31 = .ok (.iadd, 1) := by decide +kernel
theorem dX13_listRead_32 : decode cX13_listRead 32 = .ok (.putfield 199, 3) := by decide +kernel
theorem dX13_listRead_35 : decode cX13_listRead 35 = .ok (.iconst (-1), 1) := by decide +kernel
theorem dX13_listRead_36 : decode cX13_listRead 36 = .ok (.istore_n 3, 1) := by decide +kernel
theorem dX13_listRead_37 : decode cX13_listRead 37 = .ok (.bipush 59, 2) := by decide +kernel
theorem dX13_listRead_39 : decode cX13_listRead 39 = .ok (.istore 4, 2) := by decide +kernel
theorem dX13_listRead_41 : decode cX13_listRead 41 = .ok (.aload_n 0, 1) := by decide +kernel
theorem dX13_listRead_42 : decode cX13_listRead 42 = .ok (.iload_n 1, 1) := by decide +kernel
theorem dX13_listRead_43 : decode cX13_listRead 43 = .ok (.invokevirtual 202, 3) := by decide +kernel
theorem dX13_listRead_46 : decode cX13_listRead 46 = .ok (.istore 5, 2) := by decide +kernel
theorem dX13_listRead_48 : decode cX13_listRead 48 = .ok (.iload 5, 2) := by decide +kernel
theorem dX13_listRead_50 : decode cX13_listRead 50 = .ok (.ifCond .ge 5, 3) := by decide +kernel
theorem dX13_listRead_53 : decode cX13_listRead 53 = .ok (.iconst (-1), 1) := by decide +kernel
theorem dX13_listRead_54 : decode cX13_listRead 54 = .ok (.ireturn, 1) := by decide +kernel
theorem dX13_listRead_55 : decode cX13_listRead 55 = .ok (.aload_n 0, 1) := by decide +kernel
theorem dX13_listRead_56 : decode cX13_listRead 56 = .ok (.getfield 52, 3) := by decide +kernel
theorem dX13_listRead_59 : decode cX13_listRead 59 = .ok (.iload 5, 2) := by decide +kernel
theorem dX13_listRead_61 : decode cX13_listRead 61 = .ok (.iload 4, 2) := by decide +kernel
theorem dX13_listRead_63 : decode cX13_listRead 63 = .ok (.iastore, 1) := by decide +kernel
theorem dX13_listRead_64 : decode cX13_listRead 64 = .ok (.aload_n 0, 1) := by decide +kernel
theorem dX13_listRead_65 : decode cX13_listRead 65 = .ok (.getfield 49, 3) := by decide +kernel
theorem dX13_listRead_68 : decode cX13_listRead 68 = .ok (.iload 5, 2) := by decide +kernel
theorem dX13_listRead_70 : decode cX13_listRead 70 = .ok (.iconst (-1), 1) := by decide +kernel
theorem dX13_listRead_71 : decode cX13_listRead 71 = .ok (.iastore, 1) := by decide +kernel
theorem dX13_listRead_72 : decode cX13_listRead 72 = .ok (.iload_n 3, 1) := by decide +kernel
theorem dX13_listRead_73 : decode cX13_listRead 73 = .ok (.ifCond .ge 14, 3) := by decide +kernel
theorem dX13_listRead_76 : decode cX13_listRead 76 = .ok (.aload_n 0, 1) := by decide +kernel
theorem dX13_listRead_77 : decode cX13_listRead 77 = .ok (.getfield 45, 3) := by decide +kernel
theorem dX13_listRead_80 : decode cX13_listRead 80 = .ok (.iload_n 2, 1) := by decide +kernel
theorem dX13_listRead_81 : decode cX13_listRead 81 = .ok (.iload 5, 2) := by decide +kernel
theorem dX13_listRead_83 : decode cX13_listRead 83 = .ok (.iastore, 1) := by decide +kernel
theorem dX13_listRead_84 : decode cX13_listRead 84 = .ok (.goto 11, 3) := by decide +kernel
theorem dX13_listRead_87 : decode cX13_listRead 87 = .ok (.aload_n 0, 1) := by decide +kernel
theorem dX13_listRead_88 : decode cX13_listRead 88 = .ok (.getfield 49, 3) := by decide +kernel
theorem dX13_listRead_91 : decode cX13_listRead 91 = .ok (.iload_n 3, 1) := by decide +kernel
theorem dX13_listRead_92 : decode cX13_listRead 92 = .ok (.iload 5, 2) := by decide +kernel
theorem dX13_listRead_94 : decode cX13_listRead 94 = .ok (.iastore, 1) := by decide +kernel
theorem dX13_listRead_95 : decode cX13_listRead 95 = .ok (.iload 5, 2) := by decide +kernel
theorem dX13_listRead_97 : decode cX13_listRead 97 = .ok (.istore_n 3, 1) := by decide +kernel
theorem dX13_listRead_98 : decode cX13_listRead 98 = .ok (.aload_n 0, 1) := by decide +kernel
theorem dX13_listRead_99 : decode cX13_listRead 99 = .ok (.aload_n 0, 1) := by decide +kernel
theorem dX13_listRead_100 : decode cX13_listRead 100 = .ok (.getfield 206, 3) := by decide +kernel
theorem dX13_listRead_103 : decode cX13_listRead 103 = .ok (.invokevirtual 209, 3) := by decide +kernel
theorem dX13_listRead_106 : decode cX13_listRead 106 = .ok (.istore 4, 2) := by decide +kernel
theorem dX13_listRead_108 : decode cX13_listRead 108 = .ok (.iload 4, 2) := by decide +kernel
theorem dX13_listRead_110 : decode cX13_listRead 110 = .ok (.bipush 59, 2) := by decide +kernel
theorem dX13_listRead_112 : decode cX13_listRead 112 = .ok (.if_icmp .eq 19, 3) := by decide +kernel
theorem dX13_listRead_115 : decode cX13_listRead 115 = .ok (.iload 4, 2) := by decide +kernel
theorem dX13_listRead_117 : decode cX13_listRead 117 = .ok (.bipush 38, 2) := by decide +kernel
theorem dX13_listRead_119 : decode cX13_listRead 119 = .ok (.if_icmp .eq 12, 3) := by decide +kernel
theorem dX13_listRead_122 : decode cX13_listRead 122 = .ok (.iload 4, 2) := by decide +kernel
theorem dX13_listRead_124 : decode cX13_listRead 124 = .ok (.bipush 47, 2) := by decide +kernel
theorem dX13_listRead_126 : decode cX13_listRead 126 = .ok (.if_icmp .eq 5, 3) := by decide +kernel
theorem dX13_listRead_129 : decode cX13_listRead 129 = .ok (.iload_n 2, 1) := by decide +kernel
theorem dX13_listRead_130 : decode cX13_listRead 130 = .ok (.ireturn, 1) := by decide +kernel
theorem dX13_listRead_131 : decode cX13_listRead 131 = .ok (.aload_n 0, 1) := by decide +kernel
theorem dX13_listRead_132 : decode cX13_listRead 132 = .ok (.dup, 1) := by decide +kernel
theorem dX13_listRead_133 : decode cX13_listRead 133 = .ok (.getfield 206, 3) := by decide +kernel
theorem dX13_listRead_136 : decode cX13_listRead 136 = .ok (.iconst 1, 1) := by decide +kernel
theorem dX13_listRead_137 : decode cX13_listRead 137 = .ok (.iadd, 1) := by decide +kernel
theorem dX13_listRead_138 : decode cX13_listRead 138 = .ok (.putfield 206, 3) := by decide +kernel
theorem dX13_listRead_141 : decode cX13_listRead 141 = .ok (.goto (-100), 3) := by decide +kernel
theorem dX13_pipeRead_0 : decode cX13_pipeRead 0 = .ok (.iconst 0, 1) := by decide +kernel
theorem dX13_pipeRead_1 : decode cX13_pipeRead 1 = .ok (.istore_n 2, 1) := by decide +kernel
theorem dX13_pipeRead_2 : decode cX13_pipeRead 2 = .ok (.iconst (-1), 1) := by decide +kernel
theorem dX13_pipeRead_3 : decode cX13_pipeRead 3 = .ok (.istore_n 3, 1) := by decide +kernel
theorem dX13_pipeRead_4 : decode cX13_pipeRead 4 = .ok (.aload_n 0, 1) := by decide +kernel
theorem dX13_pipeRead_5 : decode cX13_pipeRead 5 = .ok (.iload_n 2, 1) := by decide +kernel
theorem dX13_pipeRead_6 : decode cX13_pipeRead 6 = .ok (.ifCond .ne 7, 3) := by decide +kernel
theorem dX13_pipeRead_9 : decode cX13_pipeRead 9 = .ok (.iconst 1, 1) := by decide +kernel
theorem dX13_pipeRead_10 : decode cX13_pipeRead 10 = .ok (.goto 4, 3) := by decide +kernel
theorem dX13_pipeRead_13 : decode cX13_pipeRead 13 = .ok (.iconst 0, 1) := by decide +kernel
theorem dX13_pipeRead_14 : decode cX13_pipeRead 14 = .ok (.iload_n 1, 1) := by decide +kernel
theorem dX13_pipeRead_15 : decode cX13_pipeRead 15 = .ok (.invokevirtual 212, 3) := by decide +kernel
theorem dX13_pipeRead_18 : decode cX13_pipeRead 18 = .ok (.istore 4, 2) := by decide +kernel
theorem dX13_pipeRead_20 : decode cX13_pipeRead 20 = .ok (.iload 4, 2) := by decide +kernel
theorem dX13_pipeRead_22 : decode cX13_pipeRead 22 = .ok (.ifCond .ge 5, 3) := by decide +kernel
theorem dX13_pipeRead_25 : decode cX13_pipeRead 25 = .ok (.iconst (-1), 1) := by decide +kernel
theorem dX13_pipeRead_26 : decode cX13_pipeRead 26 = .ok (.ireturn, 1) := by decide +kernel
theorem dX13_pipeRead_27 : decode cX13_pipeRead 27 = .ok (.iload_n 2, 1) := by decide +kernel
theorem dX13_pipeRead_28 : decode cX13_pipeRead 28 = .ok (.ifCond .ne 8, 3) := by decide +kernel
theorem dX13_pipeRead_31 : decode cX13_pipeRead 31 = .ok (.iload 4, 2) := by decide +kernel
theorem dX13_pipeRead_33 : decode cX13_pipeRead 33 = .ok (.goto 4, 3) := by decide +kernel
theorem dX13_pipeRead_36 : decode cX13_pipeRead 36 = .ok (.iload_n 3, 1) := by decide +kernel
theorem dX13_pipeRead_37 : decode cX13_pipeRead 37 = .ok (.istore_n 3, 1) := by decide +kernel
theorem dX13_pipeRead_38 : decode cX13_pipeRead 38 = .ok (.iinc 2 1, 3) := by decide +kernel
theorem dX13_pipeRead_41 : decode cX13_pipeRead 41 = .ok (.aload_n 0, 1) := by decide +kernel
theorem dX13_pipeRead_42 : decode cX13_pipeRead 42 = .ok (.aload_n 0, 1) := by decide +kernel
theorem dX13_pipeRead_43 : decode cX13_pipeRead 43 = .ok (.getfield 206, 3) := by decide +kernel
theorem dX13_pipeRead_46 : decode cX13_pipeRead 46 = .ok (.invokevirtual 209, 3) := by decide +kernel
theorem dX13_pipeRead_49 : decode cX13_pipeRead 49 = .ok (.bipush 124, 2) := by decide +kernel
theorem dX13_pipeRead_51 : decode cX13_pipeRead 51 = .ok (.if_icmp .eq 6, 3) := by decide +kernel
theorem dX13_pipeRead_54 : decode cX13_pipeRead 54 = .ok (.goto 33, 3) := by decide +kernel
theorem dX13_pipeRead_57 : decode cX13_pipeRead 57 = .ok (.iload_n 2, 1) := by decide +kernel
theorem dX13_pipeRead_58 : decode cX13_pipeRead 58 = .ok (.bipush 6, 2) := by decide +kernel
theorem dX13_pipeRead_60 : decode cX13_pipeRead 60 = .ok (.if_icmp .ne 14, 3) := by decide +kernel
theorem dX13_pipeRead_63 : decode cX13_pipeRead 63 = .ok (.aload_n 0, 1) := by decide +kernel
theorem dX13_pipeRead_64 : decode cX13_pipeRead 64 = .ok (.aload_n 0, 1) := by decide +kernel
theorem dX13_pipeRead_65 : decode cX13_pipeRead 65 = .ok (.getfield 206, 3) := by decide +kernel
theorem dX13_pipeRead_68 : decode cX13_pipeRead 68 = .ok (.invokevirtual 216, 3) := by decide +kernel
theorem dX13_pipeRead_71 : decode cX13_pipeRead 71 = .ok (.pop, 1) := by decide +kernel
theorem dX13_pipeRead_72 : decode cX13_pipeRead 72 = .ok (.iconst (-1), 1) := by decide +kernel
theorem dX13_pipeRead_73 : decode cX13_pipeRead 73 = .ok (.ireturn, 1) := by decide +kernel
theorem dX13_pipeRead_74 : decode cX13_pipeRead 74 = .ok (.aload_n 0, 1) := by decide +kernel
theorem dX13_pipeRead_75 : decode cX13_pipeRead 75 = .ok (.dup, 1) := by decide +kernel
theorem dX13_pipeRead_76 : decode cX13_pipeRead 76 = .ok (.getfield 206, 3) := by decide +kernel
theorem dX13_pipeRead_79 : decode cX13_pipeRead 79 = .ok (.iconst 1, 1) := by decide +kernel
theorem dX13_pipeRead_80 : decode cX13_pipeRead 80 = .ok (.iadd, 1) := by decide +kernel
theorem dX13_pipeRead_81 : decode cX13_pipeRead 81 = .ok (.putfield 206, 3) := by decide +kernel
theorem dX13_pipeRead_84 : decode cX13_pipeRead 84 = .ok (.goto (-80), 3) := by decide +kernel
theorem dX13_pipeRead_87 : decode cX13_pipeRead 87 = .ok (.bipush 60, 2) := by decide +kernel
theorem dX13_pipeRead_89 : decode cX13_pipeRead 89 = .ok (.aload_n 0, 1) := by decide +kernel
theorem dX13_pipeRead_90 : decode cX13_pipeRead 90 = .ok (.getfield 196, 3) := by decide +kernel
theorem dX13_pipeRead_93 : decode cX13_pipeRead 93 = .ok (.imul, 1) := by decide +kernel
theorem dX13_pipeRead_94 : decode cX13_pipeRead 94 = .ok (.aload_n 0, 1) := by decide +kernel
theorem dX13_pipeRead_95 : decode cX13_pipeRead 95 = .ok (.getfield 220, 3) := by decide +kernel
theorem dX13_pipeRead_98 : decode cX13_pipeRead 98 = .ok (.iadd, 1) := by decide +kernel
theorem dX13_pipeRead_99 : decode cX13_pipeRead 99 = .ok (.istore 4, 2) := by decide +kernel
theorem dX13_pipeRead_101 : decode cX13_pipeRead 101 = .ok (.aload_n 0, 1) := by decide +kernel
theorem dX13_pipeRead_102 : decode cX13_pipeRead 102 = .ok (.dup, 1) := by decide +kernel
theorem dX13_pipeRead_103 : decode cX13_pipeRead 103 = .ok (.getfield 220, 3) := by decide +kernel
theorem dX13_pipeRead_106 : decode cX13_pipeRead 106 = .ok (.iconst 1, 1) := by decide +kernel
theorem dX13_pipeRead_107 : decode cX13_pipeRead 107 = .ok (.iadd, 1) := by decide +kernel
theorem dX13_pipeRead_108 : decode cX13_pipeRead 108 = .ok (.putfield 220, 3) := by decide +kernel
theorem dX13_pipeRead_111 : decode cX13_pipeRead 111 = .ok (.aload_n 0, 1) := by decide +kernel
theorem dX13_pipeRead_112 : decode cX13_pipeRead 112 = .ok (.getfield 55, 3) := by decide +kernel
theorem dX13_pipeRead_115 : decode cX13_pipeRead 115 = .ok (.iload 4, 2) := by decide +kernel
theorem dX13_pipeRead_117 : decode cX13_pipeRead 117 = .ok (.iload_n 3, 1) := by decide +kernel
theorem dX13_pipeRead_118 : decode cX13_pipeRead 118 = .ok (.iastore, 1) := by decide +kernel
theorem dX13_pipeRead_119 : decode cX13_pipeRead 119 = .ok (.aload_n 0, 1) := by decide +kernel
theorem dX13_pipeRead_120 : decode cX13_pipeRead 120 = .ok (.getfield 58, 3) := by decide +kernel
theorem dX13_pipeRead_123 : decode cX13_pipeRead 123 = .ok (.iload 4, 2) := by decide +kernel
theorem dX13_pipeRead_125 : decode cX13_pipeRead 125 = .ok (.iload_n 2, 1) := by decide +kernel
theorem dX13_pipeRead_126 : decode cX13_pipeRead 126 = .ok (.iastore, 1) := by decide +kernel
theorem dX13_pipeRead_127 : decode cX13_pipeRead 127 = .ok (.iload 4, 2) := by decide +kernel
theorem dX13_pipeRead_129 : decode cX13_pipeRead 129 = .ok (.ireturn, 1) := by decide +kernel
theorem dX13_stageRead_0 : decode cX13_stageRead 0 = .ok (.aload_n 0, 1) := by decide +kernel
theorem dX13_stageRead_1 : decode cX13_stageRead 1 = .ok (.aload_n 0, 1) := by decide +kernel
theorem dX13_stageRead_2 : decode cX13_stageRead 2 = .ok (.getfield 206, 3) := by decide +kernel
theorem dX13_stageRead_5 : decode cX13_stageRead 5 = .ok (.invokevirtual 209, 3) := by decide +kernel
theorem dX13_stageRead_8 : decode cX13_stageRead 8 = .ok (.istore_n 3, 1) := by decide +kernel
theorem dX13_stageRead_9 : decode cX13_stageRead 9 = .ok (.iload_n 3, 1) := by decide +kernel
theorem dX13_stageRead_10 : decode cX13_stageRead 10 = .ok (.bipush 123, 2) := by decide +kernel
theorem dX13_stageRead_12 : decode cX13_stageRead 12 = .ok (.if_icmp .ne 92, 3) := by decide +kernel
theorem dX13_stageRead_15 : decode cX13_stageRead 15 = .ok (.iload_n 1, 1) := by decide +kernel
theorem dX13_stageRead_16 : decode cX13_stageRead 16 = .ok (.ifCond .eq 88, 3) := by decide +kernel
theorem dX13_stageRead_19 : decode cX13_stageRead 19 = .ok (.iload_n 2, 1) := by decide +kernel
theorem dX13_stageRead_20 : decode cX13_stageRead 20 = .ok (.iconst 3, 1) := by decide +kernel
theorem dX13_stageRead_21 : decode cX13_stageRead 21 = .ok (.if_icmp .ge 83, 3) := by decide +kernel
theorem dX13_stageRead_24 : decode cX13_stageRead 24 = .ok (.aload_n 0, 1) := by decide +kernel
theorem dX13_stageRead_25 : decode cX13_stageRead 25 = .ok (.dup, 1) := by decide +kernel
theorem dX13_stageRead_26 : decode cX13_stageRead 26 = .ok (.getfield 206, 3) := by decide +kernel
theorem dX13_stageRead_29 : decode cX13_stageRead 29 = .ok (.iconst 1, 1) := by decide +kernel
theorem dX13_stageRead_30 : decode cX13_stageRead 30 = .ok (.iadd, 1) := by decide +kernel
theorem dX13_stageRead_31 : decode cX13_stageRead 31 = .ok (.putfield 206, 3) := by decide +kernel
theorem dX13_stageRead_34 : decode cX13_stageRead 34 = .ok (.aload_n 0, 1) := by decide +kernel
theorem dX13_stageRead_35 : decode cX13_stageRead 35 = .ok (.iload_n 2, 1) := by decide +kernel
theorem dX13_stageRead_36 : decode cX13_stageRead 36 = .ok (.iconst 1, 1) := by decide +kernel
theorem dX13_stageRead_37 : decode cX13_stageRead 37 = .ok (.iadd, 1) := by decide +kernel
theorem dX13_stageRead_38 : decode cX13_stageRead 38 = .ok (.invokevirtual 223, 3) := by decide +kernel
theorem dX13_stageRead_41 : decode cX13_stageRead 41 = .ok (.istore 4, 2) := by decide +kernel
theorem dX13_stageRead_43 : decode cX13_stageRead 43 = .ok (.iload 4, 2) := by decide +kernel
theorem dX13_stageRead_45 : decode cX13_stageRead 45 = .ok (.ifCond .ge 5, 3) := by decide +kernel
theorem dX13_stageRead_48 : decode cX13_stageRead 48 = .ok (.iconst (-1), 1) := by decide +kernel
theorem dX13_stageRead_49 : decode cX13_stageRead 49 = .ok (.ireturn, 1) := by decide +kernel
theorem dX13_stageRead_50 : decode cX13_stageRead 50 = .ok (.aload_n 0, 1) := by decide +kernel
theorem dX13_stageRead_51 : decode cX13_stageRead 51 = .ok (.aload_n 0, 1) := by decide +kernel
theorem dX13_stageRead_52 : decode cX13_stageRead 52 = .ok (.getfield 206, 3) := by decide +kernel
theorem dX13_stageRead_55 : decode cX13_stageRead 55 = .ok (.invokevirtual 209, 3) := by decide +kernel
theorem dX13_stageRead_58 : decode cX13_stageRead 58 = .ok (.bipush 125, 2) := by decide +kernel
theorem dX13_stageRead_60 : decode cX13_stageRead 60 = .ok (.if_icmp .eq 14, 3) := by decide +kernel
theorem dX13_stageRead_63 : decode cX13_stageRead 63 = .ok (.aload_n 0, 1) := by decide +kernel
theorem dX13_stageRead_64 : decode cX13_stageRead 64 = .ok (.aload_n 0, 1) := by decide +kernel
theorem dX13_stageRead_65 : decode cX13_stageRead 65 = .ok (.getfield 206, 3) := by decide +kernel
theorem dX13_stageRead_68 : decode cX13_stageRead 68 = .ok (.invokevirtual 216, 3) := by decide +kernel
theorem dX13_stageRead_71 : decode cX13_stageRead 71 = .ok (.pop, 1) := by decide +kernel
theorem dX13_stageRead_72 : decode cX13_stageRead 72 = .ok (.iconst (-1), 1) := by decide +kernel
theorem dX13_stageRead_73 : decode cX13_stageRead 73 = .ok (.ireturn, 1) := by decide +kernel
theorem dX13_stageRead_74 : decode cX13_stageRead 74 = .ok (.aload_n 0, 1) := by decide +kernel
theorem dX13_stageRead_75 : decode cX13_stageRead 75 = .ok (.dup, 1) := by decide +kernel
theorem dX13_stageRead_76 : decode cX13_stageRead 76 = .ok (.getfield 206, 3) := by decide +kernel
theorem dX13_stageRead_79 : decode cX13_stageRead 79 = .ok (.iconst 1, 1) := by decide +kernel
theorem dX13_stageRead_80 : decode cX13_stageRead 80 = .ok (.iadd, 1) := by decide +kernel
theorem dX13_stageRead_81 : decode cX13_stageRead 81 = .ok (.putfield 206, 3) := by decide +kernel
theorem dX13_stageRead_84 : decode cX13_stageRead 84 = .ok (.aload_n 0, 1) := by decide +kernel
theorem dX13_stageRead_85 : decode cX13_stageRead 85 = .ok (.bipush 14, 2) := by decide +kernel
theorem dX13_stageRead_87 : decode cX13_stageRead 87 = .ok (.invokevirtual 226, 3) := by decide +kernel
theorem dX13_stageRead_90 : decode cX13_stageRead 90 = .ok (.istore 5, 2) := by decide +kernel
theorem dX13_stageRead_92 : decode cX13_stageRead 92 = .ok (.aload_n 0, 1) := by decide +kernel
theorem dX13_stageRead_93 : decode cX13_stageRead 93 = .ok (.getfield 64, 3) := by decide +kernel
theorem dX13_stageRead_96 : decode cX13_stageRead 96 = .ok (.iload 5, 2) := by decide +kernel
theorem dX13_stageRead_98 : decode cX13_stageRead 98 = .ok (.iload 4, 2) := by decide +kernel
theorem dX13_stageRead_100 : decode cX13_stageRead 100 = .ok (.iastore, 1) := by decide +kernel
theorem dX13_stageRead_101 : decode cX13_stageRead 101 = .ok (.iload 5, 2) := by decide +kernel
theorem dX13_stageRead_103 : decode cX13_stageRead 103 = .ok (.ireturn, 1) := by decide +kernel
theorem dX13_stageRead_104 : decode cX13_stageRead 104 = .ok (.aload_n 0, 1) := by decide +kernel
theorem dX13_stageRead_105 : decode cX13_stageRead 105 = .ok (.getfield 206, 3) := by decide +kernel
theorem dX13_stageRead_108 : decode cX13_stageRead 108 = .ok (.istore 4, 2) := by decide +kernel
theorem dX13_stageRead_110 : decode cX13_stageRead 110 = .ok (.aload_n 0, 1) := by decide +kernel
theorem dX13_stageRead_111 : decode cX13_stageRead 111 = .ok (.aload_n 0, 1) := by decide +kernel
theorem dX13_stageRead_112 : decode cX13_stageRead 112 = .ok (.getfield 206, 3) := by decide +kernel
theorem dX13_stageRead_115 : decode cX13_stageRead 115 = .ok (.invokevirtual 209, 3) := by decide +kernel
theorem dX13_stageRead_118 : decode cX13_stageRead 118 = .ok (.i2l, 1) := by decide +kernel
theorem dX13_stageRead_119 : decode cX13_stageRead 119 = .ok (.ldc2_w 229, 3) := by decide +kernel
theorem dX13_stageRead_122 : decode cX13_stageRead 122 = .ok (.ldc2_w 231, 3) := by decide +kernel
theorem dX13_stageRead_125 : decode cX13_stageRead 125 = .ok (.invokestatic 177, 3) := by decide +kernel
theorem dX13_stageRead_128 : decode cX13_stageRead 128 = .ok (.ifCond .eq 16, 3) := by decide +kernel
theorem dX13_stageRead_131 : decode cX13_stageRead 131 = .ok (.aload_n 0, 1) := by decide +kernel
theorem dX13_stageRead_132 : decode cX13_stageRead 132 = .ok (.dup, 1) := by decide +kernel
theorem dX13_stageRead_133 : decode cX13_stageRead 133 = .ok (.getfield 206, 3) := by decide +kernel
theorem dX13_stageRead_136 : decode cX13_stageRead 136 = .ok (.iconst 1, 1) := by decide +kernel
theorem dX13_stageRead_137 : decode cX13_stageRead 137 = .ok (.iadd, 1) := by decide +kernel
theorem dX13_stageRead_138 : decode cX13_stageRead 138 = .ok (.putfield 206, 3) := by decide +kernel
theorem dX13_stageRead_141 : decode cX13_stageRead 141 = .ok (.goto (-31), 3) := by decide +kernel
theorem dX13_stageRead_144 : decode cX13_stageRead 144 = .ok (.aload_n 0, 1) := by decide +kernel
theorem dX13_stageRead_145 : decode cX13_stageRead 145 = .ok (.iload 4, 2) := by decide +kernel
theorem dX13_stageRead_147 : decode cX13_stageRead 147 = .ok (.aload_n 0, 1) := by decide +kernel
theorem dX13_stageRead_148 : decode cX13_stageRead 148 = .ok (.getfield 206, 3) := by decide +kernel
theorem dX13_stageRead_151 : decode cX13_stageRead 151 = .ok (.invokevirtual 233, 3) := by decide +kernel
theorem dX13_stageRead_154 : decode cX13_stageRead 154 = .ok (.istore 5, 2) := by decide +kernel
theorem dX13_stageRead_156 : decode cX13_stageRead 156 = .ok (.iload 5, 2) := by decide +kernel
theorem dX13_stageRead_158 : decode cX13_stageRead 158 = .ok (.ifCond .lt 14, 3) := by decide +kernel
theorem dX13_stageRead_161 : decode cX13_stageRead 161 = .ok (.iload 5, 2) := by decide +kernel
theorem dX13_stageRead_163 : decode cX13_stageRead 163 = .ok (.bipush 11, 2) := by decide +kernel
theorem dX13_stageRead_165 : decode cX13_stageRead 165 = .ok (.if_icmp .lt 16, 3) := by decide +kernel
theorem dX13_stageRead_168 : decode cX13_stageRead 168 = .ok (.iload_n 1, 1) := by decide +kernel
theorem dX13_stageRead_169 : decode cX13_stageRead 169 = .ok (.ifCond .ne 12, 3) := by decide +kernel
theorem dX13_stageRead_172 : decode cX13_stageRead 172 = .ok (.aload_n 0, 1) := by decide +kernel
theorem dX13_stageRead_173 : decode cX13_stageRead 173 = .ok (.iload 4, 2) := by decide +kernel
theorem dX13_stageRead_175 : decode cX13_stageRead 175 = .ok (.invokevirtual 216, 3) := by decide +kernel
theorem dX13_stageRead_178 : decode cX13_stageRead 178 = .ok (.pop, 1) := by decide +kernel
theorem dX13_stageRead_179 : decode cX13_stageRead 179 = .ok (.iconst (-1), 1) := by decide +kernel
theorem dX13_stageRead_180 : decode cX13_stageRead 180 = .ok (.ireturn, 1) := by decide +kernel
theorem dX13_stageRead_181 : decode cX13_stageRead 181 = .ok (.aload_n 0, 1) := by decide +kernel
theorem dX13_stageRead_182 : decode cX13_stageRead 182 = .ok (.iload 5, 2) := by decide +kernel
theorem dX13_stageRead_184 : decode cX13_stageRead 184 = .ok (.invokevirtual 226, 3) := by decide +kernel
theorem dX13_stageRead_187 : decode cX13_stageRead 187 = .ok (.istore 6, 2) := by decide +kernel
theorem dX13_stageRead_189 : decode cX13_stageRead 189 = .ok (.aload_n 0, 1) := by decide +kernel
theorem dX13_stageRead_190 : decode cX13_stageRead 190 = .ok (.iload 6, 2) := by decide +kernel
theorem dX13_stageRead_192 : decode cX13_stageRead 192 = .ok (.iload 5, 2) := by decide +kernel
theorem dX13_stageRead_194 : decode cX13_stageRead 194 = .ok (.invokevirtual 236, 3) := by decide +kernel
theorem dX13_stageRead_197 : decode cX13_stageRead 197 = .ok (.ifCond .eq 8, 3) := by decide +kernel
theorem dX13_stageRead_200 : decode cX13_stageRead 200 = .ok (.iload 6, 2) := by decide +kernel
theorem dX13_stageRead_202 : decode cX13_stageRead 202 = .ok (.goto 4, 3) := by decide +kernel
theorem dX13_stageRead_205 : decode cX13_stageRead 205 = .ok (.iconst (-1), 1) := by decide +kernel
theorem dX13_stageRead_206 : decode cX13_stageRead 206 = .ok (.ireturn, 1) := by decide +kernel
theorem dX13_newStage_0 : decode cX13_newStage 0 = .ok (.bipush 60, 2) := by decide +kernel
theorem dX13_newStage_2 : decode cX13_newStage 2 = .ok (.aload_n 0, 1) := by decide +kernel
theorem dX13_newStage_3 : decode cX13_newStage 3 = .ok (.getfield 196, 3) := by decide +kernel
theorem dX13_newStage_6 : decode cX13_newStage 6 = .ok (.imul, 1) := by decide +kernel
theorem dX13_newStage_7 : decode cX13_newStage 7 = .ok (.aload_n 0, 1) := by decide +kernel
theorem dX13_newStage_8 : decode cX13_newStage 8 = .ok (.getfield 240, 3) := by decide +kernel
theorem dX13_newStage_11 : decode cX13_newStage 11 = .ok (.iadd, 1) := by decide +kernel
theorem dX13_newStage_12 : decode cX13_newStage 12 = .ok (.istore_n 2, 1) := by decide +kernel
theorem dX13_newStage_13 : decode cX13_newStage 13 = .ok (.aload_n 0, 1) := by decide +kernel
theorem dX13_newStage_14 : decode cX13_newStage 14 = .ok (.dup, 1) := by decide +kernel
theorem dX13_newStage_15 : decode cX13_newStage 15 = .ok (.getfield 240, 3) := by decide +kernel
theorem dX13_newStage_18 : decode cX13_newStage 18 = .ok (.iconst 1, 1) := by decide +kernel
theorem dX13_newStage_19 : decode cX13_newStage 19 = .ok (.iadd, 1) := by decide +kernel
theorem dX13_newStage_20 : decode cX13_newStage 20 = .ok (.putfield 240, 3) := by decide +kernel
theorem dX13_newStage_23 : decode cX13_newStage 23 = .ok (.aload_n 0, 1) := by decide +kernel
theorem dX13_newStage_24 : decode cX13_newStage 24 = .ok (.getfield 61, 3) := by decide +kernel
theorem dX13_newStage_27 : decode cX13_newStage 27 = .ok (.iload_n 2, 1) := by decide +kernel
theorem dX13_newStage_28 : decode cX13_newStage 28 = .ok (.iload_n 1, 1) := by decide +kernel
theorem dX13_newStage_29 : decode cX13_newStage 29 = .ok (.iastore, 1) := by decide +kernel
theorem dX13_newStage_30 : decode cX13_newStage 30 = .ok (.aload_n 0, 1) := by decide +kernel
theorem dX13_newStage_31 : decode cX13_newStage 31 = .ok (.getfield 67, 3) := by decide +kernel
theorem dX13_newStage_34 : decode cX13_newStage 34 = .ok (.iload_n 2, 1) := by decide +kernel
theorem dX13_newStage_35 : decode cX13_newStage 35 = .ok (.iconst 0, 1) := by decide +kernel
theorem dX13_newStage_36 : decode cX13_newStage 36 = .ok (.iastore, 1) := by decide +kernel
theorem dX13_newStage_37 : decode cX13_newStage 37 = .ok (.aload_n 0, 1) := by decide +kernel
theorem dX13_newStage_38 : decode cX13_newStage 38 = .ok (.getfield 64, 3) := by decide +kernel
theorem dX13_newStage_41 : decode cX13_newStage 41 = .ok (.iload_n 2, 1) := by decide +kernel
theorem dX13_newStage_42 : decode cX13_newStage 42 = .ok (.iconst 0, 1) := by decide +kernel
theorem dX13_newStage_43 : decode cX13_newStage 43 = .ok (.iastore, 1) := by decide +kernel
theorem dX13_newStage_44 : decode cX13_newStage 44 = .ok (.iload_n 2, 1) := by decide +kernel
theorem dX13_newStage_45 : decode cX13_newStage 45 = .ok (.ireturn, 1) := by decide +kernel
theorem dX13_wordOf_0 : decode cX13_wordOf 0 = .ok (.iconst 0, 1) := by decide +kernel
theorem dX13_wordOf_1 : decode cX13_wordOf 1 = .ok (.istore_n 3, 1) := by decide +kernel
theorem dX13_wordOf_2 : decode cX13_wordOf 2 = .ok (.iload_n 3, 1) := by decide +kernel
theorem dX13_wordOf_3 : decode cX13_wordOf 3 = .ok (.bipush 14, 2) := by decide +kernel
theorem dX13_wordOf_5 : decode cX13_wordOf 5 = .ok (.if_icmp .ge 90, 3) := by decide +kernel
theorem dX13_wordOf_8 : decode cX13_wordOf 8 = .ok (.aload_n 0, 1) := by decide +kernel
theorem dX13_wordOf_9 : decode cX13_wordOf 9 = .ok (.getfield 39, 3) := by decide +kernel
theorem dX13_wordOf_12 : decode cX13_wordOf 12 = .ok (.iload_n 3, 1) := by decide +kernel
theorem dX13_wordOf_13 : decode cX13_wordOf 13 = .ok (.aaload, 1) := by decide +kernel
theorem dX13_wordOf_14 : decode cX13_wordOf 14 = .ok (.invokevirtual 243, 3) := by decide +kernel
theorem dX13_wordOf_17 : decode cX13_wordOf 17 = .ok (.iload_n 2, 1) := by decide +kernel
theorem dX13_wordOf_18 : decode cX13_wordOf 18 = .ok (.iload_n 1, 1) := by decide +kernel
theorem dX13_wordOf_19 : decode cX13_wordOf 19 = .ok (.isub, 1) := by decide +kernel
theorem dX13_wordOf_20 : decode cX13_wordOf 20 = .ok (.if_icmp .ne 7, 3) := by decide +kernel
theorem dX13_wordOf_23 : decode cX13_wordOf 23 = .ok (.iconst 1, 1) := by decide +kernel
theorem dX13_wordOf_24 : decode cX13_wordOf 24 = .ok (.goto 4, 3) := by decide +kernel
theorem dX13_wordOf_27 : decode cX13_wordOf 27 = .ok (.iconst 0, 1) := by decide +kernel
theorem dX13_wordOf_28 : decode cX13_wordOf 28 = .ok (.istore 4, 2) := by decide +kernel
theorem dX13_wordOf_30 : decode cX13_wordOf 30 = .ok (.iconst 0, 1) := by decide +kernel
theorem dX13_wordOf_31 : decode cX13_wordOf 31 = .ok (.istore 5, 2) := by decide +kernel
theorem dX13_wordOf_33 : decode cX13_wordOf 33 = .ok (.iload 4, 2) := by decide +kernel
theorem dX13_wordOf_35 : decode cX13_wordOf 35 = .ok (.ifCond .eq 47, 3) := by decide +kernel
theorem dX13_wordOf_38 : decode cX13_wordOf 38 = .ok (.iload 5, 2) := by decide +kernel
theorem dX13_wordOf_40 : decode cX13_wordOf 40 = .ok (.iload_n 2, 1) := by decide +kernel
theorem dX13_wordOf_41 : decode cX13_wordOf 41 = .ok (.iload_n 1, 1) := by decide +kernel
theorem dX13_wordOf_42 : decode cX13_wordOf 42 = .ok (.isub, 1) := by decide +kernel
theorem dX13_wordOf_43 : decode cX13_wordOf 43 = .ok (.if_icmp .ge 39, 3) := by decide +kernel
theorem dX13_wordOf_46 : decode cX13_wordOf 46 = .ok (.aload_n 0, 1) := by decide +kernel
theorem dX13_wordOf_47 : decode cX13_wordOf 47 = .ok (.getfield 39, 3) := by decide +kernel
theorem dX13_wordOf_50 : decode cX13_wordOf 50 = .ok (.iload_n 3, 1) := by decide +kernel
theorem dX13_wordOf_51 : decode cX13_wordOf 51 = .ok (.aaload, 1) := by decide +kernel
theorem dX13_wordOf_52 : decode cX13_wordOf 52 = .ok (.iload 5, 2) := by decide +kernel
theorem dX13_wordOf_54 : decode cX13_wordOf 54 = .ok (.invokevirtual 247, 3) := by decide +kernel
theorem dX13_wordOf_57 : decode cX13_wordOf 57 = .ok (.aload_n 0, 1) := by decide +kernel
theorem dX13_wordOf_58 : decode cX13_wordOf 58 = .ok (.getfield 89, 3) := by decide +kernel
theorem dX13_wordOf_61 : decode cX13_wordOf 61 = .ok (.iload_n 1, 1) := by decide +kernel
theorem dX13_wordOf_62 : decode cX13_wordOf 62 = .ok (.iload 5, 2) := by decide +kernel
theorem dX13_wordOf_64 : decode cX13_wordOf 64 = .ok (.iadd, 1) := by decide +kernel
theorem dX13_wordOf_65 : decode cX13_wordOf 65 = .ok (.iaload, 1) := by decide +kernel
theorem dX13_wordOf_66 : decode cX13_wordOf 66 = .ok (.if_icmp .ne 7, 3) := by decide +kernel
theorem dX13_wordOf_69 : decode cX13_wordOf 69 = .ok (.iconst 1, 1) := by decide +kernel
theorem dX13_wordOf_70 : decode cX13_wordOf 70 = .ok (.goto 4, 3) := by decide +kernel
theorem dX13_wordOf_73 : decode cX13_wordOf 73 = .ok (.iconst 0, 1) := by decide +kernel
theorem dX13_wordOf_74 : decode cX13_wordOf 74 = .ok (.istore 4, 2) := by decide +kernel
theorem dX13_wordOf_76 : decode cX13_wordOf 76 = .ok (.iinc 5 1, 3) := by decide +kernel
theorem dX13_wordOf_79 : decode cX13_wordOf 79 = .ok (.goto (-46), 3) := by decide +kernel
theorem dX13_wordOf_82 : decode cX13_wordOf 82 = .ok (.iload 4, 2) := by decide +kernel
theorem dX13_wordOf_84 : decode cX13_wordOf 84 = .ok (.ifCond .eq 5, 3) := by decide +kernel
theorem dX13_wordOf_87 : decode cX13_wordOf 87 = .ok (.iload_n 3, 1) := by decide +kernel
theorem dX13_wordOf_88 : decode cX13_wordOf 88 = .ok (.ireturn, 1) := by decide +kernel
theorem dX13_wordOf_89 : decode cX13_wordOf 89 = .ok (.iinc 3 1, 3) := by decide +kernel
theorem dX13_wordOf_92 : decode cX13_wordOf 92 = .ok (.goto (-90), 3) := by decide +kernel
theorem dX13_wordOf_95 : decode cX13_wordOf 95 = .ok (.iconst (-1), 1) := by decide +kernel
theorem dX13_wordOf_96 : decode cX13_wordOf 96 = .ok (.ireturn, 1) := by decide +kernel
theorem dX13_isWhole_0 : decode cX13_isWhole 0 = .ok (.iload_n 2, 1) := by decide +kernel
theorem dX13_isWhole_1 : decode cX13_isWhole 1 = .ok (.bipush 7, 2) := by decide +kernel
theorem dX13_isWhole_3 : decode cX13_isWhole 3 = .ok (.if_icmp .eq 9, 3) := by decide +kernel
theorem dX13_isWhole_6 : decode cX13_isWhole 6 = .ok (.iload_n 2, 1) := by decide +kernel
theorem dX13_isWhole_7 : decode cX13_isWhole 7 = .ok (.bipush 9, 2) := by decide +kernel
theorem dX13_isWhole_9 : decode cX13_isWhole 9 = .ok (.if_icmp .ne 5, 3) := by decide +kernel
theorem dX13_isWhole_12 : decode cX13_isWhole 12 = .ok (.iconst 1, 1) := by decide +kernel
theorem dX13_isWhole_13 : decode cX13_isWhole 13 = .ok (.ireturn, 1) := by decide +kernel
theorem dX13_isWhole_14 : decode cX13_isWhole 14 = .ok (.aload_n 0, 1) := by decide +kernel
theorem dX13_isWhole_15 : decode cX13_isWhole 15 = .ok (.aload_n 0, 1) := by decide +kernel
theorem dX13_isWhole_16 : decode cX13_isWhole 16 = .ok (.getfield 206, 3) := by decide +kernel
theorem dX13_isWhole_19 : decode cX13_isWhole 19 = .ok (.invokevirtual 209, 3) := by decide +kernel
theorem dX13_isWhole_22 : decode cX13_isWhole 22 = .ok (.bipush 32, 2) := by decide +kernel
theorem dX13_isWhole_24 : decode cX13_isWhole 24 = .ok (.if_icmp .eq 12, 3) := by decide +kernel
theorem dX13_isWhole_27 : decode cX13_isWhole 27 = .ok (.aload_n 0, 1) := by decide +kernel
theorem dX13_isWhole_28 : decode cX13_isWhole 28 = .ok (.aload_n 0, 1) := by decide +kernel
theorem dX13_isWhole_29 : decode cX13_isWhole 29 = .ok (.getfield 206, 3) := by decide +kernel
theorem dX13_isWhole_32 : decode cX13_isWhole 32 = .ok (.invokevirtual 216, 3) := by decide +kernel
theorem dX13_isWhole_35 : decode cX13_isWhole 35 = .ok (.ireturn, 1) := by decide +kernel
theorem dX13_isWhole_36 : decode cX13_isWhole 36 = .ok (.iload_n 2, 1) := by decide +kernel
theorem dX13_isWhole_37 : decode cX13_isWhole 37 = .ok (.bipush 8, 2) := by decide +kernel
theorem dX13_isWhole_39 : decode cX13_isWhole 39 = .ok (.if_icmp .ne 72, 3) := by decide +kernel
theorem dX13_isWhole_42 : decode cX13_isWhole 42 = .ok (.aload_n 0, 1) := by decide +kernel
theorem dX13_isWhole_43 : decode cX13_isWhole 43 = .ok (.dup, 1) := by decide +kernel
theorem dX13_isWhole_44 : decode cX13_isWhole 44 = .ok (.getfield 206, 3) := by decide +kernel
theorem dX13_isWhole_47 : decode cX13_isWhole 47 = .ok (.iconst 1, 1) := by decide +kernel
theorem dX13_isWhole_48 : decode cX13_isWhole 48 = .ok (.iadd, 1) := by decide +kernel
theorem dX13_isWhole_49 : decode cX13_isWhole 49 = .ok (.putfield 206, 3) := by decide +kernel
theorem dX13_isWhole_52 : decode cX13_isWhole 52 = .ok (.aload_n 0, 1) := by decide +kernel
theorem dX13_isWhole_53 : decode cX13_isWhole 53 = .ok (.getfield 64, 3) := by decide +kernel
theorem dX13_isWhole_56 : decode cX13_isWhole 56 = .ok (.iload_n 1, 1) := by decide +kernel
theorem dX13_isWhole_57 : decode cX13_isWhole 57 = .ok (.aload_n 0, 1) := by decide +kernel
theorem dX13_isWhole_58 : decode cX13_isWhole 58 = .ok (.aload_n 0, 1) := by decide +kernel
theorem dX13_isWhole_59 : decode cX13_isWhole 59 = .ok (.getfield 206, 3) := by decide +kernel
theorem dX13_isWhole_62 : decode cX13_isWhole 62 = .ok (.invokevirtual 209, 3) := by decide +kernel
theorem dX13_isWhole_65 : decode cX13_isWhole 65 = .ok (.bipush 97, 2) := by decide +kernel
theorem dX13_isWhole_67 : decode cX13_isWhole 67 = .ok (.isub, 1) := by decide +kernel
theorem dX13_isWhole_68 : decode cX13_isWhole 68 = .ok (.iastore, 1) := by decide +kernel
theorem dX13_isWhole_69 : decode cX13_isWhole 69 = .ok (.aload_n 0, 1) := by decide +kernel
theorem dX13_isWhole_70 : decode cX13_isWhole 70 = .ok (.aload_n 0, 1) := by decide +kernel
theorem dX13_isWhole_71 : decode cX13_isWhole 71 = .ok (.getfield 206, 3) := by decide +kernel
theorem dX13_isWhole_74 : decode cX13_isWhole 74 = .ok (.invokevirtual 209, 3) := by decide +kernel
theorem dX13_isWhole_77 : decode cX13_isWhole 77 = .ok (.i2l, 1) := by decide +kernel
theorem dX13_isWhole_78 : decode cX13_isWhole 78 = .ok (.ldc2_w 229, 3) := by decide +kernel
theorem dX13_isWhole_81 : decode cX13_isWhole 81 = .ok (.ldc2_w 251, 3) := by decide +kernel
theorem dX13_isWhole_84 : decode cX13_isWhole 84 = .ok (.invokestatic 177, 3) := by decide +kernel
theorem dX13_isWhole_87 : decode cX13_isWhole 87 = .ok (.ifCond .ne 12, 3) := by decide +kernel
theorem dX13_isWhole_90 : decode cX13_isWhole 90 = .ok (.aload_n 0, 1) := by decide +kernel
theorem dX13_isWhole_91 : decode cX13_isWhole 91 = .ok (.aload_n 0, 1) := by decide +kernel
theorem dX13_isWhole_92 : decode cX13_isWhole 92 = .ok (.getfield 206, 3) := by decide +kernel
theorem dX13_isWhole_95 : decode cX13_isWhole 95 = .ok (.invokevirtual 216, 3) := by decide +kernel
theorem dX13_isWhole_98 : decode cX13_isWhole 98 = .ok (.ireturn, 1) := by decide +kernel
theorem dX13_isWhole_99 : decode cX13_isWhole 99 = .ok (.aload_n 0, 1) := by decide +kernel
theorem dX13_isWhole_100 : decode cX13_isWhole 100 = .ok (.dup, 1) := by decide +kernel
theorem dX13_isWhole_101 : decode cX13_isWhole 101 = .ok (.getfield 206, 3) := by decide +kernel
theorem dX13_isWhole_104 : decode cX13_isWhole 104 = .ok (.iconst 1, 1) := by decide +kernel
theorem dX13_isWhole_105 : decode cX13_isWhole 105 = .ok (.iadd, 1) := by decide +kernel
theorem dX13_isWhole_106 : decode cX13_isWhole 106 = .ok (.putfield 206, 3) := by decide +kernel
theorem dX13_isWhole_109 : decode cX13_isWhole 109 = .ok (.iconst 1, 1) := by decide +kernel
theorem dX13_isWhole_110 : decode cX13_isWhole 110 = .ok (.ireturn, 1) := by decide +kernel
theorem dX13_isWhole_111 : decode cX13_isWhole 111 = .ok (.aload_n 0, 1) := by decide +kernel
theorem dX13_isWhole_112 : decode cX13_isWhole 112 = .ok (.iload_n 1, 1) := by decide +kernel
theorem dX13_isWhole_113 : decode cX13_isWhole 113 = .ok (.invokevirtual 253, 3) := by decide +kernel
theorem dX13_isWhole_116 : decode cX13_isWhole 116 = .ok (.istore_n 3, 1) := by decide +kernel
theorem dX13_isWhole_117 : decode cX13_isWhole 117 = .ok (.iload_n 3, 1) := by decide +kernel
theorem dX13_isWhole_118 : decode cX13_isWhole 118 = .ok (.ifCond .eq 39, 3) := by decide +kernel
theorem dX13_isWhole_121 : decode cX13_isWhole 121 = .ok (.iload_n 2, 1) := by decide +kernel
theorem dX13_isWhole_122 : decode cX13_isWhole 122 = .ok (.ifCond .ne 35, 3) := by decide +kernel
theorem dX13_isWhole_125 : decode cX13_isWhole 125 = .ok (.aload_n 0, 1) := by decide +kernel
theorem dX13_isWhole_126 : decode cX13_isWhole 126 = .ok (.aload_n 0, 1) := by decide +kernel
theorem dX13_isWhole_127 : decode cX13_isWhole 127 = .ok (.getfield 206, 3) := by decide +kernel
theorem dX13_isWhole_130 : decode cX13_isWhole 130 = .ok (.invokevirtual 209, 3) := by decide +kernel
theorem dX13_isWhole_133 : decode cX13_isWhole 133 = .ok (.bipush 32, 2) := by decide +kernel
theorem dX13_isWhole_135 : decode cX13_isWhole 135 = .ok (.if_icmp .ne 22, 3) := by decide +kernel
theorem dX13_isWhole_138 : decode cX13_isWhole 138 = .ok (.aload_n 0, 1) := by decide +kernel
theorem dX13_isWhole_139 : decode cX13_isWhole 139 = .ok (.getfield 67, 3) := by decide +kernel
theorem dX13_isWhole_142 : decode cX13_isWhole 142 = .ok (.iload_n 1, 1) := by decide +kernel
theorem dX13_isWhole_143 : decode cX13_isWhole 143 = .ok (.iaload, 1) := by decide +kernel
theorem dX13_isWhole_144 : decode cX13_isWhole 144 = .ok (.iconst 4, 1) := by decide +kernel
theorem dX13_isWhole_145 : decode cX13_isWhole 145 = .ok (.if_icmp .ge 12, 3) := by decide +kernel
theorem dX13_isWhole_148 : decode cX13_isWhole 148 = .ok (.aload_n 0, 1) := by decide +kernel
theorem dX13_isWhole_149 : decode cX13_isWhole 149 = .ok (.iload_n 1, 1) := by decide +kernel
theorem dX13_isWhole_150 : decode cX13_isWhole 150 = .ok (.invokevirtual 253, 3) := by decide +kernel
theorem dX13_isWhole_153 : decode cX13_isWhole 153 = .ok (.istore_n 3, 1) := by decide +kernel
theorem dX13_isWhole_154 : decode cX13_isWhole 154 = .ok (.goto (-37), 3) := by decide +kernel
theorem dX13_isWhole_157 : decode cX13_isWhole 157 = .ok (.iload_n 3, 1) := by decide +kernel
theorem dX13_isWhole_158 : decode cX13_isWhole 158 = .ok (.ireturn, 1) := by decide +kernel
theorem dX13_isNumber_0 : decode cX13_isNumber 0 = .ok (.aload_n 0, 1) := by decide +kernel
theorem dX13_isNumber_1 : decode cX13_isNumber 1 = .ok (.dup, 1) := by decide +kernel
theorem dX13_isNumber_2 : decode cX13_isNumber 2 = .ok (.getfield 206, 3) := by decide +kernel
theorem dX13_isNumber_5 : decode cX13_isNumber 5 = .ok (.iconst 1, 1) := by decide +kernel
theorem dX13_isNumber_6 : decode cX13_isNumber 6 = .ok (.iadd, 1) := by decide +kernel
theorem dX13_isNumber_7 : decode cX13_isNumber 7 = .ok (.putfield 206, 3) := by decide +kernel
theorem dX13_isNumber_10 : decode cX13_isNumber 10 = .ok (.iconst 0, 1) := by decide +kernel
theorem dX13_isNumber_11 : decode cX13_isNumber 11 = .ok (.istore_n 2, 1) := by decide +kernel
theorem dX13_isNumber_12 : decode cX13_isNumber 12 = .ok (.aload_n 0, 1) := by decide +kernel
theorem dX13_isNumber_13 : decode cX13_isNumber 13 = .ok (.aload_n 0, 1) := by decide +kernel
theorem dX13_isNumber_14 : decode cX13_isNumber 14 = .ok (.getfield 206, 3) := by decide +kernel
theorem dX13_isNumber_17 : decode cX13_isNumber 17 = .ok (.invokevirtual 209, 3) := by decide +kernel
theorem dX13_isNumber_20 : decode cX13_isNumber 20 = .ok (.bipush 36, 2) := by decide +kernel
theorem dX13_isNumber_22 : decode cX13_isNumber 22 = .ok (.if_icmp .ne 82, 3) := by decide +kernel
theorem dX13_isNumber_25 : decode cX13_isNumber 25 = .ok (.aload_n 0, 1) := by decide +kernel
theorem dX13_isNumber_26 : decode cX13_isNumber 26 = .ok (.dup, 1) := by decide +kernel
theorem dX13_isNumber_27 : decode cX13_isNumber 27 = .ok (.getfield 206, 3) := by decide +kernel
theorem dX13_isNumber_30 : decode cX13_isNumber 30 = .ok (.iconst 1, 1) := by decide +kernel
theorem dX13_isNumber_31 : decode cX13_isNumber 31 = .ok (.iadd, 1) := by decide +kernel
theorem dX13_isNumber_32 : decode cX13_isNumber 32 = .ok (.putfield 206, 3) := by decide +kernel
theorem dX13_isNumber_35 : decode cX13_isNumber 35 = .ok (.aload_n 0, 1) := by decide +kernel
theorem dX13_isNumber_36 : decode cX13_isNumber 36 = .ok (.aload_n 0, 1) := by decide +kernel
theorem dX13_isNumber_37 : decode cX13_isNumber 37 = .ok (.getfield 206, 3) := by decide +kernel
theorem dX13_isNumber_40 : decode cX13_isNumber 40 = .ok (.invokevirtual 209, 3) := by decide +kernel
theorem dX13_isNumber_43 : decode cX13_isNumber 43 = .ok (.istore_n 3, 1) := by decide +kernel
theorem dX13_isNumber_44 : decode cX13_isNumber 44 = .ok (.iload_n 3, 1) := by decide +kernel
theorem dX13_isNumber_45 : decode cX13_isNumber 45 = .ok (.i2l, 1) := by decide +kernel
theorem dX13_isNumber_46 : decode cX13_isNumber 46 = .ok (.ldc2_w 229, 3) := by decide +kernel
theorem dX13_isNumber_49 : decode cX13_isNumber 49 = .ok (.ldc2_w 251, 3) := by decide +kernel
theorem dX13_isNumber_52 : decode cX13_isNumber 52 = .ok (.invokestatic 177, 3) := by decide +kernel
theorem dX13_isNumber_55 : decode cX13_isNumber 55 = .ok (.ifCond .ne 18, 3) := by decide +kernel
theorem dX13_isNumber_58 : decode cX13_isNumber 58 = .ok (.iload_n 3, 1) := by decide +kernel
theorem dX13_isNumber_59 : decode cX13_isNumber 59 = .ok (.bipush 112, 2) := by decide +kernel
theorem dX13_isNumber_61 : decode cX13_isNumber 61 = .ok (.if_icmp .eq 12, 3) := by decide +kernel
theorem dX13_isNumber_64 : decode cX13_isNumber 64 = .ok (.aload_n 0, 1) := by decide +kernel
theorem dX13_isNumber_65 : decode cX13_isNumber 65 = .ok (.aload_n 0, 1) := by decide +kernel
theorem dX13_isNumber_66 : decode cX13_isNumber 66 = .ok (.getfield 206, 3) := by decide +kernel
theorem dX13_isNumber_69 : decode cX13_isNumber 69 = .ok (.invokevirtual 216, 3) := by decide +kernel
theorem dX13_isNumber_72 : decode cX13_isNumber 72 = .ok (.ireturn, 1) := by decide +kernel
theorem dX13_isNumber_73 : decode cX13_isNumber 73 = .ok (.iload_n 3, 1) := by decide +kernel
theorem dX13_isNumber_74 : decode cX13_isNumber 74 = .ok (.bipush 112, 2) := by decide +kernel
theorem dX13_isNumber_76 : decode cX13_isNumber 76 = .ok (.if_icmp .ne 8, 3) := by decide +kernel
theorem dX13_isNumber_79 : decode cX13_isNumber 79 = .ok (.bipush (-6), 2) := by decide +kernel
theorem dX13_isNumber_81 : decode cX13_isNumber 81 = .ok (.goto 9, 3) := by decide +kernel
theorem dX13_isNumber_84 : decode cX13_isNumber 84 = .ok (.iconst (-1), 1) := by decide +kernel
theorem dX13_isNumber_85 : decode cX13_isNumber 85 = .ok (.iload_n 3, 1) := by decide +kernel
theorem dX13_isNumber_86 : decode cX13_isNumber 86 = .ok (.bipush 97, 2) := by decide +kernel
theorem dX13_isNumber_88 : decode cX13_isNumber 88 = .ok (.isub, 1) := by decide +kernel
theorem dX13_isNumber_89 : decode cX13_isNumber 89 = .ok (.isub, 1) := by decide +kernel
theorem dX13_isNumber_90 : decode cX13_isNumber 90 = .ok (.istore_n 2, 1) := by decide +kernel
theorem dX13_isNumber_91 : decode cX13_isNumber 91 = .ok (.aload_n 0, 1) := by decide +kernel
theorem dX13_isNumber_92 : decode cX13_isNumber 92 = .ok (.dup, 1) := by decide +kernel
theorem dX13_isNumber_93 : decode cX13_isNumber 93 = .ok (.getfield 206, 3) := by decide +kernel
theorem dX13_isNumber_96 : decode cX13_isNumber 96 = .ok (.iconst 1, 1) := by decide +kernel
theorem dX13_isNumber_97 : decode cX13_isNumber 97 = .ok (.iadd, 1) := by decide +kernel
theorem dX13_isNumber_98 : decode cX13_isNumber 98 = .ok (.putfield 206, 3) := by decide +kernel
theorem dX13_isNumber_101 : decode cX13_isNumber 101 = .ok (.goto 86, 3) := by decide +kernel
theorem dX13_isNumber_104 : decode cX13_isNumber 104 = .ok (.aload_n 0, 1) := by decide +kernel
theorem dX13_isNumber_105 : decode cX13_isNumber 105 = .ok (.getfield 206, 3) := by decide +kernel
theorem dX13_isNumber_108 : decode cX13_isNumber 108 = .ok (.istore_n 3, 1) := by decide +kernel
theorem dX13_isNumber_109 : decode cX13_isNumber 109 = .ok (.aload_n 0, 1) := by decide +kernel
theorem dX13_isNumber_110 : decode cX13_isNumber 110 = .ok (.getfield 206, 3) := by decide +kernel
theorem dX13_isNumber_113 : decode cX13_isNumber 113 = .ok (.iload_n 3, 1) := by decide +kernel
theorem dX13_isNumber_114 : decode cX13_isNumber 114 = .ok (.isub, 1) := by decide +kernel
theorem dX13_isNumber_115 : decode cX13_isNumber 115 = .ok (.iconst 3, 1) := by decide +kernel
theorem dX13_isNumber_116 : decode cX13_isNumber 116 = .ok (.if_icmp .ge 54, 3) := by decide +kernel
theorem dX13_isNumber_119 : decode cX13_isNumber 119 = .ok (.aload_n 0, 1) := by decide +kernel
theorem dX13_isNumber_120 : decode cX13_isNumber 120 = .ok (.aload_n 0, 1) := by decide +kernel
theorem dX13_isNumber_121 : decode cX13_isNumber 121 = .ok (.getfield 206, 3) := by decide +kernel
theorem dX13_isNumber_124 : decode cX13_isNumber 124 = .ok (.invokevirtual 209, 3) := by decide +kernel
theorem dX13_isNumber_127 : decode cX13_isNumber 127 = .ok (.i2l, 1) := by decide +kernel
theorem dX13_isNumber_128 : decode cX13_isNumber 128 = .ok (.ldc2_w 256, 3) := by decide +kernel
theorem dX13_isNumber_131 : decode cX13_isNumber 131 = .ok (.ldc2_w 258, 3) := by decide +kernel
theorem dX13_isNumber_134 : decode cX13_isNumber 134 = .ok (.invokestatic 177, 3) := by decide +kernel
theorem dX13_isNumber_137 : decode cX13_isNumber 137 = .ok (.ifCond .eq 33, 3) := by decide +kernel
theorem dX13_isNumber_140 : decode cX13_isNumber 140 = .ok (.bipush 10, 2) := by decide +kernel
theorem dX13_isNumber_142 : decode cX13_isNumber 142 = .ok (.iload_n 2, 1) := by decide +kernel
theorem dX13_isNumber_143 : decode cX13_isNumber 143 = .ok (.imul, 1) := by decide +kernel
theorem dX13_isNumber_144 : decode cX13_isNumber 144 = .ok (.aload_n 0, 1) := by decide +kernel
theorem dX13_isNumber_145 : decode cX13_isNumber 145 = .ok (.aload_n 0, 1) := by decide +kernel
theorem dX13_isNumber_146 : decode cX13_isNumber 146 = .ok (.getfield 206, 3) := by decide +kernel
theorem dX13_isNumber_149 : decode cX13_isNumber 149 = .ok (.invokevirtual 209, 3) := by decide +kernel
theorem dX13_isNumber_152 : decode cX13_isNumber 152 = .ok (.iadd, 1) := by decide +kernel
theorem dX13_isNumber_153 : decode cX13_isNumber 153 = .ok (.bipush 48, 2) := by decide +kernel
theorem dX13_isNumber_155 : decode cX13_isNumber 155 = .ok (.isub, 1) := by decide +kernel
theorem dX13_isNumber_156 : decode cX13_isNumber 156 = .ok (.istore_n 2, 1) := by decide +kernel
theorem dX13_isNumber_157 : decode cX13_isNumber 157 = .ok (.aload_n 0, 1) := by decide +kernel
theorem dX13_isNumber_158 : decode cX13_isNumber 158 = .ok (.dup, 1) := by decide +kernel
theorem dX13_isNumber_159 : decode cX13_isNumber 159 = .ok (.getfield 206, 3) := by decide +kernel
theorem dX13_isNumber_162 : decode cX13_isNumber 162 = .ok (.iconst 1, 1) := by decide +kernel
theorem dX13_isNumber_163 : decode cX13_isNumber 163 = .ok (.iadd, 1) := by decide +kernel
theorem dX13_isNumber_164 : decode cX13_isNumber 164 = .ok (.putfield 206, 3) := by decide +kernel
theorem dX13_isNumber_167 : decode cX13_isNumber 167 = .ok (.goto (-58), 3) := by decide +kernel
theorem dX13_isNumber_170 : decode cX13_isNumber 170 = .ok (.aload_n 0, 1) := by decide +kernel
theorem dX13_isNumber_171 : decode cX13_isNumber 171 = .ok (.getfield 206, 3) := by decide +kernel
theorem dX13_isNumber_174 : decode cX13_isNumber 174 = .ok (.iload_n 3, 1) := by decide +kernel
theorem dX13_isNumber_175 : decode cX13_isNumber 175 = .ok (.if_icmp .ne 12, 3) := by decide +kernel
theorem dX13_isNumber_178 : decode cX13_isNumber 178 = .ok (.aload_n 0, 1) := by decide +kernel
theorem dX13_isNumber_179 : decode cX13_isNumber 179 = .ok (.aload_n 0, 1) := by decide +kernel
theorem dX13_isNumber_180 : decode cX13_isNumber 180 = .ok (.getfield 206, 3) := by decide +kernel
theorem dX13_isNumber_183 : decode cX13_isNumber 183 = .ok (.invokevirtual 216, 3) := by decide +kernel
theorem dX13_isNumber_186 : decode cX13_isNumber 186 = .ok (.ireturn, 1) := by decide +kernel
theorem dX13_isNumber_187 : decode cX13_isNumber 187 = .ok (.aload_n 0, 1) := by decide +kernel
theorem dX13_isNumber_188 : decode cX13_isNumber 188 = .ok (.getfield 70, 3) := by decide +kernel
theorem dX13_isNumber_191 : decode cX13_isNumber 191 = .ok (.iconst 4, 1) := by decide +kernel
theorem dX13_isNumber_192 : decode cX13_isNumber 192 = .ok (.iload_n 1, 1) := by decide +kernel
theorem dX13_isNumber_193 : decode cX13_isNumber 193 = .ok (.imul, 1) := by decide +kernel
theorem dX13_isNumber_194 : decode cX13_isNumber 194 = .ok (.aload_n 0, 1) := by decide +kernel
theorem dX13_isNumber_195 : decode cX13_isNumber 195 = .ok (.getfield 67, 3) := by decide +kernel
theorem dX13_isNumber_198 : decode cX13_isNumber 198 = .ok (.iload_n 1, 1) := by decide +kernel
theorem dX13_isNumber_199 : decode cX13_isNumber 199 = .ok (.iaload, 1) := by decide +kernel
theorem dX13_isNumber_200 : decode cX13_isNumber 200 = .ok (.iadd, 1) := by decide +kernel
theorem dX13_isNumber_201 : decode cX13_isNumber 201 = .ok (.iload_n 2, 1) := by decide +kernel
theorem dX13_isNumber_202 : decode cX13_isNumber 202 = .ok (.iastore, 1) := by decide +kernel
theorem dX13_isNumber_203 : decode cX13_isNumber 203 = .ok (.aload_n 0, 1) := by decide +kernel
theorem dX13_isNumber_204 : decode cX13_isNumber 204 = .ok (.getfield 67, 3) := by decide +kernel
theorem dX13_isNumber_207 : decode cX13_isNumber 207 = .ok (.iload_n 1, 1) := by decide +kernel
theorem dX13_isNumber_208 : decode cX13_isNumber 208 = .ok (.dup2, 1) := by decide +kernel
theorem dX13_isNumber_209 : decode cX13_isNumber 209 = .ok (.iaload, 1) := by decide +kernel
theorem dX13_isNumber_210 : decode cX13_isNumber 210 = .ok (.iconst 1, 1) := by decide +kernel
theorem dX13_isNumber_211 : decode cX13_isNumber 211 = .ok (.iadd, 1) := by decide +kernel
theorem dX13_isNumber_212 : decode cX13_isNumber 212 = .ok (.iastore, 1) := by decide +kernel
theorem dX13_isNumber_213 : decode cX13_isNumber 213 = .ok (.iconst 1, 1) := by decide +kernel
theorem dX13_isNumber_214 : decode cX13_isNumber 214 = .ok (.ireturn, 1) := by decide +kernel
theorem dX13_line_0 : decode cX13_line 0 = .ok (.aload_n 0, 1) := by decide +kernel
theorem dX13_line_1 : decode cX13_line 1 = .ok (.getfield 196, 3) := by decide +kernel
theorem dX13_line_4 : decode cX13_line 4 = .ok (.bipush 8, 2) := by decide +kernel
theorem dX13_line_6 : decode cX13_line 6 = .ok (.if_icmp .ne 6, 3) := by decide +kernel
theorem dX13_line_9 : decode cX13_line 9 = .ok (.bipush (-4), 2) := by decide +kernel
theorem dX13_line_11 : decode cX13_line 11 = .ok (.ireturn, 1) := by decide +kernel
theorem dX13_line_12 : decode cX13_line 12 = .ok (.aload_n 0, 1) := by decide +kernel
theorem dX13_line_13 : decode cX13_line 13 = .ok (.iconst 0, 1) := by decide +kernel
theorem dX13_line_14 : decode cX13_line 14 = .ok (.putfield 206, 3) := by decide +kernel
theorem dX13_line_17 : decode cX13_line 17 = .ok (.aload_n 0, 1) := by decide +kernel
theorem dX13_line_18 : decode cX13_line 18 = .ok (.iconst 0, 1) := by decide +kernel
theorem dX13_line_19 : decode cX13_line 19 = .ok (.putfield 199, 3) := by decide +kernel
theorem dX13_line_22 : decode cX13_line 22 = .ok (.aload_n 0, 1) := by decide +kernel
theorem dX13_line_23 : decode cX13_line 23 = .ok (.iconst 0, 1) := by decide +kernel
theorem dX13_line_24 : decode cX13_line 24 = .ok (.putfield 220, 3) := by decide +kernel
theorem dX13_line_27 : decode cX13_line 27 = .ok (.aload_n 0, 1) := by decide +kernel
theorem dX13_line_28 : decode cX13_line 28 = .ok (.iconst 0, 1) := by decide +kernel
theorem dX13_line_29 : decode cX13_line 29 = .ok (.putfield 240, 3) := by decide +kernel
theorem dX13_line_32 : decode cX13_line 32 = .ok (.aload_n 0, 1) := by decide +kernel
theorem dX13_line_33 : decode cX13_line 33 = .ok (.iconst 0, 1) := by decide +kernel
theorem dX13_line_34 : decode cX13_line 34 = .ok (.putfield 187, 3) := by decide +kernel
theorem dX13_line_37 : decode cX13_line 37 = .ok (.aload_n 0, 1) := by decide +kernel
theorem dX13_line_38 : decode cX13_line 38 = .ok (.iconst 0, 1) := by decide +kernel
theorem dX13_line_39 : decode cX13_line 39 = .ok (.invokevirtual 223, 3) := by decide +kernel
theorem dX13_line_42 : decode cX13_line 42 = .ok (.istore_n 1, 1) := by decide +kernel
theorem dX13_line_43 : decode cX13_line 43 = .ok (.iload_n 1, 1) := by decide +kernel
theorem dX13_line_44 : decode cX13_line 44 = .ok (.ifCond .lt 25, 3) := by decide +kernel
theorem dX13_line_47 : decode cX13_line 47 = .ok (.aload_n 0, 1) := by decide +kernel
theorem dX13_line_48 : decode cX13_line 48 = .ok (.getfield 206, 3) := by decide +kernel
theorem dX13_line_51 : decode cX13_line 51 = .ok (.aload_n 0, 1) := by decide +kernel
theorem dX13_line_52 : decode cX13_line 52 = .ok (.getfield 181, 3) := by decide +kernel
theorem dX13_line_55 : decode cX13_line 55 = .ok (.if_icmp .ge 14, 3) := by decide +kernel
theorem dX13_line_58 : decode cX13_line 58 = .ok (.aload_n 0, 1) := by decide +kernel
theorem dX13_line_59 : decode cX13_line 59 = .ok (.aload_n 0, 1) := by decide +kernel
theorem dX13_line_60 : decode cX13_line 60 = .ok (.getfield 206, 3) := by decide +kernel
theorem dX13_line_63 : decode cX13_line 63 = .ok (.invokevirtual 216, 3) := by decide +kernel
theorem dX13_line_66 : decode cX13_line 66 = .ok (.pop, 1) := by decide +kernel
theorem dX13_line_67 : decode cX13_line 67 = .ok (.iconst (-1), 1) := by decide +kernel
theorem dX13_line_68 : decode cX13_line 68 = .ok (.istore_n 1, 1) := by decide +kernel
theorem dX13_line_69 : decode cX13_line 69 = .ok (.aload_n 0, 1) := by decide +kernel
theorem dX13_line_70 : decode cX13_line 70 = .ok (.iconst 0, 1) := by decide +kernel
theorem dX13_line_71 : decode cX13_line 71 = .ok (.putfield 181, 3) := by decide +kernel
theorem dX13_line_74 : decode cX13_line 74 = .ok (.iload_n 1, 1) := by decide +kernel
theorem dX13_line_75 : decode cX13_line 75 = .ok (.ifCond .ge 11, 3) := by decide +kernel
theorem dX13_line_78 : decode cX13_line 78 = .ok (.bipush (-10), 2) := by decide +kernel
theorem dX13_line_80 : decode cX13_line 80 = .ok (.aload_n 0, 1) := by decide +kernel
theorem dX13_line_81 : decode cX13_line 81 = .ok (.getfield 184, 3) := by decide +kernel
theorem dX13_line_84 : decode cX13_line 84 = .ok (.isub, 1) := by decide +kernel
theorem dX13_line_85 : decode cX13_line 85 = .ok (.ireturn, 1) := by decide +kernel
theorem dX13_line_86 : decode cX13_line 86 = .ok (.aload_n 0, 1) := by decide +kernel
theorem dX13_line_87 : decode cX13_line 87 = .ok (.getfield 73, 3) := by decide +kernel
theorem dX13_line_90 : decode cX13_line 90 = .ok (.aload_n 0, 1) := by decide +kernel
theorem dX13_line_91 : decode cX13_line 91 = .ok (.getfield 196, 3) := by decide +kernel
theorem dX13_line_94 : decode cX13_line 94 = .ok (.aload_n 0, 1) := by decide +kernel
theorem dX13_line_95 : decode cX13_line 95 = .ok (.getfield 240, 3) := by decide +kernel
theorem dX13_line_98 : decode cX13_line 98 = .ok (.iastore, 1) := by decide +kernel
theorem dX13_line_99 : decode cX13_line 99 = .ok (.aload_n 0, 1) := by decide +kernel
theorem dX13_line_100 : decode cX13_line 100 = .ok (.getfield 76, 3) := by decide +kernel
theorem dX13_line_103 : decode cX13_line 103 = .ok (.aload_n 0, 1) := by decide +kernel
theorem dX13_line_104 : decode cX13_line 104 = .ok (.getfield 196, 3) := by decide +kernel
theorem dX13_line_107 : decode cX13_line 107 = .ok (.aload_n 0, 1) := by decide +kernel
theorem dX13_line_108 : decode cX13_line 108 = .ok (.getfield 187, 3) := by decide +kernel
theorem dX13_line_111 : decode cX13_line 111 = .ok (.iastore, 1) := by decide +kernel
theorem dX13_line_112 : decode cX13_line 112 = .ok (.aload_n 0, 1) := by decide +kernel
theorem dX13_line_113 : decode cX13_line 113 = .ok (.dup, 1) := by decide +kernel
theorem dX13_line_114 : decode cX13_line 114 = .ok (.getfield 196, 3) := by decide +kernel
theorem dX13_line_117 : decode cX13_line 117 = .ok (.iconst 1, 1) := by decide +kernel
theorem dX13_line_118 : decode cX13_line 118 = .ok (.iadd, 1) := by decide +kernel
theorem dX13_line_119 : decode cX13_line 119 = .ok (.putfield 196, 3) := by decide +kernel
theorem dX13_line_122 : decode cX13_line 122 = .ok (.aload_n 0, 1) := by decide +kernel
theorem dX13_line_123 : decode cX13_line 123 = .ok (.getfield 196, 3) := by decide +kernel
theorem dX13_line_126 : decode cX13_line 126 = .ok (.iconst 1, 1) := by decide +kernel
theorem dX13_line_127 : decode cX13_line 127 = .ok (.isub, 1) := by decide +kernel
theorem dX13_line_128 : decode cX13_line 128 = .ok (.ireturn, 1) := by decide +kernel
theorem dX13_isLine_0 : decode cX13_isLine 0 = .ok (.iload_n 1, 1) := by decide +kernel
theorem dX13_isLine_1 : decode cX13_isLine 1 = .ok (.i2l, 1) := by decide +kernel
theorem dX13_isLine_2 : decode cX13_isLine 2 = .ok (.lconst 0, 1) := by decide +kernel
theorem dX13_isLine_3 : decode cX13_isLine 3 = .ok (.aload_n 0, 1) := by decide +kernel
theorem dX13_isLine_4 : decode cX13_isLine 4 = .ok (.getfield 196, 3) := by decide +kernel
theorem dX13_isLine_7 : decode cX13_isLine 7 = .ok (.iconst 1, 1) := by decide +kernel
theorem dX13_isLine_8 : decode cX13_isLine 8 = .ok (.isub, 1) := by decide +kernel
theorem dX13_isLine_9 : decode cX13_isLine 9 = .ok (.i2l, 1) := by decide +kernel
theorem dX13_isLine_10 : decode cX13_isLine 10 = .ok (.invokestatic 177, 3) := by decide +kernel
theorem dX13_isLine_13 : decode cX13_isLine 13 = .ok (.ireturn, 1) := by decide +kernel
theorem dX13_of_0 : decode cX13_of 0 = .ok (.aload_n 0, 1) := by decide +kernel
theorem dX13_of_1 : decode cX13_of 1 = .ok (.iload_n 1, 1) := by decide +kernel
theorem dX13_of_2 : decode cX13_of 2 = .ok (.invokevirtual 260, 3) := by decide +kernel
theorem dX13_of_5 : decode cX13_of 5 = .ok (.ifCond .eq 15, 3) := by decide +kernel
theorem dX13_of_8 : decode cX13_of 8 = .ok (.iload_n 2, 1) := by decide +kernel
theorem dX13_of_9 : decode cX13_of 9 = .ok (.i2l, 1) := by decide +kernel
theorem dX13_of_10 : decode cX13_of 10 = .ok (.lconst 0, 1) := by decide +kernel
theorem dX13_of_11 : decode cX13_of 11 = .ok (.ldc2_w 263, 3) := by decide +kernel
theorem dX13_of_14 : decode cX13_of 14 = .ok (.invokestatic 177, 3) := by decide +kernel
theorem dX13_of_17 : decode cX13_of 17 = .ok (.ifCond .ne 5, 3) := by decide +kernel
theorem dX13_of_20 : decode cX13_of 20 = .ok (.iconst (-1), 1) := by decide +kernel
theorem dX13_of_21 : decode cX13_of 21 = .ok (.ireturn, 1) := by decide +kernel
theorem dX13_of_22 : decode cX13_of 22 = .ok (.iload_n 2, 1) := by decide +kernel
theorem dX13_of_23 : decode cX13_of 23 = .ok (.ifCond .le 24, 3) := by decide +kernel
theorem dX13_of_26 : decode cX13_of 26 = .ok (.iload_n 2, 1) := by decide +kernel
theorem dX13_of_27 : decode cX13_of 27 = .ok (.iconst 1, 1) := by decide +kernel
theorem dX13_of_28 : decode cX13_of 28 = .ok (.if_icmp .ne 12, 3) := by decide +kernel
theorem dX13_of_31 : decode cX13_of 31 = .ok (.aload_n 0, 1) := by decide +kernel
theorem dX13_of_32 : decode cX13_of 32 = .ok (.getfield 73, 3) := by decide +kernel
theorem dX13_of_35 : decode cX13_of 35 = .ok (.iload_n 1, 1) := by decide +kernel
theorem dX13_of_36 : decode cX13_of 36 = .ok (.iaload, 1) := by decide +kernel
theorem dX13_of_37 : decode cX13_of 37 = .ok (.goto 9, 3) := by decide +kernel
theorem dX13_of_40 : decode cX13_of 40 = .ok (.aload_n 0, 1) := by decide +kernel
theorem dX13_of_41 : decode cX13_of 41 = .ok (.getfield 76, 3) := by decide +kernel
theorem dX13_of_44 : decode cX13_of 44 = .ok (.iload_n 1, 1) := by decide +kernel
theorem dX13_of_45 : decode cX13_of 45 = .ok (.iaload, 1) := by decide +kernel
theorem dX13_of_46 : decode cX13_of 46 = .ok (.ireturn, 1) := by decide +kernel
theorem dX13_of_47 : decode cX13_of 47 = .ok (.iconst 0, 1) := by decide +kernel
theorem dX13_of_48 : decode cX13_of 48 = .ok (.istore_n 3, 1) := by decide +kernel
theorem dX13_of_49 : decode cX13_of 49 = .ok (.aload_n 0, 1) := by decide +kernel
theorem dX13_of_50 : decode cX13_of 50 = .ok (.getfield 45, 3) := by decide +kernel
theorem dX13_of_53 : decode cX13_of 53 = .ok (.bipush 60, 2) := by decide +kernel
theorem dX13_of_55 : decode cX13_of 55 = .ok (.iload_n 1, 1) := by decide +kernel
theorem dX13_of_56 : decode cX13_of 56 = .ok (.imul, 1) := by decide +kernel
theorem dX13_of_57 : decode cX13_of 57 = .ok (.iaload, 1) := by decide +kernel
theorem dX13_of_58 : decode cX13_of 58 = .ok (.istore 4, 2) := by decide +kernel
theorem dX13_of_60 : decode cX13_of 60 = .ok (.iload 4, 2) := by decide +kernel
theorem dX13_of_62 : decode cX13_of 62 = .ok (.ifCond .lt 18, 3) := by decide +kernel
theorem dX13_of_65 : decode cX13_of 65 = .ok (.iinc 3 1, 3) := by decide +kernel
theorem dX13_of_68 : decode cX13_of 68 = .ok (.aload_n 0, 1) := by decide +kernel
theorem dX13_of_69 : decode cX13_of 69 = .ok (.getfield 49, 3) := by decide +kernel
theorem dX13_of_72 : decode cX13_of 72 = .ok (.iload 4, 2) := by decide +kernel
theorem dX13_of_74 : decode cX13_of 74 = .ok (.iaload, 1) := by decide +kernel
theorem dX13_of_75 : decode cX13_of 75 = .ok (.istore 4, 2) := by decide +kernel
theorem dX13_of_77 : decode cX13_of 77 = .ok (.goto (-17), 3) := by decide +kernel
theorem dX13_of_80 : decode cX13_of 80 = .ok (.iload_n 3, 1) := by decide +kernel
theorem dX13_of_81 : decode cX13_of 81 = .ok (.ireturn, 1) := by decide +kernel
theorem dX13_define_0 : decode cX13_define 0 = .ok (.iload_n 1, 1) := by decide +kernel
theorem dX13_define_1 : decode cX13_define 1 = .ok (.i2l, 1) := by decide +kernel
theorem dX13_define_2 : decode cX13_define 2 = .ok (.lconst 0, 1) := by decide +kernel
theorem dX13_define_3 : decode cX13_define 3 = .ok (.ldc2_w 263, 3) := by decide +kernel
theorem dX13_define_6 : decode cX13_define 6 = .ok (.invokestatic 177, 3) := by decide +kernel
theorem dX13_define_9 : decode cX13_define 9 = .ok (.ifCond .eq 16, 3) := by decide +kernel
theorem dX13_define_12 : decode cX13_define 12 = .ok (.iload_n 2, 1) := by decide +kernel
theorem dX13_define_13 : decode cX13_define 13 = .ok (.iconst (-1), 1) := by decide +kernel
theorem dX13_define_14 : decode cX13_define 14 = .ok (.if_icmp .eq 13, 3) := by decide +kernel
theorem dX13_define_17 : decode cX13_define 17 = .ok (.aload_n 0, 1) := by decide +kernel
theorem dX13_define_18 : decode cX13_define 18 = .ok (.iload_n 2, 1) := by decide +kernel
theorem dX13_define_19 : decode cX13_define 19 = .ok (.invokevirtual 260, 3) := by decide +kernel
theorem dX13_define_22 : decode cX13_define 22 = .ok (.ifCond .ne 5, 3) := by decide +kernel
theorem dX13_define_25 : decode cX13_define 25 = .ok (.iconst (-1), 1) := by decide +kernel
theorem dX13_define_26 : decode cX13_define 26 = .ok (.ireturn, 1) := by decide +kernel
theorem dX13_define_27 : decode cX13_define 27 = .ok (.aload_n 0, 1) := by decide +kernel
theorem dX13_define_28 : decode cX13_define 28 = .ok (.getfield 82, 3) := by decide +kernel
theorem dX13_define_31 : decode cX13_define 31 = .ok (.iload_n 1, 1) := by decide +kernel
theorem dX13_define_32 : decode cX13_define 32 = .ok (.iaload, 1) := by decide +kernel
theorem dX13_define_33 : decode cX13_define 33 = .ok (.istore_n 3, 1) := by decide +kernel
theorem dX13_define_34 : decode cX13_define 34 = .ok (.aload_n 0, 1) := by decide +kernel
theorem dX13_define_35 : decode cX13_define 35 = .ok (.getfield 82, 3) := by decide +kernel
theorem dX13_define_38 : decode cX13_define 38 = .ok (.iload_n 1, 1) := by decide +kernel
theorem dX13_define_39 : decode cX13_define 39 = .ok (.iload_n 2, 1) := by decide +kernel
theorem dX13_define_40 : decode cX13_define 40 = .ok (.iconst (-1), 1) := by decide +kernel
theorem dX13_define_41 : decode cX13_define 41 = .ok (.if_icmp .ne 8, 3) := by decide +kernel
theorem dX13_define_44 : decode cX13_define 44 = .ok (.bipush (-5), 2) := by decide +kernel
theorem dX13_define_46 : decode cX13_define 46 = .ok (.goto 4, 3) := by decide +kernel
theorem dX13_define_49 : decode cX13_define 49 = .ok (.iload_n 2, 1) := by decide +kernel
theorem dX13_define_50 : decode cX13_define 50 = .ok (.iastore, 1) := by decide +kernel
theorem dX13_define_51 : decode cX13_define 51 = .ok (.iload_n 3, 1) := by decide +kernel
theorem dX13_define_52 : decode cX13_define 52 = .ok (.ireturn, 1) := by decide +kernel
theorem dX13_trap_0 : decode cX13_trap 0 = .ok (.iload_n 1, 1) := by decide +kernel
theorem dX13_trap_1 : decode cX13_trap 1 = .ok (.iconst (-1), 1) := by decide +kernel
theorem dX13_trap_2 : decode cX13_trap 2 = .ok (.if_icmp .eq 13, 3) := by decide +kernel
theorem dX13_trap_5 : decode cX13_trap 5 = .ok (.aload_n 0, 1) := by decide +kernel
theorem dX13_trap_6 : decode cX13_trap 6 = .ok (.iload_n 1, 1) := by decide +kernel
theorem dX13_trap_7 : decode cX13_trap 7 = .ok (.invokevirtual 260, 3) := by decide +kernel
theorem dX13_trap_10 : decode cX13_trap 10 = .ok (.ifCond .ne 5, 3) := by decide +kernel
theorem dX13_trap_13 : decode cX13_trap 13 = .ok (.iconst (-1), 1) := by decide +kernel
theorem dX13_trap_14 : decode cX13_trap 14 = .ok (.ireturn, 1) := by decide +kernel
theorem dX13_trap_15 : decode cX13_trap 15 = .ok (.aload_n 0, 1) := by decide +kernel
theorem dX13_trap_16 : decode cX13_trap 16 = .ok (.getfield 85, 3) := by decide +kernel
theorem dX13_trap_19 : decode cX13_trap 19 = .ok (.istore_n 2, 1) := by decide +kernel
theorem dX13_trap_20 : decode cX13_trap 20 = .ok (.aload_n 0, 1) := by decide +kernel
theorem dX13_trap_21 : decode cX13_trap 21 = .ok (.iload_n 1, 1) := by decide +kernel
theorem dX13_trap_22 : decode cX13_trap 22 = .ok (.iconst (-1), 1) := by decide +kernel
theorem dX13_trap_23 : decode cX13_trap 23 = .ok (.if_icmp .ne 8, 3) := by decide +kernel
theorem dX13_trap_26 : decode cX13_trap 26 = .ok (.bipush (-5), 2) := by decide +kernel
theorem dX13_trap_28 : decode cX13_trap 28 = .ok (.goto 4, 3) := by decide +kernel
theorem dX13_trap_31 : decode cX13_trap 31 = .ok (.iload_n 1, 1) := by decide +kernel
theorem dX13_trap_32 : decode cX13_trap 32 = .ok (.putfield 85, 3) := by decide +kernel
theorem dX13_trap_35 : decode cX13_trap 35 = .ok (.iload_n 2, 1) := by decide +kernel
theorem dX13_trap_36 : decode cX13_trap 36 = .ok (.ireturn, 1) := by decide +kernel
theorem dX13_value_0 : decode cX13_value 0 = .ok (.iload_n 1, 1) := by decide +kernel
theorem dX13_value_1 : decode cX13_value 1 = .ok (.i2l, 1) := by decide +kernel
theorem dX13_value_2 : decode cX13_value 2 = .ok (.lconst 0, 1) := by decide +kernel
theorem dX13_value_3 : decode cX13_value 3 = .ok (.ldc2_w 265, 3) := by decide +kernel
theorem dX13_value_6 : decode cX13_value 6 = .ok (.invokestatic 177, 3) := by decide +kernel
theorem dX13_value_9 : decode cX13_value 9 = .ok (.ifCond .ne 7, 3) := by decide +kernel
theorem dX13_value_12 : decode cX13_value 12 = .ok (.ldc2_w 267, 3) := by decide +kernel
theorem dX13_value_15 : decode cX13_value 15 = .ok (.lreturn, 1) := by decide +kernel
theorem dX13_value_16 : decode cX13_value 16 = .ok (.aload_n 0, 1) := by decide +kernel
theorem dX13_value_17 : decode cX13_value 17 = .ok (.getfield 79, 3) := by decide +kernel
theorem dX13_value_20 : decode cX13_value 20 = .ok (.iload_n 1, 1) := by decide +kernel
theorem dX13_value_21 : decode cX13_value 21 = .ok (.iaload, 1) := by decide +kernel
theorem dX13_value_22 : decode cX13_value 22 = .ok (.i2l, 1) := by decide +kernel
theorem dX13_value_23 : decode cX13_value 23 = .ok (.lstore_n 3, 1) := by decide +kernel
theorem dX13_value_24 : decode cX13_value 24 = .ok (.aload_n 0, 1) := by decide +kernel
theorem dX13_value_25 : decode cX13_value 25 = .ok (.getfield 79, 3) := by decide +kernel
theorem dX13_value_28 : decode cX13_value 28 = .ok (.iload_n 1, 1) := by decide +kernel
theorem dX13_value_29 : decode cX13_value 29 = .ok (.iload_n 2, 1) := by decide +kernel
theorem dX13_value_30 : decode cX13_value 30 = .ok (.iastore, 1) := by decide +kernel
theorem dX13_value_31 : decode cX13_value 31 = .ok (.lload_n 3, 1) := by decide +kernel
theorem dX13_value_32 : decode cX13_value 32 = .ok (.lreturn, 1) := by decide +kernel
theorem dX13_writes_0 : decode cX13_writes 0 = .ok (.iload_n 1, 1) := by decide +kernel
theorem dX13_writes_1 : decode cX13_writes 1 = .ok (.ifCond .ge 35, 3) := by decide +kernel
theorem dX13_writes_4 : decode cX13_writes 4 = .ok (.aload_n 0, 1) := by decide +kernel
theorem dX13_writes_5 : decode cX13_writes 5 = .ok (.getfield 269, 3) := by decide +kernel
theorem dX13_writes_8 : decode cX13_writes 8 = .ok (.bipush 60, 2) := by decide +kernel
theorem dX13_writes_10 : decode cX13_writes 10 = .ok (.if_icmp .ge 64, 3) := by decide +kernel
theorem dX13_writes_13 : decode cX13_writes 13 = .ok (.aload_n 0, 1) := by decide +kernel
theorem dX13_writes_14 : decode cX13_writes 14 = .ok (.getfield 117, 3) := by decide +kernel
theorem dX13_writes_17 : decode cX13_writes 17 = .ok (.aload_n 0, 1) := by decide +kernel
theorem dX13_writes_18 : decode cX13_writes 18 = .ok (.getfield 269, 3) := by decide +kernel
theorem dX13_writes_21 : decode cX13_writes 21 = .ok (.iload_n 2, 1) := by decide +kernel
theorem dX13_writes_22 : decode cX13_writes 22 = .ok (.iastore, 1) := by decide +kernel
theorem dX13_writes_23 : decode cX13_writes 23 = .ok (.aload_n 0, 1) := by decide +kernel
theorem dX13_writes_24 : decode cX13_writes 24 = .ok (.dup, 1) := by decide +kernel
theorem dX13_writes_25 : decode cX13_writes 25 = .ok (.getfield 269, 3) := by decide +kernel
theorem dX13_writes_28 : decode cX13_writes 28 = .ok (.iconst 1, 1) := by decide +kernel
theorem dX13_writes_29 : decode cX13_writes 29 = .ok (.iadd, 1) := by decide +kernel
theorem dX13_writes_30 : decode cX13_writes 30 = .ok (.putfield 269, 3) := by decide +kernel
theorem dX13_writes_33 : decode cX13_writes 33 = .ok (.goto 41, 3) := by decide +kernel
theorem dX13_writes_36 : decode cX13_writes 36 = .ok (.aload_n 0, 1) := by decide +kernel
theorem dX13_writes_37 : decode cX13_writes 37 = .ok (.getfield 114, 3) := by decide +kernel
theorem dX13_writes_40 : decode cX13_writes 40 = .ok (.iload_n 1, 1) := by decide +kernel
theorem dX13_writes_41 : decode cX13_writes 41 = .ok (.iaload, 1) := by decide +kernel
theorem dX13_writes_42 : decode cX13_writes 42 = .ok (.bipush 60, 2) := by decide +kernel
theorem dX13_writes_44 : decode cX13_writes 44 = .ok (.if_icmp .ge 30, 3) := by decide +kernel
theorem dX13_writes_47 : decode cX13_writes 47 = .ok (.aload_n 0, 1) := by decide +kernel
theorem dX13_writes_48 : decode cX13_writes 48 = .ok (.getfield 111, 3) := by decide +kernel
theorem dX13_writes_51 : decode cX13_writes 51 = .ok (.bipush 60, 2) := by decide +kernel
theorem dX13_writes_53 : decode cX13_writes 53 = .ok (.iload_n 1, 1) := by decide +kernel
theorem dX13_writes_54 : decode cX13_writes 54 = .ok (.imul, 1) := by decide +kernel
theorem dX13_writes_55 : decode cX13_writes 55 = .ok (.aload_n 0, 1) := by decide +kernel
theorem dX13_writes_56 : decode cX13_writes 56 = .ok (.getfield 114, 3) := by decide +kernel
theorem dX13_writes_59 : decode cX13_writes 59 = .ok (.iload_n 1, 1) := by decide +kernel
theorem dX13_writes_60 : decode cX13_writes 60 = .ok (.iaload, 1) := by decide +kernel
theorem dX13_writes_61 : decode cX13_writes 61 = .ok (.iadd, 1) := by decide +kernel
theorem dX13_writes_62 : decode cX13_writes 62 = .ok (.iload_n 2, 1) := by decide +kernel
theorem dX13_writes_63 : decode cX13_writes 63 = .ok (.iastore, 1) := by decide +kernel
theorem dX13_writes_64 : decode cX13_writes 64 = .ok (.aload_n 0, 1) := by decide +kernel
theorem dX13_writes_65 : decode cX13_writes 65 = .ok (.getfield 114, 3) := by decide +kernel
theorem dX13_writes_68 : decode cX13_writes 68 = .ok (.iload_n 1, 1) := by decide +kernel
theorem dX13_writes_69 : decode cX13_writes 69 = .ok (.dup2, 1) := by decide +kernel
theorem dX13_writes_70 : decode cX13_writes 70 = .ok (.iaload, 1) := by decide +kernel
theorem dX13_writes_71 : decode cX13_writes 71 = .ok (.iconst 1, 1) := by decide +kernel
theorem dX13_writes_72 : decode cX13_writes 72 = .ok (.iadd, 1) := by decide +kernel
theorem dX13_writes_73 : decode cX13_writes 73 = .ok (.iastore, 1) := by decide +kernel
theorem dX13_writes_74 : decode cX13_writes 74 = .ok (.return_, 1) := by decide +kernel
theorem dX13_begins_0 : decode cX13_begins 0 = .ok (.aload_n 0, 1) := by decide +kernel
theorem dX13_begins_1 : decode cX13_begins 1 = .ok (.getfield 92, 3) := by decide +kernel
theorem dX13_begins_4 : decode cX13_begins 4 = .ok (.iload_n 1, 1) := by decide +kernel
theorem dX13_begins_5 : decode cX13_begins 5 = .ok (.iload_n 2, 1) := by decide +kernel
theorem dX13_begins_6 : decode cX13_begins 6 = .ok (.iastore, 1) := by decide +kernel
theorem dX13_begins_7 : decode cX13_begins 7 = .ok (.aload_n 0, 1) := by decide +kernel
theorem dX13_begins_8 : decode cX13_begins 8 = .ok (.getfield 95, 3) := by decide +kernel
theorem dX13_begins_11 : decode cX13_begins 11 = .ok (.iload_n 1, 1) := by decide +kernel
theorem dX13_begins_12 : decode cX13_begins 12 = .ok (.iload_n 3, 1) := by decide +kernel
theorem dX13_begins_13 : decode cX13_begins 13 = .ok (.iastore, 1) := by decide +kernel
theorem dX13_begins_14 : decode cX13_begins 14 = .ok (.aload_n 0, 1) := by decide +kernel
theorem dX13_begins_15 : decode cX13_begins 15 = .ok (.getfield 114, 3) := by decide +kernel
theorem dX13_begins_18 : decode cX13_begins 18 = .ok (.iload_n 1, 1) := by decide +kernel
theorem dX13_begins_19 : decode cX13_begins 19 = .ok (.iconst 0, 1) := by decide +kernel
theorem dX13_begins_20 : decode cX13_begins 20 = .ok (.iastore, 1) := by decide +kernel
theorem dX13_begins_21 : decode cX13_begins 21 = .ok (.iconst 0, 1) := by decide +kernel
theorem dX13_begins_22 : decode cX13_begins 22 = .ok (.istore 4, 2) := by decide +kernel
theorem dX13_begins_24 : decode cX13_begins 24 = .ok (.iload 4, 2) := by decide +kernel
theorem dX13_begins_26 : decode cX13_begins 26 = .ok (.aload_n 0, 1) := by decide +kernel
theorem dX13_begins_27 : decode cX13_begins 27 = .ok (.getfield 58, 3) := by decide +kernel
theorem dX13_begins_30 : decode cX13_begins 30 = .ok (.iload_n 2, 1) := by decide +kernel
theorem dX13_begins_31 : decode cX13_begins 31 = .ok (.iaload, 1) := by decide +kernel
theorem dX13_begins_32 : decode cX13_begins 32 = .ok (.if_icmp .ge 216, 3) := by decide +kernel
theorem dX13_begins_35 : decode cX13_begins 35 = .ok (.aload_n 0, 1) := by decide +kernel
theorem dX13_begins_36 : decode cX13_begins 36 = .ok (.iload_n 2, 1) := by decide +kernel
theorem dX13_begins_37 : decode cX13_begins 37 = .ok (.iload 4, 2) := by decide +kernel
theorem dX13_begins_39 : decode cX13_begins 39 = .ok (.invokevirtual 272, 3) := by decide +kernel
theorem dX13_begins_42 : decode cX13_begins 42 = .ok (.istore 5, 2) := by decide +kernel
theorem dX13_begins_44 : decode cX13_begins 44 = .ok (.iconst 0, 1) := by decide +kernel
theorem dX13_begins_45 : decode cX13_begins 45 = .ok (.istore 6, 2) := by decide +kernel
theorem dX13_begins_47 : decode cX13_begins 47 = .ok (.iload 6, 2) := by decide +kernel
theorem dX13_begins_49 : decode cX13_begins 49 = .ok (.aload_n 0, 1) := by decide +kernel
theorem dX13_begins_50 : decode cX13_begins 50 = .ok (.getfield 67, 3) := by decide +kernel
theorem dX13_begins_53 : decode cX13_begins 53 = .ok (.iload 5, 2) := by decide +kernel
theorem dX13_begins_55 : decode cX13_begins 55 = .ok (.iaload, 1) := by decide +kernel
theorem dX13_begins_56 : decode cX13_begins 56 = .ok (.if_icmp .ge 70, 3) := by decide +kernel
theorem dX13_begins_59 : decode cX13_begins 59 = .ok (.aload_n 0, 1) := by decide +kernel
theorem dX13_begins_60 : decode cX13_begins 60 = .ok (.getfield 70, 3) := by decide +kernel
theorem dX13_begins_63 : decode cX13_begins 63 = .ok (.iconst 4, 1) := by decide +kernel
theorem dX13_begins_64 : decode cX13_begins 64 = .ok (.iload 5, 2) := by decide +kernel
theorem dX13_begins_66 : decode cX13_begins 66 = .ok (.imul, 1) := by decide +kernel
theorem dX13_begins_67 : decode cX13_begins 67 = .ok (.iload 6, 2) := by decide +kernel
theorem dX13_begins_69 : decode cX13_begins 69 = .ok (.iadd, 1) := by decide +kernel
theorem dX13_begins_70 : decode cX13_begins 70 = .ok (.iaload, 1) := by decide +kernel
theorem dX13_begins_71 : decode cX13_begins 71 = .ok (.istore 7, 2) := by decide +kernel
theorem dX13_begins_73 : decode cX13_begins 73 = .ok (.aload_n 0, 1) := by decide +kernel
theorem dX13_begins_74 : decode cX13_begins 74 = .ok (.getfield 98, 3) := by decide +kernel
theorem dX13_begins_77 : decode cX13_begins 77 = .ok (.bipush 24, 2) := by decide +kernel
theorem dX13_begins_79 : decode cX13_begins 79 = .ok (.iload_n 1, 1) := by decide +kernel
theorem dX13_begins_80 : decode cX13_begins 80 = .ok (.imul, 1) := by decide +kernel
theorem dX13_begins_81 : decode cX13_begins 81 = .ok (.iconst 4, 1) := by decide +kernel
theorem dX13_begins_82 : decode cX13_begins 82 = .ok (.iload 4, 2) := by decide +kernel
theorem dX13_begins_84 : decode cX13_begins 84 = .ok (.imul, 1) := by decide +kernel
theorem dX13_begins_85 : decode cX13_begins 85 = .ok (.iadd, 1) := by decide +kernel
theorem dX13_begins_86 : decode cX13_begins 86 = .ok (.iload 6, 2) := by decide +kernel
theorem dX13_begins_88 : decode cX13_begins 88 = .ok (.iadd, 1) := by decide +kernel
theorem dX13_begins_89 : decode cX13_begins 89 = .ok (.iload 7, 2) := by decide +kernel
theorem dX13_begins_91 : decode cX13_begins 91 = .ok (.bipush (-6), 2) := by decide +kernel
theorem dX13_begins_93 : decode cX13_begins 93 = .ok (.if_icmp .ne 7, 3) := by decide +kernel
theorem dX13_begins_96 : decode cX13_begins 96 = .ok (.iload_n 3, 1) := by decide +kernel
theorem dX13_begins_97 : decode cX13_begins 97 = .ok (.goto 22, 3) := by decide +kernel
theorem dX13_begins_100 : decode cX13_begins 100 = .ok (.iload 7, 2) := by decide +kernel
theorem dX13_begins_102 : decode cX13_begins 102 = .ok (.ifCond .ge 15, 3) := by decide +kernel
theorem dX13_begins_105 : decode cX13_begins 105 = .ok (.aload_n 0, 1) := by decide +kernel
theorem dX13_begins_106 : decode cX13_begins 106 = .ok (.getfield 79, 3) := by decide +kernel
theorem dX13_begins_109 : decode cX13_begins 109 = .ok (.iconst (-1), 1) := by decide +kernel
theorem dX13_begins_110 : decode cX13_begins 110 = .ok (.iload 7, 2) := by decide +kernel
theorem dX13_begins_112 : decode cX13_begins 112 = .ok (.isub, 1) := by decide +kernel
theorem dX13_begins_113 : decode cX13_begins 113 = .ok (.iaload, 1) := by decide +kernel
theorem dX13_begins_114 : decode cX13_begins 114 = .ok (.goto 5, 3) := by decide +kernel
theorem dX13_begins_117 : decode cX13_begins 117 = .ok (.iload 7, 2) := by decide +kernel
theorem dX13_begins_119 : decode cX13_begins 119 = .ok (.iastore, 1) := by decide +kernel
theorem dX13_begins_120 : decode cX13_begins 120 = .ok (.iinc 6 1, 3) := by decide +kernel
theorem dX13_begins_123 : decode cX13_begins 123 = .ok (.goto (-76), 3) := by decide +kernel
theorem dX13_begins_126 : decode cX13_begins 126 = .ok (.aload_n 0, 1) := by decide +kernel
theorem dX13_begins_127 : decode cX13_begins 127 = .ok (.getfield 101, 3) := by decide +kernel
theorem dX13_begins_130 : decode cX13_begins 130 = .ok (.bipush 6, 2) := by decide +kernel
theorem dX13_begins_132 : decode cX13_begins 132 = .ok (.iload_n 1, 1) := by decide +kernel
theorem dX13_begins_133 : decode cX13_begins 133 = .ok (.imul, 1) := by decide +kernel
theorem dX13_begins_134 : decode cX13_begins 134 = .ok (.iload 4, 2) := by decide +kernel
theorem dX13_begins_136 : decode cX13_begins 136 = .ok (.iadd, 1) := by decide +kernel
theorem dX13_begins_137 : decode cX13_begins 137 = .ok (.iconst 0, 1) := by decide +kernel
theorem dX13_begins_138 : decode cX13_begins 138 = .ok (.iastore, 1) := by decide +kernel
theorem dX13_begins_139 : decode cX13_begins 139 = .ok (.aload_n 0, 1) := by decide +kernel
theorem dX13_begins_140 : decode cX13_begins 140 = .ok (.getfield 104, 3) := by decide +kernel
theorem dX13_begins_143 : decode cX13_begins 143 = .ok (.bipush 6, 2) := by decide +kernel
theorem dX13_begins_145 : decode cX13_begins 145 = .ok (.iload_n 1, 1) := by decide +kernel
theorem dX13_begins_146 : decode cX13_begins 146 = .ok (.imul, 1) := by decide +kernel
theorem dX13_begins_147 : decode cX13_begins 147 = .ok (.iload 4, 2) := by decide +kernel
theorem dX13_begins_149 : decode cX13_begins 149 = .ok (.iadd, 1) := by decide +kernel
theorem dX13_begins_150 : decode cX13_begins 150 = .ok (.iconst 0, 1) := by decide +kernel
theorem dX13_begins_151 : decode cX13_begins 151 = .ok (.bastore, 1) := by decide +kernel
theorem dX13_begins_152 : decode cX13_begins 152 = .ok (.aload_n 0, 1) := by decide +kernel
theorem dX13_begins_153 : decode cX13_begins 153 = .ok (.getfield 108, 3) := by decide +kernel
theorem dX13_begins_156 : decode cX13_begins 156 = .ok (.bipush 6, 2) := by decide +kernel
theorem dX13_begins_158 : decode cX13_begins 158 = .ok (.iload_n 1, 1) := by decide +kernel
theorem dX13_begins_159 : decode cX13_begins 159 = .ok (.imul, 1) := by decide +kernel
theorem dX13_begins_160 : decode cX13_begins 160 = .ok (.iload 4, 2) := by decide +kernel
theorem dX13_begins_162 : decode cX13_begins 162 = .ok (.iadd, 1) := by decide +kernel
theorem dX13_begins_163 : decode cX13_begins 163 = .ok (.aload_n 0, 1) := by decide +kernel
theorem dX13_begins_164 : decode cX13_begins 164 = .ok (.getfield 61, 3) := by decide +kernel
theorem dX13_begins_167 : decode cX13_begins 167 = .ok (.iload 5, 2) := by decide +kernel
theorem dX13_begins_169 : decode cX13_begins 169 = .ok (.iaload, 1) := by decide +kernel
theorem dX13_begins_170 : decode cX13_begins 170 = .ok (.bipush 10, 2) := by decide +kernel
theorem dX13_begins_172 : decode cX13_begins 172 = .ok (.if_icmp .ne 20, 3) := by decide +kernel
theorem dX13_begins_175 : decode cX13_begins 175 = .ok (.aload_n 0, 1) := by decide +kernel
theorem dX13_begins_176 : decode cX13_begins 176 = .ok (.getfield 98, 3) := by decide +kernel
theorem dX13_begins_179 : decode cX13_begins 179 = .ok (.bipush 24, 2) := by decide +kernel
theorem dX13_begins_181 : decode cX13_begins 181 = .ok (.iload_n 1, 1) := by decide +kernel
theorem dX13_begins_182 : decode cX13_begins 182 = .ok (.imul, 1) := by decide +kernel
theorem dX13_begins_183 : decode cX13_begins 183 = .ok (.iconst 4, 1) := by decide +kernel
theorem dX13_begins_184 : decode cX13_begins 184 = .ok (.iload 4, 2) := by decide +kernel
theorem dX13_begins_186 : decode cX13_begins 186 = .ok (.imul, 1) := by decide +kernel
theorem dX13_begins_187 : decode cX13_begins 187 = .ok (.iadd, 1) := by decide +kernel
theorem dX13_begins_188 : decode cX13_begins 188 = .ok (.iaload, 1) := by decide +kernel
theorem dX13_begins_189 : decode cX13_begins 189 = .ok (.goto 52, 3) := by decide +kernel
theorem dX13_begins_192 : decode cX13_begins 192 = .ok (.aload_n 0, 1) := by decide +kernel
theorem dX13_begins_193 : decode cX13_begins 193 = .ok (.getfield 61, 3) := by decide +kernel
theorem dX13_begins_196 : decode cX13_begins 196 = .ok (.iload 5, 2) := by decide +kernel
theorem dX13_begins_198 : decode cX13_begins 198 = .ok (.iaload, 1) := by decide +kernel
theorem dX13_begins_199 : decode cX13_begins 199 = .ok (.iconst 4, 1) := by decide +kernel
theorem dX13_begins_200 : decode cX13_begins 200 = .ok (.if_icmp .ne 24, 3) := by decide +kernel
theorem dX13_begins_203 : decode cX13_begins 203 = .ok (.aload_n 0, 1) := by decide +kernel
theorem dX13_begins_204 : decode cX13_begins 204 = .ok (.getfield 98, 3) := by decide +kernel
theorem dX13_begins_207 : decode cX13_begins 207 = .ok (.bipush 24, 2) := by decide +kernel
theorem dX13_begins_209 : decode cX13_begins 209 = .ok (.iload_n 1, 1) := by decide +kernel
theorem dX13_begins_210 : decode cX13_begins 210 = .ok (.imul, 1) := by decide +kernel
theorem dX13_begins_211 : decode cX13_begins 211 = .ok (.iconst 4, 1) := by decide +kernel
theorem dX13_begins_212 : decode cX13_begins 212 = .ok (.iload 4, 2) := by decide +kernel
theorem dX13_begins_214 : decode cX13_begins 214 = .ok (.imul, 1) := by decide +kernel
theorem dX13_begins_215 : decode cX13_begins 215 = .ok (.iadd, 1) := by decide +kernel
theorem dX13_begins_216 : decode cX13_begins 216 = .ok (.iaload, 1) := by decide +kernel
theorem dX13_begins_217 : decode cX13_begins 217 = .ok (.ifCond .ne 7, 3) := by decide +kernel
theorem dX13_begins_220 : decode cX13_begins 220 = .ok (.iconst 2, 1) := by decide +kernel
theorem dX13_begins_221 : decode cX13_begins 221 = .ok (.goto 20, 3) := by decide +kernel
theorem dX13_begins_224 : decode cX13_begins 224 = .ok (.aload_n 0, 1) := by decide +kernel
theorem dX13_begins_225 : decode cX13_begins 225 = .ok (.getfield 61, 3) := by decide +kernel
theorem dX13_begins_228 : decode cX13_begins 228 = .ok (.iload 5, 2) := by decide +kernel
theorem dX13_begins_230 : decode cX13_begins 230 = .ok (.iaload, 1) := by decide +kernel
theorem dX13_begins_231 : decode cX13_begins 231 = .ok (.bipush 8, 2) := by decide +kernel
theorem dX13_begins_233 : decode cX13_begins 233 = .ok (.if_icmp .ne 7, 3) := by decide +kernel
theorem dX13_begins_236 : decode cX13_begins 236 = .ok (.iconst 1, 1) := by decide +kernel
theorem dX13_begins_237 : decode cX13_begins 237 = .ok (.goto 4, 3) := by decide +kernel
theorem dX13_begins_240 : decode cX13_begins 240 = .ok (.iconst 0, 1) := by decide +kernel
theorem dX13_begins_241 : decode cX13_begins 241 = .ok (.iastore, 1) := by decide +kernel
theorem dX13_begins_242 : decode cX13_begins 242 = .ok (.iinc 4 1, 3) := by decide +kernel
theorem dX13_begins_245 : decode cX13_begins 245 = .ok (.goto (-221), 3) := by decide +kernel
theorem dX13_begins_248 : decode cX13_begins 248 = .ok (.return_, 1) := by decide +kernel
theorem dX13_stageAt_0 : decode cX13_stageAt 0 = .ok (.aload_n 0, 1) := by decide +kernel
theorem dX13_stageAt_1 : decode cX13_stageAt 1 = .ok (.getfield 55, 3) := by decide +kernel
theorem dX13_stageAt_4 : decode cX13_stageAt 4 = .ok (.iload_n 1, 1) := by decide +kernel
theorem dX13_stageAt_5 : decode cX13_stageAt 5 = .ok (.iaload, 1) := by decide +kernel
theorem dX13_stageAt_6 : decode cX13_stageAt 6 = .ok (.iload_n 2, 1) := by decide +kernel
theorem dX13_stageAt_7 : decode cX13_stageAt 7 = .ok (.iadd, 1) := by decide +kernel
theorem dX13_stageAt_8 : decode cX13_stageAt 8 = .ok (.ireturn, 1) := by decide +kernel
theorem dX13_ahead_0 : decode cX13_ahead 0 = .ok (.iload_n 2, 1) := by decide +kernel
theorem dX13_ahead_1 : decode cX13_ahead 1 = .ok (.ifCond .ne 9, 3) := by decide +kernel
theorem dX13_ahead_4 : decode cX13_ahead 4 = .ok (.ldc2_w 267, 3) := by decide +kernel
theorem dX13_ahead_7 : decode cX13_ahead 7 = .ok (.goto 11, 3) := by decide +kernel
theorem dX13_ahead_10 : decode cX13_ahead 10 = .ok (.aload_n 0, 1) := by decide +kernel
theorem dX13_ahead_11 : decode cX13_ahead 11 = .ok (.iload_n 1, 1) := by decide +kernel
theorem dX13_ahead_12 : decode cX13_ahead 12 = .ok (.iload_n 2, 1) := by decide +kernel
theorem dX13_ahead_13 : decode cX13_ahead 13 = .ok (.iconst 1, 1) := by decide +kernel
theorem dX13_ahead_14 : decode cX13_ahead 14 = .ok (.isub, 1) := by decide +kernel
theorem dX13_ahead_15 : decode cX13_ahead 15 = .ok (.invokevirtual 275, 3) := by decide +kernel
theorem dX13_ahead_18 : decode cX13_ahead 18 = .ok (.lstore_n 3, 1) := by decide +kernel
theorem dX13_ahead_19 : decode cX13_ahead 19 = .ok (.aload_n 0, 1) := by decide +kernel
theorem dX13_ahead_20 : decode cX13_ahead 20 = .ok (.dup, 1) := by decide +kernel
theorem dX13_ahead_21 : decode cX13_ahead 21 = .ok (.getfield 279, 3) := by decide +kernel
theorem dX13_ahead_24 : decode cX13_ahead 24 = .ok (.lload_n 3, 1) := by decide +kernel
theorem dX13_ahead_25 : decode cX13_ahead 25 = .ok (.ldc2_w 267, 3) := by decide +kernel
theorem dX13_ahead_28 : decode cX13_ahead 28 = .ok (.lcmp, 1) := by decide +kernel
theorem dX13_ahead_29 : decode cX13_ahead 29 = .ok (.ifCond .ne 7, 3) := by decide +kernel
theorem dX13_ahead_32 : decode cX13_ahead 32 = .ok (.iconst 0, 1) := by decide +kernel
theorem dX13_ahead_33 : decode cX13_ahead 33 = .ok (.goto 4, 3) := by decide +kernel
theorem dX13_ahead_36 : decode cX13_ahead 36 = .ok (.iconst 1, 1) := by decide +kernel
theorem dX13_ahead_37 : decode cX13_ahead 37 = .ok (.iadd, 1) := by decide +kernel
theorem dX13_ahead_38 : decode cX13_ahead 38 = .ok (.putfield 279, 3) := by decide +kernel
theorem dX13_ahead_41 : decode cX13_ahead 41 = .ok (.lload_n 3, 1) := by decide +kernel
theorem dX13_ahead_42 : decode cX13_ahead 42 = .ok (.lreturn, 1) := by decide +kernel
theorem dX13_next_0 : decode cX13_next 0 = .ok (.bipush 6, 2) := by decide +kernel
theorem dX13_next_2 : decode cX13_next 2 = .ok (.iload_n 1, 1) := by decide +kernel
theorem dX13_next_3 : decode cX13_next 3 = .ok (.imul, 1) := by decide +kernel
theorem dX13_next_4 : decode cX13_next 4 = .ok (.iload_n 2, 1) := by decide +kernel
theorem dX13_next_5 : decode cX13_next 5 = .ok (.iadd, 1) := by decide +kernel
theorem dX13_next_6 : decode cX13_next 6 = .ok (.istore_n 3, 1) := by decide +kernel
theorem dX13_next_7 : decode cX13_next 7 = .ok (.aload_n 0, 1) := by decide +kernel
theorem dX13_next_8 : decode cX13_next 8 = .ok (.getfield 104, 3) := by decide +kernel
theorem dX13_next_11 : decode cX13_next 11 = .ok (.iload_n 3, 1) := by decide +kernel
theorem dX13_next_12 : decode cX13_next 12 = .ok (.baload, 1) := by decide +kernel
theorem dX13_next_13 : decode cX13_next 13 = .ok (.ifCond .eq 7, 3) := by decide +kernel
theorem dX13_next_16 : decode cX13_next 16 = .ok (.ldc2_w 267, 3) := by decide +kernel
theorem dX13_next_19 : decode cX13_next 19 = .ok (.lreturn, 1) := by decide +kernel
theorem dX13_next_20 : decode cX13_next 20 = .ok (.aload_n 0, 1) := by decide +kernel
theorem dX13_next_21 : decode cX13_next 21 = .ok (.iload_n 1, 1) := by decide +kernel
theorem dX13_next_22 : decode cX13_next 22 = .ok (.iload_n 2, 1) := by decide +kernel
theorem dX13_next_23 : decode cX13_next 23 = .ok (.aload_n 0, 1) := by decide +kernel
theorem dX13_next_24 : decode cX13_next 24 = .ok (.aload_n 0, 1) := by decide +kernel
theorem dX13_next_25 : decode cX13_next 25 = .ok (.getfield 92, 3) := by decide +kernel
theorem dX13_next_28 : decode cX13_next 28 = .ok (.iload_n 1, 1) := by decide +kernel
theorem dX13_next_29 : decode cX13_next 29 = .ok (.iaload, 1) := by decide +kernel
theorem dX13_next_30 : decode cX13_next 30 = .ok (.iload_n 2, 1) := by decide +kernel
theorem dX13_next_31 : decode cX13_next 31 = .ok (.invokevirtual 272, 3) := by decide +kernel
theorem dX13_next_34 : decode cX13_next 34 = .ok (.aload_n 0, 1) := by decide +kernel
theorem dX13_next_35 : decode cX13_next 35 = .ok (.getfield 98, 3) := by decide +kernel
theorem dX13_next_38 : decode cX13_next 38 = .ok (.bipush 24, 2) := by decide +kernel
theorem dX13_next_40 : decode cX13_next 40 = .ok (.iload_n 1, 1) := by decide +kernel
theorem dX13_next_41 : decode cX13_next 41 = .ok (.imul, 1) := by decide +kernel
theorem dX13_next_42 : decode cX13_next 42 = .ok (.iconst 4, 1) := by decide +kernel
theorem dX13_next_43 : decode cX13_next 43 = .ok (.iload_n 2, 1) := by decide +kernel
theorem dX13_next_44 : decode cX13_next 44 = .ok (.imul, 1) := by decide +kernel
theorem dX13_next_45 : decode cX13_next 45 = .ok (.iadd, 1) := by decide +kernel
theorem dX13_next_46 : decode cX13_next 46 = .ok (.iaload, 1) := by decide +kernel
theorem dX13_next_47 : decode cX13_next 47 = .ok (.invokevirtual 282, 3) := by decide +kernel
theorem dX13_next_50 : decode cX13_next 50 = .ok (.lstore 4, 2) := by decide +kernel
theorem dX13_next_52 : decode cX13_next 52 = .ok (.aload_n 0, 1) := by decide +kernel
theorem dX13_next_53 : decode cX13_next 53 = .ok (.getfield 104, 3) := by decide +kernel
theorem dX13_next_56 : decode cX13_next 56 = .ok (.iload_n 3, 1) := by decide +kernel
theorem dX13_next_57 : decode cX13_next 57 = .ok (.lload 4, 2) := by decide +kernel
theorem dX13_next_59 : decode cX13_next 59 = .ok (.ldc2_w 267, 3) := by decide +kernel
theorem dX13_next_62 : decode cX13_next 62 = .ok (.lcmp, 1) := by decide +kernel
theorem dX13_next_63 : decode cX13_next 63 = .ok (.ifCond .ne 7, 3) := by decide +kernel
theorem dX13_next_66 : decode cX13_next 66 = .ok (.iconst 1, 1) := by decide +kernel
theorem dX13_next_67 : decode cX13_next 67 = .ok (.goto 4, 3) := by decide +kernel
theorem dX13_next_70 : decode cX13_next 70 = .ok (.iconst 0, 1) := by decide +kernel
theorem dX13_next_71 : decode cX13_next 71 = .ok (.bastore, 1) := by decide +kernel
theorem dX13_next_72 : decode cX13_next 72 = .ok (.lload 4, 2) := by decide +kernel
theorem dX13_next_74 : decode cX13_next 74 = .ok (.lreturn, 1) := by decide +kernel
theorem dX13_asked_0 : decode cX13_asked 0 = .ok (.bipush 6, 2) := by decide +kernel
theorem dX13_asked_2 : decode cX13_asked 2 = .ok (.iload_n 1, 1) := by decide +kernel
theorem dX13_asked_3 : decode cX13_asked 3 = .ok (.imul, 1) := by decide +kernel
theorem dX13_asked_4 : decode cX13_asked 4 = .ok (.iload_n 2, 1) := by decide +kernel
theorem dX13_asked_5 : decode cX13_asked 5 = .ok (.iadd, 1) := by decide +kernel
theorem dX13_asked_6 : decode cX13_asked 6 = .ok (.istore 5, 2) := by decide +kernel
theorem dX13_asked_8 : decode cX13_asked 8 = .ok (.aload_n 0, 1) := by decide +kernel
theorem dX13_asked_9 : decode cX13_asked 9 = .ok (.getfield 61, 3) := by decide +kernel
theorem dX13_asked_12 : decode cX13_asked 12 = .ok (.iload_n 3, 1) := by decide +kernel
theorem dX13_asked_13 : decode cX13_asked 13 = .ok (.iaload, 1) := by decide +kernel
theorem dX13_asked_14 : decode cX13_asked 14 = .ok (.tableswitch 337 0 10 #[58, 116, 159, 159, 210, 251, 260, 313, 320, 333, 333], 58) := by decide +kernel
theorem dX13_asked_72 : decode cX13_asked 72 = .ok (.aload_n 0, 1) := by decide +kernel
theorem dX13_asked_73 : decode cX13_asked 73 = .ok (.getfield 101, 3) := by decide +kernel
theorem dX13_asked_76 : decode cX13_asked 76 = .ok (.iload 5, 2) := by decide +kernel
theorem dX13_asked_78 : decode cX13_asked 78 = .ok (.dup2, 1) := by decide +kernel
theorem dX13_asked_79 : decode cX13_asked 79 = .ok (.iaload, 1) := by decide +kernel
theorem dX13_asked_80 : decode cX13_asked 80 = .ok (.iconst 1, 1) := by decide +kernel
theorem dX13_asked_81 : decode cX13_asked 81 = .ok (.iadd, 1) := by decide +kernel
theorem dX13_asked_82 : decode cX13_asked 82 = .ok (.iastore, 1) := by decide +kernel
theorem dX13_asked_83 : decode cX13_asked 83 = .ok (.aload_n 0, 1) := by decide +kernel
theorem dX13_asked_84 : decode cX13_asked 84 = .ok (.getfield 101, 3) := by decide +kernel
theorem dX13_asked_87 : decode cX13_asked 87 = .ok (.iload 5, 2) := by decide +kernel
theorem dX13_asked_89 : decode cX13_asked 89 = .ok (.iaload, 1) := by decide +kernel
theorem dX13_asked_90 : decode cX13_asked 90 = .ok (.aload_n 0, 1) := by decide +kernel
theorem dX13_asked_91 : decode cX13_asked 91 = .ok (.getfield 67, 3) := by decide +kernel
theorem dX13_asked_94 : decode cX13_asked 94 = .ok (.iload_n 3, 1) := by decide +kernel
theorem dX13_asked_95 : decode cX13_asked 95 = .ok (.iaload, 1) := by decide +kernel
theorem dX13_asked_96 : decode cX13_asked 96 = .ok (.if_icmp .gt 30, 3) := by decide +kernel
theorem dX13_asked_99 : decode cX13_asked 99 = .ok (.aload_n 0, 1) := by decide +kernel
theorem dX13_asked_100 : decode cX13_asked 100 = .ok (.getfield 98, 3) := by decide +kernel
theorem dX13_asked_103 : decode cX13_asked 103 = .ok (.bipush 24, 2) := by decide +kernel
theorem dX13_asked_105 : decode cX13_asked 105 = .ok (.iload_n 1, 1) := by decide +kernel
theorem dX13_asked_106 : decode cX13_asked 106 = .ok (.imul, 1) := by decide +kernel
theorem dX13_asked_107 : decode cX13_asked 107 = .ok (.iconst 4, 1) := by decide +kernel
theorem dX13_asked_108 : decode cX13_asked 108 = .ok (.iload_n 2, 1) := by decide +kernel
theorem dX13_asked_109 : decode cX13_asked 109 = .ok (.imul, 1) := by decide +kernel
theorem dX13_asked_110 : decode cX13_asked 110 = .ok (.iadd, 1) := by decide +kernel
theorem dX13_asked_111 : decode cX13_asked 111 = .ok (.aload_n 0, 1) := by decide +kernel
theorem dX13_asked_112 : decode cX13_asked 112 = .ok (.getfield 101, 3) := by decide +kernel
theorem dX13_asked_115 : decode cX13_asked 115 = .ok (.iload 5, 2) := by decide +kernel
theorem dX13_asked_117 : decode cX13_asked 117 = .ok (.iaload, 1) := by decide +kernel
theorem dX13_asked_118 : decode cX13_asked 118 = .ok (.iadd, 1) := by decide +kernel
theorem dX13_asked_119 : decode cX13_asked 119 = .ok (.iconst 1, 1) := by decide +kernel
theorem dX13_asked_120 : decode cX13_asked 120 = .ok (.isub, 1) := by decide +kernel
theorem dX13_asked_121 : decode cX13_asked 121 = .ok (.iaload, 1) := by decide +kernel
theorem dX13_asked_122 : decode cX13_asked 122 = .ok (.i2l, 1) := by decide +kernel
theorem dX13_asked_123 : decode cX13_asked 123 = .ok (.goto 6, 3) := by decide +kernel
theorem dX13_asked_126 : decode cX13_asked 126 = .ok (.ldc2_w 267, 3) := by decide +kernel
theorem dX13_asked_129 : decode cX13_asked 129 = .ok (.lreturn, 1) := by decide +kernel
theorem dX13_asked_130 : decode cX13_asked 130 = .ok (.aload_n 0, 1) := by decide +kernel
theorem dX13_asked_131 : decode cX13_asked 131 = .ok (.getfield 101, 3) := by decide +kernel
theorem dX13_asked_134 : decode cX13_asked 134 = .ok (.iload 5, 2) := by decide +kernel
theorem dX13_asked_136 : decode cX13_asked 136 = .ok (.dup2, 1) := by decide +kernel
theorem dX13_asked_137 : decode cX13_asked 137 = .ok (.iaload, 1) := by decide +kernel
theorem dX13_asked_138 : decode cX13_asked 138 = .ok (.iconst 1, 1) := by decide +kernel
theorem dX13_asked_139 : decode cX13_asked 139 = .ok (.iadd, 1) := by decide +kernel
theorem dX13_asked_140 : decode cX13_asked 140 = .ok (.iastore, 1) := by decide +kernel
theorem dX13_asked_141 : decode cX13_asked 141 = .ok (.aload_n 0, 1) := by decide +kernel
theorem dX13_asked_142 : decode cX13_asked 142 = .ok (.getfield 101, 3) := by decide +kernel
theorem dX13_asked_145 : decode cX13_asked 145 = .ok (.iload 5, 2) := by decide +kernel
theorem dX13_asked_147 : decode cX13_asked 147 = .ok (.iaload, 1) := by decide +kernel
theorem dX13_asked_148 : decode cX13_asked 148 = .ok (.iload 4, 2) := by decide +kernel
theorem dX13_asked_150 : decode cX13_asked 150 = .ok (.bipush 99, 2) := by decide +kernel
theorem dX13_asked_152 : decode cX13_asked 152 = .ok (.invokestatic 286, 3) := by decide +kernel
theorem dX13_asked_155 : decode cX13_asked 155 = .ok (.if_icmp .gt 14, 3) := by decide +kernel
theorem dX13_asked_158 : decode cX13_asked 158 = .ok (.aload_n 0, 1) := by decide +kernel
theorem dX13_asked_159 : decode cX13_asked 159 = .ok (.getfield 101, 3) := by decide +kernel
theorem dX13_asked_162 : decode cX13_asked 162 = .ok (.iload 5, 2) := by decide +kernel
theorem dX13_asked_164 : decode cX13_asked 164 = .ok (.iaload, 1) := by decide +kernel
theorem dX13_asked_165 : decode cX13_asked 165 = .ok (.i2l, 1) := by decide +kernel
theorem dX13_asked_166 : decode cX13_asked 166 = .ok (.goto 6, 3) := by decide +kernel
theorem dX13_asked_169 : decode cX13_asked 169 = .ok (.ldc2_w 267, 3) := by decide +kernel
theorem dX13_asked_172 : decode cX13_asked 172 = .ok (.lreturn, 1) := by decide +kernel
theorem dX13_asked_173 : decode cX13_asked 173 = .ok (.aload_n 0, 1) := by decide +kernel
theorem dX13_asked_174 : decode cX13_asked 174 = .ok (.iload_n 1, 1) := by decide +kernel
theorem dX13_asked_175 : decode cX13_asked 175 = .ok (.iload_n 2, 1) := by decide +kernel
theorem dX13_asked_176 : decode cX13_asked 176 = .ok (.invokevirtual 289, 3) := by decide +kernel
theorem dX13_asked_179 : decode cX13_asked 179 = .ok (.lstore 6, 2) := by decide +kernel
theorem dX13_asked_181 : decode cX13_asked 181 = .ok (.lload 6, 2) := by decide +kernel
theorem dX13_asked_183 : decode cX13_asked 183 = .ok (.ldc2_w 267, 3) := by decide +kernel
theorem dX13_asked_186 : decode cX13_asked 186 = .ok (.lcmp, 1) := by decide +kernel
theorem dX13_asked_187 : decode cX13_asked 187 = .ok (.ifCond .ne 9, 3) := by decide +kernel
theorem dX13_asked_190 : decode cX13_asked 190 = .ok (.ldc2_w 267, 3) := by decide +kernel
theorem dX13_asked_193 : decode cX13_asked 193 = .ok (.goto 30, 3) := by decide +kernel
theorem dX13_asked_196 : decode cX13_asked 196 = .ok (.aload_n 0, 1) := by decide +kernel
theorem dX13_asked_197 : decode cX13_asked 197 = .ok (.getfield 61, 3) := by decide +kernel
theorem dX13_asked_200 : decode cX13_asked 200 = .ok (.iload_n 3, 1) := by decide +kernel
theorem dX13_asked_201 : decode cX13_asked 201 = .ok (.iaload, 1) := by decide +kernel
theorem dX13_asked_202 : decode cX13_asked 202 = .ok (.iconst 2, 1) := by decide +kernel
theorem dX13_asked_203 : decode cX13_asked 203 = .ok (.if_icmp .ne 13, 3) := by decide +kernel
theorem dX13_asked_206 : decode cX13_asked 206 = .ok (.lload 6, 2) := by decide +kernel
theorem dX13_asked_208 : decode cX13_asked 208 = .ok (.l2i, 1) := by decide +kernel
theorem dX13_asked_209 : decode cX13_asked 209 = .ok (.iload 4, 2) := by decide +kernel
theorem dX13_asked_211 : decode cX13_asked 211 = .ok (.iadd, 1) := by decide +kernel
theorem dX13_asked_212 : decode cX13_asked 212 = .ok (.i2l, 1) := by decide +kernel
theorem dX13_asked_213 : decode cX13_asked 213 = .ok (.goto 10, 3) := by decide +kernel
theorem dX13_asked_216 : decode cX13_asked 216 = .ok (.lload 6, 2) := by decide +kernel
theorem dX13_asked_218 : decode cX13_asked 218 = .ok (.l2i, 1) := by decide +kernel
theorem dX13_asked_219 : decode cX13_asked 219 = .ok (.iload 4, 2) := by decide +kernel
theorem dX13_asked_221 : decode cX13_asked 221 = .ok (.imul, 1) := by decide +kernel
theorem dX13_asked_222 : decode cX13_asked 222 = .ok (.i2l, 1) := by decide +kernel
theorem dX13_asked_223 : decode cX13_asked 223 = .ok (.lreturn, 1) := by decide +kernel
theorem dX13_asked_224 : decode cX13_asked 224 = .ok (.iload 4, 2) := by decide +kernel
theorem dX13_asked_226 : decode cX13_asked 226 = .ok (.ifCond .ne 9, 3) := by decide +kernel
theorem dX13_asked_229 : decode cX13_asked 229 = .ok (.ldc2_w 267, 3) := by decide +kernel
theorem dX13_asked_232 : decode cX13_asked 232 = .ok (.goto 9, 3) := by decide +kernel
theorem dX13_asked_235 : decode cX13_asked 235 = .ok (.aload_n 0, 1) := by decide +kernel
theorem dX13_asked_236 : decode cX13_asked 236 = .ok (.iload_n 1, 1) := by decide +kernel
theorem dX13_asked_237 : decode cX13_asked 237 = .ok (.iload_n 2, 1) := by decide +kernel
theorem dX13_asked_238 : decode cX13_asked 238 = .ok (.invokevirtual 289, 3) := by decide +kernel
theorem dX13_asked_241 : decode cX13_asked 241 = .ok (.lstore 6, 2) := by decide +kernel
theorem dX13_asked_243 : decode cX13_asked 243 = .ok (.lload 6, 2) := by decide +kernel
theorem dX13_asked_245 : decode cX13_asked 245 = .ok (.ldc2_w 267, 3) := by decide +kernel
theorem dX13_asked_248 : decode cX13_asked 248 = .ok (.lcmp, 1) := by decide +kernel
theorem dX13_asked_249 : decode cX13_asked 249 = .ok (.ifCond .ne 9, 3) := by decide +kernel
theorem dX13_asked_252 : decode cX13_asked 252 = .ok (.ldc2_w 267, 3) := by decide +kernel
theorem dX13_asked_255 : decode cX13_asked 255 = .ok (.goto 9, 3) := by decide +kernel
theorem dX13_asked_258 : decode cX13_asked 258 = .ok (.lload 6, 2) := by decide +kernel
theorem dX13_asked_260 : decode cX13_asked 260 = .ok (.iload 4, 2) := by decide +kernel
theorem dX13_asked_262 : decode cX13_asked 262 = .ok (.i2l, 1) := by decide +kernel
theorem dX13_asked_263 : decode cX13_asked 263 = .ok (.lrem, 1) := by decide +kernel
theorem dX13_asked_264 : decode cX13_asked 264 = .ok (.lreturn, 1) := by decide +kernel
theorem dX13_asked_265 : decode cX13_asked 265 = .ok (.aload_n 0, 1) := by decide +kernel
theorem dX13_asked_266 : decode cX13_asked 266 = .ok (.iload_n 1, 1) := by decide +kernel
theorem dX13_asked_267 : decode cX13_asked 267 = .ok (.iload_n 2, 1) := by decide +kernel
theorem dX13_asked_268 : decode cX13_asked 268 = .ok (.iload 4, 2) := by decide +kernel
theorem dX13_asked_270 : decode cX13_asked 270 = .ok (.invokevirtual 292, 3) := by decide +kernel
theorem dX13_asked_273 : decode cX13_asked 273 = .ok (.lreturn, 1) := by decide +kernel
theorem dX13_asked_274 : decode cX13_asked 274 = .ok (.aload_n 0, 1) := by decide +kernel
theorem dX13_asked_275 : decode cX13_asked 275 = .ok (.getfield 101, 3) := by decide +kernel
theorem dX13_asked_278 : decode cX13_asked 278 = .ok (.iload 5, 2) := by decide +kernel
theorem dX13_asked_280 : decode cX13_asked 280 = .ok (.iaload, 1) := by decide +kernel
theorem dX13_asked_281 : decode cX13_asked 281 = .ok (.iload 4, 2) := by decide +kernel
theorem dX13_asked_283 : decode cX13_asked 283 = .ok (.if_icmp .lt 9, 3) := by decide +kernel
theorem dX13_asked_286 : decode cX13_asked 286 = .ok (.ldc2_w 267, 3) := by decide +kernel
theorem dX13_asked_289 : decode cX13_asked 289 = .ok (.goto 9, 3) := by decide +kernel
theorem dX13_asked_292 : decode cX13_asked 292 = .ok (.aload_n 0, 1) := by decide +kernel
theorem dX13_asked_293 : decode cX13_asked 293 = .ok (.iload_n 1, 1) := by decide +kernel
theorem dX13_asked_294 : decode cX13_asked 294 = .ok (.iload_n 2, 1) := by decide +kernel
theorem dX13_asked_295 : decode cX13_asked 295 = .ok (.invokevirtual 289, 3) := by decide +kernel
theorem dX13_asked_298 : decode cX13_asked 298 = .ok (.lstore 6, 2) := by decide +kernel
theorem dX13_asked_300 : decode cX13_asked 300 = .ok (.aload_n 0, 1) := by decide +kernel
theorem dX13_asked_301 : decode cX13_asked 301 = .ok (.getfield 101, 3) := by decide +kernel
theorem dX13_asked_304 : decode cX13_asked 304 = .ok (.iload 5, 2) := by decide +kernel
theorem dX13_asked_306 : decode cX13_asked 306 = .ok (.dup2, 1) := by decide +kernel
theorem dX13_asked_307 : decode cX13_asked 307 = .ok (.iaload, 1) := by decide +kernel
theorem dX13_asked_308 : decode cX13_asked 308 = .ok (.lload 6, 2) := by decide +kernel
theorem dX13_asked_310 : decode cX13_asked 310 = .ok (.ldc2_w 267, 3) := by decide +kernel
theorem dX13_asked_313 : decode cX13_asked 313 = .ok (.lcmp, 1) := by decide +kernel
theorem dX13_asked_314 : decode cX13_asked 314 = .ok (.ifCond .ne 7, 3) := by decide +kernel
theorem dX13_asked_317 : decode cX13_asked 317 = .ok (.iconst 0, 1) := by decide +kernel
theorem dX13_asked_318 : decode cX13_asked 318 = .ok (.goto 4, 3) := by decide +kernel
theorem dX13_asked_321 : decode cX13_asked 321 = .ok (.iconst 1, 1) := by decide +kernel
theorem dX13_asked_322 : decode cX13_asked 322 = .ok (.iadd, 1) := by decide +kernel
theorem dX13_asked_323 : decode cX13_asked 323 = .ok (.iastore, 1) := by decide +kernel
theorem dX13_asked_324 : decode cX13_asked 324 = .ok (.lload 6, 2) := by decide +kernel
theorem dX13_asked_326 : decode cX13_asked 326 = .ok (.lreturn, 1) := by decide +kernel
theorem dX13_asked_327 : decode cX13_asked 327 = .ok (.aload_n 0, 1) := by decide +kernel
theorem dX13_asked_328 : decode cX13_asked 328 = .ok (.iload_n 1, 1) := by decide +kernel
theorem dX13_asked_329 : decode cX13_asked 329 = .ok (.iload_n 2, 1) := by decide +kernel
theorem dX13_asked_330 : decode cX13_asked 330 = .ok (.invokevirtual 296, 3) := by decide +kernel
theorem dX13_asked_333 : decode cX13_asked 333 = .ok (.lreturn, 1) := by decide +kernel
theorem dX13_asked_334 : decode cX13_asked 334 = .ok (.aload_n 0, 1) := by decide +kernel
theorem dX13_asked_335 : decode cX13_asked 335 = .ok (.iload_n 1, 1) := by decide +kernel
theorem dX13_asked_336 : decode cX13_asked 336 = .ok (.iload_n 2, 1) := by decide +kernel
theorem dX13_asked_337 : decode cX13_asked 337 = .ok (.aload_n 0, 1) := by decide +kernel
theorem dX13_asked_338 : decode cX13_asked 338 = .ok (.getfield 64, 3) := by decide +kernel
theorem dX13_asked_341 : decode cX13_asked 341 = .ok (.iload_n 3, 1) := by decide +kernel
theorem dX13_asked_342 : decode cX13_asked 342 = .ok (.iaload, 1) := by decide +kernel
theorem dX13_asked_343 : decode cX13_asked 343 = .ok (.invokevirtual 299, 3) := by decide +kernel
theorem dX13_asked_346 : decode cX13_asked 346 = .ok (.lreturn, 1) := by decide +kernel
theorem dX13_asked_347 : decode cX13_asked 347 = .ok (.ldc2_w 267, 3) := by decide +kernel
theorem dX13_asked_350 : decode cX13_asked 350 = .ok (.lreturn, 1) := by decide +kernel
theorem dX13_asked_351 : decode cX13_asked 351 = .ok (.aload_n 0, 1) := by decide +kernel
theorem dX13_asked_352 : decode cX13_asked 352 = .ok (.iload_n 1, 1) := by decide +kernel
theorem dX13_asked_353 : decode cX13_asked 353 = .ok (.iload_n 3, 1) := by decide +kernel
theorem dX13_asked_354 : decode cX13_asked 354 = .ok (.iload 4, 2) := by decide +kernel
theorem dX13_asked_356 : decode cX13_asked 356 = .ok (.invokevirtual 302, 3) := by decide +kernel
theorem dX13_asked_359 : decode cX13_asked 359 = .ok (.lreturn, 1) := by decide +kernel
theorem dX13_keeps_0 : decode cX13_keeps 0 = .ok (.aload_n 0, 1) := by decide +kernel
theorem dX13_keeps_1 : decode cX13_keeps 1 = .ok (.iload_n 1, 1) := by decide +kernel
theorem dX13_keeps_2 : decode cX13_keeps 2 = .ok (.iload_n 2, 1) := by decide +kernel
theorem dX13_keeps_3 : decode cX13_keeps 3 = .ok (.invokevirtual 289, 3) := by decide +kernel
theorem dX13_keeps_6 : decode cX13_keeps 6 = .ok (.lstore 4, 2) := by decide +kernel
theorem dX13_keeps_8 : decode cX13_keeps 8 = .ok (.lload 4, 2) := by decide +kernel
theorem dX13_keeps_10 : decode cX13_keeps 10 = .ok (.ldc2_w 267, 3) := by decide +kernel
theorem dX13_keeps_13 : decode cX13_keeps 13 = .ok (.lcmp, 1) := by decide +kernel
theorem dX13_keeps_14 : decode cX13_keeps 14 = .ok (.ifCond .eq 27, 3) := by decide +kernel
theorem dX13_keeps_17 : decode cX13_keeps 17 = .ok (.iload_n 3, 1) := by decide +kernel
theorem dX13_keeps_18 : decode cX13_keeps 18 = .ok (.ifCond .ne 13, 3) := by decide +kernel
theorem dX13_keeps_21 : decode cX13_keeps 21 = .ok (.lload 4, 2) := by decide +kernel
theorem dX13_keeps_23 : decode cX13_keeps 23 = .ok (.lconst 0, 1) := by decide +kernel
theorem dX13_keeps_24 : decode cX13_keeps 24 = .ok (.lcmp, 1) := by decide +kernel
theorem dX13_keeps_25 : decode cX13_keeps 25 = .ok (.ifCond .ne 19, 3) := by decide +kernel
theorem dX13_keeps_28 : decode cX13_keeps 28 = .ok (.goto 13, 3) := by decide +kernel
theorem dX13_keeps_31 : decode cX13_keeps 31 = .ok (.lload 4, 2) := by decide +kernel
theorem dX13_keeps_33 : decode cX13_keeps 33 = .ok (.iload_n 3, 1) := by decide +kernel
theorem dX13_keeps_34 : decode cX13_keeps 34 = .ok (.i2l, 1) := by decide +kernel
theorem dX13_keeps_35 : decode cX13_keeps 35 = .ok (.lrem, 1) := by decide +kernel
theorem dX13_keeps_36 : decode cX13_keeps 36 = .ok (.lconst 0, 1) := by decide +kernel
theorem dX13_keeps_37 : decode cX13_keeps 37 = .ok (.lcmp, 1) := by decide +kernel
theorem dX13_keeps_38 : decode cX13_keeps 38 = .ok (.ifCond .ne 6, 3) := by decide +kernel
theorem dX13_keeps_41 : decode cX13_keeps 41 = .ok (.lload 4, 2) := by decide +kernel
theorem dX13_keeps_43 : decode cX13_keeps 43 = .ok (.lreturn, 1) := by decide +kernel
theorem dX13_keeps_44 : decode cX13_keeps 44 = .ok (.goto (-44), 3) := by decide +kernel
theorem dX13_sums_0 : decode cX13_sums 0 = .ok (.bipush 6, 2) := by decide +kernel
theorem dX13_sums_2 : decode cX13_sums 2 = .ok (.iload_n 1, 1) := by decide +kernel
theorem dX13_sums_3 : decode cX13_sums 3 = .ok (.imul, 1) := by decide +kernel
theorem dX13_sums_4 : decode cX13_sums 4 = .ok (.iload_n 2, 1) := by decide +kernel
theorem dX13_sums_5 : decode cX13_sums 5 = .ok (.iadd, 1) := by decide +kernel
theorem dX13_sums_6 : decode cX13_sums 6 = .ok (.istore_n 3, 1) := by decide +kernel
theorem dX13_sums_7 : decode cX13_sums 7 = .ok (.aload_n 0, 1) := by decide +kernel
theorem dX13_sums_8 : decode cX13_sums 8 = .ok (.getfield 101, 3) := by decide +kernel
theorem dX13_sums_11 : decode cX13_sums 11 = .ok (.iload_n 3, 1) := by decide +kernel
theorem dX13_sums_12 : decode cX13_sums 12 = .ok (.iaload, 1) := by decide +kernel
theorem dX13_sums_13 : decode cX13_sums 13 = .ok (.iconst 1, 1) := by decide +kernel
theorem dX13_sums_14 : decode cX13_sums 14 = .ok (.if_icmp .ne 7, 3) := by decide +kernel
theorem dX13_sums_17 : decode cX13_sums 17 = .ok (.ldc2_w 267, 3) := by decide +kernel
theorem dX13_sums_20 : decode cX13_sums 20 = .ok (.lreturn, 1) := by decide +kernel
theorem dX13_sums_21 : decode cX13_sums 21 = .ok (.aload_n 0, 1) := by decide +kernel
theorem dX13_sums_22 : decode cX13_sums 22 = .ok (.getfield 101, 3) := by decide +kernel
theorem dX13_sums_25 : decode cX13_sums 25 = .ok (.iload_n 3, 1) := by decide +kernel
theorem dX13_sums_26 : decode cX13_sums 26 = .ok (.iconst 1, 1) := by decide +kernel
theorem dX13_sums_27 : decode cX13_sums 27 = .ok (.iastore, 1) := by decide +kernel
theorem dX13_sums_28 : decode cX13_sums 28 = .ok (.iconst 0, 1) := by decide +kernel
theorem dX13_sums_29 : decode cX13_sums 29 = .ok (.istore 4, 2) := by decide +kernel
theorem dX13_sums_31 : decode cX13_sums 31 = .ok (.aload_n 0, 1) := by decide +kernel
theorem dX13_sums_32 : decode cX13_sums 32 = .ok (.iload_n 1, 1) := by decide +kernel
theorem dX13_sums_33 : decode cX13_sums 33 = .ok (.iload_n 2, 1) := by decide +kernel
theorem dX13_sums_34 : decode cX13_sums 34 = .ok (.invokevirtual 289, 3) := by decide +kernel
theorem dX13_sums_37 : decode cX13_sums 37 = .ok (.lstore 5, 2) := by decide +kernel
theorem dX13_sums_39 : decode cX13_sums 39 = .ok (.lload 5, 2) := by decide +kernel
theorem dX13_sums_41 : decode cX13_sums 41 = .ok (.ldc2_w 267, 3) := by decide +kernel
theorem dX13_sums_44 : decode cX13_sums 44 = .ok (.lcmp, 1) := by decide +kernel
theorem dX13_sums_45 : decode cX13_sums 45 = .ok (.ifCond .eq 22, 3) := by decide +kernel
theorem dX13_sums_48 : decode cX13_sums 48 = .ok (.iload 4, 2) := by decide +kernel
theorem dX13_sums_50 : decode cX13_sums 50 = .ok (.lload 5, 2) := by decide +kernel
theorem dX13_sums_52 : decode cX13_sums 52 = .ok (.l2i, 1) := by decide +kernel
theorem dX13_sums_53 : decode cX13_sums 53 = .ok (.iadd, 1) := by decide +kernel
theorem dX13_sums_54 : decode cX13_sums 54 = .ok (.istore 4, 2) := by decide +kernel
theorem dX13_sums_56 : decode cX13_sums 56 = .ok (.aload_n 0, 1) := by decide +kernel
theorem dX13_sums_57 : decode cX13_sums 57 = .ok (.iload_n 1, 1) := by decide +kernel
theorem dX13_sums_58 : decode cX13_sums 58 = .ok (.iload_n 2, 1) := by decide +kernel
theorem dX13_sums_59 : decode cX13_sums 59 = .ok (.invokevirtual 289, 3) := by decide +kernel
theorem dX13_sums_62 : decode cX13_sums 62 = .ok (.lstore 5, 2) := by decide +kernel
theorem dX13_sums_64 : decode cX13_sums 64 = .ok (.goto (-25), 3) := by decide +kernel
theorem dX13_sums_67 : decode cX13_sums 67 = .ok (.iload 4, 2) := by decide +kernel
theorem dX13_sums_69 : decode cX13_sums 69 = .ok (.i2l, 1) := by decide +kernel
theorem dX13_sums_70 : decode cX13_sums 70 = .ok (.lreturn, 1) := by decide +kernel
theorem dX13_sets_0 : decode cX13_sets 0 = .ok (.iconst 0, 1) := by decide +kernel
theorem dX13_sets_1 : decode cX13_sets 1 = .ok (.istore 4, 2) := by decide +kernel
theorem dX13_sets_3 : decode cX13_sets 3 = .ok (.iconst 0, 1) := by decide +kernel
theorem dX13_sets_4 : decode cX13_sets 4 = .ok (.istore 5, 2) := by decide +kernel
theorem dX13_sets_6 : decode cX13_sets 6 = .ok (.aload_n 0, 1) := by decide +kernel
theorem dX13_sets_7 : decode cX13_sets 7 = .ok (.iload_n 1, 1) := by decide +kernel
theorem dX13_sets_8 : decode cX13_sets 8 = .ok (.iload_n 2, 1) := by decide +kernel
theorem dX13_sets_9 : decode cX13_sets 9 = .ok (.invokevirtual 289, 3) := by decide +kernel
theorem dX13_sets_12 : decode cX13_sets 12 = .ok (.lstore 6, 2) := by decide +kernel
theorem dX13_sets_14 : decode cX13_sets 14 = .ok (.lload 6, 2) := by decide +kernel
theorem dX13_sets_16 : decode cX13_sets 16 = .ok (.ldc2_w 267, 3) := by decide +kernel
theorem dX13_sets_19 : decode cX13_sets 19 = .ok (.lcmp, 1) := by decide +kernel
theorem dX13_sets_20 : decode cX13_sets 20 = .ok (.ifCond .eq 22, 3) := by decide +kernel
theorem dX13_sets_23 : decode cX13_sets 23 = .ok (.iconst 1, 1) := by decide +kernel
theorem dX13_sets_24 : decode cX13_sets 24 = .ok (.istore 4, 2) := by decide +kernel
theorem dX13_sets_26 : decode cX13_sets 26 = .ok (.lload 6, 2) := by decide +kernel
theorem dX13_sets_28 : decode cX13_sets 28 = .ok (.l2i, 1) := by decide +kernel
theorem dX13_sets_29 : decode cX13_sets 29 = .ok (.istore 5, 2) := by decide +kernel
theorem dX13_sets_31 : decode cX13_sets 31 = .ok (.aload_n 0, 1) := by decide +kernel
theorem dX13_sets_32 : decode cX13_sets 32 = .ok (.iload_n 1, 1) := by decide +kernel
theorem dX13_sets_33 : decode cX13_sets 33 = .ok (.iload_n 2, 1) := by decide +kernel
theorem dX13_sets_34 : decode cX13_sets 34 = .ok (.invokevirtual 289, 3) := by decide +kernel
theorem dX13_sets_37 : decode cX13_sets 37 = .ok (.lstore 6, 2) := by decide +kernel
theorem dX13_sets_39 : decode cX13_sets 39 = .ok (.goto (-25), 3) := by decide +kernel
theorem dX13_sets_42 : decode cX13_sets 42 = .ok (.iload 4, 2) := by decide +kernel
theorem dX13_sets_44 : decode cX13_sets 44 = .ok (.ifCond .eq 23, 3) := by decide +kernel
theorem dX13_sets_47 : decode cX13_sets 47 = .ok (.aload_n 0, 1) := by decide +kernel
theorem dX13_sets_48 : decode cX13_sets 48 = .ok (.getfield 79, 3) := by decide +kernel
theorem dX13_sets_51 : decode cX13_sets 51 = .ok (.iload_n 3, 1) := by decide +kernel
theorem dX13_sets_52 : decode cX13_sets 52 = .ok (.iload 5, 2) := by decide +kernel
theorem dX13_sets_54 : decode cX13_sets 54 = .ok (.iastore, 1) := by decide +kernel
theorem dX13_sets_55 : decode cX13_sets 55 = .ok (.aload_n 0, 1) := by decide +kernel
theorem dX13_sets_56 : decode cX13_sets 56 = .ok (.getfield 108, 3) := by decide +kernel
theorem dX13_sets_59 : decode cX13_sets 59 = .ok (.bipush 6, 2) := by decide +kernel
theorem dX13_sets_61 : decode cX13_sets 61 = .ok (.iload_n 1, 1) := by decide +kernel
theorem dX13_sets_62 : decode cX13_sets 62 = .ok (.imul, 1) := by decide +kernel
theorem dX13_sets_63 : decode cX13_sets 63 = .ok (.iload_n 2, 1) := by decide +kernel
theorem dX13_sets_64 : decode cX13_sets 64 = .ok (.iadd, 1) := by decide +kernel
theorem dX13_sets_65 : decode cX13_sets 65 = .ok (.iconst 0, 1) := by decide +kernel
theorem dX13_sets_66 : decode cX13_sets 66 = .ok (.iastore, 1) := by decide +kernel
theorem dX13_sets_67 : decode cX13_sets 67 = .ok (.ldc2_w 267, 3) := by decide +kernel
theorem dX13_sets_70 : decode cX13_sets 70 = .ok (.lreturn, 1) := by decide +kernel
theorem dX13_within_0 : decode cX13_within 0 = .ok (.bipush 6, 2) := by decide +kernel
theorem dX13_within_2 : decode cX13_within 2 = .ok (.iload_n 1, 1) := by decide +kernel
theorem dX13_within_3 : decode cX13_within 3 = .ok (.imul, 1) := by decide +kernel
theorem dX13_within_4 : decode cX13_within 4 = .ok (.istore 4, 2) := by decide +kernel
theorem dX13_within_6 : decode cX13_within 6 = .ok (.iload_n 1, 1) := by decide +kernel
theorem dX13_within_7 : decode cX13_within 7 = .ok (.bipush 24, 2) := by decide +kernel
theorem dX13_within_9 : decode cX13_within 9 = .ok (.if_icmp .lt 7, 3) := by decide +kernel
theorem dX13_within_12 : decode cX13_within 12 = .ok (.iconst 0, 1) := by decide +kernel
theorem dX13_within_13 : decode cX13_within 13 = .ok (.goto 6, 3) := by decide +kernel
theorem dX13_within_16 : decode cX13_within 16 = .ok (.iload_n 1, 1) := by decide +kernel
theorem dX13_within_17 : decode cX13_within 17 = .ok (.iconst 1, 1) := by decide +kernel
theorem dX13_within_18 : decode cX13_within 18 = .ok (.iadd, 1) := by decide +kernel
theorem dX13_within_19 : decode cX13_within 19 = .ok (.istore 5, 2) := by decide +kernel
theorem dX13_within_21 : decode cX13_within 21 = .ok (.aload_n 0, 1) := by decide +kernel
theorem dX13_within_22 : decode cX13_within 22 = .ok (.getfield 101, 3) := by decide +kernel
theorem dX13_within_25 : decode cX13_within 25 = .ok (.iload 4, 2) := by decide +kernel
theorem dX13_within_27 : decode cX13_within 27 = .ok (.iaload, 1) := by decide +kernel
theorem dX13_within_28 : decode cX13_within 28 = .ok (.ifCond .ne 153, 3) := by decide +kernel
theorem dX13_within_31 : decode cX13_within 31 = .ok (.aload_n 0, 1) := by decide +kernel
theorem dX13_within_32 : decode cX13_within 32 = .ok (.getfield 61, 3) := by decide +kernel
theorem dX13_within_35 : decode cX13_within 35 = .ok (.iload_n 2, 1) := by decide +kernel
theorem dX13_within_36 : decode cX13_within 36 = .ok (.iaload, 1) := by decide +kernel
theorem dX13_within_37 : decode cX13_within 37 = .ok (.bipush 14, 2) := by decide +kernel
theorem dX13_within_39 : decode cX13_within 39 = .ok (.if_icmp .ne 32, 3) := by decide +kernel
theorem dX13_within_42 : decode cX13_within 42 = .ok (.aload_n 0, 1) := by decide +kernel
theorem dX13_within_43 : decode cX13_within 43 = .ok (.getfield 108, 3) := by decide +kernel
theorem dX13_within_46 : decode cX13_within 46 = .ok (.iload 4, 2) := by decide +kernel
theorem dX13_within_48 : decode cX13_within 48 = .ok (.aload_n 0, 1) := by decide +kernel
theorem dX13_within_49 : decode cX13_within 49 = .ok (.aload_n 0, 1) := by decide +kernel
theorem dX13_within_50 : decode cX13_within 50 = .ok (.getfield 64, 3) := by decide +kernel
theorem dX13_within_53 : decode cX13_within 53 = .ok (.iload_n 2, 1) := by decide +kernel
theorem dX13_within_54 : decode cX13_within 54 = .ok (.iaload, 1) := by decide +kernel
theorem dX13_within_55 : decode cX13_within 55 = .ok (.aload_n 0, 1) := by decide +kernel
theorem dX13_within_56 : decode cX13_within 56 = .ok (.getfield 95, 3) := by decide +kernel
theorem dX13_within_59 : decode cX13_within 59 = .ok (.iload_n 1, 1) := by decide +kernel
theorem dX13_within_60 : decode cX13_within 60 = .ok (.iaload, 1) := by decide +kernel
theorem dX13_within_61 : decode cX13_within 61 = .ok (.iload 5, 2) := by decide +kernel
theorem dX13_within_63 : decode cX13_within 63 = .ok (.iload_n 1, 1) := by decide +kernel
theorem dX13_within_64 : decode cX13_within 64 = .ok (.invokevirtual 305, 3) := by decide +kernel
theorem dX13_within_67 : decode cX13_within 67 = .ok (.iastore, 1) := by decide +kernel
theorem dX13_within_68 : decode cX13_within 68 = .ok (.goto 113, 3) := by decide +kernel
theorem dX13_within_71 : decode cX13_within 71 = .ok (.aload_n 0, 1) := by decide +kernel
theorem dX13_within_72 : decode cX13_within 72 = .ok (.getfield 82, 3) := by decide +kernel
theorem dX13_within_75 : decode cX13_within 75 = .ok (.aload_n 0, 1) := by decide +kernel
theorem dX13_within_76 : decode cX13_within 76 = .ok (.getfield 61, 3) := by decide +kernel
theorem dX13_within_79 : decode cX13_within 79 = .ok (.iload_n 2, 1) := by decide +kernel
theorem dX13_within_80 : decode cX13_within 80 = .ok (.iaload, 1) := by decide +kernel
theorem dX13_within_81 : decode cX13_within 81 = .ok (.bipush 11, 2) := by decide +kernel
theorem dX13_within_83 : decode cX13_within 83 = .ok (.isub, 1) := by decide +kernel
theorem dX13_within_84 : decode cX13_within 84 = .ok (.iaload, 1) := by decide +kernel
theorem dX13_within_85 : decode cX13_within 85 = .ok (.ifCond .lt 11, 3) := by decide +kernel
theorem dX13_within_88 : decode cX13_within 88 = .ok (.aload_n 0, 1) := by decide +kernel
theorem dX13_within_89 : decode cX13_within 89 = .ok (.getfield 309, 3) := by decide +kernel
theorem dX13_within_92 : decode cX13_within 92 = .ok (.iconst 4, 1) := by decide +kernel
theorem dX13_within_93 : decode cX13_within 93 = .ok (.if_icmp .ne 36, 3) := by decide +kernel
theorem dX13_within_96 : decode cX13_within 96 = .ok (.aload_n 0, 1) := by decide +kernel
theorem dX13_within_97 : decode cX13_within 97 = .ok (.getfield 108, 3) := by decide +kernel
theorem dX13_within_100 : decode cX13_within 100 = .ok (.iload 4, 2) := by decide +kernel
theorem dX13_within_102 : decode cX13_within 102 = .ok (.aload_n 0, 1) := by decide +kernel
theorem dX13_within_103 : decode cX13_within 103 = .ok (.getfield 82, 3) := by decide +kernel
theorem dX13_within_106 : decode cX13_within 106 = .ok (.aload_n 0, 1) := by decide +kernel
theorem dX13_within_107 : decode cX13_within 107 = .ok (.getfield 61, 3) := by decide +kernel
theorem dX13_within_110 : decode cX13_within 110 = .ok (.iload_n 2, 1) := by decide +kernel
theorem dX13_within_111 : decode cX13_within 111 = .ok (.iaload, 1) := by decide +kernel
theorem dX13_within_112 : decode cX13_within 112 = .ok (.bipush 11, 2) := by decide +kernel
theorem dX13_within_114 : decode cX13_within 114 = .ok (.isub, 1) := by decide +kernel
theorem dX13_within_115 : decode cX13_within 115 = .ok (.iaload, 1) := by decide +kernel
theorem dX13_within_116 : decode cX13_within 116 = .ok (.ifCond .ge 7, 3) := by decide +kernel
theorem dX13_within_119 : decode cX13_within 119 = .ok (.iconst 1, 1) := by decide +kernel
theorem dX13_within_120 : decode cX13_within 120 = .ok (.goto 5, 3) := by decide +kernel
theorem dX13_within_123 : decode cX13_within 123 = .ok (.bipush 9, 2) := by decide +kernel
theorem dX13_within_125 : decode cX13_within 125 = .ok (.iastore, 1) := by decide +kernel
theorem dX13_within_126 : decode cX13_within 126 = .ok (.goto 55, 3) := by decide +kernel
theorem dX13_within_129 : decode cX13_within 129 = .ok (.aload_n 0, 1) := by decide +kernel
theorem dX13_within_130 : decode cX13_within 130 = .ok (.dup, 1) := by decide +kernel
theorem dX13_within_131 : decode cX13_within 131 = .ok (.getfield 309, 3) := by decide +kernel
theorem dX13_within_134 : decode cX13_within 134 = .ok (.iconst 1, 1) := by decide +kernel
theorem dX13_within_135 : decode cX13_within 135 = .ok (.iadd, 1) := by decide +kernel
theorem dX13_within_136 : decode cX13_within 136 = .ok (.putfield 309, 3) := by decide +kernel
theorem dX13_within_139 : decode cX13_within 139 = .ok (.aload_n 0, 1) := by decide +kernel
theorem dX13_within_140 : decode cX13_within 140 = .ok (.getfield 108, 3) := by decide +kernel
theorem dX13_within_143 : decode cX13_within 143 = .ok (.iload 4, 2) := by decide +kernel
theorem dX13_within_145 : decode cX13_within 145 = .ok (.aload_n 0, 1) := by decide +kernel
theorem dX13_within_146 : decode cX13_within 146 = .ok (.bipush 60, 2) := by decide +kernel
theorem dX13_within_148 : decode cX13_within 148 = .ok (.aload_n 0, 1) := by decide +kernel
theorem dX13_within_149 : decode cX13_within 149 = .ok (.getfield 82, 3) := by decide +kernel
theorem dX13_within_152 : decode cX13_within 152 = .ok (.aload_n 0, 1) := by decide +kernel
theorem dX13_within_153 : decode cX13_within 153 = .ok (.getfield 61, 3) := by decide +kernel
theorem dX13_within_156 : decode cX13_within 156 = .ok (.iload_n 2, 1) := by decide +kernel
theorem dX13_within_157 : decode cX13_within 157 = .ok (.iaload, 1) := by decide +kernel
theorem dX13_within_158 : decode cX13_within 158 = .ok (.bipush 11, 2) := by decide +kernel
theorem dX13_within_160 : decode cX13_within 160 = .ok (.isub, 1) := by decide +kernel
theorem dX13_within_161 : decode cX13_within 161 = .ok (.iaload, 1) := by decide +kernel
theorem dX13_within_162 : decode cX13_within 162 = .ok (.imul, 1) := by decide +kernel
theorem dX13_within_163 : decode cX13_within 163 = .ok (.iload_n 3, 1) := by decide +kernel
theorem dX13_within_164 : decode cX13_within 164 = .ok (.iload 5, 2) := by decide +kernel
theorem dX13_within_166 : decode cX13_within 166 = .ok (.iload_n 1, 1) := by decide +kernel
theorem dX13_within_167 : decode cX13_within 167 = .ok (.invokevirtual 305, 3) := by decide +kernel
theorem dX13_within_170 : decode cX13_within 170 = .ok (.iastore, 1) := by decide +kernel
theorem dX13_within_171 : decode cX13_within 171 = .ok (.aload_n 0, 1) := by decide +kernel
theorem dX13_within_172 : decode cX13_within 172 = .ok (.dup, 1) := by decide +kernel
theorem dX13_within_173 : decode cX13_within 173 = .ok (.getfield 309, 3) := by decide +kernel
theorem dX13_within_176 : decode cX13_within 176 = .ok (.iconst 1, 1) := by decide +kernel
theorem dX13_within_177 : decode cX13_within 177 = .ok (.isub, 1) := by decide +kernel
theorem dX13_within_178 : decode cX13_within 178 = .ok (.putfield 309, 3) := by decide +kernel
theorem dX13_within_181 : decode cX13_within 181 = .ok (.aload_n 0, 1) := by decide +kernel
theorem dX13_within_182 : decode cX13_within 182 = .ok (.getfield 101, 3) := by decide +kernel
theorem dX13_within_185 : decode cX13_within 185 = .ok (.iload 4, 2) := by decide +kernel
theorem dX13_within_187 : decode cX13_within 187 = .ok (.dup2, 1) := by decide +kernel
theorem dX13_within_188 : decode cX13_within 188 = .ok (.iaload, 1) := by decide +kernel
theorem dX13_within_189 : decode cX13_within 189 = .ok (.iconst 1, 1) := by decide +kernel
theorem dX13_within_190 : decode cX13_within 190 = .ok (.iadd, 1) := by decide +kernel
theorem dX13_within_191 : decode cX13_within 191 = .ok (.iastore, 1) := by decide +kernel
theorem dX13_within_192 : decode cX13_within 192 = .ok (.aload_n 0, 1) := by decide +kernel
theorem dX13_within_193 : decode cX13_within 193 = .ok (.getfield 101, 3) := by decide +kernel
theorem dX13_within_196 : decode cX13_within 196 = .ok (.iload 4, 2) := by decide +kernel
theorem dX13_within_198 : decode cX13_within 198 = .ok (.iaload, 1) := by decide +kernel
theorem dX13_within_199 : decode cX13_within 199 = .ok (.aload_n 0, 1) := by decide +kernel
theorem dX13_within_200 : decode cX13_within 200 = .ok (.getfield 114, 3) := by decide +kernel
theorem dX13_within_203 : decode cX13_within 203 = .ok (.iload_n 1, 1) := by decide +kernel
theorem dX13_within_204 : decode cX13_within 204 = .ok (.iaload, 1) := by decide +kernel
theorem dX13_within_205 : decode cX13_within 205 = .ok (.if_icmp .gt 26, 3) := by decide +kernel
theorem dX13_within_208 : decode cX13_within 208 = .ok (.aload_n 0, 1) := by decide +kernel
theorem dX13_within_209 : decode cX13_within 209 = .ok (.getfield 111, 3) := by decide +kernel
theorem dX13_within_212 : decode cX13_within 212 = .ok (.bipush 60, 2) := by decide +kernel
theorem dX13_within_214 : decode cX13_within 214 = .ok (.iload_n 1, 1) := by decide +kernel
theorem dX13_within_215 : decode cX13_within 215 = .ok (.imul, 1) := by decide +kernel
theorem dX13_within_216 : decode cX13_within 216 = .ok (.aload_n 0, 1) := by decide +kernel
theorem dX13_within_217 : decode cX13_within 217 = .ok (.getfield 101, 3) := by decide +kernel
theorem dX13_within_220 : decode cX13_within 220 = .ok (.iload 4, 2) := by decide +kernel
theorem dX13_within_222 : decode cX13_within 222 = .ok (.iaload, 1) := by decide +kernel
theorem dX13_within_223 : decode cX13_within 223 = .ok (.iadd, 1) := by decide +kernel
theorem dX13_within_224 : decode cX13_within 224 = .ok (.iconst 1, 1) := by decide +kernel
theorem dX13_within_225 : decode cX13_within 225 = .ok (.isub, 1) := by decide +kernel
theorem dX13_within_226 : decode cX13_within 226 = .ok (.iaload, 1) := by decide +kernel
theorem dX13_within_227 : decode cX13_within 227 = .ok (.i2l, 1) := by decide +kernel
theorem dX13_within_228 : decode cX13_within 228 = .ok (.goto 6, 3) := by decide +kernel
theorem dX13_within_231 : decode cX13_within 231 = .ok (.ldc2_w 267, 3) := by decide +kernel
theorem dX13_within_234 : decode cX13_within 234 = .ok (.lreturn, 1) := by decide +kernel
theorem dX13_isOn_0 : decode cX13_isOn 0 = .ok (.iload_n 0, 1) := by decide +kernel
theorem dX13_isOn_1 : decode cX13_isOn 1 = .ok (.bipush 59, 2) := by decide +kernel
theorem dX13_isOn_3 : decode cX13_isOn 3 = .ok (.if_icmp .eq 26, 3) := by decide +kernel
theorem dX13_isOn_6 : decode cX13_isOn 6 = .ok (.iload_n 0, 1) := by decide +kernel
theorem dX13_isOn_7 : decode cX13_isOn 7 = .ok (.bipush 38, 2) := by decide +kernel
theorem dX13_isOn_9 : decode cX13_isOn 9 = .ok (.if_icmp .ne 7, 3) := by decide +kernel
theorem dX13_isOn_12 : decode cX13_isOn 12 = .ok (.iconst 1, 1) := by decide +kernel
theorem dX13_isOn_13 : decode cX13_isOn 13 = .ok (.goto 4, 3) := by decide +kernel
theorem dX13_isOn_16 : decode cX13_isOn 16 = .ok (.iconst 0, 1) := by decide +kernel
theorem dX13_isOn_17 : decode cX13_isOn 17 = .ok (.iload_n 1, 1) := by decide +kernel
theorem dX13_isOn_18 : decode cX13_isOn 18 = .ok (.ifCond .ne 7, 3) := by decide +kernel
theorem dX13_isOn_21 : decode cX13_isOn 21 = .ok (.iconst 1, 1) := by decide +kernel
theorem dX13_isOn_22 : decode cX13_isOn 22 = .ok (.goto 4, 3) := by decide +kernel
theorem dX13_isOn_25 : decode cX13_isOn 25 = .ok (.iconst 0, 1) := by decide +kernel
theorem dX13_isOn_26 : decode cX13_isOn 26 = .ok (.if_icmp .ne 7, 3) := by decide +kernel
theorem dX13_isOn_29 : decode cX13_isOn 29 = .ok (.iconst 1, 1) := by decide +kernel
theorem dX13_isOn_30 : decode cX13_isOn 30 = .ok (.goto 4, 3) := by decide +kernel
theorem dX13_isOn_33 : decode cX13_isOn 33 = .ok (.iconst 0, 1) := by decide +kernel
theorem dX13_isOn_34 : decode cX13_isOn 34 = .ok (.ireturn, 1) := by decide +kernel
theorem dX13_goes_0 : decode cX13_goes 0 = .ok (.iconst 0, 1) := by decide +kernel
theorem dX13_goes_1 : decode cX13_goes 1 = .ok (.istore 5, 2) := by decide +kernel
theorem dX13_goes_3 : decode cX13_goes 3 = .ok (.aload_n 0, 1) := by decide +kernel
theorem dX13_goes_4 : decode cX13_goes 4 = .ok (.getfield 45, 3) := by decide +kernel
theorem dX13_goes_7 : decode cX13_goes 7 = .ok (.iload_n 1, 1) := by decide +kernel
theorem dX13_goes_8 : decode cX13_goes 8 = .ok (.iaload, 1) := by decide +kernel
theorem dX13_goes_9 : decode cX13_goes 9 = .ok (.istore 6, 2) := by decide +kernel
theorem dX13_goes_11 : decode cX13_goes 11 = .ok (.iload 6, 2) := by decide +kernel
theorem dX13_goes_13 : decode cX13_goes 13 = .ok (.ifCond .lt 54, 3) := by decide +kernel
theorem dX13_goes_16 : decode cX13_goes 16 = .ok (.aload_n 0, 1) := by decide +kernel
theorem dX13_goes_17 : decode cX13_goes 17 = .ok (.getfield 52, 3) := by decide +kernel
theorem dX13_goes_20 : decode cX13_goes 20 = .ok (.iload 6, 2) := by decide +kernel
theorem dX13_goes_22 : decode cX13_goes 22 = .ok (.iaload, 1) := by decide +kernel
theorem dX13_goes_23 : decode cX13_goes 23 = .ok (.iload 5, 2) := by decide +kernel
theorem dX13_goes_25 : decode cX13_goes 25 = .ok (.invokestatic 312, 3) := by decide +kernel
theorem dX13_goes_28 : decode cX13_goes 28 = .ok (.ifCond .eq 27, 3) := by decide +kernel
theorem dX13_goes_31 : decode cX13_goes 31 = .ok (.aload_n 0, 1) := by decide +kernel
theorem dX13_goes_32 : decode cX13_goes 32 = .ok (.getfield 315, 3) := by decide +kernel
theorem dX13_goes_35 : decode cX13_goes 35 = .ok (.ifCond .ne 8, 3) := by decide +kernel
theorem dX13_goes_38 : decode cX13_goes 38 = .ok (.bipush 8, 2) := by decide +kernel
theorem dX13_goes_40 : decode cX13_goes 40 = .ok (.goto 13, 3) := by decide +kernel
theorem dX13_goes_43 : decode cX13_goes 43 = .ok (.aload_n 0, 1) := by decide +kernel
theorem dX13_goes_44 : decode cX13_goes 44 = .ok (.iload 6, 2) := by decide +kernel
theorem dX13_goes_46 : decode cX13_goes 46 = .ok (.iload_n 2, 1) := by decide +kernel
theorem dX13_goes_47 : decode cX13_goes 47 = .ok (.iload_n 3, 1) := by decide +kernel
theorem dX13_goes_48 : decode cX13_goes 48 = .ok (.iload 4, 2) := by decide +kernel
theorem dX13_goes_50 : decode cX13_goes 50 = .ok (.invokevirtual 318, 3) := by decide +kernel
theorem dX13_goes_53 : decode cX13_goes 53 = .ok (.istore 5, 2) := by decide +kernel
theorem dX13_goes_55 : decode cX13_goes 55 = .ok (.aload_n 0, 1) := by decide +kernel
theorem dX13_goes_56 : decode cX13_goes 56 = .ok (.getfield 49, 3) := by decide +kernel
theorem dX13_goes_59 : decode cX13_goes 59 = .ok (.iload 6, 2) := by decide +kernel
theorem dX13_goes_61 : decode cX13_goes 61 = .ok (.iaload, 1) := by decide +kernel
theorem dX13_goes_62 : decode cX13_goes 62 = .ok (.istore 6, 2) := by decide +kernel
theorem dX13_goes_64 : decode cX13_goes 64 = .ok (.goto (-53), 3) := by decide +kernel
theorem dX13_goes_67 : decode cX13_goes 67 = .ok (.iload 5, 2) := by decide +kernel
theorem dX13_goes_69 : decode cX13_goes 69 = .ok (.ireturn, 1) := by decide +kernel
theorem dX13_pipeGoes_0 : decode cX13_pipeGoes 0 = .ok (.aload_n 0, 1) := by decide +kernel
theorem dX13_pipeGoes_1 : decode cX13_pipeGoes 1 = .ok (.dup, 1) := by decide +kernel
theorem dX13_pipeGoes_2 : decode cX13_pipeGoes 2 = .ok (.getfield 315, 3) := by decide +kernel
theorem dX13_pipeGoes_5 : decode cX13_pipeGoes 5 = .ok (.iconst 1, 1) := by decide +kernel
theorem dX13_pipeGoes_6 : decode cX13_pipeGoes 6 = .ok (.isub, 1) := by decide +kernel
theorem dX13_pipeGoes_7 : decode cX13_pipeGoes 7 = .ok (.putfield 315, 3) := by decide +kernel
theorem dX13_pipeGoes_10 : decode cX13_pipeGoes 10 = .ok (.aload_n 0, 1) := by decide +kernel
theorem dX13_pipeGoes_11 : decode cX13_pipeGoes 11 = .ok (.iload_n 3, 1) := by decide +kernel
theorem dX13_pipeGoes_12 : decode cX13_pipeGoes 12 = .ok (.iload_n 1, 1) := by decide +kernel
theorem dX13_pipeGoes_13 : decode cX13_pipeGoes 13 = .ok (.iload_n 2, 1) := by decide +kernel
theorem dX13_pipeGoes_14 : decode cX13_pipeGoes 14 = .ok (.invokevirtual 321, 3) := by decide +kernel
theorem dX13_pipeGoes_17 : decode cX13_pipeGoes 17 = .ok (.aload_n 0, 1) := by decide +kernel
theorem dX13_pipeGoes_18 : decode cX13_pipeGoes 18 = .ok (.getfield 58, 3) := by decide +kernel
theorem dX13_pipeGoes_21 : decode cX13_pipeGoes 21 = .ok (.iload_n 1, 1) := by decide +kernel
theorem dX13_pipeGoes_22 : decode cX13_pipeGoes 22 = .ok (.iaload, 1) := by decide +kernel
theorem dX13_pipeGoes_23 : decode cX13_pipeGoes 23 = .ok (.iconst 1, 1) := by decide +kernel
theorem dX13_pipeGoes_24 : decode cX13_pipeGoes 24 = .ok (.isub, 1) := by decide +kernel
theorem dX13_pipeGoes_25 : decode cX13_pipeGoes 25 = .ok (.istore 5, 2) := by decide +kernel
theorem dX13_pipeGoes_27 : decode cX13_pipeGoes 27 = .ok (.aload_n 0, 1) := by decide +kernel
theorem dX13_pipeGoes_28 : decode cX13_pipeGoes 28 = .ok (.iload_n 3, 1) := by decide +kernel
theorem dX13_pipeGoes_29 : decode cX13_pipeGoes 29 = .ok (.iload 5, 2) := by decide +kernel
theorem dX13_pipeGoes_31 : decode cX13_pipeGoes 31 = .ok (.invokevirtual 275, 3) := by decide +kernel
theorem dX13_pipeGoes_34 : decode cX13_pipeGoes 34 = .ok (.lstore 6, 2) := by decide +kernel
theorem dX13_pipeGoes_36 : decode cX13_pipeGoes 36 = .ok (.lload 6, 2) := by decide +kernel
theorem dX13_pipeGoes_38 : decode cX13_pipeGoes 38 = .ok (.ldc2_w 267, 3) := by decide +kernel
theorem dX13_pipeGoes_41 : decode cX13_pipeGoes 41 = .ok (.lcmp, 1) := by decide +kernel
theorem dX13_pipeGoes_42 : decode cX13_pipeGoes 42 = .ok (.ifCond .eq 24, 3) := by decide +kernel
theorem dX13_pipeGoes_45 : decode cX13_pipeGoes 45 = .ok (.aload_n 0, 1) := by decide +kernel
theorem dX13_pipeGoes_46 : decode cX13_pipeGoes 46 = .ok (.iload 4, 2) := by decide +kernel
theorem dX13_pipeGoes_48 : decode cX13_pipeGoes 48 = .ok (.lload 6, 2) := by decide +kernel
theorem dX13_pipeGoes_50 : decode cX13_pipeGoes 50 = .ok (.l2i, 1) := by decide +kernel
theorem dX13_pipeGoes_51 : decode cX13_pipeGoes 51 = .ok (.invokevirtual 325, 3) := by decide +kernel
theorem dX13_pipeGoes_54 : decode cX13_pipeGoes 54 = .ok (.aload_n 0, 1) := by decide +kernel
theorem dX13_pipeGoes_55 : decode cX13_pipeGoes 55 = .ok (.iload_n 3, 1) := by decide +kernel
theorem dX13_pipeGoes_56 : decode cX13_pipeGoes 56 = .ok (.iload 5, 2) := by decide +kernel
theorem dX13_pipeGoes_58 : decode cX13_pipeGoes 58 = .ok (.invokevirtual 275, 3) := by decide +kernel
theorem dX13_pipeGoes_61 : decode cX13_pipeGoes 61 = .ok (.lstore 6, 2) := by decide +kernel
theorem dX13_pipeGoes_63 : decode cX13_pipeGoes 63 = .ok (.goto (-27), 3) := by decide +kernel
theorem dX13_pipeGoes_66 : decode cX13_pipeGoes 66 = .ok (.aload_n 0, 1) := by decide +kernel
theorem dX13_pipeGoes_67 : decode cX13_pipeGoes 67 = .ok (.getfield 108, 3) := by decide +kernel
theorem dX13_pipeGoes_70 : decode cX13_pipeGoes 70 = .ok (.bipush 6, 2) := by decide +kernel
theorem dX13_pipeGoes_72 : decode cX13_pipeGoes 72 = .ok (.iload_n 3, 1) := by decide +kernel
theorem dX13_pipeGoes_73 : decode cX13_pipeGoes 73 = .ok (.imul, 1) := by decide +kernel
theorem dX13_pipeGoes_74 : decode cX13_pipeGoes 74 = .ok (.iload 5, 2) := by decide +kernel
theorem dX13_pipeGoes_76 : decode cX13_pipeGoes 76 = .ok (.iadd, 1) := by decide +kernel
theorem dX13_pipeGoes_77 : decode cX13_pipeGoes 77 = .ok (.iaload, 1) := by decide +kernel
theorem dX13_pipeGoes_78 : decode cX13_pipeGoes 78 = .ok (.ireturn, 1) := by decide +kernel
theorem dX13_runs_0 : decode cX13_runs 0 = .ok (.aload_n 0, 1) := by decide +kernel
theorem dX13_runs_1 : decode cX13_runs 1 = .ok (.bipush 60, 2) := by decide +kernel
theorem dX13_runs_3 : decode cX13_runs 3 = .ok (.putfield 315, 3) := by decide +kernel
theorem dX13_runs_6 : decode cX13_runs 6 = .ok (.aload_n 0, 1) := by decide +kernel
theorem dX13_runs_7 : decode cX13_runs 7 = .ok (.iconst 0, 1) := by decide +kernel
theorem dX13_runs_8 : decode cX13_runs 8 = .ok (.putfield 309, 3) := by decide +kernel
theorem dX13_runs_11 : decode cX13_runs 11 = .ok (.aload_n 0, 1) := by decide +kernel
theorem dX13_runs_12 : decode cX13_runs 12 = .ok (.iconst 0, 1) := by decide +kernel
theorem dX13_runs_13 : decode cX13_runs 13 = .ok (.putfield 279, 3) := by decide +kernel
theorem dX13_runs_16 : decode cX13_runs 16 = .ok (.aload_n 0, 1) := by decide +kernel
theorem dX13_runs_17 : decode cX13_runs 17 = .ok (.iconst 0, 1) := by decide +kernel
theorem dX13_runs_18 : decode cX13_runs 18 = .ok (.putfield 269, 3) := by decide +kernel
theorem dX13_runs_21 : decode cX13_runs 21 = .ok (.aload_n 0, 1) := by decide +kernel
theorem dX13_runs_22 : decode cX13_runs 22 = .ok (.aload_n 0, 1) := by decide +kernel
theorem dX13_runs_23 : decode cX13_runs 23 = .ok (.bipush 60, 2) := by decide +kernel
theorem dX13_runs_25 : decode cX13_runs 25 = .ok (.iload_n 1, 1) := by decide +kernel
theorem dX13_runs_26 : decode cX13_runs 26 = .ok (.imul, 1) := by decide +kernel
theorem dX13_runs_27 : decode cX13_runs 27 = .ok (.iconst 0, 1) := by decide +kernel
theorem dX13_runs_28 : decode cX13_runs 28 = .ok (.iconst 0, 1) := by decide +kernel
theorem dX13_runs_29 : decode cX13_runs 29 = .ok (.iconst (-1), 1) := by decide +kernel
theorem dX13_runs_30 : decode cX13_runs 30 = .ok (.invokevirtual 305, 3) := by decide +kernel
theorem dX13_runs_33 : decode cX13_runs 33 = .ok (.putfield 329, 3) := by decide +kernel
theorem dX13_runs_36 : decode cX13_runs 36 = .ok (.aload_n 0, 1) := by decide +kernel
theorem dX13_runs_37 : decode cX13_runs 37 = .ok (.getfield 329, 3) := by decide +kernel
theorem dX13_runs_40 : decode cX13_runs 40 = .ok (.ifCond .eq 25, 3) := by decide +kernel
theorem dX13_runs_43 : decode cX13_runs 43 = .ok (.aload_n 0, 1) := by decide +kernel
theorem dX13_runs_44 : decode cX13_runs 44 = .ok (.getfield 85, 3) := by decide +kernel
theorem dX13_runs_47 : decode cX13_runs 47 = .ok (.ifCond .lt 18, 3) := by decide +kernel
theorem dX13_runs_50 : decode cX13_runs 50 = .ok (.aload_n 0, 1) := by decide +kernel
theorem dX13_runs_51 : decode cX13_runs 51 = .ok (.bipush 60, 2) := by decide +kernel
theorem dX13_runs_53 : decode cX13_runs 53 = .ok (.aload_n 0, 1) := by decide +kernel
theorem dX13_runs_54 : decode cX13_runs 54 = .ok (.getfield 85, 3) := by decide +kernel
theorem dX13_runs_57 : decode cX13_runs 57 = .ok (.imul, 1) := by decide +kernel
theorem dX13_runs_58 : decode cX13_runs 58 = .ok (.iconst 0, 1) := by decide +kernel
theorem dX13_runs_59 : decode cX13_runs 59 = .ok (.iconst 0, 1) := by decide +kernel
theorem dX13_runs_60 : decode cX13_runs 60 = .ok (.iconst (-1), 1) := by decide +kernel
theorem dX13_runs_61 : decode cX13_runs 61 = .ok (.invokevirtual 305, 3) := by decide +kernel
theorem dX13_runs_64 : decode cX13_runs 64 = .ok (.istore_n 2, 1) := by decide +kernel
theorem dX13_runs_65 : decode cX13_runs 65 = .ok (.return_, 1) := by decide +kernel
theorem dX13_run_0 : decode cX13_run 0 = .ok (.aload_n 0, 1) := by decide +kernel
theorem dX13_run_1 : decode cX13_run 1 = .ok (.iload_n 1, 1) := by decide +kernel
theorem dX13_run_2 : decode cX13_run 2 = .ok (.invokevirtual 260, 3) := by decide +kernel
theorem dX13_run_5 : decode cX13_run 5 = .ok (.ifCond .ne 5, 3) := by decide +kernel
theorem dX13_run_8 : decode cX13_run 8 = .ok (.iconst (-1), 1) := by decide +kernel
theorem dX13_run_9 : decode cX13_run 9 = .ok (.ireturn, 1) := by decide +kernel
theorem dX13_run_10 : decode cX13_run 10 = .ok (.aload_n 0, 1) := by decide +kernel
theorem dX13_run_11 : decode cX13_run 11 = .ok (.iload_n 1, 1) := by decide +kernel
theorem dX13_run_12 : decode cX13_run 12 = .ok (.invokevirtual 332, 3) := by decide +kernel
theorem dX13_run_15 : decode cX13_run 15 = .ok (.aload_n 0, 1) := by decide +kernel
theorem dX13_run_16 : decode cX13_run 16 = .ok (.getfield 117, 3) := by decide +kernel
theorem dX13_run_19 : decode cX13_run 19 = .ok (.aload_n 0, 1) := by decide +kernel
theorem dX13_run_20 : decode cX13_run 20 = .ok (.getfield 120, 3) := by decide +kernel
theorem dX13_run_23 : decode cX13_run 23 = .ok (.invokestatic 336, 3) := by decide +kernel
theorem dX13_run_26 : decode cX13_run 26 = .ok (.aload_n 0, 1) := by decide +kernel
theorem dX13_run_27 : decode cX13_run 27 = .ok (.aload_n 0, 1) := by decide +kernel
theorem dX13_run_28 : decode cX13_run 28 = .ok (.getfield 269, 3) := by decide +kernel
theorem dX13_run_31 : decode cX13_run 31 = .ok (.putfield 340, 3) := by decide +kernel
theorem dX13_run_34 : decode cX13_run 34 = .ok (.aload_n 0, 1) := by decide +kernel
theorem dX13_run_35 : decode cX13_run 35 = .ok (.aload_n 0, 1) := by decide +kernel
theorem dX13_run_36 : decode cX13_run 36 = .ok (.getfield 329, 3) := by decide +kernel
theorem dX13_run_39 : decode cX13_run 39 = .ok (.putfield 343, 3) := by decide +kernel
theorem dX13_run_42 : decode cX13_run 42 = .ok (.aload_n 0, 1) := by decide +kernel
theorem dX13_run_43 : decode cX13_run 43 = .ok (.aload_n 0, 1) := by decide +kernel
theorem dX13_run_44 : decode cX13_run 44 = .ok (.getfield 279, 3) := by decide +kernel
theorem dX13_run_47 : decode cX13_run 47 = .ok (.putfield 346, 3) := by decide +kernel
theorem dX13_run_50 : decode cX13_run 50 = .ok (.aload_n 0, 1) := by decide +kernel
theorem dX13_run_51 : decode cX13_run 51 = .ok (.getfield 340, 3) := by decide +kernel
theorem dX13_run_54 : decode cX13_run 54 = .ok (.ireturn, 1) := by decide +kernel
theorem dX13_copies_0 : decode cX13_copies 0 = .ok (.iconst 0, 1) := by decide +kernel
theorem dX13_copies_1 : decode cX13_copies 1 = .ok (.istore_n 2, 1) := by decide +kernel
theorem dX13_copies_2 : decode cX13_copies 2 = .ok (.iload_n 2, 1) := by decide +kernel
theorem dX13_copies_3 : decode cX13_copies 3 = .ok (.aload_n 0, 1) := by decide +kernel
theorem dX13_copies_4 : decode cX13_copies 4 = .ok (.arraylength, 1) := by decide +kernel
theorem dX13_copies_5 : decode cX13_copies 5 = .ok (.if_icmp .ge 15, 3) := by decide +kernel
theorem dX13_copies_8 : decode cX13_copies 8 = .ok (.aload_n 1, 1) := by decide +kernel
theorem dX13_copies_9 : decode cX13_copies 9 = .ok (.iload_n 2, 1) := by decide +kernel
theorem dX13_copies_10 : decode cX13_copies 10 = .ok (.aload_n 0, 1) := by decide +kernel
theorem dX13_copies_11 : decode cX13_copies 11 = .ok (.iload_n 2, 1) := by decide +kernel
theorem dX13_copies_12 : decode cX13_copies 12 = .ok (.iaload, 1) := by decide +kernel
theorem dX13_copies_13 : decode cX13_copies 13 = .ok (.iastore, 1) := by decide +kernel
theorem dX13_copies_14 : decode cX13_copies 14 = .ok (.iinc 2 1, 3) := by decide +kernel
theorem dX13_copies_17 : decode cX13_copies 17 = .ok (.goto (-15), 3) := by decide +kernel
theorem dX13_copies_20 : decode cX13_copies 20 = .ok (.return_, 1) := by decide +kernel
theorem dX13_told_0 : decode cX13_told 0 = .ok (.iload_n 1, 1) := by decide +kernel
theorem dX13_told_1 : decode cX13_told 1 = .ok (.i2l, 1) := by decide +kernel
theorem dX13_told_2 : decode cX13_told 2 = .ok (.lconst 0, 1) := by decide +kernel
theorem dX13_told_3 : decode cX13_told 3 = .ok (.ldc2_w 263, 3) := by decide +kernel
theorem dX13_told_6 : decode cX13_told 6 = .ok (.invokestatic 177, 3) := by decide +kernel
theorem dX13_told_9 : decode cX13_told 9 = .ok (.ifCond .eq 34, 3) := by decide +kernel
theorem dX13_told_12 : decode cX13_told 12 = .ok (.iload_n 1, 1) := by decide +kernel
theorem dX13_told_13 : decode cX13_told 13 = .ok (.ifCond .ne 11, 3) := by decide +kernel
theorem dX13_told_16 : decode cX13_told 16 = .ok (.aload_n 0, 1) := by decide +kernel
theorem dX13_told_17 : decode cX13_told 17 = .ok (.getfield 340, 3) := by decide +kernel
theorem dX13_told_20 : decode cX13_told 20 = .ok (.i2l, 1) := by decide +kernel
theorem dX13_told_21 : decode cX13_told 21 = .ok (.goto 21, 3) := by decide +kernel
theorem dX13_told_24 : decode cX13_told 24 = .ok (.iload_n 1, 1) := by decide +kernel
theorem dX13_told_25 : decode cX13_told 25 = .ok (.iconst 1, 1) := by decide +kernel
theorem dX13_told_26 : decode cX13_told 26 = .ok (.if_icmp .ne 11, 3) := by decide +kernel
theorem dX13_told_29 : decode cX13_told 29 = .ok (.aload_n 0, 1) := by decide +kernel
theorem dX13_told_30 : decode cX13_told 30 = .ok (.getfield 343, 3) := by decide +kernel
theorem dX13_told_33 : decode cX13_told 33 = .ok (.i2l, 1) := by decide +kernel
theorem dX13_told_34 : decode cX13_told 34 = .ok (.goto 8, 3) := by decide +kernel
theorem dX13_told_37 : decode cX13_told 37 = .ok (.aload_n 0, 1) := by decide +kernel
theorem dX13_told_38 : decode cX13_told 38 = .ok (.getfield 346, 3) := by decide +kernel
theorem dX13_told_41 : decode cX13_told 41 = .ok (.i2l, 1) := by decide +kernel
theorem dX13_told_42 : decode cX13_told 42 = .ok (.lreturn, 1) := by decide +kernel
theorem dX13_told_43 : decode cX13_told 43 = .ok (.iload_n 1, 1) := by decide +kernel
theorem dX13_told_44 : decode cX13_told 44 = .ok (.i2l, 1) := by decide +kernel
theorem dX13_told_45 : decode cX13_told 45 = .ok (.ldc2_w 349, 3) := by decide +kernel
theorem dX13_told_48 : decode cX13_told 48 = .ok (.ldc2_w 351, 3) := by decide +kernel
theorem dX13_told_51 : decode cX13_told 51 = .ok (.invokestatic 177, 3) := by decide +kernel
theorem dX13_told_54 : decode cX13_told 54 = .ok (.ifCond .eq 14, 3) := by decide +kernel
theorem dX13_told_57 : decode cX13_told 57 = .ok (.aload_n 0, 1) := by decide +kernel
theorem dX13_told_58 : decode cX13_told 58 = .ok (.getfield 79, 3) := by decide +kernel
theorem dX13_told_61 : decode cX13_told 61 = .ok (.iload_n 1, 1) := by decide +kernel
theorem dX13_told_62 : decode cX13_told 62 = .ok (.bipush 10, 2) := by decide +kernel
theorem dX13_told_64 : decode cX13_told 64 = .ok (.isub, 1) := by decide +kernel
theorem dX13_told_65 : decode cX13_told 65 = .ok (.iaload, 1) := by decide +kernel
theorem dX13_told_66 : decode cX13_told 66 = .ok (.i2l, 1) := by decide +kernel
theorem dX13_told_67 : decode cX13_told 67 = .ok (.lreturn, 1) := by decide +kernel
theorem dX13_told_68 : decode cX13_told 68 = .ok (.iload_n 1, 1) := by decide +kernel
theorem dX13_told_69 : decode cX13_told 69 = .ok (.i2l, 1) := by decide +kernel
theorem dX13_told_70 : decode cX13_told 70 = .ok (.ldc2_w 353, 3) := by decide +kernel
theorem dX13_told_73 : decode cX13_told 73 = .ok (.ldc2_w 355, 3) := by decide +kernel
theorem dX13_told_76 : decode cX13_told 76 = .ok (.invokestatic 177, 3) := by decide +kernel
theorem dX13_told_79 : decode cX13_told 79 = .ok (.ifCond .eq 14, 3) := by decide +kernel
theorem dX13_told_82 : decode cX13_told 82 = .ok (.aload_n 0, 1) := by decide +kernel
theorem dX13_told_83 : decode cX13_told 83 = .ok (.getfield 82, 3) := by decide +kernel
theorem dX13_told_86 : decode cX13_told 86 = .ok (.iload_n 1, 1) := by decide +kernel
theorem dX13_told_87 : decode cX13_told 87 = .ok (.bipush 20, 2) := by decide +kernel
theorem dX13_told_89 : decode cX13_told 89 = .ok (.isub, 1) := by decide +kernel
theorem dX13_told_90 : decode cX13_told 90 = .ok (.iaload, 1) := by decide +kernel
theorem dX13_told_91 : decode cX13_told 91 = .ok (.i2l, 1) := by decide +kernel
theorem dX13_told_92 : decode cX13_told 92 = .ok (.lreturn, 1) := by decide +kernel
theorem dX13_told_93 : decode cX13_told 93 = .ok (.iload_n 1, 1) := by decide +kernel
theorem dX13_told_94 : decode cX13_told 94 = .ok (.bipush 30, 2) := by decide +kernel
theorem dX13_told_96 : decode cX13_told 96 = .ok (.if_icmp .ne 11, 3) := by decide +kernel
theorem dX13_told_99 : decode cX13_told 99 = .ok (.aload_n 0, 1) := by decide +kernel
theorem dX13_told_100 : decode cX13_told 100 = .ok (.getfield 85, 3) := by decide +kernel
theorem dX13_told_103 : decode cX13_told 103 = .ok (.i2l, 1) := by decide +kernel
theorem dX13_told_104 : decode cX13_told 104 = .ok (.goto 38, 3) := by decide +kernel
theorem dX13_told_107 : decode cX13_told 107 = .ok (.iload_n 1, 1) := by decide +kernel
theorem dX13_told_108 : decode cX13_told 108 = .ok (.i2l, 1) := by decide +kernel
theorem dX13_told_109 : decode cX13_told 109 = .ok (.ldc2_w 357, 3) := by decide +kernel
theorem dX13_told_112 : decode cX13_told 112 = .ok (.bipush 39, 2) := by decide +kernel
theorem dX13_told_114 : decode cX13_told 114 = .ok (.aload_n 0, 1) := by decide +kernel
theorem dX13_told_115 : decode cX13_told 115 = .ok (.getfield 340, 3) := by decide +kernel
theorem dX13_told_118 : decode cX13_told 118 = .ok (.iadd, 1) := by decide +kernel
theorem dX13_told_119 : decode cX13_told 119 = .ok (.i2l, 1) := by decide +kernel
theorem dX13_told_120 : decode cX13_told 120 = .ok (.invokestatic 177, 3) := by decide +kernel
theorem dX13_told_123 : decode cX13_told 123 = .ok (.ifCond .eq 16, 3) := by decide +kernel
theorem dX13_told_126 : decode cX13_told 126 = .ok (.aload_n 0, 1) := by decide +kernel
theorem dX13_told_127 : decode cX13_told 127 = .ok (.getfield 120, 3) := by decide +kernel
theorem dX13_told_130 : decode cX13_told 130 = .ok (.iload_n 1, 1) := by decide +kernel
theorem dX13_told_131 : decode cX13_told 131 = .ok (.bipush 40, 2) := by decide +kernel
theorem dX13_told_133 : decode cX13_told 133 = .ok (.isub, 1) := by decide +kernel
theorem dX13_told_134 : decode cX13_told 134 = .ok (.iaload, 1) := by decide +kernel
theorem dX13_told_135 : decode cX13_told 135 = .ok (.i2l, 1) := by decide +kernel
theorem dX13_told_136 : decode cX13_told 136 = .ok (.goto 6, 3) := by decide +kernel
theorem dX13_told_139 : decode cX13_told 139 = .ok (.ldc2_w 267, 3) := by decide +kernel
theorem dX13_told_142 : decode cX13_told 142 = .ok (.lreturn, 1) := by decide +kernel
theorem dX13_job_0 : decode cX13_job 0 = .ok (.aload_n 0, 1) := by decide +kernel
theorem dX13_job_1 : decode cX13_job 1 = .ok (.iload_n 1, 1) := by decide +kernel
theorem dX13_job_2 : decode cX13_job 2 = .ok (.invokevirtual 260, 3) := by decide +kernel
theorem dX13_job_5 : decode cX13_job 5 = .ok (.ifCond .ne 5, 3) := by decide +kernel
theorem dX13_job_8 : decode cX13_job 8 = .ok (.iconst (-1), 1) := by decide +kernel
theorem dX13_job_9 : decode cX13_job 9 = .ok (.ireturn, 1) := by decide +kernel
theorem dX13_job_10 : decode cX13_job 10 = .ok (.iconst 0, 1) := by decide +kernel
theorem dX13_job_11 : decode cX13_job 11 = .ok (.istore_n 2, 1) := by decide +kernel
theorem dX13_job_12 : decode cX13_job 12 = .ok (.iload_n 2, 1) := by decide +kernel
theorem dX13_job_13 : decode cX13_job 13 = .ok (.iconst 4, 1) := by decide +kernel
theorem dX13_job_14 : decode cX13_job 14 = .ok (.if_icmp .ge 18, 3) := by decide +kernel
theorem dX13_job_17 : decode cX13_job 17 = .ok (.aload_n 0, 1) := by decide +kernel
theorem dX13_job_18 : decode cX13_job 18 = .ok (.getfield 123, 3) := by decide +kernel
theorem dX13_job_21 : decode cX13_job 21 = .ok (.iload_n 2, 1) := by decide +kernel
theorem dX13_job_22 : decode cX13_job 22 = .ok (.iaload, 1) := by decide +kernel
theorem dX13_job_23 : decode cX13_job 23 = .ok (.ifCond .lt 9, 3) := by decide +kernel
theorem dX13_job_26 : decode cX13_job 26 = .ok (.iinc 2 1, 3) := by decide +kernel
theorem dX13_job_29 : decode cX13_job 29 = .ok (.goto (-17), 3) := by decide +kernel
theorem dX13_job_32 : decode cX13_job 32 = .ok (.iload_n 2, 1) := by decide +kernel
theorem dX13_job_33 : decode cX13_job 33 = .ok (.iconst 4, 1) := by decide +kernel
theorem dX13_job_34 : decode cX13_job 34 = .ok (.if_icmp .ne 6, 3) := by decide +kernel
theorem dX13_job_37 : decode cX13_job 37 = .ok (.bipush (-4), 2) := by decide +kernel
theorem dX13_job_39 : decode cX13_job 39 = .ok (.ireturn, 1) := by decide +kernel
theorem dX13_job_40 : decode cX13_job 40 = .ok (.aload_n 0, 1) := by decide +kernel
theorem dX13_job_41 : decode cX13_job 41 = .ok (.getfield 123, 3) := by decide +kernel
theorem dX13_job_44 : decode cX13_job 44 = .ok (.iload_n 2, 1) := by decide +kernel
theorem dX13_job_45 : decode cX13_job 45 = .ok (.iload_n 1, 1) := by decide +kernel
theorem dX13_job_46 : decode cX13_job 46 = .ok (.iastore, 1) := by decide +kernel
theorem dX13_job_47 : decode cX13_job 47 = .ok (.aload_n 0, 1) := by decide +kernel
theorem dX13_job_48 : decode cX13_job 48 = .ok (.getfield 126, 3) := by decide +kernel
theorem dX13_job_51 : decode cX13_job 51 = .ok (.iload_n 2, 1) := by decide +kernel
theorem dX13_job_52 : decode cX13_job 52 = .ok (.bipush 60, 2) := by decide +kernel
theorem dX13_job_54 : decode cX13_job 54 = .ok (.iastore, 1) := by decide +kernel
theorem dX13_job_55 : decode cX13_job 55 = .ok (.aload_n 0, 1) := by decide +kernel
theorem dX13_job_56 : decode cX13_job 56 = .ok (.getfield 129, 3) := by decide +kernel
theorem dX13_job_59 : decode cX13_job 59 = .ok (.iload_n 2, 1) := by decide +kernel
theorem dX13_job_60 : decode cX13_job 60 = .ok (.aload_n 0, 1) := by decide +kernel
theorem dX13_job_61 : decode cX13_job 61 = .ok (.getfield 45, 3) := by decide +kernel
theorem dX13_job_64 : decode cX13_job 64 = .ok (.bipush 60, 2) := by decide +kernel
theorem dX13_job_66 : decode cX13_job 66 = .ok (.iload_n 1, 1) := by decide +kernel
theorem dX13_job_67 : decode cX13_job 67 = .ok (.imul, 1) := by decide +kernel
theorem dX13_job_68 : decode cX13_job 68 = .ok (.iaload, 1) := by decide +kernel
theorem dX13_job_69 : decode cX13_job 69 = .ok (.iastore, 1) := by decide +kernel
theorem dX13_job_70 : decode cX13_job 70 = .ok (.aload_n 0, 1) := by decide +kernel
theorem dX13_job_71 : decode cX13_job 71 = .ok (.getfield 132, 3) := by decide +kernel
theorem dX13_job_74 : decode cX13_job 74 = .ok (.iload_n 2, 1) := by decide +kernel
theorem dX13_job_75 : decode cX13_job 75 = .ok (.iconst 0, 1) := by decide +kernel
theorem dX13_job_76 : decode cX13_job 76 = .ok (.bastore, 1) := by decide +kernel
theorem dX13_job_77 : decode cX13_job 77 = .ok (.aload_n 0, 1) := by decide +kernel
theorem dX13_job_78 : decode cX13_job 78 = .ok (.getfield 135, 3) := by decide +kernel
theorem dX13_job_81 : decode cX13_job 81 = .ok (.iload_n 2, 1) := by decide +kernel
theorem dX13_job_82 : decode cX13_job 82 = .ok (.iconst 0, 1) := by decide +kernel
theorem dX13_job_83 : decode cX13_job 83 = .ok (.iastore, 1) := by decide +kernel
theorem dX13_job_84 : decode cX13_job 84 = .ok (.iload_n 2, 1) := by decide +kernel
theorem dX13_job_85 : decode cX13_job 85 = .ok (.ireturn, 1) := by decide +kernel
theorem dX13_jobBegins_0 : decode cX13_jobBegins 0 = .ok (.aload_n 0, 1) := by decide +kernel
theorem dX13_jobBegins_1 : decode cX13_jobBegins 1 = .ok (.getfield 129, 3) := by decide +kernel
theorem dX13_jobBegins_4 : decode cX13_jobBegins 4 = .ok (.iload_n 1, 1) := by decide +kernel
theorem dX13_jobBegins_5 : decode cX13_jobBegins 5 = .ok (.iaload, 1) := by decide +kernel
theorem dX13_jobBegins_6 : decode cX13_jobBegins 6 = .ok (.istore_n 2, 1) := by decide +kernel
theorem dX13_jobBegins_7 : decode cX13_jobBegins 7 = .ok (.aload_n 0, 1) := by decide +kernel
theorem dX13_jobBegins_8 : decode cX13_jobBegins 8 = .ok (.getfield 52, 3) := by decide +kernel
theorem dX13_jobBegins_11 : decode cX13_jobBegins 11 = .ok (.iload_n 2, 1) := by decide +kernel
theorem dX13_jobBegins_12 : decode cX13_jobBegins 12 = .ok (.iaload, 1) := by decide +kernel
theorem dX13_jobBegins_13 : decode cX13_jobBegins 13 = .ok (.aload_n 0, 1) := by decide +kernel
theorem dX13_jobBegins_14 : decode cX13_jobBegins 14 = .ok (.getfield 135, 3) := by decide +kernel
theorem dX13_jobBegins_17 : decode cX13_jobBegins 17 = .ok (.iload_n 1, 1) := by decide +kernel
theorem dX13_jobBegins_18 : decode cX13_jobBegins 18 = .ok (.iaload, 1) := by decide +kernel
theorem dX13_jobBegins_19 : decode cX13_jobBegins 19 = .ok (.invokestatic 312, 3) := by decide +kernel
theorem dX13_jobBegins_22 : decode cX13_jobBegins 22 = .ok (.ifCond .ne 18, 3) := by decide +kernel
theorem dX13_jobBegins_25 : decode cX13_jobBegins 25 = .ok (.aload_n 0, 1) := by decide +kernel
theorem dX13_jobBegins_26 : decode cX13_jobBegins 26 = .ok (.getfield 129, 3) := by decide +kernel
theorem dX13_jobBegins_29 : decode cX13_jobBegins 29 = .ok (.iload_n 1, 1) := by decide +kernel
theorem dX13_jobBegins_30 : decode cX13_jobBegins 30 = .ok (.aload_n 0, 1) := by decide +kernel
theorem dX13_jobBegins_31 : decode cX13_jobBegins 31 = .ok (.getfield 49, 3) := by decide +kernel
theorem dX13_jobBegins_34 : decode cX13_jobBegins 34 = .ok (.iload_n 2, 1) := by decide +kernel
theorem dX13_jobBegins_35 : decode cX13_jobBegins 35 = .ok (.iaload, 1) := by decide +kernel
theorem dX13_jobBegins_36 : decode cX13_jobBegins 36 = .ok (.iastore, 1) := by decide +kernel
theorem dX13_jobBegins_37 : decode cX13_jobBegins 37 = .ok (.goto 60, 3) := by decide +kernel
theorem dX13_jobBegins_40 : decode cX13_jobBegins 40 = .ok (.aload_n 0, 1) := by decide +kernel
theorem dX13_jobBegins_41 : decode cX13_jobBegins 41 = .ok (.getfield 315, 3) := by decide +kernel
theorem dX13_jobBegins_44 : decode cX13_jobBegins 44 = .ok (.ifCond .ne 26, 3) := by decide +kernel
theorem dX13_jobBegins_47 : decode cX13_jobBegins 47 = .ok (.aload_n 0, 1) := by decide +kernel
theorem dX13_jobBegins_48 : decode cX13_jobBegins 48 = .ok (.getfield 135, 3) := by decide +kernel
theorem dX13_jobBegins_51 : decode cX13_jobBegins 51 = .ok (.iload_n 1, 1) := by decide +kernel
theorem dX13_jobBegins_52 : decode cX13_jobBegins 52 = .ok (.bipush 8, 2) := by decide +kernel
theorem dX13_jobBegins_54 : decode cX13_jobBegins 54 = .ok (.iastore, 1) := by decide +kernel
theorem dX13_jobBegins_55 : decode cX13_jobBegins 55 = .ok (.aload_n 0, 1) := by decide +kernel
theorem dX13_jobBegins_56 : decode cX13_jobBegins 56 = .ok (.getfield 129, 3) := by decide +kernel
theorem dX13_jobBegins_59 : decode cX13_jobBegins 59 = .ok (.iload_n 1, 1) := by decide +kernel
theorem dX13_jobBegins_60 : decode cX13_jobBegins 60 = .ok (.aload_n 0, 1) := by decide +kernel
theorem dX13_jobBegins_61 : decode cX13_jobBegins 61 = .ok (.getfield 49, 3) := by decide +kernel
theorem dX13_jobBegins_64 : decode cX13_jobBegins 64 = .ok (.iload_n 2, 1) := by decide +kernel
theorem dX13_jobBegins_65 : decode cX13_jobBegins 65 = .ok (.iaload, 1) := by decide +kernel
theorem dX13_jobBegins_66 : decode cX13_jobBegins 66 = .ok (.iastore, 1) := by decide +kernel
theorem dX13_jobBegins_67 : decode cX13_jobBegins 67 = .ok (.goto 30, 3) := by decide +kernel
theorem dX13_jobBegins_70 : decode cX13_jobBegins 70 = .ok (.aload_n 0, 1) := by decide +kernel
theorem dX13_jobBegins_71 : decode cX13_jobBegins 71 = .ok (.dup, 1) := by decide +kernel
theorem dX13_jobBegins_72 : decode cX13_jobBegins 72 = .ok (.getfield 315, 3) := by decide +kernel
theorem dX13_jobBegins_75 : decode cX13_jobBegins 75 = .ok (.iconst 1, 1) := by decide +kernel
theorem dX13_jobBegins_76 : decode cX13_jobBegins 76 = .ok (.isub, 1) := by decide +kernel
theorem dX13_jobBegins_77 : decode cX13_jobBegins 77 = .ok (.putfield 315, 3) := by decide +kernel
theorem dX13_jobBegins_80 : decode cX13_jobBegins 80 = .ok (.aload_n 0, 1) := by decide +kernel
theorem dX13_jobBegins_81 : decode cX13_jobBegins 81 = .ok (.bipush 24, 2) := by decide +kernel
theorem dX13_jobBegins_83 : decode cX13_jobBegins 83 = .ok (.iload_n 1, 1) := by decide +kernel
theorem dX13_jobBegins_84 : decode cX13_jobBegins 84 = .ok (.iadd, 1) := by decide +kernel
theorem dX13_jobBegins_85 : decode cX13_jobBegins 85 = .ok (.iload_n 2, 1) := by decide +kernel
theorem dX13_jobBegins_86 : decode cX13_jobBegins 86 = .ok (.iconst 0, 1) := by decide +kernel
theorem dX13_jobBegins_87 : decode cX13_jobBegins 87 = .ok (.invokevirtual 321, 3) := by decide +kernel
theorem dX13_jobBegins_90 : decode cX13_jobBegins 90 = .ok (.aload_n 0, 1) := by decide +kernel
theorem dX13_jobBegins_91 : decode cX13_jobBegins 91 = .ok (.getfield 132, 3) := by decide +kernel
theorem dX13_jobBegins_94 : decode cX13_jobBegins 94 = .ok (.iload_n 1, 1) := by decide +kernel
theorem dX13_jobBegins_95 : decode cX13_jobBegins 95 = .ok (.iconst 1, 1) := by decide +kernel
theorem dX13_jobBegins_96 : decode cX13_jobBegins 96 = .ok (.bastore, 1) := by decide +kernel
theorem dX13_jobBegins_97 : decode cX13_jobBegins 97 = .ok (.return_, 1) := by decide +kernel
theorem dX13_turn_0 : decode cX13_turn 0 = .ok (.iload_n 1, 1) := by decide +kernel
theorem dX13_turn_1 : decode cX13_turn 1 = .ok (.i2l, 1) := by decide +kernel
theorem dX13_turn_2 : decode cX13_turn 2 = .ok (.lconst 0, 1) := by decide +kernel
theorem dX13_turn_3 : decode cX13_turn 3 = .ok (.ldc2_w 359, 3) := by decide +kernel
theorem dX13_turn_6 : decode cX13_turn 6 = .ok (.invokestatic 177, 3) := by decide +kernel
theorem dX13_turn_9 : decode cX13_turn 9 = .ok (.ifCond .eq 12, 3) := by decide +kernel
theorem dX13_turn_12 : decode cX13_turn 12 = .ok (.aload_n 0, 1) := by decide +kernel
theorem dX13_turn_13 : decode cX13_turn 13 = .ok (.getfield 123, 3) := by decide +kernel
theorem dX13_turn_16 : decode cX13_turn 16 = .ok (.iload_n 1, 1) := by decide +kernel
theorem dX13_turn_17 : decode cX13_turn 17 = .ok (.iaload, 1) := by decide +kernel
theorem dX13_turn_18 : decode cX13_turn 18 = .ok (.ifCond .ge 7, 3) := by decide +kernel
theorem dX13_turn_21 : decode cX13_turn 21 = .ok (.ldc2_w 267, 3) := by decide +kernel
theorem dX13_turn_24 : decode cX13_turn 24 = .ok (.lreturn, 1) := by decide +kernel
theorem dX13_turn_25 : decode cX13_turn 25 = .ok (.aload_n 0, 1) := by decide +kernel
theorem dX13_turn_26 : decode cX13_turn 26 = .ok (.aload_n 0, 1) := by decide +kernel
theorem dX13_turn_27 : decode cX13_turn 27 = .ok (.getfield 126, 3) := by decide +kernel
theorem dX13_turn_30 : decode cX13_turn 30 = .ok (.iload_n 1, 1) := by decide +kernel
theorem dX13_turn_31 : decode cX13_turn 31 = .ok (.iaload, 1) := by decide +kernel
theorem dX13_turn_32 : decode cX13_turn 32 = .ok (.putfield 315, 3) := by decide +kernel
theorem dX13_turn_35 : decode cX13_turn 35 = .ok (.aload_n 0, 1) := by decide +kernel
theorem dX13_turn_36 : decode cX13_turn 36 = .ok (.iconst 0, 1) := by decide +kernel
theorem dX13_turn_37 : decode cX13_turn 37 = .ok (.putfield 309, 3) := by decide +kernel
theorem dX13_turn_40 : decode cX13_turn 40 = .ok (.ldc2_w 267, 3) := by decide +kernel
theorem dX13_turn_43 : decode cX13_turn 43 = .ok (.lstore_n 2, 1) := by decide +kernel
theorem dX13_turn_44 : decode cX13_turn 44 = .ok (.lload_n 2, 1) := by decide +kernel
theorem dX13_turn_45 : decode cX13_turn 45 = .ok (.ldc2_w 267, 3) := by decide +kernel
theorem dX13_turn_48 : decode cX13_turn 48 = .ok (.lcmp, 1) := by decide +kernel
theorem dX13_turn_49 : decode cX13_turn 49 = .ok (.ifCond .ne 111, 3) := by decide +kernel
theorem dX13_turn_52 : decode cX13_turn 52 = .ok (.aload_n 0, 1) := by decide +kernel
theorem dX13_turn_53 : decode cX13_turn 53 = .ok (.getfield 129, 3) := by decide +kernel
theorem dX13_turn_56 : decode cX13_turn 56 = .ok (.iload_n 1, 1) := by decide +kernel
theorem dX13_turn_57 : decode cX13_turn 57 = .ok (.iaload, 1) := by decide +kernel
theorem dX13_turn_58 : decode cX13_turn 58 = .ok (.ifCond .lt 102, 3) := by decide +kernel
theorem dX13_turn_61 : decode cX13_turn 61 = .ok (.aload_n 0, 1) := by decide +kernel
theorem dX13_turn_62 : decode cX13_turn 62 = .ok (.getfield 132, 3) := by decide +kernel
theorem dX13_turn_65 : decode cX13_turn 65 = .ok (.iload_n 1, 1) := by decide +kernel
theorem dX13_turn_66 : decode cX13_turn 66 = .ok (.baload, 1) := by decide +kernel
theorem dX13_turn_67 : decode cX13_turn 67 = .ok (.ifCond .ne 11, 3) := by decide +kernel
theorem dX13_turn_70 : decode cX13_turn 70 = .ok (.aload_n 0, 1) := by decide +kernel
theorem dX13_turn_71 : decode cX13_turn 71 = .ok (.iload_n 1, 1) := by decide +kernel
theorem dX13_turn_72 : decode cX13_turn 72 = .ok (.invokevirtual 361, 3) := by decide +kernel
theorem dX13_turn_75 : decode cX13_turn 75 = .ok (.goto (-31), 3) := by decide +kernel
theorem dX13_turn_78 : decode cX13_turn 78 = .ok (.aload_n 0, 1) := by decide +kernel
theorem dX13_turn_79 : decode cX13_turn 79 = .ok (.getfield 58, 3) := by decide +kernel
theorem dX13_turn_82 : decode cX13_turn 82 = .ok (.aload_n 0, 1) := by decide +kernel
theorem dX13_turn_83 : decode cX13_turn 83 = .ok (.getfield 129, 3) := by decide +kernel
theorem dX13_turn_86 : decode cX13_turn 86 = .ok (.iload_n 1, 1) := by decide +kernel
theorem dX13_turn_87 : decode cX13_turn 87 = .ok (.iaload, 1) := by decide +kernel
theorem dX13_turn_88 : decode cX13_turn 88 = .ok (.iaload, 1) := by decide +kernel
theorem dX13_turn_89 : decode cX13_turn 89 = .ok (.iconst 1, 1) := by decide +kernel
theorem dX13_turn_90 : decode cX13_turn 90 = .ok (.isub, 1) := by decide +kernel
theorem dX13_turn_91 : decode cX13_turn 91 = .ok (.istore 4, 2) := by decide +kernel
theorem dX13_turn_93 : decode cX13_turn 93 = .ok (.aload_n 0, 1) := by decide +kernel
theorem dX13_turn_94 : decode cX13_turn 94 = .ok (.bipush 24, 2) := by decide +kernel
theorem dX13_turn_96 : decode cX13_turn 96 = .ok (.iload_n 1, 1) := by decide +kernel
theorem dX13_turn_97 : decode cX13_turn 97 = .ok (.iadd, 1) := by decide +kernel
theorem dX13_turn_98 : decode cX13_turn 98 = .ok (.iload 4, 2) := by decide +kernel
theorem dX13_turn_100 : decode cX13_turn 100 = .ok (.invokevirtual 275, 3) := by decide +kernel
theorem dX13_turn_103 : decode cX13_turn 103 = .ok (.lstore_n 2, 1) := by decide +kernel
theorem dX13_turn_104 : decode cX13_turn 104 = .ok (.lload_n 2, 1) := by decide +kernel
theorem dX13_turn_105 : decode cX13_turn 105 = .ok (.ldc2_w 267, 3) := by decide +kernel
theorem dX13_turn_108 : decode cX13_turn 108 = .ok (.lcmp, 1) := by decide +kernel
theorem dX13_turn_109 : decode cX13_turn 109 = .ok (.ifCond .ne 48, 3) := by decide +kernel
theorem dX13_turn_112 : decode cX13_turn 112 = .ok (.aload_n 0, 1) := by decide +kernel
theorem dX13_turn_113 : decode cX13_turn 113 = .ok (.getfield 135, 3) := by decide +kernel
theorem dX13_turn_116 : decode cX13_turn 116 = .ok (.iload_n 1, 1) := by decide +kernel
theorem dX13_turn_117 : decode cX13_turn 117 = .ok (.aload_n 0, 1) := by decide +kernel
theorem dX13_turn_118 : decode cX13_turn 118 = .ok (.getfield 108, 3) := by decide +kernel
theorem dX13_turn_121 : decode cX13_turn 121 = .ok (.bipush 6, 2) := by decide +kernel
theorem dX13_turn_123 : decode cX13_turn 123 = .ok (.bipush 24, 2) := by decide +kernel
theorem dX13_turn_125 : decode cX13_turn 125 = .ok (.iload_n 1, 1) := by decide +kernel
theorem dX13_turn_126 : decode cX13_turn 126 = .ok (.iadd, 1) := by decide +kernel
theorem dX13_turn_127 : decode cX13_turn 127 = .ok (.imul, 1) := by decide +kernel
theorem dX13_turn_128 : decode cX13_turn 128 = .ok (.iload 4, 2) := by decide +kernel
theorem dX13_turn_130 : decode cX13_turn 130 = .ok (.iadd, 1) := by decide +kernel
theorem dX13_turn_131 : decode cX13_turn 131 = .ok (.iaload, 1) := by decide +kernel
theorem dX13_turn_132 : decode cX13_turn 132 = .ok (.iastore, 1) := by decide +kernel
theorem dX13_turn_133 : decode cX13_turn 133 = .ok (.aload_n 0, 1) := by decide +kernel
theorem dX13_turn_134 : decode cX13_turn 134 = .ok (.getfield 132, 3) := by decide +kernel
theorem dX13_turn_137 : decode cX13_turn 137 = .ok (.iload_n 1, 1) := by decide +kernel
theorem dX13_turn_138 : decode cX13_turn 138 = .ok (.iconst 0, 1) := by decide +kernel
theorem dX13_turn_139 : decode cX13_turn 139 = .ok (.bastore, 1) := by decide +kernel
theorem dX13_turn_140 : decode cX13_turn 140 = .ok (.aload_n 0, 1) := by decide +kernel
theorem dX13_turn_141 : decode cX13_turn 141 = .ok (.getfield 129, 3) := by decide +kernel
theorem dX13_turn_144 : decode cX13_turn 144 = .ok (.iload_n 1, 1) := by decide +kernel
theorem dX13_turn_145 : decode cX13_turn 145 = .ok (.aload_n 0, 1) := by decide +kernel
theorem dX13_turn_146 : decode cX13_turn 146 = .ok (.getfield 49, 3) := by decide +kernel
theorem dX13_turn_149 : decode cX13_turn 149 = .ok (.aload_n 0, 1) := by decide +kernel
theorem dX13_turn_150 : decode cX13_turn 150 = .ok (.getfield 129, 3) := by decide +kernel
theorem dX13_turn_153 : decode cX13_turn 153 = .ok (.iload_n 1, 1) := by decide +kernel
theorem dX13_turn_154 : decode cX13_turn 154 = .ok (.iaload, 1) := by decide +kernel
theorem dX13_turn_155 : decode cX13_turn 155 = .ok (.iaload, 1) := by decide +kernel
theorem dX13_turn_156 : decode cX13_turn 156 = .ok (.iastore, 1) := by decide +kernel
theorem dX13_turn_157 : decode cX13_turn 157 = .ok (.goto (-113), 3) := by decide +kernel
theorem dX13_turn_160 : decode cX13_turn 160 = .ok (.aload_n 0, 1) := by decide +kernel
theorem dX13_turn_161 : decode cX13_turn 161 = .ok (.getfield 126, 3) := by decide +kernel
theorem dX13_turn_164 : decode cX13_turn 164 = .ok (.iload_n 1, 1) := by decide +kernel
theorem dX13_turn_165 : decode cX13_turn 165 = .ok (.aload_n 0, 1) := by decide +kernel
theorem dX13_turn_166 : decode cX13_turn 166 = .ok (.getfield 315, 3) := by decide +kernel
theorem dX13_turn_169 : decode cX13_turn 169 = .ok (.iastore, 1) := by decide +kernel
theorem dX13_turn_170 : decode cX13_turn 170 = .ok (.lload_n 2, 1) := by decide +kernel
theorem dX13_turn_171 : decode cX13_turn 171 = .ok (.ldc2_w 267, 3) := by decide +kernel
theorem dX13_turn_174 : decode cX13_turn 174 = .ok (.lcmp, 1) := by decide +kernel
theorem dX13_turn_175 : decode cX13_turn 175 = .ok (.ifCond .ne 10, 3) := by decide +kernel
theorem dX13_turn_178 : decode cX13_turn 178 = .ok (.aload_n 0, 1) := by decide +kernel
theorem dX13_turn_179 : decode cX13_turn 179 = .ok (.getfield 123, 3) := by decide +kernel
theorem dX13_turn_182 : decode cX13_turn 182 = .ok (.iload_n 1, 1) := by decide +kernel
theorem dX13_turn_183 : decode cX13_turn 183 = .ok (.iconst (-1), 1) := by decide +kernel
theorem dX13_turn_184 : decode cX13_turn 184 = .ok (.iastore, 1) := by decide +kernel
theorem dX13_turn_185 : decode cX13_turn 185 = .ok (.lload_n 2, 1) := by decide +kernel
theorem dX13_turn_186 : decode cX13_turn 186 = .ok (.lreturn, 1) := by decide +kernel
theorem dX13_stop_0 : decode cX13_stop 0 = .ok (.iload_n 1, 1) := by decide +kernel
theorem dX13_stop_1 : decode cX13_stop 1 = .ok (.i2l, 1) := by decide +kernel
theorem dX13_stop_2 : decode cX13_stop 2 = .ok (.lconst 0, 1) := by decide +kernel
theorem dX13_stop_3 : decode cX13_stop 3 = .ok (.ldc2_w 359, 3) := by decide +kernel
theorem dX13_stop_6 : decode cX13_stop 6 = .ok (.invokestatic 177, 3) := by decide +kernel
theorem dX13_stop_9 : decode cX13_stop 9 = .ok (.ifCond .eq 12, 3) := by decide +kernel
theorem dX13_stop_12 : decode cX13_stop 12 = .ok (.aload_n 0, 1) := by decide +kernel
theorem dX13_stop_13 : decode cX13_stop 13 = .ok (.getfield 123, 3) := by decide +kernel
theorem dX13_stop_16 : decode cX13_stop 16 = .ok (.iload_n 1, 1) := by decide +kernel
theorem dX13_stop_17 : decode cX13_stop 17 = .ok (.iaload, 1) := by decide +kernel
theorem dX13_stop_18 : decode cX13_stop 18 = .ok (.ifCond .ge 5, 3) := by decide +kernel
theorem dX13_stop_21 : decode cX13_stop 21 = .ok (.iconst (-1), 1) := by decide +kernel
theorem dX13_stop_22 : decode cX13_stop 22 = .ok (.ireturn, 1) := by decide +kernel
theorem dX13_stop_23 : decode cX13_stop 23 = .ok (.aload_n 0, 1) := by decide +kernel
theorem dX13_stop_24 : decode cX13_stop 24 = .ok (.getfield 123, 3) := by decide +kernel
theorem dX13_stop_27 : decode cX13_stop 27 = .ok (.iload_n 1, 1) := by decide +kernel
theorem dX13_stop_28 : decode cX13_stop 28 = .ok (.iaload, 1) := by decide +kernel
theorem dX13_stop_29 : decode cX13_stop 29 = .ok (.istore_n 2, 1) := by decide +kernel
theorem dX13_stop_30 : decode cX13_stop 30 = .ok (.aload_n 0, 1) := by decide +kernel
theorem dX13_stop_31 : decode cX13_stop 31 = .ok (.getfield 123, 3) := by decide +kernel
theorem dX13_stop_34 : decode cX13_stop 34 = .ok (.iload_n 1, 1) := by decide +kernel
theorem dX13_stop_35 : decode cX13_stop 35 = .ok (.iconst (-1), 1) := by decide +kernel
theorem dX13_stop_36 : decode cX13_stop 36 = .ok (.iastore, 1) := by decide +kernel
theorem dX13_stop_37 : decode cX13_stop 37 = .ok (.iload_n 2, 1) := by decide +kernel
theorem dX13_stop_38 : decode cX13_stop 38 = .ok (.ireturn, 1) := by decide +kernel
theorem dX13_thinks_0 : decode cX13_thinks 0 = .ok (.aload_n 0, 1) := by decide +kernel
theorem dX13_thinks_1 : decode cX13_thinks 1 = .ok (.getfield 79, 3) := by decide +kernel
theorem dX13_thinks_4 : decode cX13_thinks 4 = .ok (.aload_n 0, 1) := by decide +kernel
theorem dX13_thinks_5 : decode cX13_thinks 5 = .ok (.getfield 138, 3) := by decide +kernel
theorem dX13_thinks_8 : decode cX13_thinks 8 = .ok (.invokestatic 336, 3) := by decide +kernel
theorem dX13_thinks_11 : decode cX13_thinks 11 = .ok (.aload_n 0, 1) := by decide +kernel
theorem dX13_thinks_12 : decode cX13_thinks 12 = .ok (.iload_n 1, 1) := by decide +kernel
theorem dX13_thinks_13 : decode cX13_thinks 13 = .ok (.invokevirtual 332, 3) := by decide +kernel
theorem dX13_thinks_16 : decode cX13_thinks 16 = .ok (.aload_n 0, 1) := by decide +kernel
theorem dX13_thinks_17 : decode cX13_thinks 17 = .ok (.getfield 138, 3) := by decide +kernel
theorem dX13_thinks_20 : decode cX13_thinks 20 = .ok (.aload_n 0, 1) := by decide +kernel
theorem dX13_thinks_21 : decode cX13_thinks 21 = .ok (.getfield 79, 3) := by decide +kernel
theorem dX13_thinks_24 : decode cX13_thinks 24 = .ok (.invokestatic 336, 3) := by decide +kernel
theorem dX13_thinks_27 : decode cX13_thinks 27 = .ok (.return_, 1) := by decide +kernel
theorem dX13_on_0 : decode cX13_on 0 = .ok (.aload_n 0, 1) := by decide +kernel
theorem dX13_on_1 : decode cX13_on 1 = .ok (.iload_n 1, 1) := by decide +kernel
theorem dX13_on_2 : decode cX13_on 2 = .ok (.invokevirtual 260, 3) := by decide +kernel
theorem dX13_on_5 : decode cX13_on 5 = .ok (.ifCond .eq 7, 3) := by decide +kernel
theorem dX13_on_8 : decode cX13_on 8 = .ok (.iload_n 2, 1) := by decide +kernel
theorem dX13_on_9 : decode cX13_on 9 = .ok (.ifCond .ge 7, 3) := by decide +kernel
theorem dX13_on_12 : decode cX13_on 12 = .ok (.ldc2_w 267, 3) := by decide +kernel
theorem dX13_on_15 : decode cX13_on 15 = .ok (.lreturn, 1) := by decide +kernel
theorem dX13_on_16 : decode cX13_on 16 = .ok (.aload_n 0, 1) := by decide +kernel
theorem dX13_on_17 : decode cX13_on 17 = .ok (.iload_n 1, 1) := by decide +kernel
theorem dX13_on_18 : decode cX13_on 18 = .ok (.invokevirtual 364, 3) := by decide +kernel
theorem dX13_on_21 : decode cX13_on 21 = .ok (.iload_n 2, 1) := by decide +kernel
theorem dX13_on_22 : decode cX13_on 22 = .ok (.tableswitch 54 0 3 #[30, 36, 42, 48], 30) := by decide +kernel
theorem dX13_on_52 : decode cX13_on 52 = .ok (.aload_n 0, 1) := by decide +kernel
theorem dX13_on_53 : decode cX13_on 53 = .ok (.getfield 269, 3) := by decide +kernel
theorem dX13_on_56 : decode cX13_on 56 = .ok (.i2l, 1) := by decide +kernel
theorem dX13_on_57 : decode cX13_on 57 = .ok (.lreturn, 1) := by decide +kernel
theorem dX13_on_58 : decode cX13_on 58 = .ok (.aload_n 0, 1) := by decide +kernel
theorem dX13_on_59 : decode cX13_on 59 = .ok (.getfield 329, 3) := by decide +kernel
theorem dX13_on_62 : decode cX13_on 62 = .ok (.i2l, 1) := by decide +kernel
theorem dX13_on_63 : decode cX13_on 63 = .ok (.lreturn, 1) := by decide +kernel
theorem dX13_on_64 : decode cX13_on 64 = .ok (.aload_n 0, 1) := by decide +kernel
theorem dX13_on_65 : decode cX13_on 65 = .ok (.getfield 279, 3) := by decide +kernel
theorem dX13_on_68 : decode cX13_on 68 = .ok (.i2l, 1) := by decide +kernel
theorem dX13_on_69 : decode cX13_on 69 = .ok (.lreturn, 1) := by decide +kernel
theorem dX13_on_70 : decode cX13_on 70 = .ok (.aload_n 0, 1) := by decide +kernel
theorem dX13_on_71 : decode cX13_on 71 = .ok (.getfield 315, 3) := by decide +kernel
theorem dX13_on_74 : decode cX13_on 74 = .ok (.i2l, 1) := by decide +kernel
theorem dX13_on_75 : decode cX13_on 75 = .ok (.lreturn, 1) := by decide +kernel
theorem dX13_on_76 : decode cX13_on 76 = .ok (.iload_n 2, 1) := by decide +kernel
theorem dX13_on_77 : decode cX13_on 77 = .ok (.i2l, 1) := by decide +kernel
theorem dX13_on_78 : decode cX13_on 78 = .ok (.ldc2_w 357, 3) := by decide +kernel
theorem dX13_on_81 : decode cX13_on 81 = .ok (.bipush 39, 2) := by decide +kernel
theorem dX13_on_83 : decode cX13_on 83 = .ok (.aload_n 0, 1) := by decide +kernel
theorem dX13_on_84 : decode cX13_on 84 = .ok (.getfield 269, 3) := by decide +kernel
theorem dX13_on_87 : decode cX13_on 87 = .ok (.iadd, 1) := by decide +kernel
theorem dX13_on_88 : decode cX13_on 88 = .ok (.i2l, 1) := by decide +kernel
theorem dX13_on_89 : decode cX13_on 89 = .ok (.invokestatic 177, 3) := by decide +kernel
theorem dX13_on_92 : decode cX13_on 92 = .ok (.ifCond .eq 16, 3) := by decide +kernel
theorem dX13_on_95 : decode cX13_on 95 = .ok (.aload_n 0, 1) := by decide +kernel
theorem dX13_on_96 : decode cX13_on 96 = .ok (.getfield 117, 3) := by decide +kernel
theorem dX13_on_99 : decode cX13_on 99 = .ok (.iload_n 2, 1) := by decide +kernel
theorem dX13_on_100 : decode cX13_on 100 = .ok (.bipush 40, 2) := by decide +kernel
theorem dX13_on_102 : decode cX13_on 102 = .ok (.isub, 1) := by decide +kernel
theorem dX13_on_103 : decode cX13_on 103 = .ok (.iaload, 1) := by decide +kernel
theorem dX13_on_104 : decode cX13_on 104 = .ok (.i2l, 1) := by decide +kernel
theorem dX13_on_105 : decode cX13_on 105 = .ok (.goto 6, 3) := by decide +kernel
theorem dX13_on_108 : decode cX13_on 108 = .ok (.ldc2_w 267, 3) := by decide +kernel
theorem dX13_on_111 : decode cX13_on 111 = .ok (.lreturn, 1) := by decide +kernel
theorem dX13_see_0 : decode cX13_see 0 = .ok (.iload_n 1, 1) := by decide +kernel
theorem dX13_see_1 : decode cX13_see 1 = .ok (.iconst (-1), 1) := by decide +kernel
theorem dX13_see_2 : decode cX13_see 2 = .ok (.if_icmp .ne 10, 3) := by decide +kernel
theorem dX13_see_5 : decode cX13_see 5 = .ok (.aload_n 0, 1) := by decide +kernel
theorem dX13_see_6 : decode cX13_see 6 = .ok (.iconst 0, 1) := by decide +kernel
theorem dX13_see_7 : decode cX13_see 7 = .ok (.putfield 367, 3) := by decide +kernel
theorem dX13_see_10 : decode cX13_see 10 = .ok (.iconst 0, 1) := by decide +kernel
theorem dX13_see_11 : decode cX13_see 11 = .ok (.ireturn, 1) := by decide +kernel
theorem dX13_see_12 : decode cX13_see 12 = .ok (.iload_n 1, 1) := by decide +kernel
theorem dX13_see_13 : decode cX13_see 13 = .ok (.i2l, 1) := by decide +kernel
theorem dX13_see_14 : decode cX13_see 14 = .ok (.lconst 0, 1) := by decide +kernel
theorem dX13_see_15 : decode cX13_see 15 = .ok (.ldc2_w 370, 3) := by decide +kernel
theorem dX13_see_18 : decode cX13_see 18 = .ok (.invokestatic 177, 3) := by decide +kernel
theorem dX13_see_21 : decode cX13_see 21 = .ok (.ifCond .ne 6, 3) := by decide +kernel
theorem dX13_see_24 : decode cX13_see 24 = .ok (.bipush (-2), 2) := by decide +kernel
theorem dX13_see_26 : decode cX13_see 26 = .ok (.ireturn, 1) := by decide +kernel
theorem dX13_see_27 : decode cX13_see 27 = .ok (.aload_n 0, 1) := by decide +kernel
theorem dX13_see_28 : decode cX13_see 28 = .ok (.getfield 367, 3) := by decide +kernel
theorem dX13_see_31 : decode cX13_see 31 = .ok (.iconst 5, 1) := by decide +kernel
theorem dX13_see_32 : decode cX13_see 32 = .ok (.if_icmp .ne 6, 3) := by decide +kernel
theorem dX13_see_35 : decode cX13_see 35 = .ok (.bipush (-4), 2) := by decide +kernel
theorem dX13_see_37 : decode cX13_see 37 = .ok (.ireturn, 1) := by decide +kernel
theorem dX13_see_38 : decode cX13_see 38 = .ok (.aload_n 0, 1) := by decide +kernel
theorem dX13_see_39 : decode cX13_see 39 = .ok (.getfield 141, 3) := by decide +kernel
theorem dX13_see_42 : decode cX13_see 42 = .ok (.iconst 2, 1) := by decide +kernel
theorem dX13_see_43 : decode cX13_see 43 = .ok (.aload_n 0, 1) := by decide +kernel
theorem dX13_see_44 : decode cX13_see 44 = .ok (.getfield 367, 3) := by decide +kernel
theorem dX13_see_47 : decode cX13_see 47 = .ok (.imul, 1) := by decide +kernel
theorem dX13_see_48 : decode cX13_see 48 = .ok (.iload_n 1, 1) := by decide +kernel
theorem dX13_see_49 : decode cX13_see 49 = .ok (.iastore, 1) := by decide +kernel
theorem dX13_see_50 : decode cX13_see 50 = .ok (.aload_n 0, 1) := by decide +kernel
theorem dX13_see_51 : decode cX13_see 51 = .ok (.getfield 141, 3) := by decide +kernel
theorem dX13_see_54 : decode cX13_see 54 = .ok (.iconst 2, 1) := by decide +kernel
theorem dX13_see_55 : decode cX13_see 55 = .ok (.aload_n 0, 1) := by decide +kernel
theorem dX13_see_56 : decode cX13_see 56 = .ok (.getfield 367, 3) := by decide +kernel
theorem dX13_see_59 : decode cX13_see 59 = .ok (.imul, 1) := by decide +kernel
theorem dX13_see_60 : decode cX13_see 60 = .ok (.iconst 1, 1) := by decide +kernel
theorem dX13_see_61 : decode cX13_see 61 = .ok (.iadd, 1) := by decide +kernel
theorem dX13_see_62 : decode cX13_see 62 = .ok (.iload_n 2, 1) := by decide +kernel
theorem dX13_see_63 : decode cX13_see 63 = .ok (.iastore, 1) := by decide +kernel
theorem dX13_see_64 : decode cX13_see 64 = .ok (.aload_n 0, 1) := by decide +kernel
theorem dX13_see_65 : decode cX13_see 65 = .ok (.dup, 1) := by decide +kernel
theorem dX13_see_66 : decode cX13_see 66 = .ok (.getfield 367, 3) := by decide +kernel
theorem dX13_see_69 : decode cX13_see 69 = .ok (.iconst 1, 1) := by decide +kernel
theorem dX13_see_70 : decode cX13_see 70 = .ok (.iadd, 1) := by decide +kernel
theorem dX13_see_71 : decode cX13_see 71 = .ok (.putfield 367, 3) := by decide +kernel
theorem dX13_see_74 : decode cX13_see 74 = .ok (.aload_n 0, 1) := by decide +kernel
theorem dX13_see_75 : decode cX13_see 75 = .ok (.getfield 367, 3) := by decide +kernel
theorem dX13_see_78 : decode cX13_see 78 = .ok (.ireturn, 1) := by decide +kernel
theorem dX13_isSeen_0 : decode cX13_isSeen 0 = .ok (.iconst 0, 1) := by decide +kernel
theorem dX13_isSeen_1 : decode cX13_isSeen 1 = .ok (.istore_n 1, 1) := by decide +kernel
theorem dX13_isSeen_2 : decode cX13_isSeen 2 = .ok (.iload_n 1, 1) := by decide +kernel
theorem dX13_isSeen_3 : decode cX13_isSeen 3 = .ok (.aload_n 0, 1) := by decide +kernel
theorem dX13_isSeen_4 : decode cX13_isSeen 4 = .ok (.getfield 367, 3) := by decide +kernel
theorem dX13_isSeen_7 : decode cX13_isSeen 7 = .ok (.if_icmp .ge 52, 3) := by decide +kernel
theorem dX13_isSeen_10 : decode cX13_isSeen 10 = .ok (.aload_n 0, 1) := by decide +kernel
theorem dX13_isSeen_11 : decode cX13_isSeen 11 = .ok (.getfield 141, 3) := by decide +kernel
theorem dX13_isSeen_14 : decode cX13_isSeen 14 = .ok (.iconst 2, 1) := by decide +kernel
theorem dX13_isSeen_15 : decode cX13_isSeen 15 = .ok (.iload_n 1, 1) := by decide +kernel
theorem dX13_isSeen_16 : decode cX13_isSeen 16 = .ok (.imul, 1) := by decide +kernel
theorem dX13_isSeen_17 : decode cX13_isSeen 17 = .ok (.iaload, 1) := by decide +kernel
theorem dX13_isSeen_18 : decode cX13_isSeen 18 = .ok (.aload_n 0, 1) := by decide +kernel
theorem dX13_isSeen_19 : decode cX13_isSeen 19 = .ok (.getfield 269, 3) := by decide +kernel
theorem dX13_isSeen_22 : decode cX13_isSeen 22 = .ok (.if_icmp .ge 29, 3) := by decide +kernel
theorem dX13_isSeen_25 : decode cX13_isSeen 25 = .ok (.aload_n 0, 1) := by decide +kernel
theorem dX13_isSeen_26 : decode cX13_isSeen 26 = .ok (.getfield 117, 3) := by decide +kernel
theorem dX13_isSeen_29 : decode cX13_isSeen 29 = .ok (.aload_n 0, 1) := by decide +kernel
theorem dX13_isSeen_30 : decode cX13_isSeen 30 = .ok (.getfield 141, 3) := by decide +kernel
theorem dX13_isSeen_33 : decode cX13_isSeen 33 = .ok (.iconst 2, 1) := by decide +kernel
theorem dX13_isSeen_34 : decode cX13_isSeen 34 = .ok (.iload_n 1, 1) := by decide +kernel
theorem dX13_isSeen_35 : decode cX13_isSeen 35 = .ok (.imul, 1) := by decide +kernel
theorem dX13_isSeen_36 : decode cX13_isSeen 36 = .ok (.iaload, 1) := by decide +kernel
theorem dX13_isSeen_37 : decode cX13_isSeen 37 = .ok (.iaload, 1) := by decide +kernel
theorem dX13_isSeen_38 : decode cX13_isSeen 38 = .ok (.aload_n 0, 1) := by decide +kernel
theorem dX13_isSeen_39 : decode cX13_isSeen 39 = .ok (.getfield 141, 3) := by decide +kernel
theorem dX13_isSeen_42 : decode cX13_isSeen 42 = .ok (.iconst 2, 1) := by decide +kernel
theorem dX13_isSeen_43 : decode cX13_isSeen 43 = .ok (.iload_n 1, 1) := by decide +kernel
theorem dX13_isSeen_44 : decode cX13_isSeen 44 = .ok (.imul, 1) := by decide +kernel
theorem dX13_isSeen_45 : decode cX13_isSeen 45 = .ok (.iconst 1, 1) := by decide +kernel
theorem dX13_isSeen_46 : decode cX13_isSeen 46 = .ok (.iadd, 1) := by decide +kernel
theorem dX13_isSeen_47 : decode cX13_isSeen 47 = .ok (.iaload, 1) := by decide +kernel
theorem dX13_isSeen_48 : decode cX13_isSeen 48 = .ok (.if_icmp .eq 5, 3) := by decide +kernel
theorem dX13_isSeen_51 : decode cX13_isSeen 51 = .ok (.iconst 0, 1) := by decide +kernel
theorem dX13_isSeen_52 : decode cX13_isSeen 52 = .ok (.ireturn, 1) := by decide +kernel
theorem dX13_isSeen_53 : decode cX13_isSeen 53 = .ok (.iinc 1 1, 3) := by decide +kernel
theorem dX13_isSeen_56 : decode cX13_isSeen 56 = .ok (.goto (-54), 3) := by decide +kernel
theorem dX13_isSeen_59 : decode cX13_isSeen 59 = .ok (.iconst 1, 1) := by decide +kernel
theorem dX13_isSeen_60 : decode cX13_isSeen 60 = .ok (.ireturn, 1) := by decide +kernel
theorem dX13_isName_0 : decode cX13_isName 0 = .ok (.iload_n 0, 1) := by decide +kernel
theorem dX13_isName_1 : decode cX13_isName 1 = .ok (.i2l, 1) := by decide +kernel
theorem dX13_isName_2 : decode cX13_isName 2 = .ok (.lconst 0, 1) := by decide +kernel
theorem dX13_isName_3 : decode cX13_isName 3 = .ok (.ldc2_w 265, 3) := by decide +kernel
theorem dX13_isName_6 : decode cX13_isName 6 = .ok (.invokestatic 177, 3) := by decide +kernel
theorem dX13_isName_9 : decode cX13_isName 9 = .ok (.ireturn, 1) := by decide +kernel
theorem dX13_fits_0 : decode cX13_fits 0 = .ok (.aload_n 0, 1) := by decide +kernel
theorem dX13_fits_1 : decode cX13_fits 1 = .ok (.iload_n 1, 1) := by decide +kernel
theorem dX13_fits_2 : decode cX13_fits 2 = .ok (.invokevirtual 260, 3) := by decide +kernel
theorem dX13_fits_5 : decode cX13_fits 5 = .ok (.ifCond .eq 20, 3) := by decide +kernel
theorem dX13_fits_8 : decode cX13_fits 8 = .ok (.iload_n 2, 1) := by decide +kernel
theorem dX13_fits_9 : decode cX13_fits 9 = .ok (.invokestatic 372, 3) := by decide +kernel
theorem dX13_fits_12 : decode cX13_fits 12 = .ok (.ifCond .eq 13, 3) := by decide +kernel
theorem dX13_fits_15 : decode cX13_fits 15 = .ok (.iload_n 3, 1) := by decide +kernel
theorem dX13_fits_16 : decode cX13_fits 16 = .ok (.i2l, 1) := by decide +kernel
theorem dX13_fits_17 : decode cX13_fits 17 = .ok (.lconst 0, 1) := by decide +kernel
theorem dX13_fits_18 : decode cX13_fits 18 = .ok (.lconst 1, 1) := by decide +kernel
theorem dX13_fits_19 : decode cX13_fits 19 = .ok (.invokestatic 177, 3) := by decide +kernel
theorem dX13_fits_22 : decode cX13_fits 22 = .ok (.ifCond .ne 5, 3) := by decide +kernel
theorem dX13_fits_25 : decode cX13_fits 25 = .ok (.iconst (-1), 1) := by decide +kernel
theorem dX13_fits_26 : decode cX13_fits 26 = .ok (.ireturn, 1) := by decide +kernel
theorem dX13_fits_27 : decode cX13_fits 27 = .ok (.aload_n 0, 1) := by decide +kernel
theorem dX13_fits_28 : decode cX13_fits 28 = .ok (.getfield 79, 3) := by decide +kernel
theorem dX13_fits_31 : decode cX13_fits 31 = .ok (.iload_n 2, 1) := by decide +kernel
theorem dX13_fits_32 : decode cX13_fits 32 = .ok (.iaload, 1) := by decide +kernel
theorem dX13_fits_33 : decode cX13_fits 33 = .ok (.istore 4, 2) := by decide +kernel
theorem dX13_fits_35 : decode cX13_fits 35 = .ok (.iconst 0, 1) := by decide +kernel
theorem dX13_fits_36 : decode cX13_fits 36 = .ok (.istore 5, 2) := by decide +kernel
theorem dX13_fits_38 : decode cX13_fits 38 = .ok (.bipush (-5), 2) := by decide +kernel
theorem dX13_fits_40 : decode cX13_fits 40 = .ok (.istore 6, 2) := by decide +kernel
theorem dX13_fits_42 : decode cX13_fits 42 = .ok (.bipush 19, 2) := by decide +kernel
theorem dX13_fits_44 : decode cX13_fits 44 = .ok (.istore 7, 2) := by decide +kernel
theorem dX13_fits_46 : decode cX13_fits 46 = .ok (.iload 7, 2) := by decide +kernel
theorem dX13_fits_48 : decode cX13_fits 48 = .ok (.ifCond .lt 36, 3) := by decide +kernel
theorem dX13_fits_51 : decode cX13_fits 51 = .ok (.aload_n 0, 1) := by decide +kernel
theorem dX13_fits_52 : decode cX13_fits 52 = .ok (.getfield 79, 3) := by decide +kernel
theorem dX13_fits_55 : decode cX13_fits 55 = .ok (.iload_n 2, 1) := by decide +kernel
theorem dX13_fits_56 : decode cX13_fits 56 = .ok (.iload 7, 2) := by decide +kernel
theorem dX13_fits_58 : decode cX13_fits 58 = .ok (.iastore, 1) := by decide +kernel
theorem dX13_fits_59 : decode cX13_fits 59 = .ok (.aload_n 0, 1) := by decide +kernel
theorem dX13_fits_60 : decode cX13_fits 60 = .ok (.iload_n 1, 1) := by decide +kernel
theorem dX13_fits_61 : decode cX13_fits 61 = .ok (.invokevirtual 364, 3) := by decide +kernel
theorem dX13_fits_64 : decode cX13_fits 64 = .ok (.aload_n 0, 1) := by decide +kernel
theorem dX13_fits_65 : decode cX13_fits 65 = .ok (.invokevirtual 375, 3) := by decide +kernel
theorem dX13_fits_68 : decode cX13_fits 68 = .ok (.ifCond .eq 10, 3) := by decide +kernel
theorem dX13_fits_71 : decode cX13_fits 71 = .ok (.iinc 5 1, 3) := by decide +kernel
theorem dX13_fits_74 : decode cX13_fits 74 = .ok (.iload 7, 2) := by decide +kernel
theorem dX13_fits_76 : decode cX13_fits 76 = .ok (.istore 6, 2) := by decide +kernel
theorem dX13_fits_78 : decode cX13_fits 78 = .ok (.iinc 7 (-1), 3) := by decide +kernel
theorem dX13_fits_81 : decode cX13_fits 81 = .ok (.goto (-35), 3) := by decide +kernel
theorem dX13_fits_84 : decode cX13_fits 84 = .ok (.aload_n 0, 1) := by decide +kernel
theorem dX13_fits_85 : decode cX13_fits 85 = .ok (.getfield 79, 3) := by decide +kernel
theorem dX13_fits_88 : decode cX13_fits 88 = .ok (.iload_n 2, 1) := by decide +kernel
theorem dX13_fits_89 : decode cX13_fits 89 = .ok (.iload 4, 2) := by decide +kernel
theorem dX13_fits_91 : decode cX13_fits 91 = .ok (.iastore, 1) := by decide +kernel
theorem dX13_fits_92 : decode cX13_fits 92 = .ok (.iload_n 3, 1) := by decide +kernel
theorem dX13_fits_93 : decode cX13_fits 93 = .ok (.ifCond .ne 8, 3) := by decide +kernel
theorem dX13_fits_96 : decode cX13_fits 96 = .ok (.iload 5, 2) := by decide +kernel
theorem dX13_fits_98 : decode cX13_fits 98 = .ok (.goto 5, 3) := by decide +kernel
theorem dX13_fits_101 : decode cX13_fits 101 = .ok (.iload 6, 2) := by decide +kernel
theorem dX13_fits_103 : decode cX13_fits 103 = .ok (.ireturn, 1) := by decide +kernel
theorem dX13_alike_0 : decode cX13_alike 0 = .ok (.aload_n 0, 1) := by decide +kernel
theorem dX13_alike_1 : decode cX13_alike 1 = .ok (.iload_n 1, 1) := by decide +kernel
theorem dX13_alike_2 : decode cX13_alike 2 = .ok (.invokevirtual 260, 3) := by decide +kernel
theorem dX13_alike_5 : decode cX13_alike 5 = .ok (.ifCond .eq 11, 3) := by decide +kernel
theorem dX13_alike_8 : decode cX13_alike 8 = .ok (.aload_n 0, 1) := by decide +kernel
theorem dX13_alike_9 : decode cX13_alike 9 = .ok (.iload_n 2, 1) := by decide +kernel
theorem dX13_alike_10 : decode cX13_alike 10 = .ok (.invokevirtual 260, 3) := by decide +kernel
theorem dX13_alike_13 : decode cX13_alike 13 = .ok (.ifCond .ne 5, 3) := by decide +kernel
theorem dX13_alike_16 : decode cX13_alike 16 = .ok (.iconst (-1), 1) := by decide +kernel
theorem dX13_alike_17 : decode cX13_alike 17 = .ok (.ireturn, 1) := by decide +kernel
theorem dX13_alike_18 : decode cX13_alike 18 = .ok (.aload_n 0, 1) := by decide +kernel
theorem dX13_alike_19 : decode cX13_alike 19 = .ok (.iload_n 1, 1) := by decide +kernel
theorem dX13_alike_20 : decode cX13_alike 20 = .ok (.invokevirtual 364, 3) := by decide +kernel
theorem dX13_alike_23 : decode cX13_alike 23 = .ok (.aload_n 0, 1) := by decide +kernel
theorem dX13_alike_24 : decode cX13_alike 24 = .ok (.getfield 117, 3) := by decide +kernel
theorem dX13_alike_27 : decode cX13_alike 27 = .ok (.aload_n 0, 1) := by decide +kernel
theorem dX13_alike_28 : decode cX13_alike 28 = .ok (.getfield 144, 3) := by decide +kernel
theorem dX13_alike_31 : decode cX13_alike 31 = .ok (.invokestatic 336, 3) := by decide +kernel
theorem dX13_alike_34 : decode cX13_alike 34 = .ok (.aload_n 0, 1) := by decide +kernel
theorem dX13_alike_35 : decode cX13_alike 35 = .ok (.getfield 269, 3) := by decide +kernel
theorem dX13_alike_38 : decode cX13_alike 38 = .ok (.istore_n 3, 1) := by decide +kernel
theorem dX13_alike_39 : decode cX13_alike 39 = .ok (.aload_n 0, 1) := by decide +kernel
theorem dX13_alike_40 : decode cX13_alike 40 = .ok (.getfield 329, 3) := by decide +kernel
theorem dX13_alike_43 : decode cX13_alike 43 = .ok (.istore 4, 2) := by decide +kernel
theorem dX13_alike_45 : decode cX13_alike 45 = .ok (.aload_n 0, 1) := by decide +kernel
theorem dX13_alike_46 : decode cX13_alike 46 = .ok (.iload_n 2, 1) := by decide +kernel
theorem dX13_alike_47 : decode cX13_alike 47 = .ok (.invokevirtual 364, 3) := by decide +kernel
theorem dX13_alike_50 : decode cX13_alike 50 = .ok (.iload_n 3, 1) := by decide +kernel
theorem dX13_alike_51 : decode cX13_alike 51 = .ok (.aload_n 0, 1) := by decide +kernel
theorem dX13_alike_52 : decode cX13_alike 52 = .ok (.getfield 269, 3) := by decide +kernel
theorem dX13_alike_55 : decode cX13_alike 55 = .ok (.if_icmp .ne 16, 3) := by decide +kernel
theorem dX13_alike_58 : decode cX13_alike 58 = .ok (.iload 4, 2) := by decide +kernel
theorem dX13_alike_60 : decode cX13_alike 60 = .ok (.aload_n 0, 1) := by decide +kernel
theorem dX13_alike_61 : decode cX13_alike 61 = .ok (.getfield 329, 3) := by decide +kernel
theorem dX13_alike_64 : decode cX13_alike 64 = .ok (.if_icmp .ne 7, 3) := by decide +kernel
theorem dX13_alike_67 : decode cX13_alike 67 = .ok (.iconst 1, 1) := by decide +kernel
theorem dX13_alike_68 : decode cX13_alike 68 = .ok (.goto 4, 3) := by decide +kernel
theorem dX13_alike_71 : decode cX13_alike 71 = .ok (.iconst 0, 1) := by decide +kernel
theorem dX13_alike_72 : decode cX13_alike 72 = .ok (.istore 5, 2) := by decide +kernel
theorem dX13_alike_74 : decode cX13_alike 74 = .ok (.iconst 0, 1) := by decide +kernel
theorem dX13_alike_75 : decode cX13_alike 75 = .ok (.istore 6, 2) := by decide +kernel
theorem dX13_alike_77 : decode cX13_alike 77 = .ok (.iload 6, 2) := by decide +kernel
theorem dX13_alike_79 : decode cX13_alike 79 = .ok (.iload_n 3, 1) := by decide +kernel
theorem dX13_alike_80 : decode cX13_alike 80 = .ok (.if_icmp .ge 38, 3) := by decide +kernel
theorem dX13_alike_83 : decode cX13_alike 83 = .ok (.iload 5, 2) := by decide +kernel
theorem dX13_alike_85 : decode cX13_alike 85 = .ok (.ifCond .eq 33, 3) := by decide +kernel
theorem dX13_alike_88 : decode cX13_alike 88 = .ok (.aload_n 0, 1) := by decide +kernel
theorem dX13_alike_89 : decode cX13_alike 89 = .ok (.getfield 117, 3) := by decide +kernel
theorem dX13_alike_92 : decode cX13_alike 92 = .ok (.iload 6, 2) := by decide +kernel
theorem dX13_alike_94 : decode cX13_alike 94 = .ok (.iaload, 1) := by decide +kernel
theorem dX13_alike_95 : decode cX13_alike 95 = .ok (.aload_n 0, 1) := by decide +kernel
theorem dX13_alike_96 : decode cX13_alike 96 = .ok (.getfield 144, 3) := by decide +kernel
theorem dX13_alike_99 : decode cX13_alike 99 = .ok (.iload 6, 2) := by decide +kernel
theorem dX13_alike_101 : decode cX13_alike 101 = .ok (.iaload, 1) := by decide +kernel
theorem dX13_alike_102 : decode cX13_alike 102 = .ok (.if_icmp .ne 7, 3) := by decide +kernel
theorem dX13_alike_105 : decode cX13_alike 105 = .ok (.iconst 1, 1) := by decide +kernel
theorem dX13_alike_106 : decode cX13_alike 106 = .ok (.goto 4, 3) := by decide +kernel
theorem dX13_alike_109 : decode cX13_alike 109 = .ok (.iconst 0, 1) := by decide +kernel
theorem dX13_alike_110 : decode cX13_alike 110 = .ok (.istore 5, 2) := by decide +kernel
theorem dX13_alike_112 : decode cX13_alike 112 = .ok (.iinc 6 1, 3) := by decide +kernel
theorem dX13_alike_115 : decode cX13_alike 115 = .ok (.goto (-38), 3) := by decide +kernel
theorem dX13_alike_118 : decode cX13_alike 118 = .ok (.iload 5, 2) := by decide +kernel
theorem dX13_alike_120 : decode cX13_alike 120 = .ok (.ifCond .eq 7, 3) := by decide +kernel
theorem dX13_alike_123 : decode cX13_alike 123 = .ok (.iconst 1, 1) := by decide +kernel
theorem dX13_alike_124 : decode cX13_alike 124 = .ok (.goto 4, 3) := by decide +kernel
theorem dX13_alike_127 : decode cX13_alike 127 = .ok (.iconst 0, 1) := by decide +kernel
theorem dX13_alike_128 : decode cX13_alike 128 = .ok (.ireturn, 1) := by decide +kernel
theorem dX13_lowest_0 : decode cX13_lowest 0 = .ok (.lload_n 0, 1) := by decide +kernel
theorem dX13_lowest_1 : decode cX13_lowest 1 = .ok (.lconst 0, 1) := by decide +kernel
theorem dX13_lowest_2 : decode cX13_lowest 2 = .ok (.lcmp, 1) := by decide +kernel
theorem dX13_lowest_3 : decode cX13_lowest 3 = .ok (.ifCond .ge 8, 3) := by decide +kernel
theorem dX13_lowest_6 : decode cX13_lowest 6 = .ok (.lload_n 0, 1) := by decide +kernel
theorem dX13_lowest_7 : decode cX13_lowest 7 = .ok (.lneg, 1) := by decide +kernel
theorem dX13_lowest_8 : decode cX13_lowest 8 = .ok (.goto 4, 3) := by decide +kernel
theorem dX13_lowest_11 : decode cX13_lowest 11 = .ok (.lload_n 0, 1) := by decide +kernel
theorem dX13_lowest_12 : decode cX13_lowest 12 = .ok (.lstore 5, 2) := by decide +kernel
theorem dX13_lowest_14 : decode cX13_lowest 14 = .ok (.lload_n 2, 1) := by decide +kernel
theorem dX13_lowest_15 : decode cX13_lowest 15 = .ok (.lstore 7, 2) := by decide +kernel
theorem dX13_lowest_17 : decode cX13_lowest 17 = .ok (.lload 7, 2) := by decide +kernel
theorem dX13_lowest_19 : decode cX13_lowest 19 = .ok (.lconst 0, 1) := by decide +kernel
theorem dX13_lowest_20 : decode cX13_lowest 20 = .ok (.lcmp, 1) := by decide +kernel
theorem dX13_lowest_21 : decode cX13_lowest 21 = .ok (.ifCond .eq 21, 3) := by decide +kernel
theorem dX13_lowest_24 : decode cX13_lowest 24 = .ok (.lload 5, 2) := by decide +kernel
theorem dX13_lowest_26 : decode cX13_lowest 26 = .ok (.lload 7, 2) := by decide +kernel
theorem dX13_lowest_28 : decode cX13_lowest 28 = .ok (.lrem, 1) := by decide +kernel
theorem dX13_lowest_29 : decode cX13_lowest 29 = .ok (.lstore 9, 2) := by decide +kernel
theorem dX13_lowest_31 : decode cX13_lowest 31 = .ok (.lload 7, 2) := by decide +kernel
theorem dX13_lowest_33 : decode cX13_lowest 33 = .ok (.lstore 5, 2) := by decide +kernel
theorem dX13_lowest_35 : decode cX13_lowest 35 = .ok (.lload 9, 2) := by decide +kernel
theorem dX13_lowest_37 : decode cX13_lowest 37 = .ok (.lstore 7, 2) := by decide +kernel
theorem dX13_lowest_39 : decode cX13_lowest 39 = .ok (.goto (-22), 3) := by decide +kernel
theorem dX13_lowest_42 : decode cX13_lowest 42 = .ok (.iload 4, 2) := by decide +kernel
theorem dX13_lowest_44 : decode cX13_lowest 44 = .ok (.ifCond .ne 7, 3) := by decide +kernel
theorem dX13_lowest_47 : decode cX13_lowest 47 = .ok (.lload_n 0, 1) := by decide +kernel
theorem dX13_lowest_48 : decode cX13_lowest 48 = .ok (.goto 4, 3) := by decide +kernel
theorem dX13_lowest_51 : decode cX13_lowest 51 = .ok (.lload_n 2, 1) := by decide +kernel
theorem dX13_lowest_52 : decode cX13_lowest 52 = .ok (.lload 5, 2) := by decide +kernel
theorem dX13_lowest_54 : decode cX13_lowest 54 = .ok (.ldiv, 1) := by decide +kernel
theorem dX13_lowest_55 : decode cX13_lowest 55 = .ok (.lreturn, 1) := by decide +kernel
theorem dX13_odds_0 : decode cX13_odds 0 = .ok (.aload_n 0, 1) := by decide +kernel
theorem dX13_odds_1 : decode cX13_odds 1 = .ok (.iload_n 1, 1) := by decide +kernel
theorem dX13_odds_2 : decode cX13_odds 2 = .ok (.invokevirtual 260, 3) := by decide +kernel
theorem dX13_odds_5 : decode cX13_odds 5 = .ok (.ifCond .eq 20, 3) := by decide +kernel
theorem dX13_odds_8 : decode cX13_odds 8 = .ok (.iload_n 2, 1) := by decide +kernel
theorem dX13_odds_9 : decode cX13_odds 9 = .ok (.invokestatic 372, 3) := by decide +kernel
theorem dX13_odds_12 : decode cX13_odds 12 = .ok (.ifCond .eq 13, 3) := by decide +kernel
theorem dX13_odds_15 : decode cX13_odds 15 = .ok (.iload_n 3, 1) := by decide +kernel
theorem dX13_odds_16 : decode cX13_odds 16 = .ok (.i2l, 1) := by decide +kernel
theorem dX13_odds_17 : decode cX13_odds 17 = .ok (.lconst 0, 1) := by decide +kernel
theorem dX13_odds_18 : decode cX13_odds 18 = .ok (.lconst 1, 1) := by decide +kernel
theorem dX13_odds_19 : decode cX13_odds 19 = .ok (.invokestatic 177, 3) := by decide +kernel
theorem dX13_odds_22 : decode cX13_odds 22 = .ok (.ifCond .ne 7, 3) := by decide +kernel
theorem dX13_odds_25 : decode cX13_odds 25 = .ok (.ldc2_w 267, 3) := by decide +kernel
theorem dX13_odds_28 : decode cX13_odds 28 = .ok (.lreturn, 1) := by decide +kernel
theorem dX13_odds_29 : decode cX13_odds 29 = .ok (.aload_n 0, 1) := by decide +kernel
theorem dX13_odds_30 : decode cX13_odds 30 = .ok (.getfield 79, 3) := by decide +kernel
theorem dX13_odds_33 : decode cX13_odds 33 = .ok (.iload_n 2, 1) := by decide +kernel
theorem dX13_odds_34 : decode cX13_odds 34 = .ok (.iaload, 1) := by decide +kernel
theorem dX13_odds_35 : decode cX13_odds 35 = .ok (.istore 4, 2) := by decide +kernel
theorem dX13_odds_37 : decode cX13_odds 37 = .ok (.lconst 0, 1) := by decide +kernel
theorem dX13_odds_38 : decode cX13_odds 38 = .ok (.lstore 5, 2) := by decide +kernel
theorem dX13_odds_40 : decode cX13_odds 40 = .ok (.iconst 0, 1) := by decide +kernel
theorem dX13_odds_41 : decode cX13_odds 41 = .ok (.istore 7, 2) := by decide +kernel
theorem dX13_odds_43 : decode cX13_odds 43 = .ok (.iload 7, 2) := by decide +kernel
theorem dX13_odds_45 : decode cX13_odds 45 = .ok (.bipush 10, 2) := by decide +kernel
theorem dX13_odds_47 : decode cX13_odds 47 = .ok (.if_icmp .ge 39, 3) := by decide +kernel
theorem dX13_odds_50 : decode cX13_odds 50 = .ok (.aload_n 0, 1) := by decide +kernel
theorem dX13_odds_51 : decode cX13_odds 51 = .ok (.getfield 79, 3) := by decide +kernel
theorem dX13_odds_54 : decode cX13_odds 54 = .ok (.iload_n 2, 1) := by decide +kernel
theorem dX13_odds_55 : decode cX13_odds 55 = .ok (.iload 7, 2) := by decide +kernel
theorem dX13_odds_57 : decode cX13_odds 57 = .ok (.iastore, 1) := by decide +kernel
theorem dX13_odds_58 : decode cX13_odds 58 = .ok (.aload_n 0, 1) := by decide +kernel
theorem dX13_odds_59 : decode cX13_odds 59 = .ok (.iload_n 1, 1) := by decide +kernel
theorem dX13_odds_60 : decode cX13_odds 60 = .ok (.invokevirtual 364, 3) := by decide +kernel
theorem dX13_odds_63 : decode cX13_odds 63 = .ok (.lload 5, 2) := by decide +kernel
theorem dX13_odds_65 : decode cX13_odds 65 = .ok (.aload_n 0, 1) := by decide +kernel
theorem dX13_odds_66 : decode cX13_odds 66 = .ok (.getfield 329, 3) := by decide +kernel
theorem dX13_odds_69 : decode cX13_odds 69 = .ok (.ifCond .ne 7, 3) := by decide +kernel
theorem dX13_odds_72 : decode cX13_odds 72 = .ok (.lconst 1, 1) := by decide +kernel
theorem dX13_odds_73 : decode cX13_odds 73 = .ok (.goto 4, 3) := by decide +kernel
theorem dX13_odds_76 : decode cX13_odds 76 = .ok (.lconst 0, 1) := by decide +kernel
theorem dX13_odds_77 : decode cX13_odds 77 = .ok (.ladd, 1) := by decide +kernel
theorem dX13_odds_78 : decode cX13_odds 78 = .ok (.lstore 5, 2) := by decide +kernel
theorem dX13_odds_80 : decode cX13_odds 80 = .ok (.iinc 7 1, 3) := by decide +kernel
theorem dX13_odds_83 : decode cX13_odds 83 = .ok (.goto (-40), 3) := by decide +kernel
theorem dX13_odds_86 : decode cX13_odds 86 = .ok (.aload_n 0, 1) := by decide +kernel
theorem dX13_odds_87 : decode cX13_odds 87 = .ok (.getfield 79, 3) := by decide +kernel
theorem dX13_odds_90 : decode cX13_odds 90 = .ok (.iload_n 2, 1) := by decide +kernel
theorem dX13_odds_91 : decode cX13_odds 91 = .ok (.iload 4, 2) := by decide +kernel
theorem dX13_odds_93 : decode cX13_odds 93 = .ok (.iastore, 1) := by decide +kernel
theorem dX13_odds_94 : decode cX13_odds 94 = .ok (.lload 5, 2) := by decide +kernel
theorem dX13_odds_96 : decode cX13_odds 96 = .ok (.ldc2_w 349, 3) := by decide +kernel
theorem dX13_odds_99 : decode cX13_odds 99 = .ok (.iload_n 3, 1) := by decide +kernel
theorem dX13_odds_100 : decode cX13_odds 100 = .ok (.invokestatic 379, 3) := by decide +kernel
theorem dX13_odds_103 : decode cX13_odds 103 = .ok (.lreturn, 1) := by decide +kernel
theorem dX13_mean_0 : decode cX13_mean 0 = .ok (.aload_n 0, 1) := by decide +kernel
theorem dX13_mean_1 : decode cX13_mean 1 = .ok (.iload_n 1, 1) := by decide +kernel
theorem dX13_mean_2 : decode cX13_mean 2 = .ok (.invokevirtual 260, 3) := by decide +kernel
theorem dX13_mean_5 : decode cX13_mean 5 = .ok (.ifCond .eq 13, 3) := by decide +kernel
theorem dX13_mean_8 : decode cX13_mean 8 = .ok (.iload_n 2, 1) := by decide +kernel
theorem dX13_mean_9 : decode cX13_mean 9 = .ok (.i2l, 1) := by decide +kernel
theorem dX13_mean_10 : decode cX13_mean 10 = .ok (.lconst 0, 1) := by decide +kernel
theorem dX13_mean_11 : decode cX13_mean 11 = .ok (.lconst 1, 1) := by decide +kernel
theorem dX13_mean_12 : decode cX13_mean 12 = .ok (.invokestatic 177, 3) := by decide +kernel
theorem dX13_mean_15 : decode cX13_mean 15 = .ok (.ifCond .ne 7, 3) := by decide +kernel
theorem dX13_mean_18 : decode cX13_mean 18 = .ok (.ldc2_w 267, 3) := by decide +kernel
theorem dX13_mean_21 : decode cX13_mean 21 = .ok (.lreturn, 1) := by decide +kernel
theorem dX13_mean_22 : decode cX13_mean 22 = .ok (.aload_n 0, 1) := by decide +kernel
theorem dX13_mean_23 : decode cX13_mean 23 = .ok (.iload_n 1, 1) := by decide +kernel
theorem dX13_mean_24 : decode cX13_mean 24 = .ok (.invokevirtual 364, 3) := by decide +kernel
theorem dX13_mean_27 : decode cX13_mean 27 = .ok (.lconst 0, 1) := by decide +kernel
theorem dX13_mean_28 : decode cX13_mean 28 = .ok (.lstore_n 3, 1) := by decide +kernel
theorem dX13_mean_29 : decode cX13_mean 29 = .ok (.iconst 0, 1) := by decide +kernel
theorem dX13_mean_30 : decode cX13_mean 30 = .ok (.istore 5, 2) := by decide +kernel
theorem dX13_mean_32 : decode cX13_mean 32 = .ok (.iload 5, 2) := by decide +kernel
theorem dX13_mean_34 : decode cX13_mean 34 = .ok (.aload_n 0, 1) := by decide +kernel
theorem dX13_mean_35 : decode cX13_mean 35 = .ok (.getfield 269, 3) := by decide +kernel
theorem dX13_mean_38 : decode cX13_mean 38 = .ok (.if_icmp .ge 20, 3) := by decide +kernel
theorem dX13_mean_41 : decode cX13_mean 41 = .ok (.lload_n 3, 1) := by decide +kernel
theorem dX13_mean_42 : decode cX13_mean 42 = .ok (.aload_n 0, 1) := by decide +kernel
theorem dX13_mean_43 : decode cX13_mean 43 = .ok (.getfield 117, 3) := by decide +kernel
theorem dX13_mean_46 : decode cX13_mean 46 = .ok (.iload 5, 2) := by decide +kernel
theorem dX13_mean_48 : decode cX13_mean 48 = .ok (.iaload, 1) := by decide +kernel
theorem dX13_mean_49 : decode cX13_mean 49 = .ok (.i2l, 1) := by decide +kernel
theorem dX13_mean_50 : decode cX13_mean 50 = .ok (.ladd, 1) := by decide +kernel
theorem dX13_mean_51 : decode cX13_mean 51 = .ok (.lstore_n 3, 1) := by decide +kernel
theorem dX13_mean_52 : decode cX13_mean 52 = .ok (.iinc 5 1, 3) := by decide +kernel
theorem dX13_mean_55 : decode cX13_mean 55 = .ok (.goto (-23), 3) := by decide +kernel
theorem dX13_mean_58 : decode cX13_mean 58 = .ok (.aload_n 0, 1) := by decide +kernel
theorem dX13_mean_59 : decode cX13_mean 59 = .ok (.getfield 269, 3) := by decide +kernel
theorem dX13_mean_62 : decode cX13_mean 62 = .ok (.ifCond .ne 9, 3) := by decide +kernel
theorem dX13_mean_65 : decode cX13_mean 65 = .ok (.ldc2_w 267, 3) := by decide +kernel
theorem dX13_mean_68 : decode cX13_mean 68 = .ok (.goto 13, 3) := by decide +kernel
theorem dX13_mean_71 : decode cX13_mean 71 = .ok (.lload_n 3, 1) := by decide +kernel
theorem dX13_mean_72 : decode cX13_mean 72 = .ok (.aload_n 0, 1) := by decide +kernel
theorem dX13_mean_73 : decode cX13_mean 73 = .ok (.getfield 269, 3) := by decide +kernel
theorem dX13_mean_76 : decode cX13_mean 76 = .ok (.i2l, 1) := by decide +kernel
theorem dX13_mean_77 : decode cX13_mean 77 = .ok (.iload_n 2, 1) := by decide +kernel
theorem dX13_mean_78 : decode cX13_mean 78 = .ok (.invokestatic 379, 3) := by decide +kernel
theorem dX13_mean_81 : decode cX13_mean 81 = .ok (.lreturn, 1) := by decide +kernel
theorem dX13_plan_0 : decode cX13_plan 0 = .ok (.iload_n 1, 1) := by decide +kernel
theorem dX13_plan_1 : decode cX13_plan 1 = .ok (.iconst (-1), 1) := by decide +kernel
theorem dX13_plan_2 : decode cX13_plan 2 = .ok (.if_icmp .ne 10, 3) := by decide +kernel
theorem dX13_plan_5 : decode cX13_plan 5 = .ok (.aload_n 0, 1) := by decide +kernel
theorem dX13_plan_6 : decode cX13_plan 6 = .ok (.iconst 0, 1) := by decide +kernel
theorem dX13_plan_7 : decode cX13_plan 7 = .ok (.putfield 383, 3) := by decide +kernel
theorem dX13_plan_10 : decode cX13_plan 10 = .ok (.iconst 0, 1) := by decide +kernel
theorem dX13_plan_11 : decode cX13_plan 11 = .ok (.ireturn, 1) := by decide +kernel
theorem dX13_plan_12 : decode cX13_plan 12 = .ok (.iload_n 1, 1) := by decide +kernel
theorem dX13_plan_13 : decode cX13_plan 13 = .ok (.ifCond .ne 11, 3) := by decide +kernel
theorem dX13_plan_16 : decode cX13_plan 16 = .ok (.aload_n 0, 1) := by decide +kernel
theorem dX13_plan_17 : decode cX13_plan 17 = .ok (.iload_n 2, 1) := by decide +kernel
theorem dX13_plan_18 : decode cX13_plan 18 = .ok (.invokevirtual 260, 3) := by decide +kernel
theorem dX13_plan_21 : decode cX13_plan 21 = .ok (.ifCond .ne 37, 3) := by decide +kernel
theorem dX13_plan_24 : decode cX13_plan 24 = .ok (.iload_n 1, 1) := by decide +kernel
theorem dX13_plan_25 : decode cX13_plan 25 = .ok (.iconst 1, 1) := by decide +kernel
theorem dX13_plan_26 : decode cX13_plan 26 = .ok (.if_icmp .ne 10, 3) := by decide +kernel
theorem dX13_plan_29 : decode cX13_plan 29 = .ok (.iload_n 2, 1) := by decide +kernel
theorem dX13_plan_30 : decode cX13_plan 30 = .ok (.invokestatic 372, 3) := by decide +kernel
theorem dX13_plan_33 : decode cX13_plan 33 = .ok (.ifCond .ne 25, 3) := by decide +kernel
theorem dX13_plan_36 : decode cX13_plan 36 = .ok (.iload_n 1, 1) := by decide +kernel
theorem dX13_plan_37 : decode cX13_plan 37 = .ok (.iconst 2, 1) := by decide +kernel
theorem dX13_plan_38 : decode cX13_plan 38 = .ok (.if_icmp .ne 15, 3) := by decide +kernel
theorem dX13_plan_41 : decode cX13_plan 41 = .ok (.iload_n 2, 1) := by decide +kernel
theorem dX13_plan_42 : decode cX13_plan 42 = .ok (.i2l, 1) := by decide +kernel
theorem dX13_plan_43 : decode cX13_plan 43 = .ok (.lconst 0, 1) := by decide +kernel
theorem dX13_plan_44 : decode cX13_plan 44 = .ok (.ldc2_w 263, 3) := by decide +kernel
theorem dX13_plan_47 : decode cX13_plan 47 = .ok (.invokestatic 177, 3) := by decide +kernel
theorem dX13_plan_50 : decode cX13_plan 50 = .ok (.ifCond .ne 8, 3) := by decide +kernel
theorem dX13_plan_53 : decode cX13_plan 53 = .ok (.iload_n 1, 1) := by decide +kernel
theorem dX13_plan_54 : decode cX13_plan 54 = .ok (.iconst 3, 1) := by decide +kernel
theorem dX13_plan_55 : decode cX13_plan 55 = .ok (.if_icmp .ne 7, 3) := by decide +kernel
theorem dX13_plan_58 : decode cX13_plan 58 = .ok (.iconst 1, 1) := by decide +kernel
theorem dX13_plan_59 : decode cX13_plan 59 = .ok (.goto 4, 3) := by decide +kernel
theorem dX13_plan_62 : decode cX13_plan 62 = .ok (.iconst 0, 1) := by decide +kernel
theorem dX13_plan_63 : decode cX13_plan 63 = .ok (.istore_n 3, 1) := by decide +kernel
theorem dX13_plan_64 : decode cX13_plan 64 = .ok (.iload_n 3, 1) := by decide +kernel
theorem dX13_plan_65 : decode cX13_plan 65 = .ok (.ifCond .ne 5, 3) := by decide +kernel
theorem dX13_plan_68 : decode cX13_plan 68 = .ok (.iconst (-1), 1) := by decide +kernel
theorem dX13_plan_69 : decode cX13_plan 69 = .ok (.ireturn, 1) := by decide +kernel
theorem dX13_plan_70 : decode cX13_plan 70 = .ok (.aload_n 0, 1) := by decide +kernel
theorem dX13_plan_71 : decode cX13_plan 71 = .ok (.getfield 383, 3) := by decide +kernel
theorem dX13_plan_74 : decode cX13_plan 74 = .ok (.bipush 10, 2) := by decide +kernel
theorem dX13_plan_76 : decode cX13_plan 76 = .ok (.if_icmp .ne 6, 3) := by decide +kernel
theorem dX13_plan_79 : decode cX13_plan 79 = .ok (.bipush (-4), 2) := by decide +kernel
theorem dX13_plan_81 : decode cX13_plan 81 = .ok (.ireturn, 1) := by decide +kernel
theorem dX13_plan_82 : decode cX13_plan 82 = .ok (.aload_n 0, 1) := by decide +kernel
theorem dX13_plan_83 : decode cX13_plan 83 = .ok (.getfield 147, 3) := by decide +kernel
theorem dX13_plan_86 : decode cX13_plan 86 = .ok (.iconst 2, 1) := by decide +kernel
theorem dX13_plan_87 : decode cX13_plan 87 = .ok (.aload_n 0, 1) := by decide +kernel
theorem dX13_plan_88 : decode cX13_plan 88 = .ok (.getfield 383, 3) := by decide +kernel
theorem dX13_plan_91 : decode cX13_plan 91 = .ok (.imul, 1) := by decide +kernel
theorem dX13_plan_92 : decode cX13_plan 92 = .ok (.iload_n 1, 1) := by decide +kernel
theorem dX13_plan_93 : decode cX13_plan 93 = .ok (.iastore, 1) := by decide +kernel
theorem dX13_plan_94 : decode cX13_plan 94 = .ok (.aload_n 0, 1) := by decide +kernel
theorem dX13_plan_95 : decode cX13_plan 95 = .ok (.getfield 147, 3) := by decide +kernel
theorem dX13_plan_98 : decode cX13_plan 98 = .ok (.iconst 2, 1) := by decide +kernel
theorem dX13_plan_99 : decode cX13_plan 99 = .ok (.aload_n 0, 1) := by decide +kernel
theorem dX13_plan_100 : decode cX13_plan 100 = .ok (.getfield 383, 3) := by decide +kernel
theorem dX13_plan_103 : decode cX13_plan 103 = .ok (.imul, 1) := by decide +kernel
theorem dX13_plan_104 : decode cX13_plan 104 = .ok (.iconst 1, 1) := by decide +kernel
theorem dX13_plan_105 : decode cX13_plan 105 = .ok (.iadd, 1) := by decide +kernel
theorem dX13_plan_106 : decode cX13_plan 106 = .ok (.iload_n 2, 1) := by decide +kernel
theorem dX13_plan_107 : decode cX13_plan 107 = .ok (.iastore, 1) := by decide +kernel
theorem dX13_plan_108 : decode cX13_plan 108 = .ok (.aload_n 0, 1) := by decide +kernel
theorem dX13_plan_109 : decode cX13_plan 109 = .ok (.dup, 1) := by decide +kernel
theorem dX13_plan_110 : decode cX13_plan 110 = .ok (.getfield 383, 3) := by decide +kernel
theorem dX13_plan_113 : decode cX13_plan 113 = .ok (.iconst 1, 1) := by decide +kernel
theorem dX13_plan_114 : decode cX13_plan 114 = .ok (.iadd, 1) := by decide +kernel
theorem dX13_plan_115 : decode cX13_plan 115 = .ok (.putfield 383, 3) := by decide +kernel
theorem dX13_plan_118 : decode cX13_plan 118 = .ok (.aload_n 0, 1) := by decide +kernel
theorem dX13_plan_119 : decode cX13_plan 119 = .ok (.getfield 383, 3) := by decide +kernel
theorem dX13_plan_122 : decode cX13_plan 122 = .ok (.ireturn, 1) := by decide +kernel
theorem dX13_ends_0 : decode cX13_ends 0 = .ok (.iload_n 1, 1) := by decide +kernel
theorem dX13_ends_1 : decode cX13_ends 1 = .ok (.invokestatic 372, 3) := by decide +kernel
theorem dX13_ends_4 : decode cX13_ends 4 = .ok (.ifCond .ne 7, 3) := by decide +kernel
theorem dX13_ends_7 : decode cX13_ends 7 = .ok (.ldc2_w 267, 3) := by decide +kernel
theorem dX13_ends_10 : decode cX13_ends 10 = .ok (.lreturn, 1) := by decide +kernel
theorem dX13_ends_11 : decode cX13_ends 11 = .ok (.aload_n 0, 1) := by decide +kernel
theorem dX13_ends_12 : decode cX13_ends 12 = .ok (.getfield 79, 3) := by decide +kernel
theorem dX13_ends_15 : decode cX13_ends 15 = .ok (.aload_n 0, 1) := by decide +kernel
theorem dX13_ends_16 : decode cX13_ends 16 = .ok (.getfield 153, 3) := by decide +kernel
theorem dX13_ends_19 : decode cX13_ends 19 = .ok (.invokestatic 336, 3) := by decide +kernel
theorem dX13_ends_22 : decode cX13_ends 22 = .ok (.aload_n 0, 1) := by decide +kernel
theorem dX13_ends_23 : decode cX13_ends 23 = .ok (.getfield 82, 3) := by decide +kernel
theorem dX13_ends_26 : decode cX13_ends 26 = .ok (.aload_n 0, 1) := by decide +kernel
theorem dX13_ends_27 : decode cX13_ends 27 = .ok (.getfield 156, 3) := by decide +kernel
theorem dX13_ends_30 : decode cX13_ends 30 = .ok (.invokestatic 336, 3) := by decide +kernel
theorem dX13_ends_33 : decode cX13_ends 33 = .ok (.aload_n 0, 1) := by decide +kernel
theorem dX13_ends_34 : decode cX13_ends 34 = .ok (.getfield 85, 3) := by decide +kernel
theorem dX13_ends_37 : decode cX13_ends 37 = .ok (.istore_n 2, 1) := by decide +kernel
theorem dX13_ends_38 : decode cX13_ends 38 = .ok (.iconst 0, 1) := by decide +kernel
theorem dX13_ends_39 : decode cX13_ends 39 = .ok (.istore_n 3, 1) := by decide +kernel
theorem dX13_ends_40 : decode cX13_ends 40 = .ok (.iload_n 3, 1) := by decide +kernel
theorem dX13_ends_41 : decode cX13_ends 41 = .ok (.aload_n 0, 1) := by decide +kernel
theorem dX13_ends_42 : decode cX13_ends 42 = .ok (.getfield 383, 3) := by decide +kernel
theorem dX13_ends_45 : decode cX13_ends 45 = .ok (.if_icmp .ge 94, 3) := by decide +kernel
theorem dX13_ends_48 : decode cX13_ends 48 = .ok (.aload_n 0, 1) := by decide +kernel
theorem dX13_ends_49 : decode cX13_ends 49 = .ok (.getfield 147, 3) := by decide +kernel
theorem dX13_ends_52 : decode cX13_ends 52 = .ok (.iconst 2, 1) := by decide +kernel
theorem dX13_ends_53 : decode cX13_ends 53 = .ok (.iload_n 3, 1) := by decide +kernel
theorem dX13_ends_54 : decode cX13_ends 54 = .ok (.imul, 1) := by decide +kernel
theorem dX13_ends_55 : decode cX13_ends 55 = .ok (.iconst 1, 1) := by decide +kernel
theorem dX13_ends_56 : decode cX13_ends 56 = .ok (.iadd, 1) := by decide +kernel
theorem dX13_ends_57 : decode cX13_ends 57 = .ok (.iaload, 1) := by decide +kernel
theorem dX13_ends_58 : decode cX13_ends 58 = .ok (.istore 4, 2) := by decide +kernel
theorem dX13_ends_60 : decode cX13_ends 60 = .ok (.aload_n 0, 1) := by decide +kernel
theorem dX13_ends_61 : decode cX13_ends 61 = .ok (.getfield 147, 3) := by decide +kernel
theorem dX13_ends_64 : decode cX13_ends 64 = .ok (.iconst 2, 1) := by decide +kernel
theorem dX13_ends_65 : decode cX13_ends 65 = .ok (.iload_n 3, 1) := by decide +kernel
theorem dX13_ends_66 : decode cX13_ends 66 = .ok (.imul, 1) := by decide +kernel
theorem dX13_ends_67 : decode cX13_ends 67 = .ok (.iaload, 1) := by decide +kernel
theorem dX13_ends_68 : decode cX13_ends 68 = .ok (.ifCond .ne 12, 3) := by decide +kernel
theorem dX13_ends_71 : decode cX13_ends 71 = .ok (.aload_n 0, 1) := by decide +kernel
theorem dX13_ends_72 : decode cX13_ends 72 = .ok (.iload 4, 2) := by decide +kernel
theorem dX13_ends_74 : decode cX13_ends 74 = .ok (.invokevirtual 332, 3) := by decide +kernel
theorem dX13_ends_77 : decode cX13_ends 77 = .ok (.goto 56, 3) := by decide +kernel
theorem dX13_ends_80 : decode cX13_ends 80 = .ok (.aload_n 0, 1) := by decide +kernel
theorem dX13_ends_81 : decode cX13_ends 81 = .ok (.getfield 147, 3) := by decide +kernel
theorem dX13_ends_84 : decode cX13_ends 84 = .ok (.iconst 2, 1) := by decide +kernel
theorem dX13_ends_85 : decode cX13_ends 85 = .ok (.iload_n 3, 1) := by decide +kernel
theorem dX13_ends_86 : decode cX13_ends 86 = .ok (.imul, 1) := by decide +kernel
theorem dX13_ends_87 : decode cX13_ends 87 = .ok (.iaload, 1) := by decide +kernel
theorem dX13_ends_88 : decode cX13_ends 88 = .ok (.iconst 1, 1) := by decide +kernel
theorem dX13_ends_89 : decode cX13_ends 89 = .ok (.if_icmp .ne 14, 3) := by decide +kernel
theorem dX13_ends_92 : decode cX13_ends 92 = .ok (.aload_n 0, 1) := by decide +kernel
theorem dX13_ends_93 : decode cX13_ends 93 = .ok (.getfield 79, 3) := by decide +kernel
theorem dX13_ends_96 : decode cX13_ends 96 = .ok (.iload 4, 2) := by decide +kernel
theorem dX13_ends_98 : decode cX13_ends 98 = .ok (.iconst 0, 1) := by decide +kernel
theorem dX13_ends_99 : decode cX13_ends 99 = .ok (.iastore, 1) := by decide +kernel
theorem dX13_ends_100 : decode cX13_ends 100 = .ok (.goto 33, 3) := by decide +kernel
theorem dX13_ends_103 : decode cX13_ends 103 = .ok (.aload_n 0, 1) := by decide +kernel
theorem dX13_ends_104 : decode cX13_ends 104 = .ok (.getfield 147, 3) := by decide +kernel
theorem dX13_ends_107 : decode cX13_ends 107 = .ok (.iconst 2, 1) := by decide +kernel
theorem dX13_ends_108 : decode cX13_ends 108 = .ok (.iload_n 3, 1) := by decide +kernel
theorem dX13_ends_109 : decode cX13_ends 109 = .ok (.imul, 1) := by decide +kernel
theorem dX13_ends_110 : decode cX13_ends 110 = .ok (.iaload, 1) := by decide +kernel
theorem dX13_ends_111 : decode cX13_ends 111 = .ok (.iconst 2, 1) := by decide +kernel
theorem dX13_ends_112 : decode cX13_ends 112 = .ok (.if_icmp .ne 15, 3) := by decide +kernel
theorem dX13_ends_115 : decode cX13_ends 115 = .ok (.aload_n 0, 1) := by decide +kernel
theorem dX13_ends_116 : decode cX13_ends 116 = .ok (.getfield 82, 3) := by decide +kernel
theorem dX13_ends_119 : decode cX13_ends 119 = .ok (.iload 4, 2) := by decide +kernel
theorem dX13_ends_121 : decode cX13_ends 121 = .ok (.bipush (-5), 2) := by decide +kernel
theorem dX13_ends_123 : decode cX13_ends 123 = .ok (.iastore, 1) := by decide +kernel
theorem dX13_ends_124 : decode cX13_ends 124 = .ok (.goto 9, 3) := by decide +kernel
theorem dX13_ends_127 : decode cX13_ends 127 = .ok (.aload_n 0, 1) := by decide +kernel
theorem dX13_ends_128 : decode cX13_ends 128 = .ok (.bipush (-5), 2) := by decide +kernel
theorem dX13_ends_130 : decode cX13_ends 130 = .ok (.putfield 85, 3) := by decide +kernel
theorem dX13_ends_133 : decode cX13_ends 133 = .ok (.iinc 3 1, 3) := by decide +kernel
theorem dX13_ends_136 : decode cX13_ends 136 = .ok (.goto (-96), 3) := by decide +kernel
theorem dX13_ends_139 : decode cX13_ends 139 = .ok (.aload_n 0, 1) := by decide +kernel
theorem dX13_ends_140 : decode cX13_ends 140 = .ok (.getfield 79, 3) := by decide +kernel
theorem dX13_ends_143 : decode cX13_ends 143 = .ok (.iload_n 1, 1) := by decide +kernel
theorem dX13_ends_144 : decode cX13_ends 144 = .ok (.iaload, 1) := by decide +kernel
theorem dX13_ends_145 : decode cX13_ends 145 = .ok (.i2l, 1) := by decide +kernel
theorem dX13_ends_146 : decode cX13_ends 146 = .ok (.lstore_n 3, 1) := by decide +kernel
theorem dX13_ends_147 : decode cX13_ends 147 = .ok (.aload_n 0, 1) := by decide +kernel
theorem dX13_ends_148 : decode cX13_ends 148 = .ok (.getfield 153, 3) := by decide +kernel
theorem dX13_ends_151 : decode cX13_ends 151 = .ok (.aload_n 0, 1) := by decide +kernel
theorem dX13_ends_152 : decode cX13_ends 152 = .ok (.getfield 79, 3) := by decide +kernel
theorem dX13_ends_155 : decode cX13_ends 155 = .ok (.invokestatic 336, 3) := by decide +kernel
theorem dX13_ends_158 : decode cX13_ends 158 = .ok (.aload_n 0, 1) := by decide +kernel
theorem dX13_ends_159 : decode cX13_ends 159 = .ok (.getfield 156, 3) := by decide +kernel
theorem dX13_ends_162 : decode cX13_ends 162 = .ok (.aload_n 0, 1) := by decide +kernel
theorem dX13_ends_163 : decode cX13_ends 163 = .ok (.getfield 82, 3) := by decide +kernel
theorem dX13_ends_166 : decode cX13_ends 166 = .ok (.invokestatic 336, 3) := by decide +kernel
theorem dX13_ends_169 : decode cX13_ends 169 = .ok (.aload_n 0, 1) := by decide +kernel
theorem dX13_ends_170 : decode cX13_ends 170 = .ok (.iload_n 2, 1) := by decide +kernel
theorem dX13_ends_171 : decode cX13_ends 171 = .ok (.putfield 85, 3) := by decide +kernel
theorem dX13_ends_174 : decode cX13_ends 174 = .ok (.lload_n 3, 1) := by decide +kernel
theorem dX13_ends_175 : decode cX13_ends 175 = .ok (.lreturn, 1) := by decide +kernel
theorem dX13_book_0 : decode cX13_book 0 = .ok (.iload_n 1, 1) := by decide +kernel
theorem dX13_book_1 : decode cX13_book 1 = .ok (.iconst (-1), 1) := by decide +kernel
theorem dX13_book_2 : decode cX13_book 2 = .ok (.if_icmp .ne 10, 3) := by decide +kernel
theorem dX13_book_5 : decode cX13_book 5 = .ok (.aload_n 0, 1) := by decide +kernel
theorem dX13_book_6 : decode cX13_book 6 = .ok (.iconst 0, 1) := by decide +kernel
theorem dX13_book_7 : decode cX13_book 7 = .ok (.putfield 386, 3) := by decide +kernel
theorem dX13_book_10 : decode cX13_book 10 = .ok (.iconst 0, 1) := by decide +kernel
theorem dX13_book_11 : decode cX13_book 11 = .ok (.ireturn, 1) := by decide +kernel
theorem dX13_book_12 : decode cX13_book 12 = .ok (.iload_n 1, 1) := by decide +kernel
theorem dX13_book_13 : decode cX13_book 13 = .ok (.invokestatic 372, 3) := by decide +kernel
theorem dX13_book_16 : decode cX13_book 16 = .ok (.ifCond .ne 5, 3) := by decide +kernel
theorem dX13_book_19 : decode cX13_book 19 = .ok (.iconst (-1), 1) := by decide +kernel
theorem dX13_book_20 : decode cX13_book 20 = .ok (.ireturn, 1) := by decide +kernel
theorem dX13_book_21 : decode cX13_book 21 = .ok (.aload_n 0, 1) := by decide +kernel
theorem dX13_book_22 : decode cX13_book 22 = .ok (.getfield 386, 3) := by decide +kernel
theorem dX13_book_25 : decode cX13_book 25 = .ok (.bipush 8, 2) := by decide +kernel
theorem dX13_book_27 : decode cX13_book 27 = .ok (.if_icmp .ne 6, 3) := by decide +kernel
theorem dX13_book_30 : decode cX13_book 30 = .ok (.bipush (-4), 2) := by decide +kernel
theorem dX13_book_32 : decode cX13_book 32 = .ok (.ireturn, 1) := by decide +kernel
theorem dX13_book_33 : decode cX13_book 33 = .ok (.aload_n 0, 1) := by decide +kernel
theorem dX13_book_34 : decode cX13_book 34 = .ok (.getfield 150, 3) := by decide +kernel
theorem dX13_book_37 : decode cX13_book 37 = .ok (.iconst 2, 1) := by decide +kernel
theorem dX13_book_38 : decode cX13_book 38 = .ok (.aload_n 0, 1) := by decide +kernel
theorem dX13_book_39 : decode cX13_book 39 = .ok (.getfield 386, 3) := by decide +kernel
theorem dX13_book_42 : decode cX13_book 42 = .ok (.imul, 1) := by decide +kernel
theorem dX13_book_43 : decode cX13_book 43 = .ok (.iload_n 1, 1) := by decide +kernel
theorem dX13_book_44 : decode cX13_book 44 = .ok (.iastore, 1) := by decide +kernel
theorem dX13_book_45 : decode cX13_book 45 = .ok (.aload_n 0, 1) := by decide +kernel
theorem dX13_book_46 : decode cX13_book 46 = .ok (.getfield 150, 3) := by decide +kernel
theorem dX13_book_49 : decode cX13_book 49 = .ok (.iconst 2, 1) := by decide +kernel
theorem dX13_book_50 : decode cX13_book 50 = .ok (.aload_n 0, 1) := by decide +kernel
theorem dX13_book_51 : decode cX13_book 51 = .ok (.getfield 386, 3) := by decide +kernel
theorem dX13_book_54 : decode cX13_book 54 = .ok (.imul, 1) := by decide +kernel
theorem dX13_book_55 : decode cX13_book 55 = .ok (.iconst 1, 1) := by decide +kernel
theorem dX13_book_56 : decode cX13_book 56 = .ok (.iadd, 1) := by decide +kernel
theorem dX13_book_57 : decode cX13_book 57 = .ok (.iload_n 2, 1) := by decide +kernel
theorem dX13_book_58 : decode cX13_book 58 = .ok (.iastore, 1) := by decide +kernel
theorem dX13_book_59 : decode cX13_book 59 = .ok (.aload_n 0, 1) := by decide +kernel
theorem dX13_book_60 : decode cX13_book 60 = .ok (.dup, 1) := by decide +kernel
theorem dX13_book_61 : decode cX13_book 61 = .ok (.getfield 386, 3) := by decide +kernel
theorem dX13_book_64 : decode cX13_book 64 = .ok (.iconst 1, 1) := by decide +kernel
theorem dX13_book_65 : decode cX13_book 65 = .ok (.iadd, 1) := by decide +kernel
theorem dX13_book_66 : decode cX13_book 66 = .ok (.putfield 386, 3) := by decide +kernel
theorem dX13_book_69 : decode cX13_book 69 = .ok (.aload_n 0, 1) := by decide +kernel
theorem dX13_book_70 : decode cX13_book 70 = .ok (.getfield 386, 3) := by decide +kernel
theorem dX13_book_73 : decode cX13_book 73 = .ok (.ireturn, 1) := by decide +kernel
theorem dX13_looked_0 : decode cX13_looked 0 = .ok (.iconst 0, 1) := by decide +kernel
theorem dX13_looked_1 : decode cX13_looked 1 = .ok (.istore_n 1, 1) := by decide +kernel
theorem dX13_looked_2 : decode cX13_looked 2 = .ok (.iload_n 1, 1) := by decide +kernel
theorem dX13_looked_3 : decode cX13_looked 3 = .ok (.aload_n 0, 1) := by decide +kernel
theorem dX13_looked_4 : decode cX13_looked 4 = .ok (.getfield 386, 3) := by decide +kernel
theorem dX13_looked_7 : decode cX13_looked 7 = .ok (.if_icmp .ge 37, 3) := by decide +kernel
theorem dX13_looked_10 : decode cX13_looked 10 = .ok (.aload_n 0, 1) := by decide +kernel
theorem dX13_looked_11 : decode cX13_looked 11 = .ok (.getfield 79, 3) := by decide +kernel
theorem dX13_looked_14 : decode cX13_looked 14 = .ok (.aload_n 0, 1) := by decide +kernel
theorem dX13_looked_15 : decode cX13_looked 15 = .ok (.getfield 150, 3) := by decide +kernel
theorem dX13_looked_18 : decode cX13_looked 18 = .ok (.iconst 2, 1) := by decide +kernel
theorem dX13_looked_19 : decode cX13_looked 19 = .ok (.iload_n 1, 1) := by decide +kernel
theorem dX13_looked_20 : decode cX13_looked 20 = .ok (.imul, 1) := by decide +kernel
theorem dX13_looked_21 : decode cX13_looked 21 = .ok (.iaload, 1) := by decide +kernel
theorem dX13_looked_22 : decode cX13_looked 22 = .ok (.iaload, 1) := by decide +kernel
theorem dX13_looked_23 : decode cX13_looked 23 = .ok (.aload_n 0, 1) := by decide +kernel
theorem dX13_looked_24 : decode cX13_looked 24 = .ok (.getfield 150, 3) := by decide +kernel
theorem dX13_looked_27 : decode cX13_looked 27 = .ok (.iconst 2, 1) := by decide +kernel
theorem dX13_looked_28 : decode cX13_looked 28 = .ok (.iload_n 1, 1) := by decide +kernel
theorem dX13_looked_29 : decode cX13_looked 29 = .ok (.imul, 1) := by decide +kernel
theorem dX13_looked_30 : decode cX13_looked 30 = .ok (.iconst 1, 1) := by decide +kernel
theorem dX13_looked_31 : decode cX13_looked 31 = .ok (.iadd, 1) := by decide +kernel
theorem dX13_looked_32 : decode cX13_looked 32 = .ok (.iaload, 1) := by decide +kernel
theorem dX13_looked_33 : decode cX13_looked 33 = .ok (.if_icmp .eq 5, 3) := by decide +kernel
theorem dX13_looked_36 : decode cX13_looked 36 = .ok (.iload_n 1, 1) := by decide +kernel
theorem dX13_looked_37 : decode cX13_looked 37 = .ok (.ireturn, 1) := by decide +kernel
theorem dX13_looked_38 : decode cX13_looked 38 = .ok (.iinc 1 1, 3) := by decide +kernel
theorem dX13_looked_41 : decode cX13_looked 41 = .ok (.goto (-39), 3) := by decide +kernel
theorem dX13_looked_44 : decode cX13_looked 44 = .ok (.bipush (-5), 2) := by decide +kernel
theorem dX13_looked_46 : decode cX13_looked 46 = .ok (.ireturn, 1) := by decide +kernel
theorem dX13_row_0 : decode cX13_row 0 = .ok (.iconst 0, 1) := by decide +kernel
theorem dX13_row_1 : decode cX13_row 1 = .ok (.istore 5, 2) := by decide +kernel
theorem dX13_row_3 : decode cX13_row 3 = .ok (.iload 5, 2) := by decide +kernel
theorem dX13_row_5 : decode cX13_row 5 = .ok (.iload_n 2, 1) := by decide +kernel
theorem dX13_row_6 : decode cX13_row 6 = .ok (.if_icmp .ge 43, 3) := by decide +kernel
theorem dX13_row_9 : decode cX13_row 9 = .ok (.iload 4, 2) := by decide +kernel
theorem dX13_row_11 : decode cX13_row 11 = .ok (.ifCond .eq 19, 3) := by decide +kernel
theorem dX13_row_14 : decode cX13_row 14 = .ok (.aload_n 1, 1) := by decide +kernel
theorem dX13_row_15 : decode cX13_row 15 = .ok (.iload 5, 2) := by decide +kernel
theorem dX13_row_17 : decode cX13_row 17 = .ok (.aload_n 0, 1) := by decide +kernel
theorem dX13_row_18 : decode cX13_row 18 = .ok (.getfield 159, 3) := by decide +kernel
theorem dX13_row_21 : decode cX13_row 21 = .ok (.iload_n 3, 1) := by decide +kernel
theorem dX13_row_22 : decode cX13_row 22 = .ok (.iload 5, 2) := by decide +kernel
theorem dX13_row_24 : decode cX13_row 24 = .ok (.iadd, 1) := by decide +kernel
theorem dX13_row_25 : decode cX13_row 25 = .ok (.iaload, 1) := by decide +kernel
theorem dX13_row_26 : decode cX13_row 26 = .ok (.iastore, 1) := by decide +kernel
theorem dX13_row_27 : decode cX13_row 27 = .ok (.goto 16, 3) := by decide +kernel
theorem dX13_row_30 : decode cX13_row 30 = .ok (.aload_n 0, 1) := by decide +kernel
theorem dX13_row_31 : decode cX13_row 31 = .ok (.getfield 159, 3) := by decide +kernel
theorem dX13_row_34 : decode cX13_row 34 = .ok (.iload_n 3, 1) := by decide +kernel
theorem dX13_row_35 : decode cX13_row 35 = .ok (.iload 5, 2) := by decide +kernel
theorem dX13_row_37 : decode cX13_row 37 = .ok (.iadd, 1) := by decide +kernel
theorem dX13_row_38 : decode cX13_row 38 = .ok (.aload_n 1, 1) := by decide +kernel
theorem dX13_row_39 : decode cX13_row 39 = .ok (.iload 5, 2) := by decide +kernel
theorem dX13_row_41 : decode cX13_row 41 = .ok (.iaload, 1) := by decide +kernel
theorem dX13_row_42 : decode cX13_row 42 = .ok (.iastore, 1) := by decide +kernel
theorem dX13_row_43 : decode cX13_row 43 = .ok (.iinc 5 1, 3) := by decide +kernel
theorem dX13_row_46 : decode cX13_row 46 = .ok (.goto (-43), 3) := by decide +kernel
theorem dX13_row_49 : decode cX13_row 49 = .ok (.iload_n 3, 1) := by decide +kernel
theorem dX13_row_50 : decode cX13_row 50 = .ok (.iload_n 2, 1) := by decide +kernel
theorem dX13_row_51 : decode cX13_row 51 = .ok (.iadd, 1) := by decide +kernel
theorem dX13_row_52 : decode cX13_row 52 = .ok (.ireturn, 1) := by decide +kernel
theorem dX13_carries_0 : decode cX13_carries 0 = .ok (.aload_n 0, 1) := by decide +kernel
theorem dX13_carries_1 : decode cX13_carries 1 = .ok (.aload_n 0, 1) := by decide +kernel
theorem dX13_carries_2 : decode cX13_carries 2 = .ok (.getfield 79, 3) := by decide +kernel
theorem dX13_carries_5 : decode cX13_carries 5 = .ok (.iconst 5, 1) := by decide +kernel
theorem dX13_carries_6 : decode cX13_carries 6 = .ok (.iconst 0, 1) := by decide +kernel
theorem dX13_carries_7 : decode cX13_carries 7 = .ok (.iload_n 1, 1) := by decide +kernel
theorem dX13_carries_8 : decode cX13_carries 8 = .ok (.invokevirtual 389, 3) := by decide +kernel
theorem dX13_carries_11 : decode cX13_carries 11 = .ok (.istore_n 2, 1) := by decide +kernel
theorem dX13_carries_12 : decode cX13_carries 12 = .ok (.aload_n 0, 1) := by decide +kernel
theorem dX13_carries_13 : decode cX13_carries 13 = .ok (.aload_n 0, 1) := by decide +kernel
theorem dX13_carries_14 : decode cX13_carries 14 = .ok (.getfield 82, 3) := by decide +kernel
theorem dX13_carries_17 : decode cX13_carries 17 = .ok (.iconst 3, 1) := by decide +kernel
theorem dX13_carries_18 : decode cX13_carries 18 = .ok (.iload_n 2, 1) := by decide +kernel
theorem dX13_carries_19 : decode cX13_carries 19 = .ok (.iload_n 1, 1) := by decide +kernel
theorem dX13_carries_20 : decode cX13_carries 20 = .ok (.invokevirtual 389, 3) := by decide +kernel
theorem dX13_carries_23 : decode cX13_carries 23 = .ok (.istore_n 2, 1) := by decide +kernel
theorem dX13_carries_24 : decode cX13_carries 24 = .ok (.aload_n 0, 1) := by decide +kernel
theorem dX13_carries_25 : decode cX13_carries 25 = .ok (.aload_n 0, 1) := by decide +kernel
theorem dX13_carries_26 : decode cX13_carries 26 = .ok (.getfield 120, 3) := by decide +kernel
theorem dX13_carries_29 : decode cX13_carries 29 = .ok (.bipush 60, 2) := by decide +kernel
theorem dX13_carries_31 : decode cX13_carries 31 = .ok (.iload_n 2, 1) := by decide +kernel
theorem dX13_carries_32 : decode cX13_carries 32 = .ok (.iload_n 1, 1) := by decide +kernel
theorem dX13_carries_33 : decode cX13_carries 33 = .ok (.invokevirtual 389, 3) := by decide +kernel
theorem dX13_carries_36 : decode cX13_carries 36 = .ok (.istore_n 2, 1) := by decide +kernel
theorem dX13_carries_37 : decode cX13_carries 37 = .ok (.aload_n 0, 1) := by decide +kernel
theorem dX13_carries_38 : decode cX13_carries 38 = .ok (.aload_n 0, 1) := by decide +kernel
theorem dX13_carries_39 : decode cX13_carries 39 = .ok (.getfield 141, 3) := by decide +kernel
theorem dX13_carries_42 : decode cX13_carries 42 = .ok (.bipush 10, 2) := by decide +kernel
theorem dX13_carries_44 : decode cX13_carries 44 = .ok (.iload_n 2, 1) := by decide +kernel
theorem dX13_carries_45 : decode cX13_carries 45 = .ok (.iload_n 1, 1) := by decide +kernel
theorem dX13_carries_46 : decode cX13_carries 46 = .ok (.invokevirtual 389, 3) := by decide +kernel
theorem dX13_carries_49 : decode cX13_carries 49 = .ok (.istore_n 2, 1) := by decide +kernel
theorem dX13_carries_50 : decode cX13_carries 50 = .ok (.aload_n 0, 1) := by decide +kernel
theorem dX13_carries_51 : decode cX13_carries 51 = .ok (.aload_n 0, 1) := by decide +kernel
theorem dX13_carries_52 : decode cX13_carries 52 = .ok (.getfield 147, 3) := by decide +kernel
theorem dX13_carries_55 : decode cX13_carries 55 = .ok (.bipush 20, 2) := by decide +kernel
theorem dX13_carries_57 : decode cX13_carries 57 = .ok (.iload_n 2, 1) := by decide +kernel
theorem dX13_carries_58 : decode cX13_carries 58 = .ok (.iload_n 1, 1) := by decide +kernel
theorem dX13_carries_59 : decode cX13_carries 59 = .ok (.invokevirtual 389, 3) := by decide +kernel
theorem dX13_carries_62 : decode cX13_carries 62 = .ok (.istore_n 2, 1) := by decide +kernel
theorem dX13_carries_63 : decode cX13_carries 63 = .ok (.aload_n 0, 1) := by decide +kernel
theorem dX13_carries_64 : decode cX13_carries 64 = .ok (.aload_n 0, 1) := by decide +kernel
theorem dX13_carries_65 : decode cX13_carries 65 = .ok (.getfield 150, 3) := by decide +kernel
theorem dX13_carries_68 : decode cX13_carries 68 = .ok (.bipush 16, 2) := by decide +kernel
theorem dX13_carries_70 : decode cX13_carries 70 = .ok (.iload_n 2, 1) := by decide +kernel
theorem dX13_carries_71 : decode cX13_carries 71 = .ok (.iload_n 1, 1) := by decide +kernel
theorem dX13_carries_72 : decode cX13_carries 72 = .ok (.invokevirtual 389, 3) := by decide +kernel
theorem dX13_carries_75 : decode cX13_carries 75 = .ok (.istore_n 2, 1) := by decide +kernel
theorem dX13_carries_76 : decode cX13_carries 76 = .ok (.aload_n 0, 1) := by decide +kernel
theorem dX13_carries_77 : decode cX13_carries 77 = .ok (.aload_n 0, 1) := by decide +kernel
theorem dX13_carries_78 : decode cX13_carries 78 = .ok (.getfield 162, 3) := by decide +kernel
theorem dX13_carries_81 : decode cX13_carries 81 = .ok (.bipush 7, 2) := by decide +kernel
theorem dX13_carries_83 : decode cX13_carries 83 = .ok (.iload_n 2, 1) := by decide +kernel
theorem dX13_carries_84 : decode cX13_carries 84 = .ok (.iload_n 1, 1) := by decide +kernel
theorem dX13_carries_85 : decode cX13_carries 85 = .ok (.invokevirtual 389, 3) := by decide +kernel
theorem dX13_carries_88 : decode cX13_carries 88 = .ok (.istore_n 2, 1) := by decide +kernel
theorem dX13_carries_89 : decode cX13_carries 89 = .ok (.return_, 1) := by decide +kernel
theorem dX13_image_0 : decode cX13_image 0 = .ok (.aload_n 0, 1) := by decide +kernel
theorem dX13_image_1 : decode cX13_image 1 = .ok (.getfield 162, 3) := by decide +kernel
theorem dX13_image_4 : decode cX13_image 4 = .ok (.iconst 0, 1) := by decide +kernel
theorem dX13_image_5 : decode cX13_image 5 = .ok (.aload_n 0, 1) := by decide +kernel
theorem dX13_image_6 : decode cX13_image 6 = .ok (.getfield 85, 3) := by decide +kernel
theorem dX13_image_9 : decode cX13_image 9 = .ok (.iastore, 1) := by decide +kernel
theorem dX13_image_10 : decode cX13_image 10 = .ok (.aload_n 0, 1) := by decide +kernel
theorem dX13_image_11 : decode cX13_image 11 = .ok (.getfield 162, 3) := by decide +kernel
theorem dX13_image_14 : decode cX13_image 14 = .ok (.iconst 1, 1) := by decide +kernel
theorem dX13_image_15 : decode cX13_image 15 = .ok (.aload_n 0, 1) := by decide +kernel
theorem dX13_image_16 : decode cX13_image 16 = .ok (.getfield 340, 3) := by decide +kernel
theorem dX13_image_19 : decode cX13_image 19 = .ok (.iastore, 1) := by decide +kernel
theorem dX13_image_20 : decode cX13_image 20 = .ok (.aload_n 0, 1) := by decide +kernel
theorem dX13_image_21 : decode cX13_image 21 = .ok (.getfield 162, 3) := by decide +kernel
theorem dX13_image_24 : decode cX13_image 24 = .ok (.iconst 2, 1) := by decide +kernel
theorem dX13_image_25 : decode cX13_image 25 = .ok (.aload_n 0, 1) := by decide +kernel
theorem dX13_image_26 : decode cX13_image 26 = .ok (.getfield 343, 3) := by decide +kernel
theorem dX13_image_29 : decode cX13_image 29 = .ok (.iastore, 1) := by decide +kernel
theorem dX13_image_30 : decode cX13_image 30 = .ok (.aload_n 0, 1) := by decide +kernel
theorem dX13_image_31 : decode cX13_image 31 = .ok (.getfield 162, 3) := by decide +kernel
theorem dX13_image_34 : decode cX13_image 34 = .ok (.iconst 3, 1) := by decide +kernel
theorem dX13_image_35 : decode cX13_image 35 = .ok (.aload_n 0, 1) := by decide +kernel
theorem dX13_image_36 : decode cX13_image 36 = .ok (.getfield 346, 3) := by decide +kernel
theorem dX13_image_39 : decode cX13_image 39 = .ok (.iastore, 1) := by decide +kernel
theorem dX13_image_40 : decode cX13_image 40 = .ok (.aload_n 0, 1) := by decide +kernel
theorem dX13_image_41 : decode cX13_image 41 = .ok (.getfield 162, 3) := by decide +kernel
theorem dX13_image_44 : decode cX13_image 44 = .ok (.iconst 4, 1) := by decide +kernel
theorem dX13_image_45 : decode cX13_image 45 = .ok (.aload_n 0, 1) := by decide +kernel
theorem dX13_image_46 : decode cX13_image 46 = .ok (.getfield 367, 3) := by decide +kernel
theorem dX13_image_49 : decode cX13_image 49 = .ok (.iastore, 1) := by decide +kernel
theorem dX13_image_50 : decode cX13_image 50 = .ok (.aload_n 0, 1) := by decide +kernel
theorem dX13_image_51 : decode cX13_image 51 = .ok (.getfield 162, 3) := by decide +kernel
theorem dX13_image_54 : decode cX13_image 54 = .ok (.iconst 5, 1) := by decide +kernel
theorem dX13_image_55 : decode cX13_image 55 = .ok (.aload_n 0, 1) := by decide +kernel
theorem dX13_image_56 : decode cX13_image 56 = .ok (.getfield 383, 3) := by decide +kernel
theorem dX13_image_59 : decode cX13_image 59 = .ok (.iastore, 1) := by decide +kernel
theorem dX13_image_60 : decode cX13_image 60 = .ok (.aload_n 0, 1) := by decide +kernel
theorem dX13_image_61 : decode cX13_image 61 = .ok (.getfield 162, 3) := by decide +kernel
theorem dX13_image_64 : decode cX13_image 64 = .ok (.bipush 6, 2) := by decide +kernel
theorem dX13_image_66 : decode cX13_image 66 = .ok (.aload_n 0, 1) := by decide +kernel
theorem dX13_image_67 : decode cX13_image 67 = .ok (.getfield 386, 3) := by decide +kernel
theorem dX13_image_70 : decode cX13_image 70 = .ok (.iastore, 1) := by decide +kernel
theorem dX13_image_71 : decode cX13_image 71 = .ok (.aload_n 0, 1) := by decide +kernel
theorem dX13_image_72 : decode cX13_image 72 = .ok (.iconst 0, 1) := by decide +kernel
theorem dX13_image_73 : decode cX13_image 73 = .ok (.invokevirtual 393, 3) := by decide +kernel
theorem dX13_image_76 : decode cX13_image 76 = .ok (.aload_n 0, 1) := by decide +kernel
theorem dX13_image_77 : decode cX13_image 77 = .ok (.iconst 1, 1) := by decide +kernel
theorem dX13_image_78 : decode cX13_image 78 = .ok (.putfield 397, 3) := by decide +kernel
theorem dX13_image_81 : decode cX13_image 81 = .ok (.aload_n 0, 1) := by decide +kernel
theorem dX13_image_82 : decode cX13_image 82 = .ok (.getfield 196, 3) := by decide +kernel
theorem dX13_image_85 : decode cX13_image 85 = .ok (.ireturn, 1) := by decide +kernel
theorem dX13_undo_0 : decode cX13_undo 0 = .ok (.aload_n 0, 1) := by decide +kernel
theorem dX13_undo_1 : decode cX13_undo 1 = .ok (.getfield 397, 3) := by decide +kernel
theorem dX13_undo_4 : decode cX13_undo 4 = .ok (.ifCond .ne 6, 3) := by decide +kernel
theorem dX13_undo_7 : decode cX13_undo 7 = .ok (.bipush (-3), 2) := by decide +kernel
theorem dX13_undo_9 : decode cX13_undo 9 = .ok (.ireturn, 1) := by decide +kernel
theorem dX13_undo_10 : decode cX13_undo 10 = .ok (.aload_n 0, 1) := by decide +kernel
theorem dX13_undo_11 : decode cX13_undo 11 = .ok (.iconst 1, 1) := by decide +kernel
theorem dX13_undo_12 : decode cX13_undo 12 = .ok (.invokevirtual 393, 3) := by decide +kernel
theorem dX13_undo_15 : decode cX13_undo 15 = .ok (.aload_n 0, 1) := by decide +kernel
theorem dX13_undo_16 : decode cX13_undo 16 = .ok (.aload_n 0, 1) := by decide +kernel
theorem dX13_undo_17 : decode cX13_undo 17 = .ok (.getfield 162, 3) := by decide +kernel
theorem dX13_undo_20 : decode cX13_undo 20 = .ok (.iconst 0, 1) := by decide +kernel
theorem dX13_undo_21 : decode cX13_undo 21 = .ok (.iaload, 1) := by decide +kernel
theorem dX13_undo_22 : decode cX13_undo 22 = .ok (.putfield 85, 3) := by decide +kernel
theorem dX13_undo_25 : decode cX13_undo 25 = .ok (.aload_n 0, 1) := by decide +kernel
theorem dX13_undo_26 : decode cX13_undo 26 = .ok (.aload_n 0, 1) := by decide +kernel
theorem dX13_undo_27 : decode cX13_undo 27 = .ok (.getfield 162, 3) := by decide +kernel
theorem dX13_undo_30 : decode cX13_undo 30 = .ok (.iconst 1, 1) := by decide +kernel
theorem dX13_undo_31 : decode cX13_undo 31 = .ok (.iaload, 1) := by decide +kernel
theorem dX13_undo_32 : decode cX13_undo 32 = .ok (.putfield 340, 3) := by decide +kernel
theorem dX13_undo_35 : decode cX13_undo 35 = .ok (.aload_n 0, 1) := by decide +kernel
theorem dX13_undo_36 : decode cX13_undo 36 = .ok (.aload_n 0, 1) := by decide +kernel
theorem dX13_undo_37 : decode cX13_undo 37 = .ok (.getfield 162, 3) := by decide +kernel
theorem dX13_undo_40 : decode cX13_undo 40 = .ok (.iconst 2, 1) := by decide +kernel
theorem dX13_undo_41 : decode cX13_undo 41 = .ok (.iaload, 1) := by decide +kernel
theorem dX13_undo_42 : decode cX13_undo 42 = .ok (.putfield 343, 3) := by decide +kernel
theorem dX13_undo_45 : decode cX13_undo 45 = .ok (.aload_n 0, 1) := by decide +kernel
theorem dX13_undo_46 : decode cX13_undo 46 = .ok (.aload_n 0, 1) := by decide +kernel
theorem dX13_undo_47 : decode cX13_undo 47 = .ok (.getfield 162, 3) := by decide +kernel
theorem dX13_undo_50 : decode cX13_undo 50 = .ok (.iconst 3, 1) := by decide +kernel
theorem dX13_undo_51 : decode cX13_undo 51 = .ok (.iaload, 1) := by decide +kernel
theorem dX13_undo_52 : decode cX13_undo 52 = .ok (.putfield 346, 3) := by decide +kernel
theorem dX13_undo_55 : decode cX13_undo 55 = .ok (.aload_n 0, 1) := by decide +kernel
theorem dX13_undo_56 : decode cX13_undo 56 = .ok (.aload_n 0, 1) := by decide +kernel
theorem dX13_undo_57 : decode cX13_undo 57 = .ok (.getfield 162, 3) := by decide +kernel
theorem dX13_undo_60 : decode cX13_undo 60 = .ok (.iconst 4, 1) := by decide +kernel
theorem dX13_undo_61 : decode cX13_undo 61 = .ok (.iaload, 1) := by decide +kernel
theorem dX13_undo_62 : decode cX13_undo 62 = .ok (.putfield 367, 3) := by decide +kernel
theorem dX13_undo_65 : decode cX13_undo 65 = .ok (.aload_n 0, 1) := by decide +kernel
theorem dX13_undo_66 : decode cX13_undo 66 = .ok (.aload_n 0, 1) := by decide +kernel
theorem dX13_undo_67 : decode cX13_undo 67 = .ok (.getfield 162, 3) := by decide +kernel
theorem dX13_undo_70 : decode cX13_undo 70 = .ok (.iconst 5, 1) := by decide +kernel
theorem dX13_undo_71 : decode cX13_undo 71 = .ok (.iaload, 1) := by decide +kernel
theorem dX13_undo_72 : decode cX13_undo 72 = .ok (.putfield 383, 3) := by decide +kernel
theorem dX13_undo_75 : decode cX13_undo 75 = .ok (.aload_n 0, 1) := by decide +kernel
theorem dX13_undo_76 : decode cX13_undo 76 = .ok (.aload_n 0, 1) := by decide +kernel
theorem dX13_undo_77 : decode cX13_undo 77 = .ok (.getfield 162, 3) := by decide +kernel
theorem dX13_undo_80 : decode cX13_undo 80 = .ok (.bipush 6, 2) := by decide +kernel
theorem dX13_undo_82 : decode cX13_undo 82 = .ok (.iaload, 1) := by decide +kernel
theorem dX13_undo_83 : decode cX13_undo 83 = .ok (.putfield 386, 3) := by decide +kernel
theorem dX13_undo_86 : decode cX13_undo 86 = .ok (.aload_n 0, 1) := by decide +kernel
theorem dX13_undo_87 : decode cX13_undo 87 = .ok (.getfield 196, 3) := by decide +kernel
theorem dX13_undo_90 : decode cX13_undo 90 = .ok (.ireturn, 1) := by decide +kernel
theorem dX13_jobs_0 : decode cX13_jobs 0 = .ok (.iconst 0, 1) := by decide +kernel
theorem dX13_jobs_1 : decode cX13_jobs 1 = .ok (.istore_n 1, 1) := by decide +kernel
theorem dX13_jobs_2 : decode cX13_jobs 2 = .ok (.iconst 0, 1) := by decide +kernel
theorem dX13_jobs_3 : decode cX13_jobs 3 = .ok (.istore_n 2, 1) := by decide +kernel
theorem dX13_jobs_4 : decode cX13_jobs 4 = .ok (.iload_n 2, 1) := by decide +kernel
theorem dX13_jobs_5 : decode cX13_jobs 5 = .ok (.iconst 4, 1) := by decide +kernel
theorem dX13_jobs_6 : decode cX13_jobs 6 = .ok (.if_icmp .ge 26, 3) := by decide +kernel
theorem dX13_jobs_9 : decode cX13_jobs 9 = .ok (.iload_n 1, 1) := by decide +kernel
theorem dX13_jobs_10 : decode cX13_jobs 10 = .ok (.aload_n 0, 1) := by decide +kernel
theorem dX13_jobs_11 : decode cX13_jobs 11 = .ok (.getfield 123, 3) := by decide +kernel
theorem dX13_jobs_14 : decode cX13_jobs 14 = .ok (.iload_n 2, 1) := by decide +kernel
theorem dX13_jobs_15 : decode cX13_jobs 15 = .ok (.iaload, 1) := by decide +kernel
theorem dX13_jobs_16 : decode cX13_jobs 16 = .ok (.ifCond .lt 7, 3) := by decide +kernel
theorem dX13_jobs_19 : decode cX13_jobs 19 = .ok (.iconst 1, 1) := by decide +kernel
theorem dX13_jobs_20 : decode cX13_jobs 20 = .ok (.goto 4, 3) := by decide +kernel
theorem dX13_jobs_23 : decode cX13_jobs 23 = .ok (.iconst 0, 1) := by decide +kernel
theorem dX13_jobs_24 : decode cX13_jobs 24 = .ok (.iadd, 1) := by decide +kernel
theorem dX13_jobs_25 : decode cX13_jobs 25 = .ok (.istore_n 1, 1) := by decide +kernel
theorem dX13_jobs_26 : decode cX13_jobs 26 = .ok (.iinc 2 1, 3) := by decide +kernel
theorem dX13_jobs_29 : decode cX13_jobs 29 = .ok (.goto (-25), 3) := by decide +kernel
theorem dX13_jobs_32 : decode cX13_jobs 32 = .ok (.iload_n 1, 1) := by decide +kernel
theorem dX13_jobs_33 : decode cX13_jobs 33 = .ok (.ireturn, 1) := by decide +kernel
theorem dX13_count_0 : decode cX13_count 0 = .ok (.iload_n 1, 1) := by decide +kernel
theorem dX13_count_1 : decode cX13_count 1 = .ok (.tableswitch 69 0 5 #[39, 44, 49, 54, 59, 64], 39) := by decide +kernel
theorem dX13_count_40 : decode cX13_count 40 = .ok (.aload_n 0, 1) := by decide +kernel
theorem dX13_count_41 : decode cX13_count 41 = .ok (.getfield 196, 3) := by decide +kernel
theorem dX13_count_44 : decode cX13_count 44 = .ok (.ireturn, 1) := by decide +kernel
theorem dX13_count_45 : decode cX13_count 45 = .ok (.aload_n 0, 1) := by decide +kernel
theorem dX13_count_46 : decode cX13_count 46 = .ok (.invokevirtual 401, 3) := by decide +kernel
theorem dX13_count_49 : decode cX13_count 49 = .ok (.ireturn, 1) := by decide +kernel
theorem dX13_count_50 : decode cX13_count 50 = .ok (.aload_n 0, 1) := by decide +kernel
theorem dX13_count_51 : decode cX13_count 51 = .ok (.getfield 367, 3) := by decide +kernel
theorem dX13_count_54 : decode cX13_count 54 = .ok (.ireturn, 1) := by decide +kernel
theorem dX13_count_55 : decode cX13_count 55 = .ok (.aload_n 0, 1) := by decide +kernel
theorem dX13_count_56 : decode cX13_count 56 = .ok (.getfield 383, 3) := by decide +kernel
theorem dX13_count_59 : decode cX13_count 59 = .ok (.ireturn, 1) := by decide +kernel
theorem dX13_count_60 : decode cX13_count 60 = .ok (.aload_n 0, 1) := by decide +kernel
theorem dX13_count_61 : decode cX13_count 61 = .ok (.getfield 386, 3) := by decide +kernel
theorem dX13_count_64 : decode cX13_count 64 = .ok (.ireturn, 1) := by decide +kernel
theorem dX13_count_65 : decode cX13_count 65 = .ok (.aload_n 0, 1) := by decide +kernel
theorem dX13_count_66 : decode cX13_count 66 = .ok (.getfield 181, 3) := by decide +kernel
theorem dX13_count_69 : decode cX13_count 69 = .ok (.ireturn, 1) := by decide +kernel
theorem dX13_count_70 : decode cX13_count 70 = .ok (.bipush (-2), 2) := by decide +kernel
theorem dX13_count_72 : decode cX13_count 72 = .ok (.ireturn, 1) := by decide +kernel
theorem dX13_judge_0 : decode cX13_judge 0 = .ok (.iload_n 1, 1) := by decide +kernel
theorem dX13_judge_1 : decode cX13_judge 1 = .ok (.i2l, 1) := by decide +kernel
theorem dX13_judge_2 : decode cX13_judge 2 = .ok (.lconst 0, 1) := by decide +kernel
theorem dX13_judge_3 : decode cX13_judge 3 = .ok (.ldc2_w 404, 3) := by decide +kernel
theorem dX13_judge_6 : decode cX13_judge 6 = .ok (.invokestatic 177, 3) := by decide +kernel
theorem dX13_judge_9 : decode cX13_judge 9 = .ok (.ifCond .ne 5, 3) := by decide +kernel
theorem dX13_judge_12 : decode cX13_judge 12 = .ok (.iconst (-1), 1) := by decide +kernel
theorem dX13_judge_13 : decode cX13_judge 13 = .ok (.ireturn, 1) := by decide +kernel
theorem dX13_judge_14 : decode cX13_judge 14 = .ok (.aload_n 0, 1) := by decide +kernel
theorem dX13_judge_15 : decode cX13_judge 15 = .ok (.getfield 165, 3) := by decide +kernel
theorem dX13_judge_18 : decode cX13_judge 18 = .ok (.iload_n 1, 1) := by decide +kernel
theorem dX13_judge_19 : decode cX13_judge 19 = .ok (.iaload, 1) := by decide +kernel
theorem dX13_judge_20 : decode cX13_judge 20 = .ok (.iconst (-1), 1) := by decide +kernel
theorem dX13_judge_21 : decode cX13_judge 21 = .ok (.if_icmp .eq 16, 3) := by decide +kernel
theorem dX13_judge_24 : decode cX13_judge 24 = .ok (.aload_n 0, 1) := by decide +kernel
theorem dX13_judge_25 : decode cX13_judge 25 = .ok (.getfield 165, 3) := by decide +kernel
theorem dX13_judge_28 : decode cX13_judge 28 = .ok (.iload_n 1, 1) := by decide +kernel
theorem dX13_judge_29 : decode cX13_judge 29 = .ok (.iaload, 1) := by decide +kernel
theorem dX13_judge_30 : decode cX13_judge 30 = .ok (.iconst 2, 1) := by decide +kernel
theorem dX13_judge_31 : decode cX13_judge 31 = .ok (.if_icmp .eq 6, 3) := by decide +kernel
theorem dX13_judge_34 : decode cX13_judge 34 = .ok (.bipush (-12), 2) := by decide +kernel
theorem dX13_judge_36 : decode cX13_judge 36 = .ok (.ireturn, 1) := by decide +kernel
theorem dX13_judge_37 : decode cX13_judge 37 = .ok (.iconst 0, 1) := by decide +kernel
theorem dX13_judge_38 : decode cX13_judge 38 = .ok (.istore_n 3, 1) := by decide +kernel
theorem dX13_judge_39 : decode cX13_judge 39 = .ok (.iload_n 3, 1) := by decide +kernel
theorem dX13_judge_40 : decode cX13_judge 40 = .ok (.aload_n 0, 1) := by decide +kernel
theorem dX13_judge_41 : decode cX13_judge 41 = .ok (.getfield 340, 3) := by decide +kernel
theorem dX13_judge_44 : decode cX13_judge 44 = .ok (.if_icmp .ge 66, 3) := by decide +kernel
theorem dX13_judge_47 : decode cX13_judge 47 = .ok (.aload_n 0, 1) := by decide +kernel
theorem dX13_judge_48 : decode cX13_judge 48 = .ok (.getfield 165, 3) := by decide +kernel
theorem dX13_judge_51 : decode cX13_judge 51 = .ok (.iload_n 1, 1) := by decide +kernel
theorem dX13_judge_52 : decode cX13_judge 52 = .ok (.iaload, 1) := by decide +kernel
theorem dX13_judge_53 : decode cX13_judge 53 = .ok (.iconst (-1), 1) := by decide +kernel
theorem dX13_judge_54 : decode cX13_judge 54 = .ok (.if_icmp .eq 19, 3) := by decide +kernel
theorem dX13_judge_57 : decode cX13_judge 57 = .ok (.iload_n 2, 1) := by decide +kernel
theorem dX13_judge_58 : decode cX13_judge 58 = .ok (.ifCond .lt 15, 3) := by decide +kernel
theorem dX13_judge_61 : decode cX13_judge 61 = .ok (.iload_n 3, 1) := by decide +kernel
theorem dX13_judge_62 : decode cX13_judge 62 = .ok (.aload_n 0, 1) := by decide +kernel
theorem dX13_judge_63 : decode cX13_judge 63 = .ok (.getfield 168, 3) := by decide +kernel
theorem dX13_judge_66 : decode cX13_judge 66 = .ok (.iload_n 1, 1) := by decide +kernel
theorem dX13_judge_67 : decode cX13_judge 67 = .ok (.iaload, 1) := by decide +kernel
theorem dX13_judge_68 : decode cX13_judge 68 = .ok (.iload_n 2, 1) := by decide +kernel
theorem dX13_judge_69 : decode cX13_judge 69 = .ok (.isub, 1) := by decide +kernel
theorem dX13_judge_70 : decode cX13_judge 70 = .ok (.if_icmp .lt 8, 3) := by decide +kernel
theorem dX13_judge_73 : decode cX13_judge 73 = .ok (.bipush 100, 2) := by decide +kernel
theorem dX13_judge_75 : decode cX13_judge 75 = .ok (.iload_n 3, 1) := by decide +kernel
theorem dX13_judge_76 : decode cX13_judge 76 = .ok (.iadd, 1) := by decide +kernel
theorem dX13_judge_77 : decode cX13_judge 77 = .ok (.ireturn, 1) := by decide +kernel
theorem dX13_judge_78 : decode cX13_judge 78 = .ok (.aload_n 0, 1) := by decide +kernel
theorem dX13_judge_79 : decode cX13_judge 79 = .ok (.getfield 171, 3) := by decide +kernel
theorem dX13_judge_82 : decode cX13_judge 82 = .ok (.bipush 60, 2) := by decide +kernel
theorem dX13_judge_84 : decode cX13_judge 84 = .ok (.iload_n 1, 1) := by decide +kernel
theorem dX13_judge_85 : decode cX13_judge 85 = .ok (.imul, 1) := by decide +kernel
theorem dX13_judge_86 : decode cX13_judge 86 = .ok (.iload_n 2, 1) := by decide +kernel
theorem dX13_judge_87 : decode cX13_judge 87 = .ok (.iadd, 1) := by decide +kernel
theorem dX13_judge_88 : decode cX13_judge 88 = .ok (.iload_n 3, 1) := by decide +kernel
theorem dX13_judge_89 : decode cX13_judge 89 = .ok (.iadd, 1) := by decide +kernel
theorem dX13_judge_90 : decode cX13_judge 90 = .ok (.laload, 1) := by decide +kernel
theorem dX13_judge_91 : decode cX13_judge 91 = .ok (.aload_n 0, 1) := by decide +kernel
theorem dX13_judge_92 : decode cX13_judge 92 = .ok (.getfield 120, 3) := by decide +kernel
theorem dX13_judge_95 : decode cX13_judge 95 = .ok (.iload_n 3, 1) := by decide +kernel
theorem dX13_judge_96 : decode cX13_judge 96 = .ok (.iaload, 1) := by decide +kernel
theorem dX13_judge_97 : decode cX13_judge 97 = .ok (.i2l, 1) := by decide +kernel
theorem dX13_judge_98 : decode cX13_judge 98 = .ok (.lcmp, 1) := by decide +kernel
theorem dX13_judge_99 : decode cX13_judge 99 = .ok (.ifCond .eq 5, 3) := by decide +kernel
theorem dX13_judge_102 : decode cX13_judge 102 = .ok (.iload_n 3, 1) := by decide +kernel
theorem dX13_judge_103 : decode cX13_judge 103 = .ok (.ireturn, 1) := by decide +kernel
theorem dX13_judge_104 : decode cX13_judge 104 = .ok (.iinc 3 1, 3) := by decide +kernel
theorem dX13_judge_107 : decode cX13_judge 107 = .ok (.goto (-68), 3) := by decide +kernel
theorem dX13_judge_110 : decode cX13_judge 110 = .ok (.bipush (-5), 2) := by decide +kernel
theorem dX13_judge_112 : decode cX13_judge 112 = .ok (.ireturn, 1) := by decide +kernel
theorem dX13_tape_0 : decode cX13_tape 0 = .ok (.iload_n 1, 1) := by decide +kernel
theorem dX13_tape_1 : decode cX13_tape 1 = .ok (.i2l, 1) := by decide +kernel
theorem dX13_tape_2 : decode cX13_tape 2 = .ok (.lconst 0, 1) := by decide +kernel
theorem dX13_tape_3 : decode cX13_tape 3 = .ok (.ldc2_w 404, 3) := by decide +kernel
theorem dX13_tape_6 : decode cX13_tape 6 = .ok (.invokestatic 177, 3) := by decide +kernel
theorem dX13_tape_9 : decode cX13_tape 9 = .ok (.ifCond .ne 5, 3) := by decide +kernel
theorem dX13_tape_12 : decode cX13_tape 12 = .ok (.iconst (-1), 1) := by decide +kernel
theorem dX13_tape_13 : decode cX13_tape 13 = .ok (.ireturn, 1) := by decide +kernel
theorem dX13_tape_14 : decode cX13_tape 14 = .ok (.iload_n 2, 1) := by decide +kernel
theorem dX13_tape_15 : decode cX13_tape 15 = .ok (.i2l, 1) := by decide +kernel
theorem dX13_tape_16 : decode cX13_tape 16 = .ok (.ldc2_w 406, 3) := by decide +kernel
theorem dX13_tape_19 : decode cX13_tape 19 = .ok (.ldc2_w 265, 3) := by decide +kernel
theorem dX13_tape_22 : decode cX13_tape 22 = .ok (.invokestatic 177, 3) := by decide +kernel
theorem dX13_tape_25 : decode cX13_tape 25 = .ok (.ifCond .eq 14, 3) := by decide +kernel
theorem dX13_tape_28 : decode cX13_tape 28 = .ok (.iload_n 2, 1) := by decide +kernel
theorem dX13_tape_29 : decode cX13_tape 29 = .ok (.iconst (-1), 1) := by decide +kernel
theorem dX13_tape_30 : decode cX13_tape 30 = .ok (.if_icmp .eq 12, 3) := by decide +kernel
theorem dX13_tape_33 : decode cX13_tape 33 = .ok (.iload_n 3, 1) := by decide +kernel
theorem dX13_tape_34 : decode cX13_tape 34 = .ok (.bipush 60, 2) := by decide +kernel
theorem dX13_tape_36 : decode cX13_tape 36 = .ok (.if_icmp .le 6, 3) := by decide +kernel
theorem dX13_tape_39 : decode cX13_tape 39 = .ok (.bipush (-2), 2) := by decide +kernel
theorem dX13_tape_41 : decode cX13_tape 41 = .ok (.ireturn, 1) := by decide +kernel
theorem dX13_tape_42 : decode cX13_tape 42 = .ok (.iload_n 2, 1) := by decide +kernel
theorem dX13_tape_43 : decode cX13_tape 43 = .ok (.iconst (-1), 1) := by decide +kernel
theorem dX13_tape_44 : decode cX13_tape 44 = .ok (.if_icmp .eq 10, 3) := by decide +kernel
theorem dX13_tape_47 : decode cX13_tape 47 = .ok (.iload_n 3, 1) := by decide +kernel
theorem dX13_tape_48 : decode cX13_tape 48 = .ok (.ifCond .ge 6, 3) := by decide +kernel
theorem dX13_tape_51 : decode cX13_tape 51 = .ok (.bipush (-14), 2) := by decide +kernel
theorem dX13_tape_53 : decode cX13_tape 53 = .ok (.ireturn, 1) := by decide +kernel
theorem dX13_tape_54 : decode cX13_tape 54 = .ok (.aload_n 0, 1) := by decide +kernel
theorem dX13_tape_55 : decode cX13_tape 55 = .ok (.getfield 165, 3) := by decide +kernel
theorem dX13_tape_58 : decode cX13_tape 58 = .ok (.iload_n 1, 1) := by decide +kernel
theorem dX13_tape_59 : decode cX13_tape 59 = .ok (.iload_n 2, 1) := by decide +kernel
theorem dX13_tape_60 : decode cX13_tape 60 = .ok (.iastore, 1) := by decide +kernel
theorem dX13_tape_61 : decode cX13_tape 61 = .ok (.aload_n 0, 1) := by decide +kernel
theorem dX13_tape_62 : decode cX13_tape 62 = .ok (.getfield 168, 3) := by decide +kernel
theorem dX13_tape_65 : decode cX13_tape 65 = .ok (.iload_n 1, 1) := by decide +kernel
theorem dX13_tape_66 : decode cX13_tape 66 = .ok (.iload_n 2, 1) := by decide +kernel
theorem dX13_tape_67 : decode cX13_tape 67 = .ok (.iconst (-1), 1) := by decide +kernel
theorem dX13_tape_68 : decode cX13_tape 68 = .ok (.if_icmp .ne 7, 3) := by decide +kernel
theorem dX13_tape_71 : decode cX13_tape 71 = .ok (.iconst 0, 1) := by decide +kernel
theorem dX13_tape_72 : decode cX13_tape 72 = .ok (.goto 4, 3) := by decide +kernel
theorem dX13_tape_75 : decode cX13_tape 75 = .ok (.iload_n 3, 1) := by decide +kernel
theorem dX13_tape_76 : decode cX13_tape 76 = .ok (.iastore, 1) := by decide +kernel
theorem dX13_tape_77 : decode cX13_tape 77 = .ok (.iconst 0, 1) := by decide +kernel
theorem dX13_tape_78 : decode cX13_tape 78 = .ok (.istore 4, 2) := by decide +kernel
theorem dX13_tape_80 : decode cX13_tape 80 = .ok (.iload 4, 2) := by decide +kernel
theorem dX13_tape_82 : decode cX13_tape 82 = .ok (.bipush 60, 2) := by decide +kernel
theorem dX13_tape_84 : decode cX13_tape 84 = .ok (.if_icmp .ge 22, 3) := by decide +kernel
theorem dX13_tape_87 : decode cX13_tape 87 = .ok (.aload_n 0, 1) := by decide +kernel
theorem dX13_tape_88 : decode cX13_tape 88 = .ok (.getfield 171, 3) := by decide +kernel
theorem dX13_tape_91 : decode cX13_tape 91 = .ok (.bipush 60, 2) := by decide +kernel
theorem dX13_tape_93 : decode cX13_tape 93 = .ok (.iload_n 1, 1) := by decide +kernel
theorem dX13_tape_94 : decode cX13_tape 94 = .ok (.imul, 1) := by decide +kernel
theorem dX13_tape_95 : decode cX13_tape 95 = .ok (.iload 4, 2) := by decide +kernel
theorem dX13_tape_97 : decode cX13_tape 97 = .ok (.iadd, 1) := by decide +kernel
theorem dX13_tape_98 : decode cX13_tape 98 = .ok (.lconst 0, 1) := by decide +kernel
theorem dX13_tape_99 : decode cX13_tape 99 = .ok (.lastore, 1) := by decide +kernel
theorem dX13_tape_100 : decode cX13_tape 100 = .ok (.iinc 4 1, 3) := by decide +kernel
theorem dX13_tape_103 : decode cX13_tape 103 = .ok (.goto (-23), 3) := by decide +kernel
theorem dX13_tape_106 : decode cX13_tape 106 = .ok (.iconst 1, 1) := by decide +kernel
theorem dX13_tape_107 : decode cX13_tape 107 = .ok (.ireturn, 1) := by decide +kernel
theorem dX13_lowestBits_0 : decode cX13_lowestBits 0 = .ok (.iload_n 0, 1) := by decide +kernel
theorem dX13_lowestBits_1 : decode cX13_lowestBits 1 = .ok (.tableswitch 47 0 3 #[31, 36, 41, 45], 31) := by decide +kernel
theorem dX13_lowestBits_32 : decode cX13_lowestBits 32 = .ok (.lload_n 1, 1) := by decide +kernel
theorem dX13_lowestBits_33 : decode cX13_lowestBits 33 = .ok (.l2i, 1) := by decide +kernel
theorem dX13_lowestBits_34 : decode cX13_lowestBits 34 = .ok (.i2b, 1) := by decide +kernel
theorem dX13_lowestBits_35 : decode cX13_lowestBits 35 = .ok (.i2l, 1) := by decide +kernel
theorem dX13_lowestBits_36 : decode cX13_lowestBits 36 = .ok (.lreturn, 1) := by decide +kernel
theorem dX13_lowestBits_37 : decode cX13_lowestBits 37 = .ok (.lload_n 1, 1) := by decide +kernel
theorem dX13_lowestBits_38 : decode cX13_lowestBits 38 = .ok (.l2i, 1) := by decide +kernel
theorem dX13_lowestBits_39 : decode cX13_lowestBits 39 = .ok (.i2s, 1) := by decide +kernel
theorem dX13_lowestBits_40 : decode cX13_lowestBits 40 = .ok (.i2l, 1) := by decide +kernel
theorem dX13_lowestBits_41 : decode cX13_lowestBits 41 = .ok (.lreturn, 1) := by decide +kernel
theorem dX13_lowestBits_42 : decode cX13_lowestBits 42 = .ok (.lload_n 1, 1) := by decide +kernel
theorem dX13_lowestBits_43 : decode cX13_lowestBits 43 = .ok (.l2i, 1) := by decide +kernel
theorem dX13_lowestBits_44 : decode cX13_lowestBits 44 = .ok (.i2l, 1) := by decide +kernel
theorem dX13_lowestBits_45 : decode cX13_lowestBits 45 = .ok (.lreturn, 1) := by decide +kernel
theorem dX13_lowestBits_46 : decode cX13_lowestBits 46 = .ok (.lload_n 1, 1) := by decide +kernel
theorem dX13_lowestBits_47 : decode cX13_lowestBits 47 = .ok (.lreturn, 1) := by decide +kernel
theorem dX13_lowestBits_48 : decode cX13_lowestBits 48 = .ok (.lload_n 1, 1) := by decide +kernel
theorem dX13_lowestBits_49 : decode cX13_lowestBits 49 = .ok (.lconst 0, 1) := by decide +kernel
theorem dX13_lowestBits_50 : decode cX13_lowestBits 50 = .ok (.lcmp, 1) := by decide +kernel
theorem dX13_lowestBits_51 : decode cX13_lowestBits 51 = .ok (.ifCond .ne 7, 3) := by decide +kernel
theorem dX13_lowestBits_54 : decode cX13_lowestBits 54 = .ok (.lconst 0, 1) := by decide +kernel
theorem dX13_lowestBits_55 : decode cX13_lowestBits 55 = .ok (.goto 4, 3) := by decide +kernel
theorem dX13_lowestBits_58 : decode cX13_lowestBits 58 = .ok (.lconst 1, 1) := by decide +kernel
theorem dX13_lowestBits_59 : decode cX13_lowestBits 59 = .ok (.lreturn, 1) := by decide +kernel
theorem dX13_item_0 : decode cX13_item 0 = .ok (.iload_n 1, 1) := by decide +kernel
theorem dX13_item_1 : decode cX13_item 1 = .ok (.i2l, 1) := by decide +kernel
theorem dX13_item_2 : decode cX13_item 2 = .ok (.lconst 0, 1) := by decide +kernel
theorem dX13_item_3 : decode cX13_item 3 = .ok (.ldc2_w 404, 3) := by decide +kernel
theorem dX13_item_6 : decode cX13_item 6 = .ok (.invokestatic 177, 3) := by decide +kernel
theorem dX13_item_9 : decode cX13_item 9 = .ok (.ifCond .ne 5, 3) := by decide +kernel
theorem dX13_item_12 : decode cX13_item 12 = .ok (.iconst (-1), 1) := by decide +kernel
theorem dX13_item_13 : decode cX13_item 13 = .ok (.ireturn, 1) := by decide +kernel
theorem dX13_item_14 : decode cX13_item 14 = .ok (.aload_n 0, 1) := by decide +kernel
theorem dX13_item_15 : decode cX13_item 15 = .ok (.getfield 165, 3) := by decide +kernel
theorem dX13_item_18 : decode cX13_item 18 = .ok (.iload_n 1, 1) := by decide +kernel
theorem dX13_item_19 : decode cX13_item 19 = .ok (.iaload, 1) := by decide +kernel
theorem dX13_item_20 : decode cX13_item 20 = .ok (.iconst (-1), 1) := by decide +kernel
theorem dX13_item_21 : decode cX13_item 21 = .ok (.if_icmp .ne 6, 3) := by decide +kernel
theorem dX13_item_24 : decode cX13_item 24 = .ok (.bipush (-11), 2) := by decide +kernel
theorem dX13_item_26 : decode cX13_item 26 = .ok (.ireturn, 1) := by decide +kernel
theorem dX13_item_27 : decode cX13_item 27 = .ok (.iload_n 2, 1) := by decide +kernel
theorem dX13_item_28 : decode cX13_item 28 = .ok (.i2l, 1) := by decide +kernel
theorem dX13_item_29 : decode cX13_item 29 = .ok (.lconst 0, 1) := by decide +kernel
theorem dX13_item_30 : decode cX13_item 30 = .ok (.aload_n 0, 1) := by decide +kernel
theorem dX13_item_31 : decode cX13_item 31 = .ok (.getfield 168, 3) := by decide +kernel
theorem dX13_item_34 : decode cX13_item 34 = .ok (.iload_n 1, 1) := by decide +kernel
theorem dX13_item_35 : decode cX13_item 35 = .ok (.iaload, 1) := by decide +kernel
theorem dX13_item_36 : decode cX13_item 36 = .ok (.iconst 1, 1) := by decide +kernel
theorem dX13_item_37 : decode cX13_item 37 = .ok (.isub, 1) := by decide +kernel
theorem dX13_item_38 : decode cX13_item 38 = .ok (.i2l, 1) := by decide +kernel
theorem dX13_item_39 : decode cX13_item 39 = .ok (.invokestatic 177, 3) := by decide +kernel
theorem dX13_item_42 : decode cX13_item 42 = .ok (.ifCond .ne 6, 3) := by decide +kernel
theorem dX13_item_45 : decode cX13_item 45 = .ok (.bipush (-13), 2) := by decide +kernel
theorem dX13_item_47 : decode cX13_item 47 = .ok (.ireturn, 1) := by decide +kernel
theorem dX13_item_48 : decode cX13_item 48 = .ok (.aload_n 0, 1) := by decide +kernel
theorem dX13_item_49 : decode cX13_item 49 = .ok (.getfield 171, 3) := by decide +kernel
theorem dX13_item_52 : decode cX13_item 52 = .ok (.bipush 60, 2) := by decide +kernel
theorem dX13_item_54 : decode cX13_item 54 = .ok (.iload_n 1, 1) := by decide +kernel
theorem dX13_item_55 : decode cX13_item 55 = .ok (.imul, 1) := by decide +kernel
theorem dX13_item_56 : decode cX13_item 56 = .ok (.iload_n 2, 1) := by decide +kernel
theorem dX13_item_57 : decode cX13_item 57 = .ok (.iadd, 1) := by decide +kernel
theorem dX13_item_58 : decode cX13_item 58 = .ok (.aload_n 0, 1) := by decide +kernel
theorem dX13_item_59 : decode cX13_item 59 = .ok (.getfield 165, 3) := by decide +kernel
theorem dX13_item_62 : decode cX13_item 62 = .ok (.iload_n 1, 1) := by decide +kernel
theorem dX13_item_63 : decode cX13_item 63 = .ok (.iaload, 1) := by decide +kernel
theorem dX13_item_64 : decode cX13_item 64 = .ok (.lload_n 3, 1) := by decide +kernel
theorem dX13_item_65 : decode cX13_item 65 = .ok (.invokestatic 408, 3) := by decide +kernel
theorem dX13_item_68 : decode cX13_item 68 = .ok (.lastore, 1) := by decide +kernel
theorem dX13_item_69 : decode cX13_item 69 = .ok (.iconst 1, 1) := by decide +kernel
theorem dX13_item_70 : decode cX13_item 70 = .ok (.ireturn, 1) := by decide +kernel
theorem dX13_read_0 : decode cX13_read 0 = .ok (.iload_n 1, 1) := by decide +kernel
theorem dX13_read_1 : decode cX13_read 1 = .ok (.i2l, 1) := by decide +kernel
theorem dX13_read_2 : decode cX13_read 2 = .ok (.lconst 0, 1) := by decide +kernel
theorem dX13_read_3 : decode cX13_read 3 = .ok (.ldc2_w 404, 3) := by decide +kernel
theorem dX13_read_6 : decode cX13_read 6 = .ok (.invokestatic 177, 3) := by decide +kernel
theorem dX13_read_9 : decode cX13_read 9 = .ok (.ifCond .eq 35, 3) := by decide +kernel
theorem dX13_read_12 : decode cX13_read 12 = .ok (.iload_n 2, 1) := by decide +kernel
theorem dX13_read_13 : decode cX13_read 13 = .ok (.i2l, 1) := by decide +kernel
theorem dX13_read_14 : decode cX13_read 14 = .ok (.lconst 0, 1) := by decide +kernel
theorem dX13_read_15 : decode cX13_read 15 = .ok (.aload_n 0, 1) := by decide +kernel
theorem dX13_read_16 : decode cX13_read 16 = .ok (.getfield 168, 3) := by decide +kernel
theorem dX13_read_19 : decode cX13_read 19 = .ok (.iload_n 1, 1) := by decide +kernel
theorem dX13_read_20 : decode cX13_read 20 = .ok (.iaload, 1) := by decide +kernel
theorem dX13_read_21 : decode cX13_read 21 = .ok (.iconst 1, 1) := by decide +kernel
theorem dX13_read_22 : decode cX13_read 22 = .ok (.isub, 1) := by decide +kernel
theorem dX13_read_23 : decode cX13_read 23 = .ok (.i2l, 1) := by decide +kernel
theorem dX13_read_24 : decode cX13_read 24 = .ok (.invokestatic 177, 3) := by decide +kernel
theorem dX13_read_27 : decode cX13_read 27 = .ok (.ifCond .eq 17, 3) := by decide +kernel
theorem dX13_read_30 : decode cX13_read 30 = .ok (.aload_n 0, 1) := by decide +kernel
theorem dX13_read_31 : decode cX13_read 31 = .ok (.getfield 171, 3) := by decide +kernel
theorem dX13_read_34 : decode cX13_read 34 = .ok (.bipush 60, 2) := by decide +kernel
theorem dX13_read_36 : decode cX13_read 36 = .ok (.iload_n 1, 1) := by decide +kernel
theorem dX13_read_37 : decode cX13_read 37 = .ok (.imul, 1) := by decide +kernel
theorem dX13_read_38 : decode cX13_read 38 = .ok (.iload_n 2, 1) := by decide +kernel
theorem dX13_read_39 : decode cX13_read 39 = .ok (.iadd, 1) := by decide +kernel
theorem dX13_read_40 : decode cX13_read 40 = .ok (.laload, 1) := by decide +kernel
theorem dX13_read_41 : decode cX13_read 41 = .ok (.goto 6, 3) := by decide +kernel
theorem dX13_read_44 : decode cX13_read 44 = .ok (.ldc2_w 267, 3) := by decide +kernel
theorem dX13_read_47 : decode cX13_read 47 = .ok (.lreturn, 1) := by decide +kernel
theorem dX13_shift_0 : decode cX13_shift 0 = .ok (.iload_n 1, 1) := by decide +kernel
theorem dX13_shift_1 : decode cX13_shift 1 = .ok (.i2l, 1) := by decide +kernel
theorem dX13_shift_2 : decode cX13_shift 2 = .ok (.lconst 0, 1) := by decide +kernel
theorem dX13_shift_3 : decode cX13_shift 3 = .ok (.ldc2_w 404, 3) := by decide +kernel
theorem dX13_shift_6 : decode cX13_shift 6 = .ok (.invokestatic 177, 3) := by decide +kernel
theorem dX13_shift_9 : decode cX13_shift 9 = .ok (.ifCond .eq 15, 3) := by decide +kernel
theorem dX13_shift_12 : decode cX13_shift 12 = .ok (.iload_n 3, 1) := by decide +kernel
theorem dX13_shift_13 : decode cX13_shift 13 = .ok (.i2l, 1) := by decide +kernel
theorem dX13_shift_14 : decode cX13_shift 14 = .ok (.lconst 0, 1) := by decide +kernel
theorem dX13_shift_15 : decode cX13_shift 15 = .ok (.ldc2_w 404, 3) := by decide +kernel
theorem dX13_shift_18 : decode cX13_shift 18 = .ok (.invokestatic 177, 3) := by decide +kernel
theorem dX13_shift_21 : decode cX13_shift 21 = .ok (.ifCond .ne 5, 3) := by decide +kernel
theorem dX13_shift_24 : decode cX13_shift 24 = .ok (.iconst (-1), 1) := by decide +kernel
theorem dX13_shift_25 : decode cX13_shift 25 = .ok (.ireturn, 1) := by decide +kernel
theorem dX13_shift_26 : decode cX13_shift 26 = .ok (.aload_n 0, 1) := by decide +kernel
theorem dX13_shift_27 : decode cX13_shift 27 = .ok (.getfield 165, 3) := by decide +kernel
theorem dX13_shift_30 : decode cX13_shift 30 = .ok (.iload_n 1, 1) := by decide +kernel
theorem dX13_shift_31 : decode cX13_shift 31 = .ok (.iaload, 1) := by decide +kernel
theorem dX13_shift_32 : decode cX13_shift 32 = .ok (.iconst (-1), 1) := by decide +kernel
theorem dX13_shift_33 : decode cX13_shift 33 = .ok (.if_icmp .eq 13, 3) := by decide +kernel
theorem dX13_shift_36 : decode cX13_shift 36 = .ok (.aload_n 0, 1) := by decide +kernel
theorem dX13_shift_37 : decode cX13_shift 37 = .ok (.getfield 165, 3) := by decide +kernel
theorem dX13_shift_40 : decode cX13_shift 40 = .ok (.iload_n 3, 1) := by decide +kernel
theorem dX13_shift_41 : decode cX13_shift 41 = .ok (.iaload, 1) := by decide +kernel
theorem dX13_shift_42 : decode cX13_shift 42 = .ok (.iconst (-1), 1) := by decide +kernel
theorem dX13_shift_43 : decode cX13_shift 43 = .ok (.if_icmp .ne 6, 3) := by decide +kernel
theorem dX13_shift_46 : decode cX13_shift 46 = .ok (.bipush (-11), 2) := by decide +kernel
theorem dX13_shift_48 : decode cX13_shift 48 = .ok (.ireturn, 1) := by decide +kernel
theorem dX13_shift_49 : decode cX13_shift 49 = .ok (.aload_n 0, 1) := by decide +kernel
theorem dX13_shift_50 : decode cX13_shift 50 = .ok (.getfield 165, 3) := by decide +kernel
theorem dX13_shift_53 : decode cX13_shift 53 = .ok (.iload_n 1, 1) := by decide +kernel
theorem dX13_shift_54 : decode cX13_shift 54 = .ok (.iaload, 1) := by decide +kernel
theorem dX13_shift_55 : decode cX13_shift 55 = .ok (.aload_n 0, 1) := by decide +kernel
theorem dX13_shift_56 : decode cX13_shift 56 = .ok (.getfield 165, 3) := by decide +kernel
theorem dX13_shift_59 : decode cX13_shift 59 = .ok (.iload_n 3, 1) := by decide +kernel
theorem dX13_shift_60 : decode cX13_shift 60 = .ok (.iaload, 1) := by decide +kernel
theorem dX13_shift_61 : decode cX13_shift 61 = .ok (.if_icmp .eq 6, 3) := by decide +kernel
theorem dX13_shift_64 : decode cX13_shift 64 = .ok (.bipush (-12), 2) := by decide +kernel
theorem dX13_shift_66 : decode cX13_shift 66 = .ok (.ireturn, 1) := by decide +kernel
theorem dX13_shift_67 : decode cX13_shift 67 = .ok (.iload 5, 2) := by decide +kernel
theorem dX13_shift_69 : decode cX13_shift 69 = .ok (.ifCond .lt 60, 3) := by decide +kernel
theorem dX13_shift_72 : decode cX13_shift 72 = .ok (.iload_n 2, 1) := by decide +kernel
theorem dX13_shift_73 : decode cX13_shift 73 = .ok (.ifCond .lt 56, 3) := by decide +kernel
theorem dX13_shift_76 : decode cX13_shift 76 = .ok (.iload 4, 2) := by decide +kernel
theorem dX13_shift_78 : decode cX13_shift 78 = .ok (.ifCond .lt 51, 3) := by decide +kernel
theorem dX13_shift_81 : decode cX13_shift 81 = .ok (.iload_n 2, 1) := by decide +kernel
theorem dX13_shift_82 : decode cX13_shift 82 = .ok (.aload_n 0, 1) := by decide +kernel
theorem dX13_shift_83 : decode cX13_shift 83 = .ok (.getfield 168, 3) := by decide +kernel
theorem dX13_shift_86 : decode cX13_shift 86 = .ok (.iload_n 1, 1) := by decide +kernel
theorem dX13_shift_87 : decode cX13_shift 87 = .ok (.iaload, 1) := by decide +kernel
theorem dX13_shift_88 : decode cX13_shift 88 = .ok (.if_icmp .gt 41, 3) := by decide +kernel
theorem dX13_shift_91 : decode cX13_shift 91 = .ok (.iload 4, 2) := by decide +kernel
theorem dX13_shift_93 : decode cX13_shift 93 = .ok (.aload_n 0, 1) := by decide +kernel
theorem dX13_shift_94 : decode cX13_shift 94 = .ok (.getfield 168, 3) := by decide +kernel
theorem dX13_shift_97 : decode cX13_shift 97 = .ok (.iload_n 3, 1) := by decide +kernel
theorem dX13_shift_98 : decode cX13_shift 98 = .ok (.iaload, 1) := by decide +kernel
theorem dX13_shift_99 : decode cX13_shift 99 = .ok (.if_icmp .gt 30, 3) := by decide +kernel
theorem dX13_shift_102 : decode cX13_shift 102 = .ok (.iload 5, 2) := by decide +kernel
theorem dX13_shift_104 : decode cX13_shift 104 = .ok (.aload_n 0, 1) := by decide +kernel
theorem dX13_shift_105 : decode cX13_shift 105 = .ok (.getfield 168, 3) := by decide +kernel
theorem dX13_shift_108 : decode cX13_shift 108 = .ok (.iload_n 1, 1) := by decide +kernel
theorem dX13_shift_109 : decode cX13_shift 109 = .ok (.iaload, 1) := by decide +kernel
theorem dX13_shift_110 : decode cX13_shift 110 = .ok (.iload_n 2, 1) := by decide +kernel
theorem dX13_shift_111 : decode cX13_shift 111 = .ok (.isub, 1) := by decide +kernel
theorem dX13_shift_112 : decode cX13_shift 112 = .ok (.if_icmp .gt 17, 3) := by decide +kernel
theorem dX13_shift_115 : decode cX13_shift 115 = .ok (.iload 5, 2) := by decide +kernel
theorem dX13_shift_117 : decode cX13_shift 117 = .ok (.aload_n 0, 1) := by decide +kernel
theorem dX13_shift_118 : decode cX13_shift 118 = .ok (.getfield 168, 3) := by decide +kernel
theorem dX13_shift_121 : decode cX13_shift 121 = .ok (.iload_n 3, 1) := by decide +kernel
theorem dX13_shift_122 : decode cX13_shift 122 = .ok (.iaload, 1) := by decide +kernel
theorem dX13_shift_123 : decode cX13_shift 123 = .ok (.iload 4, 2) := by decide +kernel
theorem dX13_shift_125 : decode cX13_shift 125 = .ok (.isub, 1) := by decide +kernel
theorem dX13_shift_126 : decode cX13_shift 126 = .ok (.if_icmp .le 6, 3) := by decide +kernel
theorem dX13_shift_129 : decode cX13_shift 129 = .ok (.bipush (-13), 2) := by decide +kernel
theorem dX13_shift_131 : decode cX13_shift 131 = .ok (.ireturn, 1) := by decide +kernel
theorem dX13_shift_132 : decode cX13_shift 132 = .ok (.iconst 0, 1) := by decide +kernel
theorem dX13_shift_133 : decode cX13_shift 133 = .ok (.istore 6, 2) := by decide +kernel
theorem dX13_shift_135 : decode cX13_shift 135 = .ok (.iload 6, 2) := by decide +kernel
theorem dX13_shift_137 : decode cX13_shift 137 = .ok (.iload 5, 2) := by decide +kernel
theorem dX13_shift_139 : decode cX13_shift 139 = .ok (.if_icmp .ge 58, 3) := by decide +kernel
theorem dX13_shift_142 : decode cX13_shift 142 = .ok (.iload_n 2, 1) := by decide +kernel
theorem dX13_shift_143 : decode cX13_shift 143 = .ok (.iload 4, 2) := by decide +kernel
theorem dX13_shift_145 : decode cX13_shift 145 = .ok (.if_icmp .ge 13, 3) := by decide +kernel
theorem dX13_shift_148 : decode cX13_shift 148 = .ok (.iload 5, 2) := by decide +kernel
theorem dX13_shift_150 : decode cX13_shift 150 = .ok (.iconst 1, 1) := by decide +kernel
theorem dX13_shift_151 : decode cX13_shift 151 = .ok (.isub, 1) := by decide +kernel
theorem dX13_shift_152 : decode cX13_shift 152 = .ok (.iload 6, 2) := by decide +kernel
theorem dX13_shift_154 : decode cX13_shift 154 = .ok (.isub, 1) := by decide +kernel
theorem dX13_shift_155 : decode cX13_shift 155 = .ok (.goto 5, 3) := by decide +kernel
theorem dX13_shift_158 : decode cX13_shift 158 = .ok (.iload 6, 2) := by decide +kernel
theorem dX13_shift_160 : decode cX13_shift 160 = .ok (.istore 7, 2) := by decide +kernel
theorem dX13_shift_162 : decode cX13_shift 162 = .ok (.aload_n 0, 1) := by decide +kernel
theorem dX13_shift_163 : decode cX13_shift 163 = .ok (.getfield 171, 3) := by decide +kernel
theorem dX13_shift_166 : decode cX13_shift 166 = .ok (.bipush 60, 2) := by decide +kernel
theorem dX13_shift_168 : decode cX13_shift 168 = .ok (.iload_n 3, 1) := by decide +kernel
theorem dX13_shift_169 : decode cX13_shift 169 = .ok (.imul, 1) := by decide +kernel
theorem dX13_shift_170 : decode cX13_shift 170 = .ok (.iload 4, 2) := by decide +kernel
theorem dX13_shift_172 : decode cX13_shift 172 = .ok (.iadd, 1) := by decide +kernel
theorem dX13_shift_173 : decode cX13_shift 173 = .ok (.iload 7, 2) := by decide +kernel
theorem dX13_shift_175 : decode cX13_shift 175 = .ok (.iadd, 1) := by decide +kernel
theorem dX13_shift_176 : decode cX13_shift 176 = .ok (.aload_n 0, 1) := by decide +kernel
theorem dX13_shift_177 : decode cX13_shift 177 = .ok (.getfield 171, 3) := by decide +kernel
theorem dX13_shift_180 : decode cX13_shift 180 = .ok (.bipush 60, 2) := by decide +kernel
theorem dX13_shift_182 : decode cX13_shift 182 = .ok (.iload_n 1, 1) := by decide +kernel
theorem dX13_shift_183 : decode cX13_shift 183 = .ok (.imul, 1) := by decide +kernel
theorem dX13_shift_184 : decode cX13_shift 184 = .ok (.iload_n 2, 1) := by decide +kernel
theorem dX13_shift_185 : decode cX13_shift 185 = .ok (.iadd, 1) := by decide +kernel
theorem dX13_shift_186 : decode cX13_shift 186 = .ok (.iload 7, 2) := by decide +kernel
theorem dX13_shift_188 : decode cX13_shift 188 = .ok (.iadd, 1) := by decide +kernel
theorem dX13_shift_189 : decode cX13_shift 189 = .ok (.laload, 1) := by decide +kernel
theorem dX13_shift_190 : decode cX13_shift 190 = .ok (.lastore, 1) := by decide +kernel
theorem dX13_shift_191 : decode cX13_shift 191 = .ok (.iinc 6 1, 3) := by decide +kernel
theorem dX13_shift_194 : decode cX13_shift 194 = .ok (.goto (-59), 3) := by decide +kernel
theorem dX13_shift_197 : decode cX13_shift 197 = .ok (.iload 5, 2) := by decide +kernel
theorem dX13_shift_199 : decode cX13_shift 199 = .ok (.ireturn, 1) := by decide +kernel
end
section
theorem dL_law_0 : decode cL_law 0 = .ok (.new 7, 3) := by decide +kernel
theorem dL_law_3 : decode cL_law 3 = .ok (.dup, 1) := by decide +kernel
theorem dL_law_4 : decode cL_law 4 = .ok (.invokespecial 9, 3) := by decide +kernel
theorem dL_law_7 : decode cL_law 7 = .ok (.astore_n 1, 1) := by decide +kernel
theorem dL_law_8 : decode cL_law 8 = .ok (.new 10, 3) := by decide +kernel
theorem dL_law_11 : decode cL_law 11 = .ok (.dup, 1) := by decide +kernel
theorem dL_law_12 : decode cL_law 12 = .ok (.invokespecial 12, 3) := by decide +kernel
theorem dL_law_15 : decode cL_law 15 = .ok (.astore_n 2, 1) := by decide +kernel
theorem dL_law_16 : decode cL_law 16 = .ok (.iconst 0, 1) := by decide +kernel
theorem dL_law_17 : decode cL_law 17 = .ok (.istore_n 3, 1) := by decide +kernel
theorem dL_law_18 : decode cL_law 18 = .ok (.iload_n 3, 1) := by decide +kernel
theorem dL_law_19 : decode cL_law 19 = .ok (.aload_n 0, 1) := by decide +kernel
theorem dL_law_20 : decode cL_law 20 = .ok (.arraylength, 1) := by decide +kernel
theorem dL_law_21 : decode cL_law 21 = .ok (.bipush 6, 2) := by decide +kernel
theorem dL_law_23 : decode cL_law 23 = .ok (.isub, 1) := by decide +kernel
theorem dL_law_24 : decode cL_law 24 = .ok (.if_icmp .gt 1041, 3) := by decide +kernel
theorem dL_law_27 : decode cL_law 27 = .ok (.aload_n 0, 1) := by decide +kernel
theorem dL_law_28 : decode cL_law 28 = .ok (.iload_n 3, 1) := by decide +kernel
theorem dL_law_29 : decode cL_law 29 = .ok (.iaload, 1) := by decide +kernel
theorem dL_law_30 : decode cL_law 30 = .ok (.bipush 31, 2) := by decide +kernel
theorem dL_law_32 : decode cL_law 32 = .ok (.iand, 1) := by decide +kernel
theorem dL_law_33 : decode cL_law 33 = .ok (.tableswitch 1026 0 28 #[131, 154, 167, 200, 233, 256, 290, 313, 337, 360, 384, 407, 441, 474, 517, 550, 594, 628, 661, 685, 718, 731, 764, 777, 790, 813, 856, 929, 963], 131) := by decide +kernel
theorem dL_law_164 : decode cL_law 164 = .ok (.aload_n 1, 1) := by decide +kernel
theorem dL_law_165 : decode cL_law 165 = .ok (.aload_n 0, 1) := by decide +kernel
theorem dL_law_166 : decode cL_law 166 = .ok (.iload_n 3, 1) := by decide +kernel
theorem dL_law_167 : decode cL_law 167 = .ok (.iconst 1, 1) := by decide +kernel
theorem dL_law_168 : decode cL_law 168 = .ok (.iadd, 1) := by decide +kernel
theorem dL_law_169 : decode cL_law 169 = .ok (.iaload, 1) := by decide +kernel
theorem dL_law_170 : decode cL_law 170 = .ok (.invokevirtual 13, 3) := by decide +kernel
theorem dL_law_173 : decode cL_law 173 = .ok (.aload_n 2, 1) := by decide +kernel
theorem dL_law_174 : decode cL_law 174 = .ok (.aload_n 0, 1) := by decide +kernel
theorem dL_law_175 : decode cL_law 175 = .ok (.iload_n 3, 1) := by decide +kernel
theorem dL_law_176 : decode cL_law 176 = .ok (.iconst 1, 1) := by decide +kernel
theorem dL_law_177 : decode cL_law 177 = .ok (.iadd, 1) := by decide +kernel
theorem dL_law_178 : decode cL_law 178 = .ok (.iaload, 1) := by decide +kernel
theorem dL_law_179 : decode cL_law 179 = .ok (.invokevirtual 17, 3) := by decide +kernel
theorem dL_law_182 : decode cL_law 182 = .ok (.if_icmp .eq 877, 3) := by decide +kernel
theorem dL_law_185 : decode cL_law 185 = .ok (.iconst 0, 1) := by decide +kernel
theorem dL_law_186 : decode cL_law 186 = .ok (.ireturn, 1) := by decide +kernel
theorem dL_law_187 : decode cL_law 187 = .ok (.aload_n 1, 1) := by decide +kernel
theorem dL_law_188 : decode cL_law 188 = .ok (.invokevirtual 18, 3) := by decide +kernel
theorem dL_law_191 : decode cL_law 191 = .ok (.aload_n 2, 1) := by decide +kernel
theorem dL_law_192 : decode cL_law 192 = .ok (.invokevirtual 22, 3) := by decide +kernel
theorem dL_law_195 : decode cL_law 195 = .ok (.if_icmp .eq 864, 3) := by decide +kernel
theorem dL_law_198 : decode cL_law 198 = .ok (.iconst 0, 1) := by decide +kernel
theorem dL_law_199 : decode cL_law 199 = .ok (.ireturn, 1) := by decide +kernel
theorem dL_law_200 : decode cL_law 200 = .ok (.aload_n 1, 1) := by decide +kernel
theorem dL_law_201 : decode cL_law 201 = .ok (.aload_n 0, 1) := by decide +kernel
theorem dL_law_202 : decode cL_law 202 = .ok (.iload_n 3, 1) := by decide +kernel
theorem dL_law_203 : decode cL_law 203 = .ok (.iconst 1, 1) := by decide +kernel
theorem dL_law_204 : decode cL_law 204 = .ok (.iadd, 1) := by decide +kernel
theorem dL_law_205 : decode cL_law 205 = .ok (.iaload, 1) := by decide +kernel
theorem dL_law_206 : decode cL_law 206 = .ok (.aload_n 0, 1) := by decide +kernel
theorem dL_law_207 : decode cL_law 207 = .ok (.iload_n 3, 1) := by decide +kernel
theorem dL_law_208 : decode cL_law 208 = .ok (.iconst 2, 1) := by decide +kernel
theorem dL_law_209 : decode cL_law 209 = .ok (.iadd, 1) := by decide +kernel
theorem dL_law_210 : decode cL_law 210 = .ok (.iaload, 1) := by decide +kernel
theorem dL_law_211 : decode cL_law 211 = .ok (.invokevirtual 23, 3) := by decide +kernel
theorem dL_law_214 : decode cL_law 214 = .ok (.aload_n 2, 1) := by decide +kernel
theorem dL_law_215 : decode cL_law 215 = .ok (.aload_n 0, 1) := by decide +kernel
theorem dL_law_216 : decode cL_law 216 = .ok (.iload_n 3, 1) := by decide +kernel
theorem dL_law_217 : decode cL_law 217 = .ok (.iconst 1, 1) := by decide +kernel
theorem dL_law_218 : decode cL_law 218 = .ok (.iadd, 1) := by decide +kernel
theorem dL_law_219 : decode cL_law 219 = .ok (.iaload, 1) := by decide +kernel
theorem dL_law_220 : decode cL_law 220 = .ok (.aload_n 0, 1) := by decide +kernel
theorem dL_law_221 : decode cL_law 221 = .ok (.iload_n 3, 1) := by decide +kernel
theorem dL_law_222 : decode cL_law 222 = .ok (.iconst 2, 1) := by decide +kernel
theorem dL_law_223 : decode cL_law 223 = .ok (.iadd, 1) := by decide +kernel
theorem dL_law_224 : decode cL_law 224 = .ok (.iaload, 1) := by decide +kernel
theorem dL_law_225 : decode cL_law 225 = .ok (.invokevirtual 27, 3) := by decide +kernel
theorem dL_law_228 : decode cL_law 228 = .ok (.if_icmp .eq 831, 3) := by decide +kernel
theorem dL_law_231 : decode cL_law 231 = .ok (.iconst 0, 1) := by decide +kernel
theorem dL_law_232 : decode cL_law 232 = .ok (.ireturn, 1) := by decide +kernel
theorem dL_law_233 : decode cL_law 233 = .ok (.aload_n 1, 1) := by decide +kernel
theorem dL_law_234 : decode cL_law 234 = .ok (.aload_n 0, 1) := by decide +kernel
theorem dL_law_235 : decode cL_law 235 = .ok (.iload_n 3, 1) := by decide +kernel
theorem dL_law_236 : decode cL_law 236 = .ok (.iconst 1, 1) := by decide +kernel
theorem dL_law_237 : decode cL_law 237 = .ok (.iadd, 1) := by decide +kernel
theorem dL_law_238 : decode cL_law 238 = .ok (.iaload, 1) := by decide +kernel
theorem dL_law_239 : decode cL_law 239 = .ok (.aload_n 0, 1) := by decide +kernel
theorem dL_law_240 : decode cL_law 240 = .ok (.iload_n 3, 1) := by decide +kernel
theorem dL_law_241 : decode cL_law 241 = .ok (.iconst 2, 1) := by decide +kernel
theorem dL_law_242 : decode cL_law 242 = .ok (.iadd, 1) := by decide +kernel
theorem dL_law_243 : decode cL_law 243 = .ok (.iaload, 1) := by decide +kernel
theorem dL_law_244 : decode cL_law 244 = .ok (.invokevirtual 28, 3) := by decide +kernel
theorem dL_law_247 : decode cL_law 247 = .ok (.aload_n 2, 1) := by decide +kernel
theorem dL_law_248 : decode cL_law 248 = .ok (.aload_n 0, 1) := by decide +kernel
theorem dL_law_249 : decode cL_law 249 = .ok (.iload_n 3, 1) := by decide +kernel
theorem dL_law_250 : decode cL_law 250 = .ok (.iconst 1, 1) := by decide +kernel
theorem dL_law_251 : decode cL_law 251 = .ok (.iadd, 1) := by decide +kernel
theorem dL_law_252 : decode cL_law 252 = .ok (.iaload, 1) := by decide +kernel
theorem dL_law_253 : decode cL_law 253 = .ok (.aload_n 0, 1) := by decide +kernel
theorem dL_law_254 : decode cL_law 254 = .ok (.iload_n 3, 1) := by decide +kernel
theorem dL_law_255 : decode cL_law 255 = .ok (.iconst 2, 1) := by decide +kernel
theorem dL_law_256 : decode cL_law 256 = .ok (.iadd, 1) := by decide +kernel
theorem dL_law_257 : decode cL_law 257 = .ok (.iaload, 1) := by decide +kernel
theorem dL_law_258 : decode cL_law 258 = .ok (.invokevirtual 31, 3) := by decide +kernel
theorem dL_law_261 : decode cL_law 261 = .ok (.if_icmp .eq 798, 3) := by decide +kernel
theorem dL_law_264 : decode cL_law 264 = .ok (.iconst 0, 1) := by decide +kernel
theorem dL_law_265 : decode cL_law 265 = .ok (.ireturn, 1) := by decide +kernel
theorem dL_law_266 : decode cL_law 266 = .ok (.aload_n 1, 1) := by decide +kernel
theorem dL_law_267 : decode cL_law 267 = .ok (.aload_n 0, 1) := by decide +kernel
theorem dL_law_268 : decode cL_law 268 = .ok (.iload_n 3, 1) := by decide +kernel
theorem dL_law_269 : decode cL_law 269 = .ok (.iconst 1, 1) := by decide +kernel
theorem dL_law_270 : decode cL_law 270 = .ok (.iadd, 1) := by decide +kernel
theorem dL_law_271 : decode cL_law 271 = .ok (.iaload, 1) := by decide +kernel
theorem dL_law_272 : decode cL_law 272 = .ok (.invokevirtual 32, 3) := by decide +kernel
theorem dL_law_275 : decode cL_law 275 = .ok (.aload_n 2, 1) := by decide +kernel
theorem dL_law_276 : decode cL_law 276 = .ok (.aload_n 0, 1) := by decide +kernel
theorem dL_law_277 : decode cL_law 277 = .ok (.iload_n 3, 1) := by decide +kernel
theorem dL_law_278 : decode cL_law 278 = .ok (.iconst 1, 1) := by decide +kernel
theorem dL_law_279 : decode cL_law 279 = .ok (.iadd, 1) := by decide +kernel
theorem dL_law_280 : decode cL_law 280 = .ok (.iaload, 1) := by decide +kernel
theorem dL_law_281 : decode cL_law 281 = .ok (.invokevirtual 35, 3) := by decide +kernel
theorem dL_law_284 : decode cL_law 284 = .ok (.if_icmp .eq 775, 3) := by decide +kernel
theorem dL_law_287 : decode cL_law 287 = .ok (.iconst 0, 1) := by decide +kernel
theorem dL_law_288 : decode cL_law 288 = .ok (.ireturn, 1) := by decide +kernel
theorem dL_law_289 : decode cL_law 289 = .ok (.aload_n 1, 1) := by decide +kernel
theorem dL_law_290 : decode cL_law 290 = .ok (.aload_n 0, 1) := by decide +kernel
theorem dL_law_291 : decode cL_law 291 = .ok (.iload_n 3, 1) := by decide +kernel
theorem dL_law_292 : decode cL_law 292 = .ok (.iconst 1, 1) := by decide +kernel
theorem dL_law_293 : decode cL_law 293 = .ok (.iadd, 1) := by decide +kernel
theorem dL_law_294 : decode cL_law 294 = .ok (.iaload, 1) := by decide +kernel
theorem dL_law_295 : decode cL_law 295 = .ok (.aload_n 0, 1) := by decide +kernel
theorem dL_law_296 : decode cL_law 296 = .ok (.iload_n 3, 1) := by decide +kernel
theorem dL_law_297 : decode cL_law 297 = .ok (.iconst 2, 1) := by decide +kernel
theorem dL_law_298 : decode cL_law 298 = .ok (.iadd, 1) := by decide +kernel
theorem dL_law_299 : decode cL_law 299 = .ok (.iaload, 1) := by decide +kernel
theorem dL_law_300 : decode cL_law 300 = .ok (.invokevirtual 36, 3) := by decide +kernel
theorem dL_law_303 : decode cL_law 303 = .ok (.aload_n 2, 1) := by decide +kernel
theorem dL_law_304 : decode cL_law 304 = .ok (.aload_n 0, 1) := by decide +kernel
theorem dL_law_305 : decode cL_law 305 = .ok (.iload_n 3, 1) := by decide +kernel
theorem dL_law_306 : decode cL_law 306 = .ok (.iconst 1, 1) := by decide +kernel
theorem dL_law_307 : decode cL_law 307 = .ok (.iadd, 1) := by decide +kernel
theorem dL_law_308 : decode cL_law 308 = .ok (.iaload, 1) := by decide +kernel
theorem dL_law_309 : decode cL_law 309 = .ok (.aload_n 0, 1) := by decide +kernel
theorem dL_law_310 : decode cL_law 310 = .ok (.iload_n 3, 1) := by decide +kernel
theorem dL_law_311 : decode cL_law 311 = .ok (.iconst 2, 1) := by decide +kernel
theorem dL_law_312 : decode cL_law 312 = .ok (.iadd, 1) := by decide +kernel
theorem dL_law_313 : decode cL_law 313 = .ok (.iaload, 1) := by decide +kernel
theorem dL_law_314 : decode cL_law 314 = .ok (.invokevirtual 40, 3) := by decide +kernel
theorem dL_law_317 : decode cL_law 317 = .ok (.lcmp, 1) := by decide +kernel
theorem dL_law_318 : decode cL_law 318 = .ok (.ifCond .eq 741, 3) := by decide +kernel
theorem dL_law_321 : decode cL_law 321 = .ok (.iconst 0, 1) := by decide +kernel
theorem dL_law_322 : decode cL_law 322 = .ok (.ireturn, 1) := by decide +kernel
theorem dL_law_323 : decode cL_law 323 = .ok (.aload_n 1, 1) := by decide +kernel
theorem dL_law_324 : decode cL_law 324 = .ok (.aload_n 0, 1) := by decide +kernel
theorem dL_law_325 : decode cL_law 325 = .ok (.iload_n 3, 1) := by decide +kernel
theorem dL_law_326 : decode cL_law 326 = .ok (.iconst 1, 1) := by decide +kernel
theorem dL_law_327 : decode cL_law 327 = .ok (.iadd, 1) := by decide +kernel
theorem dL_law_328 : decode cL_law 328 = .ok (.iaload, 1) := by decide +kernel
theorem dL_law_329 : decode cL_law 329 = .ok (.invokevirtual 41, 3) := by decide +kernel
theorem dL_law_332 : decode cL_law 332 = .ok (.aload_n 2, 1) := by decide +kernel
theorem dL_law_333 : decode cL_law 333 = .ok (.aload_n 0, 1) := by decide +kernel
theorem dL_law_334 : decode cL_law 334 = .ok (.iload_n 3, 1) := by decide +kernel
theorem dL_law_335 : decode cL_law 335 = .ok (.iconst 1, 1) := by decide +kernel
theorem dL_law_336 : decode cL_law 336 = .ok (.iadd, 1) := by decide +kernel
theorem dL_law_337 : decode cL_law 337 = .ok (.iaload, 1) := by decide +kernel
theorem dL_law_338 : decode cL_law 338 = .ok (.invokevirtual 44, 3) := by decide +kernel
theorem dL_law_341 : decode cL_law 341 = .ok (.if_icmp .eq 718, 3) := by decide +kernel
theorem dL_law_344 : decode cL_law 344 = .ok (.iconst 0, 1) := by decide +kernel
theorem dL_law_345 : decode cL_law 345 = .ok (.ireturn, 1) := by decide +kernel
theorem dL_law_346 : decode cL_law 346 = .ok (.aload_n 1, 1) := by decide +kernel
theorem dL_law_347 : decode cL_law 347 = .ok (.aload_n 0, 1) := by decide +kernel
theorem dL_law_348 : decode cL_law 348 = .ok (.iload_n 3, 1) := by decide +kernel
theorem dL_law_349 : decode cL_law 349 = .ok (.iconst 1, 1) := by decide +kernel
theorem dL_law_350 : decode cL_law 350 = .ok (.iadd, 1) := by decide +kernel
theorem dL_law_351 : decode cL_law 351 = .ok (.iaload, 1) := by decide +kernel
theorem dL_law_352 : decode cL_law 352 = .ok (.invokevirtual 45, 3) := by decide +kernel
theorem dL_law_355 : decode cL_law 355 = .ok (.aload_n 2, 1) := by decide +kernel
theorem dL_law_356 : decode cL_law 356 = .ok (.aload_n 0, 1) := by decide +kernel
theorem dL_law_357 : decode cL_law 357 = .ok (.iload_n 3, 1) := by decide +kernel
theorem dL_law_358 : decode cL_law 358 = .ok (.iconst 1, 1) := by decide +kernel
theorem dL_law_359 : decode cL_law 359 = .ok (.iadd, 1) := by decide +kernel
theorem dL_law_360 : decode cL_law 360 = .ok (.iaload, 1) := by decide +kernel
theorem dL_law_361 : decode cL_law 361 = .ok (.invokevirtual 49, 3) := by decide +kernel
theorem dL_law_364 : decode cL_law 364 = .ok (.lcmp, 1) := by decide +kernel
theorem dL_law_365 : decode cL_law 365 = .ok (.ifCond .eq 694, 3) := by decide +kernel
theorem dL_law_368 : decode cL_law 368 = .ok (.iconst 0, 1) := by decide +kernel
theorem dL_law_369 : decode cL_law 369 = .ok (.ireturn, 1) := by decide +kernel
theorem dL_law_370 : decode cL_law 370 = .ok (.aload_n 1, 1) := by decide +kernel
theorem dL_law_371 : decode cL_law 371 = .ok (.aload_n 0, 1) := by decide +kernel
theorem dL_law_372 : decode cL_law 372 = .ok (.iload_n 3, 1) := by decide +kernel
theorem dL_law_373 : decode cL_law 373 = .ok (.iconst 1, 1) := by decide +kernel
theorem dL_law_374 : decode cL_law 374 = .ok (.iadd, 1) := by decide +kernel
theorem dL_law_375 : decode cL_law 375 = .ok (.iaload, 1) := by decide +kernel
theorem dL_law_376 : decode cL_law 376 = .ok (.invokevirtual 50, 3) := by decide +kernel
theorem dL_law_379 : decode cL_law 379 = .ok (.aload_n 2, 1) := by decide +kernel
theorem dL_law_380 : decode cL_law 380 = .ok (.aload_n 0, 1) := by decide +kernel
theorem dL_law_381 : decode cL_law 381 = .ok (.iload_n 3, 1) := by decide +kernel
theorem dL_law_382 : decode cL_law 382 = .ok (.iconst 1, 1) := by decide +kernel
theorem dL_law_383 : decode cL_law 383 = .ok (.iadd, 1) := by decide +kernel
theorem dL_law_384 : decode cL_law 384 = .ok (.iaload, 1) := by decide +kernel
theorem dL_law_385 : decode cL_law 385 = .ok (.invokevirtual 53, 3) := by decide +kernel
theorem dL_law_388 : decode cL_law 388 = .ok (.if_icmp .eq 671, 3) := by decide +kernel
theorem dL_law_391 : decode cL_law 391 = .ok (.iconst 0, 1) := by decide +kernel
theorem dL_law_392 : decode cL_law 392 = .ok (.ireturn, 1) := by decide +kernel
theorem dL_law_393 : decode cL_law 393 = .ok (.aload_n 1, 1) := by decide +kernel
theorem dL_law_394 : decode cL_law 394 = .ok (.aload_n 0, 1) := by decide +kernel
theorem dL_law_395 : decode cL_law 395 = .ok (.iload_n 3, 1) := by decide +kernel
theorem dL_law_396 : decode cL_law 396 = .ok (.iconst 1, 1) := by decide +kernel
theorem dL_law_397 : decode cL_law 397 = .ok (.iadd, 1) := by decide +kernel
theorem dL_law_398 : decode cL_law 398 = .ok (.iaload, 1) := by decide +kernel
theorem dL_law_399 : decode cL_law 399 = .ok (.invokevirtual 54, 3) := by decide +kernel
theorem dL_law_402 : decode cL_law 402 = .ok (.aload_n 2, 1) := by decide +kernel
theorem dL_law_403 : decode cL_law 403 = .ok (.aload_n 0, 1) := by decide +kernel
theorem dL_law_404 : decode cL_law 404 = .ok (.iload_n 3, 1) := by decide +kernel
theorem dL_law_405 : decode cL_law 405 = .ok (.iconst 1, 1) := by decide +kernel
theorem dL_law_406 : decode cL_law 406 = .ok (.iadd, 1) := by decide +kernel
theorem dL_law_407 : decode cL_law 407 = .ok (.iaload, 1) := by decide +kernel
theorem dL_law_408 : decode cL_law 408 = .ok (.invokevirtual 57, 3) := by decide +kernel
theorem dL_law_411 : decode cL_law 411 = .ok (.lcmp, 1) := by decide +kernel
theorem dL_law_412 : decode cL_law 412 = .ok (.ifCond .eq 647, 3) := by decide +kernel
theorem dL_law_415 : decode cL_law 415 = .ok (.iconst 0, 1) := by decide +kernel
theorem dL_law_416 : decode cL_law 416 = .ok (.ireturn, 1) := by decide +kernel
theorem dL_law_417 : decode cL_law 417 = .ok (.aload_n 1, 1) := by decide +kernel
theorem dL_law_418 : decode cL_law 418 = .ok (.aload_n 0, 1) := by decide +kernel
theorem dL_law_419 : decode cL_law 419 = .ok (.iload_n 3, 1) := by decide +kernel
theorem dL_law_420 : decode cL_law 420 = .ok (.iconst 1, 1) := by decide +kernel
theorem dL_law_421 : decode cL_law 421 = .ok (.iadd, 1) := by decide +kernel
theorem dL_law_422 : decode cL_law 422 = .ok (.iaload, 1) := by decide +kernel
theorem dL_law_423 : decode cL_law 423 = .ok (.invokevirtual 58, 3) := by decide +kernel
theorem dL_law_426 : decode cL_law 426 = .ok (.aload_n 2, 1) := by decide +kernel
theorem dL_law_427 : decode cL_law 427 = .ok (.aload_n 0, 1) := by decide +kernel
theorem dL_law_428 : decode cL_law 428 = .ok (.iload_n 3, 1) := by decide +kernel
theorem dL_law_429 : decode cL_law 429 = .ok (.iconst 1, 1) := by decide +kernel
theorem dL_law_430 : decode cL_law 430 = .ok (.iadd, 1) := by decide +kernel
theorem dL_law_431 : decode cL_law 431 = .ok (.iaload, 1) := by decide +kernel
theorem dL_law_432 : decode cL_law 432 = .ok (.invokevirtual 61, 3) := by decide +kernel
theorem dL_law_435 : decode cL_law 435 = .ok (.if_icmp .eq 624, 3) := by decide +kernel
theorem dL_law_438 : decode cL_law 438 = .ok (.iconst 0, 1) := by decide +kernel
theorem dL_law_439 : decode cL_law 439 = .ok (.ireturn, 1) := by decide +kernel
theorem dL_law_440 : decode cL_law 440 = .ok (.aload_n 1, 1) := by decide +kernel
theorem dL_law_441 : decode cL_law 441 = .ok (.aload_n 0, 1) := by decide +kernel
theorem dL_law_442 : decode cL_law 442 = .ok (.iload_n 3, 1) := by decide +kernel
theorem dL_law_443 : decode cL_law 443 = .ok (.iconst 1, 1) := by decide +kernel
theorem dL_law_444 : decode cL_law 444 = .ok (.iadd, 1) := by decide +kernel
theorem dL_law_445 : decode cL_law 445 = .ok (.iaload, 1) := by decide +kernel
theorem dL_law_446 : decode cL_law 446 = .ok (.aload_n 0, 1) := by decide +kernel
theorem dL_law_447 : decode cL_law 447 = .ok (.iload_n 3, 1) := by decide +kernel
theorem dL_law_448 : decode cL_law 448 = .ok (.iconst 2, 1) := by decide +kernel
theorem dL_law_449 : decode cL_law 449 = .ok (.iadd, 1) := by decide +kernel
theorem dL_law_450 : decode cL_law 450 = .ok (.iaload, 1) := by decide +kernel
theorem dL_law_451 : decode cL_law 451 = .ok (.invokevirtual 62, 3) := by decide +kernel
theorem dL_law_454 : decode cL_law 454 = .ok (.aload_n 2, 1) := by decide +kernel
theorem dL_law_455 : decode cL_law 455 = .ok (.aload_n 0, 1) := by decide +kernel
theorem dL_law_456 : decode cL_law 456 = .ok (.iload_n 3, 1) := by decide +kernel
theorem dL_law_457 : decode cL_law 457 = .ok (.iconst 1, 1) := by decide +kernel
theorem dL_law_458 : decode cL_law 458 = .ok (.iadd, 1) := by decide +kernel
theorem dL_law_459 : decode cL_law 459 = .ok (.iaload, 1) := by decide +kernel
theorem dL_law_460 : decode cL_law 460 = .ok (.aload_n 0, 1) := by decide +kernel
theorem dL_law_461 : decode cL_law 461 = .ok (.iload_n 3, 1) := by decide +kernel
theorem dL_law_462 : decode cL_law 462 = .ok (.iconst 2, 1) := by decide +kernel
theorem dL_law_463 : decode cL_law 463 = .ok (.iadd, 1) := by decide +kernel
theorem dL_law_464 : decode cL_law 464 = .ok (.iaload, 1) := by decide +kernel
theorem dL_law_465 : decode cL_law 465 = .ok (.invokevirtual 65, 3) := by decide +kernel
theorem dL_law_468 : decode cL_law 468 = .ok (.lcmp, 1) := by decide +kernel
theorem dL_law_469 : decode cL_law 469 = .ok (.ifCond .eq 590, 3) := by decide +kernel
theorem dL_law_472 : decode cL_law 472 = .ok (.iconst 0, 1) := by decide +kernel
theorem dL_law_473 : decode cL_law 473 = .ok (.ireturn, 1) := by decide +kernel
theorem dL_law_474 : decode cL_law 474 = .ok (.aload_n 1, 1) := by decide +kernel
theorem dL_law_475 : decode cL_law 475 = .ok (.aload_n 0, 1) := by decide +kernel
theorem dL_law_476 : decode cL_law 476 = .ok (.iload_n 3, 1) := by decide +kernel
theorem dL_law_477 : decode cL_law 477 = .ok (.iconst 1, 1) := by decide +kernel
theorem dL_law_478 : decode cL_law 478 = .ok (.iadd, 1) := by decide +kernel
theorem dL_law_479 : decode cL_law 479 = .ok (.iaload, 1) := by decide +kernel
theorem dL_law_480 : decode cL_law 480 = .ok (.aload_n 0, 1) := by decide +kernel
theorem dL_law_481 : decode cL_law 481 = .ok (.iload_n 3, 1) := by decide +kernel
theorem dL_law_482 : decode cL_law 482 = .ok (.iconst 2, 1) := by decide +kernel
theorem dL_law_483 : decode cL_law 483 = .ok (.iadd, 1) := by decide +kernel
theorem dL_law_484 : decode cL_law 484 = .ok (.iaload, 1) := by decide +kernel
theorem dL_law_485 : decode cL_law 485 = .ok (.invokevirtual 66, 3) := by decide +kernel
theorem dL_law_488 : decode cL_law 488 = .ok (.aload_n 2, 1) := by decide +kernel
theorem dL_law_489 : decode cL_law 489 = .ok (.aload_n 0, 1) := by decide +kernel
theorem dL_law_490 : decode cL_law 490 = .ok (.iload_n 3, 1) := by decide +kernel
theorem dL_law_491 : decode cL_law 491 = .ok (.iconst 1, 1) := by decide +kernel
theorem dL_law_492 : decode cL_law 492 = .ok (.iadd, 1) := by decide +kernel
theorem dL_law_493 : decode cL_law 493 = .ok (.iaload, 1) := by decide +kernel
theorem dL_law_494 : decode cL_law 494 = .ok (.aload_n 0, 1) := by decide +kernel
theorem dL_law_495 : decode cL_law 495 = .ok (.iload_n 3, 1) := by decide +kernel
theorem dL_law_496 : decode cL_law 496 = .ok (.iconst 2, 1) := by decide +kernel
theorem dL_law_497 : decode cL_law 497 = .ok (.iadd, 1) := by decide +kernel
theorem dL_law_498 : decode cL_law 498 = .ok (.iaload, 1) := by decide +kernel
theorem dL_law_499 : decode cL_law 499 = .ok (.invokevirtual 69, 3) := by decide +kernel
theorem dL_law_502 : decode cL_law 502 = .ok (.if_icmp .eq 557, 3) := by decide +kernel
theorem dL_law_505 : decode cL_law 505 = .ok (.iconst 0, 1) := by decide +kernel
theorem dL_law_506 : decode cL_law 506 = .ok (.ireturn, 1) := by decide +kernel
theorem dL_law_507 : decode cL_law 507 = .ok (.aload_n 1, 1) := by decide +kernel
theorem dL_law_508 : decode cL_law 508 = .ok (.aload_n 0, 1) := by decide +kernel
theorem dL_law_509 : decode cL_law 509 = .ok (.iload_n 3, 1) := by decide +kernel
theorem dL_law_510 : decode cL_law 510 = .ok (.iconst 1, 1) := by decide +kernel
theorem dL_law_511 : decode cL_law 511 = .ok (.iadd, 1) := by decide +kernel
theorem dL_law_512 : decode cL_law 512 = .ok (.iaload, 1) := by decide +kernel
theorem dL_law_513 : decode cL_law 513 = .ok (.aload_n 0, 1) := by decide +kernel
theorem dL_law_514 : decode cL_law 514 = .ok (.iload_n 3, 1) := by decide +kernel
theorem dL_law_515 : decode cL_law 515 = .ok (.iconst 2, 1) := by decide +kernel
theorem dL_law_516 : decode cL_law 516 = .ok (.iadd, 1) := by decide +kernel
theorem dL_law_517 : decode cL_law 517 = .ok (.iaload, 1) := by decide +kernel
theorem dL_law_518 : decode cL_law 518 = .ok (.aload_n 0, 1) := by decide +kernel
theorem dL_law_519 : decode cL_law 519 = .ok (.iload_n 3, 1) := by decide +kernel
theorem dL_law_520 : decode cL_law 520 = .ok (.iconst 3, 1) := by decide +kernel
theorem dL_law_521 : decode cL_law 521 = .ok (.iadd, 1) := by decide +kernel
theorem dL_law_522 : decode cL_law 522 = .ok (.iaload, 1) := by decide +kernel
theorem dL_law_523 : decode cL_law 523 = .ok (.invokevirtual 70, 3) := by decide +kernel
theorem dL_law_526 : decode cL_law 526 = .ok (.aload_n 2, 1) := by decide +kernel
theorem dL_law_527 : decode cL_law 527 = .ok (.aload_n 0, 1) := by decide +kernel
theorem dL_law_528 : decode cL_law 528 = .ok (.iload_n 3, 1) := by decide +kernel
theorem dL_law_529 : decode cL_law 529 = .ok (.iconst 1, 1) := by decide +kernel
theorem dL_law_530 : decode cL_law 530 = .ok (.iadd, 1) := by decide +kernel
theorem dL_law_531 : decode cL_law 531 = .ok (.iaload, 1) := by decide +kernel
theorem dL_law_532 : decode cL_law 532 = .ok (.aload_n 0, 1) := by decide +kernel
theorem dL_law_533 : decode cL_law 533 = .ok (.iload_n 3, 1) := by decide +kernel
theorem dL_law_534 : decode cL_law 534 = .ok (.iconst 2, 1) := by decide +kernel
theorem dL_law_535 : decode cL_law 535 = .ok (.iadd, 1) := by decide +kernel
theorem dL_law_536 : decode cL_law 536 = .ok (.iaload, 1) := by decide +kernel
theorem dL_law_537 : decode cL_law 537 = .ok (.aload_n 0, 1) := by decide +kernel
theorem dL_law_538 : decode cL_law 538 = .ok (.iload_n 3, 1) := by decide +kernel
theorem dL_law_539 : decode cL_law 539 = .ok (.iconst 3, 1) := by decide +kernel
theorem dL_law_540 : decode cL_law 540 = .ok (.iadd, 1) := by decide +kernel
theorem dL_law_541 : decode cL_law 541 = .ok (.iaload, 1) := by decide +kernel
theorem dL_law_542 : decode cL_law 542 = .ok (.invokevirtual 74, 3) := by decide +kernel
theorem dL_law_545 : decode cL_law 545 = .ok (.if_icmp .eq 514, 3) := by decide +kernel
theorem dL_law_548 : decode cL_law 548 = .ok (.iconst 0, 1) := by decide +kernel
theorem dL_law_549 : decode cL_law 549 = .ok (.ireturn, 1) := by decide +kernel
theorem dL_law_550 : decode cL_law 550 = .ok (.aload_n 1, 1) := by decide +kernel
theorem dL_law_551 : decode cL_law 551 = .ok (.aload_n 0, 1) := by decide +kernel
theorem dL_law_552 : decode cL_law 552 = .ok (.iload_n 3, 1) := by decide +kernel
theorem dL_law_553 : decode cL_law 553 = .ok (.iconst 1, 1) := by decide +kernel
theorem dL_law_554 : decode cL_law 554 = .ok (.iadd, 1) := by decide +kernel
theorem dL_law_555 : decode cL_law 555 = .ok (.iaload, 1) := by decide +kernel
theorem dL_law_556 : decode cL_law 556 = .ok (.aload_n 0, 1) := by decide +kernel
theorem dL_law_557 : decode cL_law 557 = .ok (.iload_n 3, 1) := by decide +kernel
theorem dL_law_558 : decode cL_law 558 = .ok (.iconst 2, 1) := by decide +kernel
theorem dL_law_559 : decode cL_law 559 = .ok (.iadd, 1) := by decide +kernel
theorem dL_law_560 : decode cL_law 560 = .ok (.iaload, 1) := by decide +kernel
theorem dL_law_561 : decode cL_law 561 = .ok (.invokevirtual 75, 3) := by decide +kernel
theorem dL_law_564 : decode cL_law 564 = .ok (.aload_n 2, 1) := by decide +kernel
theorem dL_law_565 : decode cL_law 565 = .ok (.aload_n 0, 1) := by decide +kernel
theorem dL_law_566 : decode cL_law 566 = .ok (.iload_n 3, 1) := by decide +kernel
theorem dL_law_567 : decode cL_law 567 = .ok (.iconst 1, 1) := by decide +kernel
theorem dL_law_568 : decode cL_law 568 = .ok (.iadd, 1) := by decide +kernel
theorem dL_law_569 : decode cL_law 569 = .ok (.iaload, 1) := by decide +kernel
theorem dL_law_570 : decode cL_law 570 = .ok (.aload_n 0, 1) := by decide +kernel
theorem dL_law_571 : decode cL_law 571 = .ok (.iload_n 3, 1) := by decide +kernel
theorem dL_law_572 : decode cL_law 572 = .ok (.iconst 2, 1) := by decide +kernel
theorem dL_law_573 : decode cL_law 573 = .ok (.iadd, 1) := by decide +kernel
theorem dL_law_574 : decode cL_law 574 = .ok (.iaload, 1) := by decide +kernel
theorem dL_law_575 : decode cL_law 575 = .ok (.invokevirtual 78, 3) := by decide +kernel
theorem dL_law_578 : decode cL_law 578 = .ok (.if_icmp .eq 481, 3) := by decide +kernel
theorem dL_law_581 : decode cL_law 581 = .ok (.iconst 0, 1) := by decide +kernel
theorem dL_law_582 : decode cL_law 582 = .ok (.ireturn, 1) := by decide +kernel
theorem dL_law_583 : decode cL_law 583 = .ok (.aload_n 1, 1) := by decide +kernel
theorem dL_law_584 : decode cL_law 584 = .ok (.aload_n 0, 1) := by decide +kernel
theorem dL_law_585 : decode cL_law 585 = .ok (.iload_n 3, 1) := by decide +kernel
theorem dL_law_586 : decode cL_law 586 = .ok (.iconst 1, 1) := by decide +kernel
theorem dL_law_587 : decode cL_law 587 = .ok (.iadd, 1) := by decide +kernel
theorem dL_law_588 : decode cL_law 588 = .ok (.iaload, 1) := by decide +kernel
theorem dL_law_589 : decode cL_law 589 = .ok (.aload_n 0, 1) := by decide +kernel
theorem dL_law_590 : decode cL_law 590 = .ok (.iload_n 3, 1) := by decide +kernel
theorem dL_law_591 : decode cL_law 591 = .ok (.iconst 2, 1) := by decide +kernel
theorem dL_law_592 : decode cL_law 592 = .ok (.iadd, 1) := by decide +kernel
theorem dL_law_593 : decode cL_law 593 = .ok (.iaload, 1) := by decide +kernel
theorem dL_law_594 : decode cL_law 594 = .ok (.aload_n 0, 1) := by decide +kernel
theorem dL_law_595 : decode cL_law 595 = .ok (.iload_n 3, 1) := by decide +kernel
theorem dL_law_596 : decode cL_law 596 = .ok (.iconst 3, 1) := by decide +kernel
theorem dL_law_597 : decode cL_law 597 = .ok (.iadd, 1) := by decide +kernel
theorem dL_law_598 : decode cL_law 598 = .ok (.iaload, 1) := by decide +kernel
theorem dL_law_599 : decode cL_law 599 = .ok (.invokevirtual 79, 3) := by decide +kernel
theorem dL_law_602 : decode cL_law 602 = .ok (.aload_n 2, 1) := by decide +kernel
theorem dL_law_603 : decode cL_law 603 = .ok (.aload_n 0, 1) := by decide +kernel
theorem dL_law_604 : decode cL_law 604 = .ok (.iload_n 3, 1) := by decide +kernel
theorem dL_law_605 : decode cL_law 605 = .ok (.iconst 1, 1) := by decide +kernel
theorem dL_law_606 : decode cL_law 606 = .ok (.iadd, 1) := by decide +kernel
theorem dL_law_607 : decode cL_law 607 = .ok (.iaload, 1) := by decide +kernel
theorem dL_law_608 : decode cL_law 608 = .ok (.aload_n 0, 1) := by decide +kernel
theorem dL_law_609 : decode cL_law 609 = .ok (.iload_n 3, 1) := by decide +kernel
theorem dL_law_610 : decode cL_law 610 = .ok (.iconst 2, 1) := by decide +kernel
theorem dL_law_611 : decode cL_law 611 = .ok (.iadd, 1) := by decide +kernel
theorem dL_law_612 : decode cL_law 612 = .ok (.iaload, 1) := by decide +kernel
theorem dL_law_613 : decode cL_law 613 = .ok (.aload_n 0, 1) := by decide +kernel
theorem dL_law_614 : decode cL_law 614 = .ok (.iload_n 3, 1) := by decide +kernel
theorem dL_law_615 : decode cL_law 615 = .ok (.iconst 3, 1) := by decide +kernel
theorem dL_law_616 : decode cL_law 616 = .ok (.iadd, 1) := by decide +kernel
theorem dL_law_617 : decode cL_law 617 = .ok (.iaload, 1) := by decide +kernel
theorem dL_law_618 : decode cL_law 618 = .ok (.invokevirtual 83, 3) := by decide +kernel
theorem dL_law_621 : decode cL_law 621 = .ok (.lcmp, 1) := by decide +kernel
theorem dL_law_622 : decode cL_law 622 = .ok (.ifCond .eq 437, 3) := by decide +kernel
theorem dL_law_625 : decode cL_law 625 = .ok (.iconst 0, 1) := by decide +kernel
theorem dL_law_626 : decode cL_law 626 = .ok (.ireturn, 1) := by decide +kernel
theorem dL_law_627 : decode cL_law 627 = .ok (.aload_n 1, 1) := by decide +kernel
theorem dL_law_628 : decode cL_law 628 = .ok (.aload_n 0, 1) := by decide +kernel
theorem dL_law_629 : decode cL_law 629 = .ok (.iload_n 3, 1) := by decide +kernel
theorem dL_law_630 : decode cL_law 630 = .ok (.iconst 1, 1) := by decide +kernel
theorem dL_law_631 : decode cL_law 631 = .ok (.iadd, 1) := by decide +kernel
theorem dL_law_632 : decode cL_law 632 = .ok (.iaload, 1) := by decide +kernel
theorem dL_law_633 : decode cL_law 633 = .ok (.aload_n 0, 1) := by decide +kernel
theorem dL_law_634 : decode cL_law 634 = .ok (.iload_n 3, 1) := by decide +kernel
theorem dL_law_635 : decode cL_law 635 = .ok (.iconst 2, 1) := by decide +kernel
theorem dL_law_636 : decode cL_law 636 = .ok (.iadd, 1) := by decide +kernel
theorem dL_law_637 : decode cL_law 637 = .ok (.iaload, 1) := by decide +kernel
theorem dL_law_638 : decode cL_law 638 = .ok (.invokevirtual 84, 3) := by decide +kernel
theorem dL_law_641 : decode cL_law 641 = .ok (.aload_n 2, 1) := by decide +kernel
theorem dL_law_642 : decode cL_law 642 = .ok (.aload_n 0, 1) := by decide +kernel
theorem dL_law_643 : decode cL_law 643 = .ok (.iload_n 3, 1) := by decide +kernel
theorem dL_law_644 : decode cL_law 644 = .ok (.iconst 1, 1) := by decide +kernel
theorem dL_law_645 : decode cL_law 645 = .ok (.iadd, 1) := by decide +kernel
theorem dL_law_646 : decode cL_law 646 = .ok (.iaload, 1) := by decide +kernel
theorem dL_law_647 : decode cL_law 647 = .ok (.aload_n 0, 1) := by decide +kernel
theorem dL_law_648 : decode cL_law 648 = .ok (.iload_n 3, 1) := by decide +kernel
theorem dL_law_649 : decode cL_law 649 = .ok (.iconst 2, 1) := by decide +kernel
theorem dL_law_650 : decode cL_law 650 = .ok (.iadd, 1) := by decide +kernel
theorem dL_law_651 : decode cL_law 651 = .ok (.iaload, 1) := by decide +kernel
theorem dL_law_652 : decode cL_law 652 = .ok (.invokevirtual 87, 3) := by decide +kernel
theorem dL_law_655 : decode cL_law 655 = .ok (.lcmp, 1) := by decide +kernel
theorem dL_law_656 : decode cL_law 656 = .ok (.ifCond .eq 403, 3) := by decide +kernel
theorem dL_law_659 : decode cL_law 659 = .ok (.iconst 0, 1) := by decide +kernel
theorem dL_law_660 : decode cL_law 660 = .ok (.ireturn, 1) := by decide +kernel
theorem dL_law_661 : decode cL_law 661 = .ok (.aload_n 1, 1) := by decide +kernel
theorem dL_law_662 : decode cL_law 662 = .ok (.aload_n 0, 1) := by decide +kernel
theorem dL_law_663 : decode cL_law 663 = .ok (.iload_n 3, 1) := by decide +kernel
theorem dL_law_664 : decode cL_law 664 = .ok (.iconst 1, 1) := by decide +kernel
theorem dL_law_665 : decode cL_law 665 = .ok (.iadd, 1) := by decide +kernel
theorem dL_law_666 : decode cL_law 666 = .ok (.iaload, 1) := by decide +kernel
theorem dL_law_667 : decode cL_law 667 = .ok (.aload_n 0, 1) := by decide +kernel
theorem dL_law_668 : decode cL_law 668 = .ok (.iload_n 3, 1) := by decide +kernel
theorem dL_law_669 : decode cL_law 669 = .ok (.iconst 2, 1) := by decide +kernel
theorem dL_law_670 : decode cL_law 670 = .ok (.iadd, 1) := by decide +kernel
theorem dL_law_671 : decode cL_law 671 = .ok (.iaload, 1) := by decide +kernel
theorem dL_law_672 : decode cL_law 672 = .ok (.invokevirtual 88, 3) := by decide +kernel
theorem dL_law_675 : decode cL_law 675 = .ok (.aload_n 2, 1) := by decide +kernel
theorem dL_law_676 : decode cL_law 676 = .ok (.aload_n 0, 1) := by decide +kernel
theorem dL_law_677 : decode cL_law 677 = .ok (.iload_n 3, 1) := by decide +kernel
theorem dL_law_678 : decode cL_law 678 = .ok (.iconst 1, 1) := by decide +kernel
theorem dL_law_679 : decode cL_law 679 = .ok (.iadd, 1) := by decide +kernel
theorem dL_law_680 : decode cL_law 680 = .ok (.iaload, 1) := by decide +kernel
theorem dL_law_681 : decode cL_law 681 = .ok (.aload_n 0, 1) := by decide +kernel
theorem dL_law_682 : decode cL_law 682 = .ok (.iload_n 3, 1) := by decide +kernel
theorem dL_law_683 : decode cL_law 683 = .ok (.iconst 2, 1) := by decide +kernel
theorem dL_law_684 : decode cL_law 684 = .ok (.iadd, 1) := by decide +kernel
theorem dL_law_685 : decode cL_law 685 = .ok (.iaload, 1) := by decide +kernel
theorem dL_law_686 : decode cL_law 686 = .ok (.invokevirtual 91, 3) := by decide +kernel
theorem dL_law_689 : decode cL_law 689 = .ok (.if_icmp .eq 370, 3) := by decide +kernel
theorem dL_law_692 : decode cL_law 692 = .ok (.iconst 0, 1) := by decide +kernel
theorem dL_law_693 : decode cL_law 693 = .ok (.ireturn, 1) := by decide +kernel
theorem dL_law_694 : decode cL_law 694 = .ok (.aload_n 1, 1) := by decide +kernel
theorem dL_law_695 : decode cL_law 695 = .ok (.aload_n 0, 1) := by decide +kernel
theorem dL_law_696 : decode cL_law 696 = .ok (.iload_n 3, 1) := by decide +kernel
theorem dL_law_697 : decode cL_law 697 = .ok (.iconst 1, 1) := by decide +kernel
theorem dL_law_698 : decode cL_law 698 = .ok (.iadd, 1) := by decide +kernel
theorem dL_law_699 : decode cL_law 699 = .ok (.iaload, 1) := by decide +kernel
theorem dL_law_700 : decode cL_law 700 = .ok (.invokevirtual 92, 3) := by decide +kernel
theorem dL_law_703 : decode cL_law 703 = .ok (.aload_n 2, 1) := by decide +kernel
theorem dL_law_704 : decode cL_law 704 = .ok (.aload_n 0, 1) := by decide +kernel
theorem dL_law_705 : decode cL_law 705 = .ok (.iload_n 3, 1) := by decide +kernel
theorem dL_law_706 : decode cL_law 706 = .ok (.iconst 1, 1) := by decide +kernel
theorem dL_law_707 : decode cL_law 707 = .ok (.iadd, 1) := by decide +kernel
theorem dL_law_708 : decode cL_law 708 = .ok (.iaload, 1) := by decide +kernel
theorem dL_law_709 : decode cL_law 709 = .ok (.invokevirtual 95, 3) := by decide +kernel
theorem dL_law_712 : decode cL_law 712 = .ok (.lcmp, 1) := by decide +kernel
theorem dL_law_713 : decode cL_law 713 = .ok (.ifCond .eq 346, 3) := by decide +kernel
theorem dL_law_716 : decode cL_law 716 = .ok (.iconst 0, 1) := by decide +kernel
theorem dL_law_717 : decode cL_law 717 = .ok (.ireturn, 1) := by decide +kernel
theorem dL_law_718 : decode cL_law 718 = .ok (.aload_n 1, 1) := by decide +kernel
theorem dL_law_719 : decode cL_law 719 = .ok (.aload_n 0, 1) := by decide +kernel
theorem dL_law_720 : decode cL_law 720 = .ok (.iload_n 3, 1) := by decide +kernel
theorem dL_law_721 : decode cL_law 721 = .ok (.iconst 1, 1) := by decide +kernel
theorem dL_law_722 : decode cL_law 722 = .ok (.iadd, 1) := by decide +kernel
theorem dL_law_723 : decode cL_law 723 = .ok (.iaload, 1) := by decide +kernel
theorem dL_law_724 : decode cL_law 724 = .ok (.aload_n 0, 1) := by decide +kernel
theorem dL_law_725 : decode cL_law 725 = .ok (.iload_n 3, 1) := by decide +kernel
theorem dL_law_726 : decode cL_law 726 = .ok (.iconst 2, 1) := by decide +kernel
theorem dL_law_727 : decode cL_law 727 = .ok (.iadd, 1) := by decide +kernel
theorem dL_law_728 : decode cL_law 728 = .ok (.iaload, 1) := by decide +kernel
theorem dL_law_729 : decode cL_law 729 = .ok (.invokevirtual 96, 3) := by decide +kernel
theorem dL_law_732 : decode cL_law 732 = .ok (.aload_n 2, 1) := by decide +kernel
theorem dL_law_733 : decode cL_law 733 = .ok (.aload_n 0, 1) := by decide +kernel
theorem dL_law_734 : decode cL_law 734 = .ok (.iload_n 3, 1) := by decide +kernel
theorem dL_law_735 : decode cL_law 735 = .ok (.iconst 1, 1) := by decide +kernel
theorem dL_law_736 : decode cL_law 736 = .ok (.iadd, 1) := by decide +kernel
theorem dL_law_737 : decode cL_law 737 = .ok (.iaload, 1) := by decide +kernel
theorem dL_law_738 : decode cL_law 738 = .ok (.aload_n 0, 1) := by decide +kernel
theorem dL_law_739 : decode cL_law 739 = .ok (.iload_n 3, 1) := by decide +kernel
theorem dL_law_740 : decode cL_law 740 = .ok (.iconst 2, 1) := by decide +kernel
theorem dL_law_741 : decode cL_law 741 = .ok (.iadd, 1) := by decide +kernel
theorem dL_law_742 : decode cL_law 742 = .ok (.iaload, 1) := by decide +kernel
theorem dL_law_743 : decode cL_law 743 = .ok (.invokevirtual 99, 3) := by decide +kernel
theorem dL_law_746 : decode cL_law 746 = .ok (.if_icmp .eq 313, 3) := by decide +kernel
theorem dL_law_749 : decode cL_law 749 = .ok (.iconst 0, 1) := by decide +kernel
theorem dL_law_750 : decode cL_law 750 = .ok (.ireturn, 1) := by decide +kernel
theorem dL_law_751 : decode cL_law 751 = .ok (.aload_n 1, 1) := by decide +kernel
theorem dL_law_752 : decode cL_law 752 = .ok (.invokevirtual 100, 3) := by decide +kernel
theorem dL_law_755 : decode cL_law 755 = .ok (.aload_n 2, 1) := by decide +kernel
theorem dL_law_756 : decode cL_law 756 = .ok (.invokevirtual 103, 3) := by decide +kernel
theorem dL_law_759 : decode cL_law 759 = .ok (.if_icmp .eq 300, 3) := by decide +kernel
theorem dL_law_762 : decode cL_law 762 = .ok (.iconst 0, 1) := by decide +kernel
theorem dL_law_763 : decode cL_law 763 = .ok (.ireturn, 1) := by decide +kernel
theorem dL_law_764 : decode cL_law 764 = .ok (.aload_n 1, 1) := by decide +kernel
theorem dL_law_765 : decode cL_law 765 = .ok (.aload_n 0, 1) := by decide +kernel
theorem dL_law_766 : decode cL_law 766 = .ok (.iload_n 3, 1) := by decide +kernel
theorem dL_law_767 : decode cL_law 767 = .ok (.iconst 1, 1) := by decide +kernel
theorem dL_law_768 : decode cL_law 768 = .ok (.iadd, 1) := by decide +kernel
theorem dL_law_769 : decode cL_law 769 = .ok (.iaload, 1) := by decide +kernel
theorem dL_law_770 : decode cL_law 770 = .ok (.aload_n 0, 1) := by decide +kernel
theorem dL_law_771 : decode cL_law 771 = .ok (.iload_n 3, 1) := by decide +kernel
theorem dL_law_772 : decode cL_law 772 = .ok (.iconst 2, 1) := by decide +kernel
theorem dL_law_773 : decode cL_law 773 = .ok (.iadd, 1) := by decide +kernel
theorem dL_law_774 : decode cL_law 774 = .ok (.iaload, 1) := by decide +kernel
theorem dL_law_775 : decode cL_law 775 = .ok (.invokevirtual 104, 3) := by decide +kernel
theorem dL_law_778 : decode cL_law 778 = .ok (.aload_n 2, 1) := by decide +kernel
theorem dL_law_779 : decode cL_law 779 = .ok (.aload_n 0, 1) := by decide +kernel
theorem dL_law_780 : decode cL_law 780 = .ok (.iload_n 3, 1) := by decide +kernel
theorem dL_law_781 : decode cL_law 781 = .ok (.iconst 1, 1) := by decide +kernel
theorem dL_law_782 : decode cL_law 782 = .ok (.iadd, 1) := by decide +kernel
theorem dL_law_783 : decode cL_law 783 = .ok (.iaload, 1) := by decide +kernel
theorem dL_law_784 : decode cL_law 784 = .ok (.aload_n 0, 1) := by decide +kernel
theorem dL_law_785 : decode cL_law 785 = .ok (.iload_n 3, 1) := by decide +kernel
theorem dL_law_786 : decode cL_law 786 = .ok (.iconst 2, 1) := by decide +kernel
theorem dL_law_787 : decode cL_law 787 = .ok (.iadd, 1) := by decide +kernel
theorem dL_law_788 : decode cL_law 788 = .ok (.iaload, 1) := by decide +kernel
theorem dL_law_789 : decode cL_law 789 = .ok (.invokevirtual 107, 3) := by decide +kernel
theorem dL_law_792 : decode cL_law 792 = .ok (.if_icmp .eq 267, 3) := by decide +kernel
theorem dL_law_795 : decode cL_law 795 = .ok (.iconst 0, 1) := by decide +kernel
theorem dL_law_796 : decode cL_law 796 = .ok (.ireturn, 1) := by decide +kernel
theorem dL_law_797 : decode cL_law 797 = .ok (.aload_n 1, 1) := by decide +kernel
theorem dL_law_798 : decode cL_law 798 = .ok (.invokevirtual 108, 3) := by decide +kernel
theorem dL_law_801 : decode cL_law 801 = .ok (.aload_n 2, 1) := by decide +kernel
theorem dL_law_802 : decode cL_law 802 = .ok (.invokevirtual 111, 3) := by decide +kernel
theorem dL_law_805 : decode cL_law 805 = .ok (.if_icmp .eq 254, 3) := by decide +kernel
theorem dL_law_808 : decode cL_law 808 = .ok (.iconst 0, 1) := by decide +kernel
theorem dL_law_809 : decode cL_law 809 = .ok (.ireturn, 1) := by decide +kernel
theorem dL_law_810 : decode cL_law 810 = .ok (.aload_n 1, 1) := by decide +kernel
theorem dL_law_811 : decode cL_law 811 = .ok (.invokevirtual 112, 3) := by decide +kernel
theorem dL_law_814 : decode cL_law 814 = .ok (.aload_n 2, 1) := by decide +kernel
theorem dL_law_815 : decode cL_law 815 = .ok (.invokevirtual 115, 3) := by decide +kernel
theorem dL_law_818 : decode cL_law 818 = .ok (.if_icmp .eq 241, 3) := by decide +kernel
theorem dL_law_821 : decode cL_law 821 = .ok (.iconst 0, 1) := by decide +kernel
theorem dL_law_822 : decode cL_law 822 = .ok (.ireturn, 1) := by decide +kernel
theorem dL_law_823 : decode cL_law 823 = .ok (.aload_n 1, 1) := by decide +kernel
theorem dL_law_824 : decode cL_law 824 = .ok (.aload_n 0, 1) := by decide +kernel
theorem dL_law_825 : decode cL_law 825 = .ok (.iload_n 3, 1) := by decide +kernel
theorem dL_law_826 : decode cL_law 826 = .ok (.iconst 1, 1) := by decide +kernel
theorem dL_law_827 : decode cL_law 827 = .ok (.iadd, 1) := by decide +kernel
theorem dL_law_828 : decode cL_law 828 = .ok (.iaload, 1) := by decide +kernel
theorem dL_law_829 : decode cL_law 829 = .ok (.invokevirtual 116, 3) := by decide +kernel
theorem dL_law_832 : decode cL_law 832 = .ok (.aload_n 2, 1) := by decide +kernel
theorem dL_law_833 : decode cL_law 833 = .ok (.aload_n 0, 1) := by decide +kernel
theorem dL_law_834 : decode cL_law 834 = .ok (.iload_n 3, 1) := by decide +kernel
theorem dL_law_835 : decode cL_law 835 = .ok (.iconst 1, 1) := by decide +kernel
theorem dL_law_836 : decode cL_law 836 = .ok (.iadd, 1) := by decide +kernel
theorem dL_law_837 : decode cL_law 837 = .ok (.iaload, 1) := by decide +kernel
theorem dL_law_838 : decode cL_law 838 = .ok (.invokevirtual 119, 3) := by decide +kernel
theorem dL_law_841 : decode cL_law 841 = .ok (.if_icmp .eq 218, 3) := by decide +kernel
theorem dL_law_844 : decode cL_law 844 = .ok (.iconst 0, 1) := by decide +kernel
theorem dL_law_845 : decode cL_law 845 = .ok (.ireturn, 1) := by decide +kernel
theorem dL_law_846 : decode cL_law 846 = .ok (.aload_n 1, 1) := by decide +kernel
theorem dL_law_847 : decode cL_law 847 = .ok (.aload_n 0, 1) := by decide +kernel
theorem dL_law_848 : decode cL_law 848 = .ok (.iload_n 3, 1) := by decide +kernel
theorem dL_law_849 : decode cL_law 849 = .ok (.iconst 1, 1) := by decide +kernel
theorem dL_law_850 : decode cL_law 850 = .ok (.iadd, 1) := by decide +kernel
theorem dL_law_851 : decode cL_law 851 = .ok (.iaload, 1) := by decide +kernel
theorem dL_law_852 : decode cL_law 852 = .ok (.aload_n 0, 1) := by decide +kernel
theorem dL_law_853 : decode cL_law 853 = .ok (.iload_n 3, 1) := by decide +kernel
theorem dL_law_854 : decode cL_law 854 = .ok (.iconst 2, 1) := by decide +kernel
theorem dL_law_855 : decode cL_law 855 = .ok (.iadd, 1) := by decide +kernel
theorem dL_law_856 : decode cL_law 856 = .ok (.iaload, 1) := by decide +kernel
theorem dL_law_857 : decode cL_law 857 = .ok (.aload_n 0, 1) := by decide +kernel
theorem dL_law_858 : decode cL_law 858 = .ok (.iload_n 3, 1) := by decide +kernel
theorem dL_law_859 : decode cL_law 859 = .ok (.iconst 3, 1) := by decide +kernel
theorem dL_law_860 : decode cL_law 860 = .ok (.iadd, 1) := by decide +kernel
theorem dL_law_861 : decode cL_law 861 = .ok (.iaload, 1) := by decide +kernel
theorem dL_law_862 : decode cL_law 862 = .ok (.invokevirtual 120, 3) := by decide +kernel
theorem dL_law_865 : decode cL_law 865 = .ok (.aload_n 2, 1) := by decide +kernel
theorem dL_law_866 : decode cL_law 866 = .ok (.aload_n 0, 1) := by decide +kernel
theorem dL_law_867 : decode cL_law 867 = .ok (.iload_n 3, 1) := by decide +kernel
theorem dL_law_868 : decode cL_law 868 = .ok (.iconst 1, 1) := by decide +kernel
theorem dL_law_869 : decode cL_law 869 = .ok (.iadd, 1) := by decide +kernel
theorem dL_law_870 : decode cL_law 870 = .ok (.iaload, 1) := by decide +kernel
theorem dL_law_871 : decode cL_law 871 = .ok (.aload_n 0, 1) := by decide +kernel
theorem dL_law_872 : decode cL_law 872 = .ok (.iload_n 3, 1) := by decide +kernel
theorem dL_law_873 : decode cL_law 873 = .ok (.iconst 2, 1) := by decide +kernel
theorem dL_law_874 : decode cL_law 874 = .ok (.iadd, 1) := by decide +kernel
theorem dL_law_875 : decode cL_law 875 = .ok (.iaload, 1) := by decide +kernel
theorem dL_law_876 : decode cL_law 876 = .ok (.aload_n 0, 1) := by decide +kernel
theorem dL_law_877 : decode cL_law 877 = .ok (.iload_n 3, 1) := by decide +kernel
theorem dL_law_878 : decode cL_law 878 = .ok (.iconst 3, 1) := by decide +kernel
theorem dL_law_879 : decode cL_law 879 = .ok (.iadd, 1) := by decide +kernel
theorem dL_law_880 : decode cL_law 880 = .ok (.iaload, 1) := by decide +kernel
theorem dL_law_881 : decode cL_law 881 = .ok (.invokevirtual 123, 3) := by decide +kernel
theorem dL_law_884 : decode cL_law 884 = .ok (.if_icmp .eq 175, 3) := by decide +kernel
theorem dL_law_887 : decode cL_law 887 = .ok (.iconst 0, 1) := by decide +kernel
theorem dL_law_888 : decode cL_law 888 = .ok (.ireturn, 1) := by decide +kernel
theorem dL_law_889 : decode cL_law 889 = .ok (.aload_n 1, 1) := by decide +kernel
theorem dL_law_890 : decode cL_law 890 = .ok (.aload_n 0, 1) := by decide +kernel
theorem dL_law_891 : decode cL_law 891 = .ok (.iload_n 3, 1) := by decide +kernel
theorem dL_law_892 : decode cL_law 892 = .ok (.iconst 1, 1) := by decide +kernel
theorem dL_law_893 : decode cL_law 893 = .ok (.iadd, 1) := by decide +kernel
theorem dL_law_894 : decode cL_law 894 = .ok (.iaload, 1) := by decide +kernel
theorem dL_law_895 : decode cL_law 895 = .ok (.aload_n 0, 1) := by decide +kernel
theorem dL_law_896 : decode cL_law 896 = .ok (.iload_n 3, 1) := by decide +kernel
theorem dL_law_897 : decode cL_law 897 = .ok (.iconst 2, 1) := by decide +kernel
theorem dL_law_898 : decode cL_law 898 = .ok (.iadd, 1) := by decide +kernel
theorem dL_law_899 : decode cL_law 899 = .ok (.iaload, 1) := by decide +kernel
theorem dL_law_900 : decode cL_law 900 = .ok (.aload_n 0, 1) := by decide +kernel
theorem dL_law_901 : decode cL_law 901 = .ok (.iload_n 3, 1) := by decide +kernel
theorem dL_law_902 : decode cL_law 902 = .ok (.iconst 3, 1) := by decide +kernel
theorem dL_law_903 : decode cL_law 903 = .ok (.iadd, 1) := by decide +kernel
theorem dL_law_904 : decode cL_law 904 = .ok (.iaload, 1) := by decide +kernel
theorem dL_law_905 : decode cL_law 905 = .ok (.i2l, 1) := by decide +kernel
theorem dL_law_906 : decode cL_law 906 = .ok (.bipush 32, 2) := by decide +kernel
theorem dL_law_908 : decode cL_law 908 = .ok (.lshl, 1) := by decide +kernel
theorem dL_law_909 : decode cL_law 909 = .ok (.aload_n 0, 1) := by decide +kernel
theorem dL_law_910 : decode cL_law 910 = .ok (.iload_n 3, 1) := by decide +kernel
theorem dL_law_911 : decode cL_law 911 = .ok (.iconst 4, 1) := by decide +kernel
theorem dL_law_912 : decode cL_law 912 = .ok (.iadd, 1) := by decide +kernel
theorem dL_law_913 : decode cL_law 913 = .ok (.iaload, 1) := by decide +kernel
theorem dL_law_914 : decode cL_law 914 = .ok (.i2l, 1) := by decide +kernel
theorem dL_law_915 : decode cL_law 915 = .ok (.ldc2_w 124, 3) := by decide +kernel
theorem dL_law_918 : decode cL_law 918 = .ok (.land, 1) := by decide +kernel
theorem dL_law_919 : decode cL_law 919 = .ok (.lor, 1) := by decide +kernel
theorem dL_law_920 : decode cL_law 920 = .ok (.invokevirtual 126, 3) := by decide +kernel
theorem dL_law_923 : decode cL_law 923 = .ok (.aload_n 2, 1) := by decide +kernel
theorem dL_law_924 : decode cL_law 924 = .ok (.aload_n 0, 1) := by decide +kernel
theorem dL_law_925 : decode cL_law 925 = .ok (.iload_n 3, 1) := by decide +kernel
theorem dL_law_926 : decode cL_law 926 = .ok (.iconst 1, 1) := by decide +kernel
theorem dL_law_927 : decode cL_law 927 = .ok (.iadd, 1) := by decide +kernel
theorem dL_law_928 : decode cL_law 928 = .ok (.iaload, 1) := by decide +kernel
theorem dL_law_929 : decode cL_law 929 = .ok (.aload_n 0, 1) := by decide +kernel
theorem dL_law_930 : decode cL_law 930 = .ok (.iload_n 3, 1) := by decide +kernel
theorem dL_law_931 : decode cL_law 931 = .ok (.iconst 2, 1) := by decide +kernel
theorem dL_law_932 : decode cL_law 932 = .ok (.iadd, 1) := by decide +kernel
theorem dL_law_933 : decode cL_law 933 = .ok (.iaload, 1) := by decide +kernel
theorem dL_law_934 : decode cL_law 934 = .ok (.aload_n 0, 1) := by decide +kernel
theorem dL_law_935 : decode cL_law 935 = .ok (.iload_n 3, 1) := by decide +kernel
theorem dL_law_936 : decode cL_law 936 = .ok (.iconst 3, 1) := by decide +kernel
theorem dL_law_937 : decode cL_law 937 = .ok (.iadd, 1) := by decide +kernel
theorem dL_law_938 : decode cL_law 938 = .ok (.iaload, 1) := by decide +kernel
theorem dL_law_939 : decode cL_law 939 = .ok (.i2l, 1) := by decide +kernel
theorem dL_law_940 : decode cL_law 940 = .ok (.bipush 32, 2) := by decide +kernel
theorem dL_law_942 : decode cL_law 942 = .ok (.lshl, 1) := by decide +kernel
theorem dL_law_943 : decode cL_law 943 = .ok (.aload_n 0, 1) := by decide +kernel
theorem dL_law_944 : decode cL_law 944 = .ok (.iload_n 3, 1) := by decide +kernel
theorem dL_law_945 : decode cL_law 945 = .ok (.iconst 4, 1) := by decide +kernel
theorem dL_law_946 : decode cL_law 946 = .ok (.iadd, 1) := by decide +kernel
theorem dL_law_947 : decode cL_law 947 = .ok (.iaload, 1) := by decide +kernel
theorem dL_law_948 : decode cL_law 948 = .ok (.i2l, 1) := by decide +kernel
theorem dL_law_949 : decode cL_law 949 = .ok (.ldc2_w 124, 3) := by decide +kernel
theorem dL_law_952 : decode cL_law 952 = .ok (.land, 1) := by decide +kernel
theorem dL_law_953 : decode cL_law 953 = .ok (.lor, 1) := by decide +kernel
theorem dL_law_954 : decode cL_law 954 = .ok (.invokevirtual 130, 3) := by decide +kernel
theorem dL_law_957 : decode cL_law 957 = .ok (.if_icmp .eq 102, 3) := by decide +kernel
theorem dL_law_960 : decode cL_law 960 = .ok (.iconst 0, 1) := by decide +kernel
theorem dL_law_961 : decode cL_law 961 = .ok (.ireturn, 1) := by decide +kernel
theorem dL_law_962 : decode cL_law 962 = .ok (.aload_n 1, 1) := by decide +kernel
theorem dL_law_963 : decode cL_law 963 = .ok (.aload_n 0, 1) := by decide +kernel
theorem dL_law_964 : decode cL_law 964 = .ok (.iload_n 3, 1) := by decide +kernel
theorem dL_law_965 : decode cL_law 965 = .ok (.iconst 1, 1) := by decide +kernel
theorem dL_law_966 : decode cL_law 966 = .ok (.iadd, 1) := by decide +kernel
theorem dL_law_967 : decode cL_law 967 = .ok (.iaload, 1) := by decide +kernel
theorem dL_law_968 : decode cL_law 968 = .ok (.aload_n 0, 1) := by decide +kernel
theorem dL_law_969 : decode cL_law 969 = .ok (.iload_n 3, 1) := by decide +kernel
theorem dL_law_970 : decode cL_law 970 = .ok (.iconst 2, 1) := by decide +kernel
theorem dL_law_971 : decode cL_law 971 = .ok (.iadd, 1) := by decide +kernel
theorem dL_law_972 : decode cL_law 972 = .ok (.iaload, 1) := by decide +kernel
theorem dL_law_973 : decode cL_law 973 = .ok (.invokevirtual 131, 3) := by decide +kernel
theorem dL_law_976 : decode cL_law 976 = .ok (.aload_n 2, 1) := by decide +kernel
theorem dL_law_977 : decode cL_law 977 = .ok (.aload_n 0, 1) := by decide +kernel
theorem dL_law_978 : decode cL_law 978 = .ok (.iload_n 3, 1) := by decide +kernel
theorem dL_law_979 : decode cL_law 979 = .ok (.iconst 1, 1) := by decide +kernel
theorem dL_law_980 : decode cL_law 980 = .ok (.iadd, 1) := by decide +kernel
theorem dL_law_981 : decode cL_law 981 = .ok (.iaload, 1) := by decide +kernel
theorem dL_law_982 : decode cL_law 982 = .ok (.aload_n 0, 1) := by decide +kernel
theorem dL_law_983 : decode cL_law 983 = .ok (.iload_n 3, 1) := by decide +kernel
theorem dL_law_984 : decode cL_law 984 = .ok (.iconst 2, 1) := by decide +kernel
theorem dL_law_985 : decode cL_law 985 = .ok (.iadd, 1) := by decide +kernel
theorem dL_law_986 : decode cL_law 986 = .ok (.iaload, 1) := by decide +kernel
theorem dL_law_987 : decode cL_law 987 = .ok (.invokevirtual 134, 3) := by decide +kernel
theorem dL_law_990 : decode cL_law 990 = .ok (.lcmp, 1) := by decide +kernel
theorem dL_law_991 : decode cL_law 991 = .ok (.ifCond .eq 68, 3) := by decide +kernel
theorem dL_law_994 : decode cL_law 994 = .ok (.iconst 0, 1) := by decide +kernel
theorem dL_law_995 : decode cL_law 995 = .ok (.ireturn, 1) := by decide +kernel
theorem dL_law_996 : decode cL_law 996 = .ok (.aload_n 1, 1) := by decide +kernel
theorem dL_law_997 : decode cL_law 997 = .ok (.aload_n 0, 1) := by decide +kernel
theorem dL_law_998 : decode cL_law 998 = .ok (.iload_n 3, 1) := by decide +kernel
theorem dL_law_999 : decode cL_law 999 = .ok (.iconst 1, 1) := by decide +kernel
theorem dL_law_1000 : decode cL_law 1000 = .ok (.iadd, 1) := by decide +kernel
theorem dL_law_1001 : decode cL_law 1001 = .ok (.iaload, 1) := by decide +kernel
theorem dL_law_1002 : decode cL_law 1002 = .ok (.aload_n 0, 1) := by decide +kernel
theorem dL_law_1003 : decode cL_law 1003 = .ok (.iload_n 3, 1) := by decide +kernel
theorem dL_law_1004 : decode cL_law 1004 = .ok (.iconst 2, 1) := by decide +kernel
theorem dL_law_1005 : decode cL_law 1005 = .ok (.iadd, 1) := by decide +kernel
theorem dL_law_1006 : decode cL_law 1006 = .ok (.iaload, 1) := by decide +kernel
theorem dL_law_1007 : decode cL_law 1007 = .ok (.aload_n 0, 1) := by decide +kernel
theorem dL_law_1008 : decode cL_law 1008 = .ok (.iload_n 3, 1) := by decide +kernel
theorem dL_law_1009 : decode cL_law 1009 = .ok (.iconst 3, 1) := by decide +kernel
theorem dL_law_1010 : decode cL_law 1010 = .ok (.iadd, 1) := by decide +kernel
theorem dL_law_1011 : decode cL_law 1011 = .ok (.iaload, 1) := by decide +kernel
theorem dL_law_1012 : decode cL_law 1012 = .ok (.aload_n 0, 1) := by decide +kernel
theorem dL_law_1013 : decode cL_law 1013 = .ok (.iload_n 3, 1) := by decide +kernel
theorem dL_law_1014 : decode cL_law 1014 = .ok (.iconst 4, 1) := by decide +kernel
theorem dL_law_1015 : decode cL_law 1015 = .ok (.iadd, 1) := by decide +kernel
theorem dL_law_1016 : decode cL_law 1016 = .ok (.iaload, 1) := by decide +kernel
theorem dL_law_1017 : decode cL_law 1017 = .ok (.aload_n 0, 1) := by decide +kernel
theorem dL_law_1018 : decode cL_law 1018 = .ok (.iload_n 3, 1) := by decide +kernel
theorem dL_law_1019 : decode cL_law 1019 = .ok (.iconst 5, 1) := by decide +kernel
theorem dL_law_1020 : decode cL_law 1020 = .ok (.iadd, 1) := by decide +kernel
theorem dL_law_1021 : decode cL_law 1021 = .ok (.iaload, 1) := by decide +kernel
theorem dL_law_1022 : decode cL_law 1022 = .ok (.invokevirtual 135, 3) := by decide +kernel
theorem dL_law_1025 : decode cL_law 1025 = .ok (.aload_n 2, 1) := by decide +kernel
theorem dL_law_1026 : decode cL_law 1026 = .ok (.aload_n 0, 1) := by decide +kernel
theorem dL_law_1027 : decode cL_law 1027 = .ok (.iload_n 3, 1) := by decide +kernel
theorem dL_law_1028 : decode cL_law 1028 = .ok (.iconst 1, 1) := by decide +kernel
theorem dL_law_1029 : decode cL_law 1029 = .ok (.iadd, 1) := by decide +kernel
theorem dL_law_1030 : decode cL_law 1030 = .ok (.iaload, 1) := by decide +kernel
theorem dL_law_1031 : decode cL_law 1031 = .ok (.aload_n 0, 1) := by decide +kernel
theorem dL_law_1032 : decode cL_law 1032 = .ok (.iload_n 3, 1) := by decide +kernel
theorem dL_law_1033 : decode cL_law 1033 = .ok (.iconst 2, 1) := by decide +kernel
theorem dL_law_1034 : decode cL_law 1034 = .ok (.iadd, 1) := by decide +kernel
theorem dL_law_1035 : decode cL_law 1035 = .ok (.iaload, 1) := by decide +kernel
theorem dL_law_1036 : decode cL_law 1036 = .ok (.aload_n 0, 1) := by decide +kernel
theorem dL_law_1037 : decode cL_law 1037 = .ok (.iload_n 3, 1) := by decide +kernel
theorem dL_law_1038 : decode cL_law 1038 = .ok (.iconst 3, 1) := by decide +kernel
theorem dL_law_1039 : decode cL_law 1039 = .ok (.iadd, 1) := by decide +kernel
theorem dL_law_1040 : decode cL_law 1040 = .ok (.iaload, 1) := by decide +kernel
theorem dL_law_1041 : decode cL_law 1041 = .ok (.aload_n 0, 1) := by decide +kernel
theorem dL_law_1042 : decode cL_law 1042 = .ok (.iload_n 3, 1) := by decide +kernel
theorem dL_law_1043 : decode cL_law 1043 = .ok (.iconst 4, 1) := by decide +kernel
theorem dL_law_1044 : decode cL_law 1044 = .ok (.iadd, 1) := by decide +kernel
theorem dL_law_1045 : decode cL_law 1045 = .ok (.iaload, 1) := by decide +kernel
theorem dL_law_1046 : decode cL_law 1046 = .ok (.aload_n 0, 1) := by decide +kernel
theorem dL_law_1047 : decode cL_law 1047 = .ok (.iload_n 3, 1) := by decide +kernel
theorem dL_law_1048 : decode cL_law 1048 = .ok (.iconst 5, 1) := by decide +kernel
theorem dL_law_1049 : decode cL_law 1049 = .ok (.iadd, 1) := by decide +kernel
theorem dL_law_1050 : decode cL_law 1050 = .ok (.iaload, 1) := by decide +kernel
theorem dL_law_1051 : decode cL_law 1051 = .ok (.invokevirtual 139, 3) := by decide +kernel
theorem dL_law_1054 : decode cL_law 1054 = .ok (.if_icmp .eq 5, 3) := by decide +kernel
theorem dL_law_1057 : decode cL_law 1057 = .ok (.iconst 0, 1) := by decide +kernel
theorem dL_law_1058 : decode cL_law 1058 = .ok (.ireturn, 1) := by decide +kernel
theorem dL_law_1059 : decode cL_law 1059 = .ok (.iinc 3 6, 3) := by decide +kernel
theorem dL_law_1062 : decode cL_law 1062 = .ok (.goto (-1044), 3) := by decide +kernel
theorem dL_law_1065 : decode cL_law 1065 = .ok (.iconst 1, 1) := by decide +kernel
theorem dL_law_1066 : decode cL_law 1066 = .ok (.ireturn, 1) := by decide +kernel
end
section
/-! ===== values and numbers: ints as Int, within their range ===== -/
abbrev AV : Type := Int ⊕ (Int ⊕ Int)
abbrev vi (x : Int) : AV := .inl x
abbrev vl (x : Int) : AV := .inr (.inl x)
abbrev vr (x : Int) : AV := .inr (.inr x)
abbrev in32 (x : Int) : Prop := -2147483648 ≤ x ∧ x < 2147483648
abbrev in64 (x : Int) : Prop := -9223372036854775808 ≤ x ∧ x < 9223372036854775808
def w32 (x : Int) : Int := x.bmod 4294967296
def w64 (x : Int) : Int := x.bmod 18446744073709551616
theorem w32_in (x : Int) : in32 (w32 x) := by
  have h1 := Int.le_bmod (x := x) (m := 4294967296) (by decide)
  have h2 := Int.bmod_lt (x := x) (m := 4294967296) (by decide)
  unfold w32 in32
  omega
theorem w64_in (x : Int) : in64 (w64 x) := by
  have h1 := Int.le_bmod (x := x) (m := 18446744073709551616) (by decide)
  have h2 := Int.bmod_lt (x := x) (m := 18446744073709551616) (by decide)
  unfold w64 in64
  omega
theorem w32_id {x : Int} (h1 : -2147483648 ≤ x) (h2 : x < 2147483648) : w32 x = x := by
  unfold w32
  rw [Int.bmod_def]
  split <;> omega
theorem w64_id {x : Int} (h1 : -9223372036854775808 ≤ x) (h2 : x < 9223372036854775808) : w64 x = x := by
  unfold w64
  rw [Int.bmod_def]
  split <;> omega
theorem i32_t {x : Int} (h : in32 x) : (Int32.ofInt x).toInt = x := by
  rw [Int32.toInt_ofInt]
  exact w32_id h.1 h.2
theorem i64_t {x : Int} (h : in64 x) : (Int64.ofInt x).toInt = x := by
  rw [Int64.toInt_ofInt]
  exact w64_id h.1 h.2
theorem i32_in (x : Int32) : in32 x.toInt := by
  have h1 := Int32.le_toInt x
  have h2 := Int32.toInt_lt x
  unfold in32
  omega
theorem i64_in (x : Int64) : in64 x.toInt := by
  have h1 := Int64.le_toInt x
  have h2 := Int64.toInt_lt x
  unfold in64
  omega
theorem i32_w (x : Int) : Int32.ofInt (w32 x) = Int32.ofInt x := by
  apply Int32.toInt_inj.mp
  rw [i32_t (w32_in x), Int32.toInt_ofInt]
  rfl
theorem i64_w (x : Int) : Int64.ofInt (w64 x) = Int64.ofInt x := by
  apply Int64.toInt_inj.mp
  rw [i64_t (w64_in x), Int64.toInt_ofInt]
  rfl
theorem i32_of (x : Int32) : Int32.ofInt x.toInt = x := by
  apply Int32.toInt_inj.mp
  exact i32_t (i32_in x)
theorem i64_of (x : Int64) : Int64.ofInt x.toInt = x := by
  apply Int64.toInt_inj.mp
  exact i64_t (i64_in x)
theorem i32_add (x y : Int) : Int32.ofInt x + Int32.ofInt y = Int32.ofInt (w32 (x + y)) := by
  rw [i32_w, Int32.ofInt_add]
theorem i32_sub (x y : Int) : Int32.ofInt x - Int32.ofInt y = Int32.ofInt (w32 (x - y)) := by
  rw [i32_w, Int32.ofInt_sub]
theorem i32_mul (x y : Int) : Int32.ofInt x * Int32.ofInt y = Int32.ofInt (w32 (x * y)) := by
  rw [i32_w, Int32.ofInt_mul]
theorem i64_add (x y : Int) : Int64.ofInt x + Int64.ofInt y = Int64.ofInt (w64 (x + y)) := by
  rw [i64_w, Int64.ofInt_add]
theorem i64_neg (x : Int) : - Int64.ofInt x = Int64.ofInt (w64 (-x)) := by
  rw [i64_w, Int64.ofInt_neg]
theorem i32_eq {x y : Int} (hx : in32 x) (hy : in32 y) : Int32.ofInt x = Int32.ofInt y ↔ x = y := by
  rw [← Int32.toInt_inj, i32_t hx, i32_t hy]
theorem i32_lt {x y : Int} (hx : in32 x) (hy : in32 y) : Int32.ofInt x < Int32.ofInt y ↔ x < y := by
  rw [Int32.lt_iff_toInt_lt, i32_t hx, i32_t hy]
theorem i32_le {x y : Int} (hx : in32 x) (hy : in32 y) : Int32.ofInt x ≤ Int32.ofInt y ↔ x ≤ y := by
  rw [Int32.le_iff_toInt_le, i32_t hx, i32_t hy]
theorem i64_eq {x y : Int} (hx : in64 x) (hy : in64 y) : Int64.ofInt x = Int64.ofInt y ↔ x = y := by
  rw [← Int64.toInt_inj, i64_t hx, i64_t hy]
theorem i64_lt {x y : Int} (hx : in64 x) (hy : in64 y) : Int64.ofInt x < Int64.ofInt y ↔ x < y := by
  rw [Int64.lt_iff_toInt_lt, i64_t hx, i64_t hy]
theorem in32_64 {x : Int} (h : in32 x) : in64 x := by unfold in32 at h; unfold in64; omega
theorem i32_l {x : Int} (h : in32 x) : (Int32.ofInt x).toInt64 = Int64.ofInt x := by
  apply Int64.toInt_inj.mp
  rw [Int32.toInt_toInt64, i32_t h, i64_t (in32_64 h)]
theorem i64_i {x : Int} (h : in64 x) : (Int64.ofInt x).toInt32 = Int32.ofInt (w32 x) := by
  apply Int32.toInt_inj.mp
  rw [Int64.toInt_toInt32, i64_t h, i32_t (w32_in x)]
  rfl
theorem i32_n {x : Int} (h : in32 x) : (Int32.ofInt x).toNatClampNeg = x.toNat := by
  rw [← Int32.toNat_toInt, i32_t h]
theorem i32_lit (n : Nat) : (OfNat.ofNat n : Int32) = Int32.ofInt n := rfl
theorem i32_0 : (0 : Int32) = Int32.ofInt 0 := by decide +kernel
theorem i64_0 : (0 : Int64) = Int64.ofInt 0 := by decide +kernel
theorem w_tmod {a b : Int} (ha : in32 a) (hb : in32 b) : in32 (a.tmod b) := by
  unfold in32 at *
  rcases Int.le_total 0 a with h | h
  · have h1 := Int.tmod_nonneg b h
    have h2 : a.tmod b ≤ a := by
      have := Int.natAbs_tmod a b
      have h3 : a.natAbs % b.natAbs ≤ a.natAbs := Nat.mod_le _ _
      omega
    omega
  · have h2 : (a.tmod b).natAbs ≤ a.natAbs := by
      have := Int.natAbs_tmod a b
      have h3 : a.natAbs % b.natAbs ≤ a.natAbs := Nat.mod_le _ _
      omega
    have h4 : a.tmod b ≤ 0 := by
      have h5 := Int.tmod_nonneg b (a := -a) (by omega)
      rw [Int.neg_tmod] at h5
      omega
    omega
theorem i32_rem {a b : Int} (ha : in32 a) (hb : in32 b) : Int32.ofInt a - Int32.ofInt a / Int32.ofInt b * Int32.ofInt b = Int32.ofInt (a.tmod b) := by
  apply Int32.toInt_inj.mp
  rw [Int32.toInt_sub, Int32.toInt_mul, Int32.toInt_div, i32_t ha, i32_t hb, i32_t (w_tmod ha hb)]
  show (a - (((a.tdiv b).bmod 4294967296) * b).bmod 4294967296).bmod 4294967296 = _
  rw [Int.bmod_mul_bmod, Int.sub_bmod_bmod]
  have e : a - a.tdiv b * b = a.tmod b := by
    have := Int.mul_tdiv_add_tmod a b
    rw [Int.mul_comm] at this
    omega
  rw [e]
  have h := w_tmod ha hb
  exact w32_id h.1 h.2
theorem w_tmod64 {a b : Int} (ha : in64 a) (hb : in64 b) : in64 (a.tmod b) := by
  unfold in64 at *
  rcases Int.le_total 0 a with h | h
  · have h1 := Int.tmod_nonneg b h
    have h2 : a.tmod b ≤ a := by
      have := Int.natAbs_tmod a b
      have h3 : a.natAbs % b.natAbs ≤ a.natAbs := Nat.mod_le _ _
      omega
    omega
  · have h2 : (a.tmod b).natAbs ≤ a.natAbs := by
      have := Int.natAbs_tmod a b
      have h3 : a.natAbs % b.natAbs ≤ a.natAbs := Nat.mod_le _ _
      omega
    have h4 : a.tmod b ≤ 0 := by
      have h5 := Int.tmod_nonneg b (a := -a) (by omega)
      rw [Int.neg_tmod] at h5
      omega
    omega
theorem i64_div {a b : Int} (ha : in64 a) (hb : in64 b) : Int64.ofInt a / Int64.ofInt b = Int64.ofInt (w64 (a.tdiv b)) := by
  apply Int64.toInt_inj.mp
  rw [Int64.toInt_div, i64_t ha, i64_t hb, i64_t (w64_in _)]
  rfl
theorem i64_rem {a b : Int} (ha : in64 a) (hb : in64 b) : Int64.ofInt a - Int64.ofInt a / Int64.ofInt b * Int64.ofInt b = Int64.ofInt (a.tmod b) := by
  apply Int64.toInt_inj.mp
  rw [Int64.toInt_sub, Int64.toInt_mul, Int64.toInt_div, i64_t ha, i64_t hb, i64_t (w_tmod64 ha hb)]
  show (a - (((a.tdiv b).bmod 18446744073709551616) * b).bmod 18446744073709551616).bmod 18446744073709551616 = _
  rw [Int.bmod_mul_bmod, Int.sub_bmod_bmod]
  have e : a - a.tdiv b * b = a.tmod b := by
    have := Int.mul_tdiv_add_tmod a b
    rw [Int.mul_comm] at this
    omega
  rw [e]
  have h := w_tmod64 ha hb
  exact w64_id h.1 h.2
theorem lcmp_of {x y : Int} (hx : in64 x) (hy : in64 y) : lg_cmp (Int64.ofInt x) (Int64.ofInt y) = Int32.ofInt (if x = y then 0 else if x < y then -1 else 1) := by
  unfold lg_cmp
  have e1 : (Int64.ofInt x > Int64.ofInt y) ↔ y < x := i64_lt hy hx
  have e2 := i64_eq hx hy
  by_cases h : x = y
  · rw [if_pos h, if_neg (by rw [e1]; omega), if_pos (e2.mpr h)]
    exact i32_0
  · rw [if_neg h]
    by_cases h2 : x < y
    · rw [if_pos h2, if_neg (by rw [e1]; omega), if_neg (fun q => h (e2.mp q))]
      decide +kernel
    · rw [if_neg h2, if_pos (by rw [e1]; omega)]
      decide +kernel
end
section
/-! ===== the abstract heap: one function of places, kinds and lengths; next address; slots made ===== -/
def AHp : Type := (Int → Int → Int) × (Int → Nat) × (Int → Int) × Int × Nat × (Int → Int → Int)
def hv (A : AHp) : Int → Int → Int := A.1
def hk (A : AHp) : Int → Nat := A.2.1
def hl (A : AHp) : Int → Int := A.2.2.1
def hn (A : AHp) : Int := A.2.2.2.1
def hs (A : AHp) : Nat := A.2.2.2.2.1
/-- final fields: what a made thing keeps for good -/
def hp (A : AHp) : Int → Int → Int := A.2.2.2.2.2
def hset (A : AHp) (o k v : Int) : AHp := (fun o' k' => if o' = o ∧ k' = k then v else hv A o' k', A.2)
def hnew (A : AHp) (kd : Nat) (n : Int) (sl : Nat) (f : Int → Int) : AHp :=
  (fun o' k' => if o' = hn A then f k' else hv A o' k', fun o' => if o' = hn A then kd else hk A o', fun o' => if o' = hn A then n else hl A o', hn A + 1, hs A + sl, fun o' k' => if o' = hn A then 0 else hp A o' k')
def hpset (A : AHp) (o k v : Int) : AHp := (A.1, A.2.1, A.2.2.1, A.2.2.2.1, A.2.2.2.2.1, fun o' k' => if o' = o ∧ k' = k then v else hp A o' k')
theorem hv_set (A : AHp) (o k v o' k' : Int) : hv (hset A o k v) o' k' = if o' = o ∧ k' = k then v else hv A o' k' := rfl
theorem hk_set (A : AHp) (o k v : Int) : hk (hset A o k v) = hk A := rfl
theorem hl_set (A : AHp) (o k v : Int) : hl (hset A o k v) = hl A := rfl
theorem hn_set (A : AHp) (o k v : Int) : hn (hset A o k v) = hn A := rfl
theorem hs_set (A : AHp) (o k v : Int) : hs (hset A o k v) = hs A := rfl
theorem hp_set (A : AHp) (o k v : Int) : hp (hset A o k v) = hp A := rfl
theorem hp_pset (A : AHp) (o k v o' k' : Int) : hp (hpset A o k v) o' k' = if o' = o ∧ k' = k then v else hp A o' k' := rfl
theorem hv_pset (A : AHp) (o k v : Int) : hv (hpset A o k v) = hv A := rfl
theorem hk_pset (A : AHp) (o k v : Int) : hk (hpset A o k v) = hk A := rfl
theorem hl_pset (A : AHp) (o k v : Int) : hl (hpset A o k v) = hl A := rfl
theorem hn_pset (A : AHp) (o k v : Int) : hn (hpset A o k v) = hn A := rfl
theorem hs_pset (A : AHp) (o k v : Int) : hs (hpset A o k v) = hs A := rfl
theorem hp_new (A : AHp) (kd : Nat) (n : Int) (sl : Nat) (f : Int → Int) (o' k' : Int) : hp (hnew A kd n sl f) o' k' = if o' = hn A then 0 else hp A o' k' := rfl
theorem hv_new (A : AHp) (kd : Nat) (n : Int) (sl : Nat) (f : Int → Int) (o' k' : Int) : hv (hnew A kd n sl f) o' k' = if o' = hn A then f k' else hv A o' k' := rfl
theorem hk_new (A : AHp) (kd : Nat) (n : Int) (sl : Nat) (f : Int → Int) (o' : Int) : hk (hnew A kd n sl f) o' = if o' = hn A then kd else hk A o' := rfl
theorem hl_new (A : AHp) (kd : Nat) (n : Int) (sl : Nat) (f : Int → Int) (o' : Int) : hl (hnew A kd n sl f) o' = if o' = hn A then n else hl A o' := rfl
theorem hn_new (A : AHp) (kd : Nat) (n : Int) (sl : Nat) (f : Int → Int) : hn (hnew A kd n sl f) = hn A + 1 := rfl
theorem hs_new (A : AHp) (kd : Nat) (n : Int) (sl : Nat) (f : Int → Int) : hs (hnew A kd n sl f) = hs A + sl := rfl
/-! the ghosts of a run: classes and slots, array classes by kind, the first new address, addresses of constants, whether the one unknown static is null -/
abbrev Gp : Type := va_G × (Nat → ClassId) × Nat × (Nat → Nat) × Bool × Nat × (Nat → Int32)
def gD (G : Gp) : va_G := G.1
def gC (G : Gp) : Nat → ClassId := G.2.1
def gB (G : Gp) : Nat := G.2.2.1
def gA (G : Gp) : Nat → Nat := G.2.2.2.1
def gN (G : Gp) : Bool := G.2.2.2.2.1
def gL (G : Gp) : Nat := G.2.2.2.2.2.1
def gX (G : Gp) : Nat → Int32 := G.2.2.2.2.2.2
/-- from here on addresses are made ones; below stand constants (1 .. 15 words, 16 .. 30 texts, 41 .. 55 their bytes, 31 the switch, 32 the row of words, 33 the script, 34 a formatter) -/
def D0 : Int := 60
def rA (G : Gp) (o : Int) : Nat := if o < 60 then gA G o.toNat else gB G + (o - 60).toNat
def rR (G : Gp) (o : Int) : Value := if o = 0 ∨ (o = 34 ∧ gN G = true) then .null else .ref (rA G o)
def rO (G : Gp) (o : Int) : Option Nat := if o = 0 ∨ (o = 34 ∧ gN G = true) then none else some (rA G o)
theorem rO_rf (G : Gp) (o : Int) : va_rf (rO G o) = rR G o := by
  unfold rO rR
  split <;> rfl
theorem rR_dyn {G : Gp} {o : Int} (h : 60 ≤ o) : rR G o = .ref (rA G o) := by
  unfold rR
  rw [if_neg (by omega)]
theorem rA_dyn {G : Gp} {o : Int} (h : 60 ≤ o) : rA G o = gB G + (o - 60).toNat := by
  unfold rA
  rw [if_neg (by omega)]
theorem rA_inj {G : Gp} {o o' : Int} (h : 60 ≤ o) (h' : 60 ≤ o') (e : rA G o = rA G o') : o = o' := by
  rw [rA_dyn h, rA_dyn h'] at e
  omega
def rV (G : Gp) : AV → Value
  | .inl x => .int (Int32.ofInt x)
  | .inr (.inl x) => .long (Int64.ofInt x)
  | .inr (.inr o) => rR G o
def okV : AV → Prop
  | .inl x => in32 x
  | .inr (.inl x) => in64 x
  | .inr (.inr _) => True
/-- what a field of a type holds -/
def fvl (G : Gp) (ty : FieldType) (x : Int) : Value := match ty with
  | .long => .long (Int64.ofInt x)
  | .object _ => rR G x
  | .array _ => rR G x
  | _ => .int (Int32.ofInt x)
def tyC (ci : Nat) : Nat → FieldType := match ci with
  | 0 => tyX1 | 1 => tyX2 | 2 => tyX3 | 3 => tyX4 | 4 => tyX5 | 5 => tyX6 | 6 => tyX7 | 7 => tyX8 | 8 => tyX9 | 9 => tyX10 | 10 => tyX12 | _ => tyX13
def clN (ci : Nat) : Nat := match vwCl[ci]? with
  | some r => r.2.2
  | none => 0
def clT (ci : Nat) : u_T := match vwCl[ci]? with
  | some r => r.2.1
  | none => TX0
def clC (ci : Nat) : String := match vwCl[ci]? with
  | some r => r.1
  | none => ""
/-- a field's value: of a final one what is kept for good -/
def hx (A : AHp) (ci : Nat) (o : Int) (j : Nat) : Int := if (clT ci j).2.2.2 = true then hp A o j else hv A o j
def fsE (G : Gp) (A : AHp) (ci : Nat) (o : Int) : List Value := (List.range (clN ci)).map fun (j : Nat) => fvl G (tyC ci j) (hx A ci o j)
def entE (G : Gp) (A : AHp) (o : Int) : va_E :=
  if hk A o ≤ 12 then .inr (hk A o - 1, fsE G A (hk A o - 1) o)
  else if hk A o = 21 then .inl (gC G 21, (hl A o).toNat, .inr (.inl fun j => Int64.ofInt (hv A o j)))
  else if hk A o < 30 then .inl (gC G (hk A o), (hl A o).toNat, .inl fun j => Int32.ofInt (hv A o j))
  else .inl (gC G (hk A o), (hl A o).toNat, .inr (.inr (.inr (.inr fun j => rO G (hv A o j)))))
/-- what may stand at a place of a thing of a kind -/
def okS (kd : Nat) (k : Int) (x : Int) : Prop :=
  if kd = 20 then in32 x else if kd = 21 then in64 x else if kd = 22 then -128 ≤ x ∧ x ≤ 127 else if kd = 23 then x = 0 ∨ x = 1
  else if kd ≤ 12 then (match tyC (kd - 1) k.toNat with | .object _ => True | .array _ => True | .boolean => x = 0 ∨ x = 1 | _ => in32 x) else True
def okK (kd : Nat) : Prop := 1 ≤ kd
def tysL (G : Gp) : List (ClassId × FieldType) := [(gC G 20, .int), (gC G 21, .long), (gC G 22, .byte), (gC G 23, .boolean), (gC G 30, .object RX1), (gC G 32, .object RX3), (gC G 38, .object RX9), (gC G 39, .object RX10), (gC G 50, .object RX11), (gC G 51, .object "java/lang/String")]
def frA (G : Gp) : Nat → Prop := fun q => gB G ≤ q
def SIM (G : Gp) (A : AHp) (H : Heap) : Prop :=
  H.size = gB G + (hn A - 60).toNat ∧ 60 ≤ hn A ∧ (∀ o : Int, 60 ≤ o → o < hn A → 1 ≤ hk A o ∧ 0 ≤ hl A o ∧ hl A o < 2147483648 ∧ va_at (gD G) vwCl (rA G o, entE G A o) H) ∧ (∀ o : Int, 60 ≤ o → o < hn A → ∀ k : Int, 0 ≤ k → okS (hk A o) k (hv A o k) ∧ (hk A o ≤ 12 → okS (hk A o) k (hp A o k))) ∧ (hk A 33 = 62 → hl A 33 = gL G ∧ ∀ i : Nat, i < gL G → hv A 33 i = (gX G i).toInt)
theorem SIM.at1 {G : Gp} {A : AHp} {H : Heap} (h : SIM G A H) {o : Int} (h1 : 60 ≤ o) (h2 : o < hn A) : va_P (gD G) vwCl [(rA G o, entE G A o)] H := by
  intro k q hk
  have hk0 : k < 1 := (List.getElem?_eq_some_iff.mp hk).1
  obtain rfl : k = 0 := by omega
  cases hk
  exact (h.2.2.1 o h1 h2).2.2.2
theorem entE_same {G : Gp} {A A' : AHp} {x : Int} (h1 : hk A' x = hk A x) (h2 : hl A' x = hl A x) (h3 : ∀ k, hv A' x k = hv A x k) (h4 : ∀ k, hp A' x k = hp A x k) : entE G A' x = entE G A x := by
  unfold entE fsE hx
  rw [h1, h2]
  simp only [h3, h4]
theorem SIM.put {G : Gp} {A : AHp} {H H1 : Heap} (h : SIM G A H) {o k v : Int} (h1 : 60 ≤ o) (h2 : o < hn A) (he : va_at (gD G) vwCl (rA G o, entE G (hset A o k v) o) H1) (z : H1.size = H.size)
    (oq : ∀ q : Nat, q ≠ rA G o → H1[q]? = H[q]?) (hok : okS (hk A o) k v) : SIM G (hset A o k v) H1 := by
  refine ⟨z.trans h.1, h.2.1, fun x hx1 hx2 => ?_, fun x hx1 hx2 j hj => ?_, fun e => ⟨(h.2.2.2.2 e).1, fun i hi => by rw [hv_set, if_neg (by omega)]; exact (h.2.2.2.2 e).2 i hi⟩⟩
  · obtain ⟨a1, a2, a3, a4⟩ := h.2.2.1 x hx1 hx2
    refine ⟨a1, a2, a3, ?_⟩
    by_cases hxo : x = o
    · subst hxo
      exact he
    · rw [entE_same (A := A) (A' := hset A o k v) (x := x) rfl rfl (fun k' => by rw [hv_set, if_neg (fun q => hxo q.1)]) (fun k' => rfl)]
      exact a4.kept (oq _ (fun e => hxo (rA_inj hx1 h1 e)))
  · rw [hv_set, hk_set, hp_set]
    refine ⟨?_, (h.2.2.2.1 x hx1 hx2 j hj).2⟩
    split
    · next e =>
      obtain ⟨rfl, rfl⟩ := e
      exact hok
    · exact (h.2.2.2.1 x hx1 hx2 j hj).1
theorem SIM.push {G : Gp} {A : AHp} {H H1 : Heap} (h : SIM G A H) {kd : Nat} {n : Int} {sl : Nat} {f : Int → Int} (h1 : 1 ≤ kd) (h2 : 0 ≤ n) (h3 : n < 2147483648) (he : va_at (gD G) vwCl (rA G (hn A), entE G (hnew A kd n sl f) (hn A)) H1) (z : H1.size = H.size + 1)
    (oq : ∀ q : Nat, q < H.size → H1[q]? = H[q]?) (hok : ∀ k : Int, 0 ≤ k → okS kd k (f k)) (hok0 : ∀ k : Int, 0 ≤ k → kd ≤ 12 → okS kd k 0) : SIM G (hnew A kd n sl f) H1 := by
  have hb := h.2.1
  refine ⟨?_, ?_, fun x hx1 hx2 => ?_, fun x hx1 hx2 j hj => ?_, fun e => ?_⟩
  · rw [z, h.1, hn_new]
    omega
  · rw [hn_new]
    omega
  · rw [hn_new] at hx2
    by_cases hxo : x = hn A
    · subst hxo
      refine ⟨?_, ?_, ?_, he⟩
      · rw [hk_new, if_pos rfl]; exact h1
      · rw [hl_new, if_pos rfl]; exact h2
      · rw [hl_new, if_pos rfl]; exact h3
    · obtain ⟨a1, a2, a3, a4⟩ := h.2.2.1 x hx1 (by omega)
      refine ⟨?_, ?_, ?_, ?_⟩
      · rw [hk_new, if_neg hxo]; exact a1
      · rw [hl_new, if_neg hxo]; exact a2
      · rw [hl_new, if_neg hxo]; exact a3
      · rw [entE_same (A := A) (A' := hnew A kd n sl f) (x := x) (by rw [hk_new, if_neg hxo]) (by rw [hl_new, if_neg hxo]) (fun k' => by rw [hv_new, if_neg hxo]) (fun k' => by rw [hp_new, if_neg hxo])]
        exact a4.kept (oq _ (by rw [h.1]; show rA G x < _; rw [rA_dyn hx1]; omega))
  · rw [hn_new] at hx2
    rw [hv_new, hk_new, hp_new]
    by_cases hxo : x = hn A
    · rw [if_pos hxo, if_pos hxo, if_pos hxo]
      exact ⟨hok j hj, hok0 j hj⟩
    · rw [if_neg hxo, if_neg hxo, if_neg hxo]
      exact h.2.2.2.1 x hx1 (by omega) j hj
  · rw [hk_new, if_neg (by omega)] at e
    refine ⟨by rw [hl_new, if_neg (by omega)]; exact (h.2.2.2.2 e).1, fun i hi => ?_⟩
    rw [hv_new, if_neg (by omega)]
    exact (h.2.2.2.2 e).2 i hi
theorem okS_0 {kd : Nat} {k : Int} : okS kd k 0 := by
  unfold okS
  split
  · decide
  · split
    · decide
    · split
      · decide
      · split
        · exact Or.inl rfl
        · split
          · split <;> first | trivial | exact Or.inl rfl | decide
          · trivial
theorem SIM.putF {G : Gp} {A : AHp} {H H1 : Heap} (h : SIM G A H) {o k v : Int} (h1 : 60 ≤ o) (h2 : o < hn A) (he : va_at (gD G) vwCl (rA G o, entE G (hpset A o k v) o) H1) (z : H1.size = H.size)
    (oq : ∀ q : Nat, q ≠ rA G o → H1[q]? = H[q]?) (hok : okS (hk A o) k v) : SIM G (hpset A o k v) H1 := by
  refine ⟨z.trans h.1, h.2.1, fun x hx1 hx2 => ?_, fun x hx1 hx2 j hj => ?_, h.2.2.2.2⟩
  · obtain ⟨a1, a2, a3, a4⟩ := h.2.2.1 x hx1 hx2
    refine ⟨a1, a2, a3, ?_⟩
    by_cases hxo : x = o
    · subst hxo
      exact he
    · rw [entE_same (A := A) (A' := hpset A o k v) (x := x) rfl rfl (fun k' => rfl) (fun k' => by rw [hp_pset, if_neg (fun q => hxo q.1)])]
      exact a4.kept (oq _ (fun e => hxo (rA_inj hx1 h1 e)))
  · rw [hv_pset, hk_pset, hp_pset]
    refine ⟨(h.2.2.2.1 x hx1 hx2 j hj).1, fun q12 => ?_⟩
    split
    · next e =>
      obtain ⟨rfl, rfl⟩ := e
      exact hok
    · exact (h.2.2.2.1 x hx1 hx2 j hj).2 q12
end
section
/-! ===== the context: what the tables and the constants say ===== -/
def NWL : List Cond := [
  Cond.methodLinkNest "ShellLines" 13 ⟨"ShellLines$Reader", "<init>", "()V"⟩ "ShellLines",
  Cond.castable "[LShellLines$Word;" "java/lang/Cloneable",
  Cond.methodLinkNest "ShellLines$Machine" 23 ⟨"ShellLines$Frame", "<init>", "()V"⟩ "ShellLines",
  Cond.methodLinkNest "ShellLines$Frame" 27 ⟨"ShellLines$Numbers", "<init>", "()V"⟩ "ShellLines",
  Cond.methodLinkNest "ShellLines$Kept" 24 ⟨"ShellLines$Numbers", "<init>", "()V"⟩ "ShellLines",
  Cond.methodLinkNest "ShellLines" 60 ⟨"ShellLines$Frame", "<init>", "()V"⟩ "ShellLines",
  Cond.methodLinkNest "ShellLines" 61 ⟨"ShellLines$Tape", "<init>", "()V"⟩ "ShellLines",
  Cond.methodLinkNest "ShellLines$Reader" 165 ⟨"ShellLines", "isName", "(I)Z"⟩ "ShellLines",
  Cond.methodLinkNest "ShellLines$Machine" 142 ⟨"ShellLines", "isName", "(I)Z"⟩ "ShellLines",
  Cond.declares ⟨"java/lang/Enum", "ordinal", "()I"⟩,
  Cond.methodLinkNest "ShellLines$Machine" 214 ⟨"ShellLines", "isFunction", "(I)Z"⟩ "ShellLines"]
def wdN : List String := ["ECHO", "SEQ", "ADD", "MUL", "MOD", "KEEP", "TAKE", "SUM", "SET", "OK", "FAIL", "F", "G", "H", "BRACES"]
def wdT : List String := ["echo", "seq", "add", "mul", "mod", "keep", "take", "sum", "set", "ok", "fail", "f", "g", "h", "{"]
def wdL : List Int := [1, 1, 1, 1, 1, 1, 1, 0, 1, 0, 1, 1, 1, 1, 0]
def wdM : List Int := [4, 1, 1, 1, 1, 1, 1, 0, 1, 0, 1, 1, 1, 1, 0]
def wdF : List Int := [-1, -1, -1, -1, -1, -1, -1, -1, -1, -1, -1, 0, 1, 2, -1]
def swL : List Int := [4, 5, 12, 13, 2, 14, 11, 15, 3, 10, 1, 7, 8, 9, 6]
def txL : List Nat := [4, 3, 3, 3, 3, 4, 4, 3, 3, 2, 4, 1, 1, 1, 1]
def txB : List (List Int) := [[101, 99, 104, 111], [115, 101, 113], [97, 100, 100], [109, 117, 108], [109, 111, 100], [107, 101, 101, 112], [116, 97, 107, 101], [115, 117, 109], [115, 101, 116], [111, 107], [102, 97, 105, 108], [102], [103], [104], [123]]
def mpL : List Nat := [11, 13, 15, 17, 19, 21, 23, 25, 27, 29, 31, 33, 35, 37]
def wpL : List Nat := [85, 91, 94, 97, 100, 103, 106, 109, 112, 115, 118, 121, 124, 127, 130]
def aoL : List String := [RX11, RX3, RX1, RX10, RX9, "java/lang/String"]
abbrev wdFl : List (String × String × String × List Int32) := [("java/lang/Enum", "ordinal", "I", [0, 1, 2, 3, 4, 5, 6, 7, 8, 9, 10, 11, 12, 13, 14]), (RX11, "least", "I", wdL.map Int32.ofInt), (RX11, "most", "I", wdM.map Int32.ofInt), (RX11, "function", "I", wdF.map Int32.ofInt)]
def VCL (G : Gp) (U : State) (H : Heap) : Prop := ∃ cell : Cell, H[gA G 32]? = some cell ∧ (∀ k, cell.vm ≠ .statics k) ∧ cell.vm ≠ .unknown ∧ U.vm.findClass "[LShellLines$Word;" = some cell.cls ∧ cell.slots = Array.ofFn (n := 15) (fun j => Value.ref (gA G (1 + j.val))) ∧ ¬ frA G (gA G 32)
theorem VCL.moved {G : Gp} {u U : State} {H : Heap} (hvm : u.vm.Alike U.vm) (h : VCL G u H) : VCL G U H := by
  obtain ⟨cell, h1, h2, h3, h4, h5⟩ := h
  exact ⟨cell, h1, h2, h3, by rw [hvm.findClass]; exact h4, h5⟩
theorem VCL.kept {G : Gp} {U : State} {H H1 : Heap} (h : VCL G U H) (hq : ∀ a : Nat, a < H.size → ¬ frA G a → H1[a]? = H[a]?) : VCL G U H1 := by
  obtain ⟨cell, h1, h2, h3, h4, h5, h6⟩ := h
  exact ⟨cell, by rw [hq _ (Array.getElem?_eq_some_iff.mp h1).1 h6]; exact h1, h2, h3, h4, h5, h6⟩
def CTX (G : Gp) (U : State) (H : Heap) : Prop :=
  (va_K (gD G) vwCl (tysL G) U ∧ (∀ w ∈ NWL, va_Nw w U) ∧ (∀ c ∈ aoL, va_AO c U) ∧ ∀ j : Nat, j < 14 → vk_R RX13 (mpL.getD j 0) (wdT.getD j "") (gA G (16 + j)) U) ∧
  (va_En RX11 "LShellLines$Word;" wdN wdFl (fun j => gA G (1 + j)) (frA G) U H ∧ va_Ef 15 RX11 "text" "Ljava/lang/String;" (fun j => .ref (gA G (16 + j))) (fun j => gA G (1 + j)) (frA G) U H ∧
   vk_S 15 txL (txB.map fun l => l.map Int32.ofInt) (fun j => gA G (16 + j)) (fun j => gA G (41 + j)) (frA G) U H) ∧
  (va_Z RX11 "$VALUES" "[LShellLines$Word;" (.ref (gA G 32)) (frA G) U H ∧ VCL G U H ∧
   va_Z RX0 "$SwitchMap$ShellLines$Word" "[I" (.ref (gA G 31)) (frA G) U H ∧ va_T .int (gA G 31) 15 (fun j => .int (Int32.ofInt (swL.getD j 0))) (frA G) U H) ∧
  va_Z "java/lang/String" "COMPACT_STRINGS" "Z" (.int 1) (frA G) U H ∧ va_Z "jdk/internal/util/Preconditions" "SIOOBE_FORMATTER" "Ljava/util/function/BiFunction;" (rR G 34) (frA G) U H ∧
  va_T .int (gA G 33) (gL G) (fun j => .int (gX G j)) (frA G) U H ∧ gL G < 2147483648
theorem NWL_warm {s U : State} (hW : s.WarmedH U.vm) (h : ∀ w ∈ NWL, va_Nw w s) : ∀ w ∈ NWL, va_Nw w U := by
  intro w hw
  have h1 := h w hw
  simp only [NWL, List.mem_cons, List.not_mem_nil, or_false] at hw
  rcases hw with rfl | rfl | rfl | rfl | rfl | rfl | rfl | rfl | rfl | rfl | rfl
  all_goals first | exact va_Nw.warmM hW h1 | exact va_Nw.warmC hW h1 | exact va_Nw.warmD hW h1
theorem CTX.to {G : Gp} {s U : State} {H : Heap} {locs : List Loc} (h : CTX G s s.heap) (hH : U.heap = H) (hW : s.WarmedH U.vm) (hS : va_S (frA G) s.heap H locs) : CTX G U U.heap := by
  subst hH
  obtain ⟨⟨a1, a2, a3, a4⟩, ⟨b1, b2, b3⟩, ⟨c1, c2, c3, c4⟩, d1, d2, d3, d4⟩ := h
  have hv := hW.alike
  have hq := hS.2.1
  exact ⟨⟨va_K.moved hv a1, NWL_warm hW a2, fun c hc => va_AO.moved hv (a3 c hc), fun j hj => vk_R.warm hW (a4 j hj)⟩, ⟨va_En.moved hv (va_En.kept b1 hq), va_Ef.moved hv (va_Ef.kept b2 hq), vk_S.moved hv (vk_S.kept b3 hq)⟩,
    ⟨va_Z.moved hv (va_Z.kept c1 hq), VCL.moved hv (VCL.kept c2 hq), va_Z.moved hv (va_Z.kept c3 hq), va_T.moved hv (va_T.kept c4 hq)⟩, va_Z.moved hv (va_Z.kept d1 hq), va_Z.moved hv (va_Z.kept d2 hq), va_T.moved hv (va_T.kept d3 hq), d4⟩
end
section
/-! ===== locals as a list of places ===== -/
abbrev LV : Type := List (Option AV)
def acat : AV → Nat
  | .inr (.inl _) => 2
  | _ => 1
theorem rV_cat (G : Gp) (v : AV) : (rV G v).category = acat v := by
  rcases v with x | x | x
  · rfl
  · rfl
  · show (rR G x).category = 1
    unfold rR
    split <;> rfl
def lvG (lv : LV) (i : Nat) : Option AV := match lv[i]? with
  | some (some v) => some v
  | _ => none
theorem lvG_iff {lv : LV} {i : Nat} {v : AV} : lvG lv i = some v ↔ lv[i]? = some (some v) := by
  unfold lvG
  split
  · next w h => rw [h]; simp
  · next h =>
    constructor
    · intro q; cases q
    · intro q; exact absurd q (h v)
def lvK (lv : LV) (i : Nat) : LV := match i with
  | 0 => lv
  | j + 1 => match lv[j]? with
    | some (some (.inr (.inl _))) => lv.set j none
    | _ => lv
def st1 (lv : LV) (i : Nat) (v : AV) : LV := (lvK lv i).set i (some v)
def st2 (lv : LV) (i : Nat) (v : AV) : LV := ((lvK lv i).set i (some v)).set (i + 1) none
def lvOK (G : Gp) (ls : Array Slot) (nL : Nat) (lv : LV) : Prop := ls.size = nL ∧ lv_wf ls ∧ ∀ (i : Nat) (v : AV), lv[i]? = some (some v) → ls[i]? = some (.val (rV G v))
def lvR (G : Gp) (lv : LV) : List (Nat × Value) := (List.range lv.length).filterMap fun i => (lvG lv i).map fun v => (i, rV G v)
theorem lvR_mem {G : Gp} {lv : LV} {q : Nat × Value} : q ∈ lvR G lv ↔ ∃ v, lv[q.1]? = some (some v) ∧ q.2 = rV G v := by
  unfold lvR
  simp only [List.mem_filterMap, List.mem_range, Option.map_eq_some_iff, lvG_iff]
  constructor
  · rintro ⟨i, -, v, h2, rfl⟩
    exact ⟨v, h2, rfl⟩
  · rintro ⟨v, h1, h2⟩
    exact ⟨q.1, (List.getElem?_eq_some_iff.mp h1).1, v, h1, by rw [← h2]⟩
theorem lvOK.has {G : Gp} {ls : Array Slot} {nL : Nat} {lv : LV} (h : lvOK G ls nL lv) : lv_has ls nL (lvR G lv) := by
  refine ⟨h.1, h.2.1, fun q hq => ?_⟩
  obtain ⟨v, h1, h2⟩ := lvR_mem.mp hq
  rw [h2]
  exact h.2.2 _ _ h1
theorem lvOK.at {G : Gp} {ls : Array Slot} {nL : Nat} {lv : LV} (h : lvOK G ls nL lv) {i : Nat} {v : AV} (hv : lvG lv i = some v) : ls[i]? = some (.val (rV G v)) := h.2.2 i v (lvG_iff.mp hv)
theorem lvK_get {lv : LV} {i j : Nat} {u : AV} (hj : j ≠ i) (h : (lvK lv i)[j]? = some (some u)) : lv[j]? = some (some u) ∧ ¬ (j + 1 = i ∧ acat u = 2) := by
  unfold lvK at h
  split at h
  · exact ⟨h, fun q => by omega⟩
  · next k =>
    split at h
    · next y hy =>
      by_cases e : j = k
      · subst e
        rw [List.getElem?_set] at h
        simp at h
      · rw [List.getElem?_set_ne (Ne.symm e)] at h
        exact ⟨h, fun q => e (by omega)⟩
    · next hy =>
      refine ⟨h, fun q => ?_⟩
      obtain ⟨q1, q2⟩ := q
      have e : j = k := by omega
      subst e
      rcases u with x | x | x
      · cases q2
      · exact hy x h
      · cases q2
theorem lvOK.of1 {G : Gp} {ls' : Array Slot} {nL i : Nat} {lv : LV} {v : AV} (h : lv_has ls' nL ((i, rV G v) :: (lvR G lv).filter (fun q => !(q.1 == i) && !(q.1 + 1 == i && q.2.category == 2)))) : lvOK G ls' nL (st1 lv i v) := by
  refine ⟨h.1, h.2.1, fun j u hu => ?_⟩
  unfold st1 at hu
  by_cases e : i = j
  · subst e
    rw [List.getElem?_set] at hu
    split at hu
    · split at hu
      · simp only [Option.some.injEq] at hu
        subst hu
        exact h.2.2 (i, rV G v) List.mem_cons_self
      · cases hu
    · next q => exact absurd rfl q
  · rw [List.getElem?_set_ne e] at hu
    obtain ⟨h1, h2⟩ := lvK_get (Ne.symm e) hu
    refine h.2.2 (j, rV G u) (List.mem_cons_of_mem _ (List.mem_filter.mpr ⟨lvR_mem.mpr ⟨u, h1, rfl⟩, ?_⟩))
    have e1 : (j == i) = false := by simpa using Ne.symm e
    have e2 : (j + 1 == i && (rV G u).category == 2) = false := by
      rw [rV_cat]
      by_cases q : j + 1 = i
      · have : ¬ acat u = 2 := fun z => h2 ⟨q, z⟩
        simp [this]
      · simp [q]
    show (!(j == i) && !(j + 1 == i && (rV G u).category == 2)) = true
    rw [e1, e2]
    rfl
theorem lvOK.of2 {G : Gp} {ls' : Array Slot} {nL i : Nat} {lv : LV} {v : AV} (h : lv_has ls' nL ((i, rV G v) :: (lvR G lv).filter (fun q => !(q.1 == i) && (!(q.1 == i + 1) && !(q.1 + 1 == i && q.2.category == 2))))) : lvOK G ls' nL (st2 lv i v) := by
  refine ⟨h.1, h.2.1, fun j u hu => ?_⟩
  unfold st2 at hu
  by_cases e0 : i + 1 = j
  · subst e0
    rw [List.getElem?_set] at hu
    simp at hu
  · rw [List.getElem?_set_ne e0] at hu
    by_cases e : i = j
    · subst e
      rw [List.getElem?_set] at hu
      split at hu
      · split at hu
        · simp only [Option.some.injEq] at hu
          subst hu
          exact h.2.2 (i, rV G v) List.mem_cons_self
        · cases hu
      · next q => exact absurd rfl q
    · rw [List.getElem?_set_ne e] at hu
      obtain ⟨h1, h2⟩ := lvK_get (Ne.symm e) hu
      refine h.2.2 (j, rV G u) (List.mem_cons_of_mem _ (List.mem_filter.mpr ⟨lvR_mem.mpr ⟨u, h1, rfl⟩, ?_⟩))
      have e1 : (j == i) = false := by simpa using Ne.symm e
      have e3 : (j == i + 1) = false := by simpa using Ne.symm e0
      have e2 : (j + 1 == i && (rV G u).category == 2) = false := by
        rw [rV_cat]
        by_cases q : j + 1 = i
        · have : ¬ acat u = 2 := fun z => h2 ⟨q, z⟩
          simp [this]
        · simp [q]
      show (!(j == i) && (!(j == i + 1) && !(j + 1 == i && (rV G u).category == 2))) = true
      rw [e1, e2, e3]
      rfl
def okL (lv : LV) : Prop := ∀ (i : Nat) (v : AV), lv[i]? = some (some v) → okV v
theorem okL.at {lv : LV} (h : okL lv) {i : Nat} {v : AV} (hv : lvG lv i = some v) : okV v := h i v (lvG_iff.mp hv)
theorem okL_s1 {lv : LV} (h : okL lv) {i : Nat} {v : AV} (hv : okV v) : okL (st1 lv i v) := by
  intro j u hu
  unfold st1 at hu
  by_cases e : i = j
  · subst e
    rw [List.getElem?_set] at hu
    split at hu
    · split at hu
      · simp only [Option.some.injEq] at hu
        subst hu
        exact hv
      · cases hu
    · next q => exact absurd rfl q
  · rw [List.getElem?_set_ne e] at hu
    exact h j u (lvK_get (Ne.symm e) hu).1
theorem okL_s2 {lv : LV} (h : okL lv) {i : Nat} {v : AV} (hv : okV v) : okL (st2 lv i v) := by
  intro j u hu
  have h1 := okL_s1 h (i := i) hv
  unfold st1 at h1
  unfold st2 at hu
  by_cases e0 : i + 1 = j
  · subst e0
    rw [List.getElem?_set] at hu
    simp at hu
  · rw [List.getElem?_set_ne e0] at hu
    exact h1 j u hu
/-- the locals at a method's entry: a long takes two places -/
def aArgs : List AV → LV
  | [] => []
  | v :: t => if acat v = 2 then some v :: none :: aArgs t else some v :: aArgs t
theorem aArgs_mem {G : Gp} : ∀ (as : List AV) (k i : Nat) (v : AV), (aArgs as)[i]? = some (some v) → (k + i, rV G v) ∈ lv_args k (as.map (rV G)) := by
  intro as
  induction as with
  | nil => intro k i v h; simp [aArgs] at h
  | cons a t ih =>
    intro k i v h
    show (k + i, rV G v) ∈ (k, rV G a) :: lv_args (if (rV G a).category = 2 then k + 2 else k + 1) (t.map (rV G))
    rw [rV_cat]
    unfold aArgs at h
    by_cases e : acat a = 2
    · rw [if_pos e] at h ⊢
      match i, h with
      | 0, h =>
        simp only [List.getElem?_cons_zero, Option.some.injEq] at h
        subst h
        exact List.mem_cons_self
      | 1, h => simp at h
      | i + 2, h =>
        simp only [List.getElem?_cons_succ] at h
        have := ih (k + 2) i v h
        rw [show k + (i + 2) = k + 2 + i by omega]
        exact List.mem_cons_of_mem _ this
    · rw [if_neg e] at h ⊢
      match i, h with
      | 0, h =>
        simp only [List.getElem?_cons_zero, Option.some.injEq] at h
        subst h
        exact List.mem_cons_self
      | i + 1, h =>
        simp only [List.getElem?_cons_succ] at h
        have := ih (k + 1) i v h
        rw [show k + (i + 1) = k + 1 + i by omega]
        exact List.mem_cons_of_mem _ this
theorem aArgs_ok : ∀ (as : List AV), (∀ a ∈ as, okV a) → okL (aArgs as) := by
  intro as
  induction as with
  | nil => intro _ i v h; simp [aArgs] at h
  | cons a t ih =>
    intro ho i v h
    have ha := ho a List.mem_cons_self
    have ht := ih (fun x hx => ho x (List.mem_cons_of_mem _ hx))
    unfold aArgs at h
    split at h
    · match i, h with
      | 0, h =>
        simp only [List.getElem?_cons_zero, Option.some.injEq] at h
        subst h
        exact ha
      | 1, h => simp at h
      | i + 2, h =>
        simp only [List.getElem?_cons_succ] at h
        exact ht i v h
    · match i, h with
      | 0, h =>
        simp only [List.getElem?_cons_zero, Option.some.injEq] at h
        subst h
        exact ha
      | i + 1, h =>
        simp only [List.getElem?_cons_succ] at h
        exact ht i v h
/-- entry locals, with as many empty places behind as the method has -/
def aEnt (n : Nat) (as : List AV) : LV := aArgs as ++ List.replicate (n - (aArgs as).length) none
theorem aEnt_get {n : Nat} {as : List AV} {i : Nat} {v : AV} (h : (aEnt n as)[i]? = some (some v)) : (aArgs as)[i]? = some (some v) := by
  unfold aEnt at h
  by_cases e : i < (aArgs as).length
  · rwa [List.getElem?_append_left e] at h
  · rw [List.getElem?_append_right (by omega), List.getElem?_replicate] at h
    split at h
    · cases h
    · cases h
theorem lvOK_ent {G : Gp} {as : List AV} {n : Nat} (h : (lg_sl (as.map (rV G))).length ≤ n) : lvOK G (lg_sl (as.map (rV G)) ++ List.replicate (n - (lg_sl (as.map (rV G))).length) Slot.unset).toArray n (aEnt n as) := by
  have hl := lv_entry (as.map (rV G)) h
  refine ⟨hl.1, hl.2.1, fun i v hv => ?_⟩
  have h1 := aArgs_mem (G := G) as 0 i v (aEnt_get hv)
  rw [Nat.zero_add] at h1
  exact hl.2.2 _ h1
theorem aLen {G : Gp} : ∀ (as : List AV), (lg_sl (as.map (rV G))).length = (aArgs as).length := by
  intro as
  induction as with
  | nil => rfl
  | cons a t ih =>
    unfold aArgs
    have e : lg_sl ((a :: t).map (rV G)) = (if (rV G a).category = 2 then [.val (rV G a), .second] else [.val (rV G a)]) ++ lg_sl (t.map (rV G)) := rfl
    rw [e, rV_cat]
    by_cases e : acat a = 2
    · rw [if_pos e, if_pos e]
      simp only [List.length_append, List.length_cons, List.length_nil]
      omega
    · rw [if_neg e, if_neg e]
      simp only [List.length_append, List.length_cons, List.length_nil]
      omega
end
section
/-! ===== the machine seen through the abstract heap ===== -/
def TB : List Cond := lw_tbl.filter goodWord
theorem TB_good (w : Cond) (h : w ∈ TB) : goodWord w = true := (List.mem_filter.mp h).2
theorem TB_of {w : Cond} (h : w ∈ lw_tbl) (hg : goodWord w = true) : w ∈ TB := List.mem_filter.mpr ⟨h, hg⟩
/-- a method: name, code, places of locals, type of its answer -/
abbrev MD : Type := MethodName × ByteArray × Nat × Option FieldType
def WSm (M : MD) : List Cond := Cond.code M.1 M.2.1 M.2.2.1 M.2.2.2 :: TB
theorem WSm_good {M : MD} (h : Cond.code M.1 M.2.1 M.2.2.1 M.2.2.2 ∈ TB) : GoodIn TB (WSm M) := by
  intro w hw
  have hw' : w ∈ TB := by
    rcases List.mem_cons.mp hw with rfl | h1
    · exact h
    · exact h1
  exact ⟨hw', good_of_word (TB_good w hw')⟩
def RMd (d mc ms : Nat) : Room := { frames := d, cells := mc, slots := ms, locals := 45 * d }
/-- what a method of a type may answer -/
def rOK (t : Option FieldType) (r : Option AV) : Prop := match t, r with
  | none, none => True
  | some .int, some (.inl _) => True
  | some .boolean, some (.inl x) => x = 0 ∨ x = 1
  | some .char, some (.inl x) => 0 ≤ x ∧ x < 65536
  | some .byte, some (.inl x) => x = 0 ∨ x = 1
  | some .long, some (.inr (.inl _)) => True
  | some (.object _), some (.inr (.inr _)) => True
  | some (.array _), some (.inr (.inr _)) => True
  | _, _ => False
def retI (r : Option AV) : Instr := match r with
  | none => .return_
  | some (.inl _) => .ireturn
  | some (.inr (.inl _)) => .lreturn
  | some (.inr (.inr _)) => .areturn
def okO (r : Option AV) : Prop := ∀ a, r = some a → okV a
def Pcm (G : Gp) (as : List AV) (A : AHp) : Array Value → State → Prop := fun v U => v = (as.map (rV G)).toArray ∧ CTX G U U.heap ∧ SIM G A U.heap ∧ (∀ a ∈ as, okV a) ∧ gB G ≤ U.heap.size
def Qcm (G : Gp) (r : Option AV) (A' : AHp) : Array Value → State → Outcome → State → Prop := fun _ st o t => o = .returned (r.map (rV G)) ∧ SIM G A' t.heap ∧ okO r ∧ va_F (frA G) st t
/-- a call: it comes back with an answer and a heap that Q holds of; d is the depth that it may take -/
def CALL (d : Nat) (M : MD) (as : List AV) (A : AHp) (Q : Option AV → AHp → Prop) : Prop :=
  ∃ (r : Option AV) (A' : AHp), Q r A' ∧ hn A ≤ hn A' ∧ hs A ≤ hs A' ∧
    ∀ (l : Launch) (G : Gp), Met l M.1 (WSm M) (RMd d (hn A' - hn A).toNat (hs A' - hs A)) (Pcm G as A) (Qcm G r A') (hn A' - hn A).toNat (hs A' - hs A) (frA G)
def CXd (d : Nat) (M : MD) (G : Gp) (p : Program) (R : Room) (s : State) (m : MethodId) (args : Array Value) (meth : Method) (c : Code) : Prop :=
  p.tables.exec = Jvm.exec ∧ c.code = M.2.1 ∧ c.maxLocals = M.2.2.1 ∧ meth.sig.returnType = M.2.2.2 ∧ s.vm.findClass M.1.cls = some m.cls ∧ (∀ w ∈ TB, w.before args s = true) ∧ CTX G s s.heap ∧
  d ≤ R.frames ∧ 45 * d ≤ R.locals ∧ gB G ≤ s.heap.size ∧ (M.1.name = "<init>" → meth.name = "<init>")
def RTc (M : MD) (G : Gp) (p : Program) (l : Launch) (e : Env) (R : Room) (s : State) (m : MethodId) (args : Array Value) (below : List Frame) (meth : Method) (c : Code) (C S : Nat) (r : Option AV) (A' : AHp) (Qr : State → Prop) : Prop :=
  ∀ (pc : Nat) (H : Heap) (locs : List Loc) (ls : Array Slot), SIM G A' H → okO r → va_S (frA G) s.heap H locs → decode M.2.1 pc = .ok (retI r, 1) → rOK M.2.2.2 r → W p l e R s m args below meth c H locs C S Qr (F0 m pc ls (r.toList.map (rV G)))
def AW (d : Nat) (M : MD) (pc : Nat) (lv : LV) (st : List AV) (A : AHp) (Q : Option AV → AHp → Prop) : Prop :=
  ∃ (r : Option AV) (A' : AHp), Q r A' ∧ hn A ≤ hn A' ∧ hs A ≤ hs A' ∧
    ∀ (l : Launch) (G : Gp) (p : Program) (e : Env) (R : Room) (s : State) (m : MethodId) (args : Array Value) (below : List Frame) (meth : Method) (c : Code) (H : Heap) (locs : List Loc) (ls : Array Slot) (C S : Nat) (Qr : State → Prop),
      CXd d M G p R s m args meth c → SIM G A H → lvOK G ls M.2.2.1 lv → okL lv → (∀ a ∈ st, okV a) → va_S (frA G) s.heap H locs →
      (C + (hn A' - hn A).toNat ≤ R.cells ∧ S + (hs A' - hs A) ≤ R.slots) →
      RTc M G p l e R s m args below meth c (C + (hn A' - hn A).toNat) (S + (hs A' - hs A)) r A' Qr →
      W p l e R s m args below meth c H locs C S Qr (F0 m pc ls (st.map (rV G)))
theorem AW.mono {d : Nat} {M : MD} {pc : Nat} {lv : LV} {st : List AV} {A : AHp} {Q Q' : Option AV → AHp → Prop} (h : AW d M pc lv st A Q) (hq : ∀ r A', Q r A' → Q' r A') : AW d M pc lv st A Q' := by
  obtain ⟨r, A', h1, h2⟩ := h
  exact ⟨r, A', hq _ _ h1, h2⟩
theorem CALL.mono {d : Nat} {M : MD} {as : List AV} {A : AHp} {Q Q' : Option AV → AHp → Prop} (h : CALL d M as A Q) (hq : ∀ r A', Q r A' → Q' r A') : CALL d M as A Q' := by
  obtain ⟨r, A', h1, h2⟩ := h
  exact ⟨r, A', hq _ _ h1, h2⟩
/-- a row that changes locals and stack alone -/
theorem AW.pure {d : Nat} {M : MD} {pc pc' : Nat} {lv lv' : LV} {st st' : List AV} {A : AHp} {Q : Option AV → AHp → Prop}
    (h : ∀ (l : Launch) (G : Gp) (p : Program) (e : Env) (R : Room) (s : State) (m : MethodId) (args : Array Value) (below : List Frame) (meth : Method) (c : Code) (H : Heap) (locs : List Loc) (ls : Array Slot) (C S : Nat) (Qr : State → Prop),
      CXd d M G p R s m args meth c → SIM G A H → lvOK G ls M.2.2.1 lv → okL lv → (∀ a ∈ st, okV a) → va_S (frA G) s.heap H locs →
      (∀ ls', lvOK G ls' M.2.2.1 lv' → okL lv' → (∀ a ∈ st', okV a) → W p l e R s m args below meth c H locs C S Qr (F0 m pc' ls' (st'.map (rV G)))) →
      W p l e R s m args below meth c H locs C S Qr (F0 m pc ls (st.map (rV G))))
    (k : AW d M pc' lv' st' A Q) : AW d M pc lv st A Q := by
  obtain ⟨r, A', h1, h2, h3, hW⟩ := k
  refine ⟨r, A', h1, h2, h3, fun l G p e R s m args below meth c H locs ls C S Qr hC hS hl ho hst hva hrm hret => ?_⟩
  exact h l G p e R s m args below meth c H locs ls C S Qr hC hS hl ho hst hva (fun ls' hl' ho' hst' => hW l G p e R s m args below meth c H locs ls' C S Qr hC hS hl' ho' hst' hva hrm hret)
theorem AW.ret {d : Nat} {M : MD} {pc : Nat} {lv : LV} {A : AHp} {Q : Option AV → AHp → Prop} (r : Option AV) (hd : decode M.2.1 pc = .ok (retI r, 1)) (hr : rOK M.2.2.2 r) (hq : Q r A) : AW d M pc lv r.toList A Q := by
  refine ⟨r, A, hq, Int.le_refl _, Nat.le_refl _, fun l G p e R s m args below meth c H locs ls C S Qr hC hS hl ho hst hva hrm hret => ?_⟩
  have e1 : (hn A - hn A).toNat = 0 := by rw [Int.sub_self]; rfl
  have e2 : hs A - hs A = 0 := Nat.sub_self _
  rw [e1, e2] at hret
  refine hret pc H locs ls hS ?_ hva hd hr
  intro a ha
  subst ha
  exact hst a (by simp)
theorem rR_ref (G : Gp) (x : Int) : rR G x = .null ∨ ∃ a, rR G x = .ref a := by
  unfold rR
  split
  · exact Or.inl rfl
  · exact Or.inr ⟨_, rfl⟩
theorem CALL.of {d : Nat} {M : MD} {as : List AV} {A : AHp} {Q : Option AV → AHp → Prop} (hp : plainName M.1.cls = true) (hn1 : (aArgs as).length ≤ M.2.2.1) (h : AW d M 0 (aEnt M.2.2.1 as) [] A Q) : CALL d M as A Q := by
  obtain ⟨r, A', h1, h2, h3, hW⟩ := h
  refine ⟨r, A', h1, h2, h3, fun l G => ?_⟩
  refine Met.ofW (cc := M.2.1) (maxL := M.2.2.1) (ret := M.2.2.2) hp rfl ?_
  intro p e s m args below meth c s₁ B hml hv
  obtain ⟨rfl, hC, hS, hok, hgb⟩ := hv
  have hts := atoms_spec (ws := WSm M) B.pre
  have hlocks := B.notSynchronized
  have hr := B.returns
  have hx := B.exec
  have hb := B.bytes
  rw [lg_entry_eq]
  refine hW l G p e _ s m _ below meth c s.heap [] _ 0 0 _ ⟨hx, hb, hml, hr, findClass_of_methodNamed B.named, fun w hw => hts w (List.mem_cons_of_mem _ hw), hC, Nat.le_refl _, Nat.le_refl _, hgb, fun e => ((name_of_methodNamed B.named B.method).1).trans e⟩ hS
    (lvOK_ent (by rw [aLen]; exact hn1)) ?_ (fun a ha => by cases ha) va_S.rf ⟨?_, ?_⟩ ?_
  · intro i v hv
    exact aArgs_ok as hok i v (aEnt_get hv)
  · show 0 + _ ≤ _
    rw [Nat.zero_add]
    exact Nat.le_refl _
  · show 0 + _ ≤ _
    rw [Nat.zero_add]
    exact Nat.le_refl _
  · intro pc H locs ls hS' hor hva hd hro
    rw [Nat.zero_add, Nat.zero_add]
    have hq : ∀ t : State, t.heap = H → s.WarmedH t.vm → Qcm G r A' (as.map (rV G)).toArray s (.returned (r.map (rV G))) t := fun t ht hW' => ⟨rfl, by rw [ht]; exact hS', hor, hva.F ht⟩
    rcases r with _ | x | x | x
    · unfold rOK at hro
      split at hro
      · next e1 e2 => exact W.vret hx hb (hr.trans e1) hq hva.2.2 hd
      all_goals first | (next e1 e2 => cases e2) | exact hro.elim
    · unfold rOK at hro
      split at hro
      all_goals first | exact hro.elim | skip
      · next e1 e2 => cases e2
      · next e1 e2 => exact W.iret hx hb (hr.trans e1) hq hva.2.2 hd
      · next e1 e2 =>
        cases e2
        refine W.zret hx hb (hr.trans e1) ?_ hq hva.2.2 hd
        rcases hro with rfl | rfl <;> rfl
      · next e1 e2 =>
        cases e2
        refine W.zret hx hb (hr.trans e1) ?_ hq hva.2.2 hd
        have e3 : Int32.ofInt x = nI x.toNat := by
          apply Int32.toInt_inj.mp
          rw [i32_t (by unfold in32; omega), nI_toInt (by omega)]
          omega
        rw [e3]
        exact (pk_charN (by omega)).1
      · next e1 e2 =>
        cases e2
        refine W.zret hx hb (hr.trans e1) ?_ hq hva.2.2 hd
        rcases hro with rfl | rfl <;> rfl
      all_goals (next e1 e2 => cases e2)
    · unfold rOK at hro
      split at hro
      all_goals first | exact hro.elim | skip
      all_goals first | (next e1 e2 => exact W.lret hx hb (hr.trans e1) hq hva.2.2 hd) | (next e1 e2 => cases e2)
    · unfold rOK at hro
      split at hro
      all_goals first | exact hro.elim | skip
      · next e1 e2 => cases e2
      · next e1 e2 => cases e2
      · next e1 e2 => cases e2
      · next e1 e2 => cases e2
      · next e1 e2 => cases e2
      · next e1 e2 => cases e2
      · next e1 e2 => exact W.aret (v := rR G x) hx hb (hr.trans e1) (Or.inl ⟨_, rfl⟩) (rR_ref G x) hq hva.2.2 hd
      · next e1 e2 => exact W.aret (v := rR G x) hx hb (hr.trans e1) (Or.inr ⟨_, rfl⟩) (rR_ref G x) hq hva.2.2 hd
end
section
/-! ===== rows: an instruction each ===== -/
theorem okc {a : AV} {st : List AV} (h : okV a) (hs : ∀ x ∈ st, okV x) : ∀ x ∈ a :: st, okV x := fun x hx => (List.mem_cons.mp hx).elim (fun e => e ▸ h) (hs x)
theorem okt {a : AV} {st : List AV} (hs : ∀ x ∈ a :: st, okV x) : ∀ x ∈ st, okV x := fun x hx => hs x (List.mem_cons_of_mem _ hx)
theorem okh {a : AV} {st : List AV} (hs : ∀ x ∈ a :: st, okV x) : okV a := hs a List.mem_cons_self
theorem aw_iconst {d : Nat} {M : MD} {pc pc' : Nat} {lv : LV} {st : List AV} {A : AHp} {Q : Option AV → AHp → Prop} {n : Int} (hn : -128 ≤ n ∧ n ≤ 127) (hd : decode M.2.1 pc = .ok (.iconst n, 1)) (hp : pc + 1 = pc') (k : AW d M pc' lv (vi n :: st) A Q) : AW d M pc lv st A Q := by
  subst hp
  refine AW.pure (fun l G p e R s m args below meth c H locs ls C S Qr hC hS hl ho hst hva kk => ?_) k
  exact lv_iconst hC.1 hC.2.1 hd rfl (kk ls hl ho (okc (by show in32 n; unfold in32; omega) hst))
theorem aw_bipush {d : Nat} {M : MD} {pc pc' : Nat} {lv : LV} {st : List AV} {A : AHp} {Q : Option AV → AHp → Prop} {n : Int} (hn : (Int8.ofInt n).toInt32 = Int32.ofInt n ∧ -128 ≤ n ∧ n ≤ 127) (hd : decode M.2.1 pc = .ok (.bipush n, 2)) (hp : pc + 2 = pc') (k : AW d M pc' lv (vi n :: st) A Q) : AW d M pc lv st A Q := by
  subst hp
  refine AW.pure (fun l G p e R s m args below meth c H locs ls C S Qr hC hS hl ho hst hva kk => ?_) k
  exact lv_bipush hC.1 hC.2.1 hd hn.1 (kk ls hl ho (okc (by show in32 n; unfold in32; omega) hst))
theorem aw_sipush {d : Nat} {M : MD} {pc pc' : Nat} {lv : LV} {st : List AV} {A : AHp} {Q : Option AV → AHp → Prop} {n : Int} (hn : (Int16.ofInt n).toInt32 = Int32.ofInt n ∧ -32768 ≤ n ∧ n ≤ 32767) (hd : decode M.2.1 pc = .ok (.sipush n, 3)) (hp : pc + 3 = pc') (k : AW d M pc' lv (vi n :: st) A Q) : AW d M pc lv st A Q := by
  subst hp
  refine AW.pure (fun l G p e R s m args below meth c H locs ls C S Qr hC hS hl ho hst hva kk => ?_) k
  exact lv_sipush hC.1 hC.2.1 hd hn.1 (kk ls hl ho (okc (by show in32 n; unfold in32; omega) hst))
theorem aw_lconst {d : Nat} {M : MD} {pc pc' : Nat} {lv : LV} {st : List AV} {A : AHp} {Q : Option AV → AHp → Prop} {n : Fin 2} {x : Int} (hn : Int64.ofNat (n : Nat) = Int64.ofInt x ∧ 0 ≤ x ∧ x ≤ 1) (hd : decode M.2.1 pc = .ok (.lconst n, 1)) (hp : pc + 1 = pc') (k : AW d M pc' lv (vl x :: st) A Q) : AW d M pc lv st A Q := by
  subst hp
  refine AW.pure (fun l G p e R s m args below meth c H locs ls C S Qr hC hS hl ho hst hva kk => ?_) k
  exact lv_lconst hC.1 hC.2.1 hd hn.1 (kk ls hl ho (okc (by show in64 x; unfold in64; omega) hst))
theorem aw_null {d : Nat} {M : MD} {pc pc' : Nat} {lv : LV} {st : List AV} {A : AHp} {Q : Option AV → AHp → Prop}  (hd : decode M.2.1 pc = .ok (.aconst_null, 1)) (hp : pc + 1 = pc') (k : AW d M pc' lv (vr 0 :: st) A Q) : AW d M pc lv st A Q := by
  subst hp
  refine AW.pure (fun l G p e R s m args below meth c H locs ls C S Qr hC hS hl ho hst hva kk => ?_) k
  exact lv_null hC.1 hC.2.1 hd (kk ls hl ho (okc trivial hst))
theorem aw_ldc {d : Nat} {M : MD} {pc pc' : Nat} {lv : LV} {st : List AV} {A : AHp} {Q : Option AV → AHp → Prop} {idx : Nat} {x : Int} (hw : Cond.constant M.1.cls idx (Int32.ofInt x) ∈ TB) (hx : in32 x) (hd : decode M.2.1 pc = .ok (.ldc idx, 2)) (hp : pc + 2 = pc') (k : AW d M pc' lv (vi x :: st) A Q) : AW d M pc lv st A Q := by
  subst hp
  refine AW.pure (fun l G p e R s m args below meth c H locs ls C S Qr hC hS hl ho hst hva kk => ?_) k
  exact lv_ldc hC.1 hC.2.1 hC.2.2.2.2.1 (hC.2.2.2.2.2.1 _ hw) hd (kk ls hl ho (okc hx hst))
theorem aw_ldc2 {d : Nat} {M : MD} {pc pc' : Nat} {lv : LV} {st : List AV} {A : AHp} {Q : Option AV → AHp → Prop} {idx : Nat} {x : Int} (hw : Cond.constantLong M.1.cls idx (Int64.ofInt x) ∈ TB) (hx : in64 x) (hd : decode M.2.1 pc = .ok (.ldc2_w idx, 3)) (hp : pc + 3 = pc') (k : AW d M pc' lv (vl x :: st) A Q) : AW d M pc lv st A Q := by
  subst hp
  refine AW.pure (fun l G p e R s m args below meth c H locs ls C S Qr hC hS hl ho hst hva kk => ?_) k
  exact lv_ldc2 hC.1 hC.2.1 hC.2.2.2.2.1 (hC.2.2.2.2.2.1 _ hw) hd (kk ls hl ho (okc hx hst))
theorem aw_ldcS {d : Nat} {M : MD} {pc pc' : Nat} {lv : LV} {st : List AV} {A : AHp} {Q : Option AV → AHp → Prop} {idx : Nat} {j : Nat} (hj : j < 14) (hM : M.1.cls = RX13) (hi : mpL.getD j 0 = idx) (hd : decode M.2.1 pc = .ok (.ldc idx, 2)) (hp : pc + 2 = pc') (k : AW d M pc' lv (vr (16 + (j : Int)) :: st) A Q) : AW d M pc lv st A Q := by
  subst hp
  refine AW.pure (fun l G p e R s m args below meth c H locs ls C S Qr hC hS hl ho hst hva kk => ?_) k
  subst hi
  have hz := hC.2.2.2.2.2.2.1.1.2.2.2 j hj
  have hown := hC.2.2.2.2.1
  rw [hM] at hown
  have hr : rR G (16 + (j : Int)) = .ref (gA G (16 + j)) := by
    unfold rR rA
    rw [if_neg (by omega), if_pos (by omega)]
    rw [show (16 + (j : Int)).toNat = 16 + j by omega]
  refine va_ldcS hC.1 hC.2.1 hown hz hd ?_
  rw [← hr]
  exact kk ls hl ho (okc trivial hst)
theorem aw_iload_n {d : Nat} {M : MD} {pc pc' : Nat} {lv : LV} {st : List AV} {A : AHp} {Q : Option AV → AHp → Prop} {i : Fin 4} {x : Int} (hv : lvG lv i = some (vi x)) (hd : decode M.2.1 pc = .ok (.iload_n i, 1)) (hp : pc + 1 = pc') (k : AW d M pc' lv (vi x :: st) A Q) : AW d M pc lv st A Q := by
  subst hp
  refine AW.pure (fun l G p e R s m args below meth c H locs ls C S Qr hC hS hl ho hst hva kk => ?_) k
  exact lv_iload_n hC.1 hC.2.1 hd rfl (hl.at hv) (kk ls hl ho (okc (ho.at hv) hst))
theorem aw_iload {d : Nat} {M : MD} {pc pc' : Nat} {lv : LV} {st : List AV} {A : AHp} {Q : Option AV → AHp → Prop} {i : Nat} {x : Int} (hv : lvG lv i = some (vi x)) (hd : decode M.2.1 pc = .ok (.iload i, 2)) (hp : pc + 2 = pc') (k : AW d M pc' lv (vi x :: st) A Q) : AW d M pc lv st A Q := by
  subst hp
  refine AW.pure (fun l G p e R s m args below meth c H locs ls C S Qr hC hS hl ho hst hva kk => ?_) k
  exact lv_iload hC.1 hC.2.1 hd (hl.at hv) (kk ls hl ho (okc (ho.at hv) hst))
theorem aw_lload_n {d : Nat} {M : MD} {pc pc' : Nat} {lv : LV} {st : List AV} {A : AHp} {Q : Option AV → AHp → Prop} {i : Fin 4} {x : Int} (hv : lvG lv i = some (vl x)) (hd : decode M.2.1 pc = .ok (.lload_n i, 1)) (hp : pc + 1 = pc') (k : AW d M pc' lv (vl x :: st) A Q) : AW d M pc lv st A Q := by
  subst hp
  refine AW.pure (fun l G p e R s m args below meth c H locs ls C S Qr hC hS hl ho hst hva kk => ?_) k
  exact lv_lload_n hC.1 hC.2.1 hd rfl (hl.at hv) (kk ls hl ho (okc (ho.at hv) hst))
theorem aw_lload {d : Nat} {M : MD} {pc pc' : Nat} {lv : LV} {st : List AV} {A : AHp} {Q : Option AV → AHp → Prop} {i : Nat} {x : Int} (hv : lvG lv i = some (vl x)) (hd : decode M.2.1 pc = .ok (.lload i, 2)) (hp : pc + 2 = pc') (k : AW d M pc' lv (vl x :: st) A Q) : AW d M pc lv st A Q := by
  subst hp
  refine AW.pure (fun l G p e R s m args below meth c H locs ls C S Qr hC hS hl ho hst hva kk => ?_) k
  exact lv_lload hC.1 hC.2.1 hd (hl.at hv) (kk ls hl ho (okc (ho.at hv) hst))
theorem aw_aload_n {d : Nat} {M : MD} {pc pc' : Nat} {lv : LV} {st : List AV} {A : AHp} {Q : Option AV → AHp → Prop} {i : Fin 4} {x : Int} (hv : lvG lv i = some (vr x)) (hd : decode M.2.1 pc = .ok (.aload_n i, 1)) (hp : pc + 1 = pc') (k : AW d M pc' lv (vr x :: st) A Q) : AW d M pc lv st A Q := by
  subst hp
  refine AW.pure (fun l G p e R s m args below meth c H locs ls C S Qr hC hS hl ho hst hva kk => ?_) k
  have h1 := hl.at hv
  have k1 := kk ls hl ho (okc (ho.at hv) hst)
  change ls[(i : Nat)]? = some (.val (rR G x)) at h1
  change W p l e R s m args below meth c H locs C S Qr (F0 m (pc + 1) ls (rR G x :: st.map (rV G))) at k1
  rcases rR_ref G x with hr | ⟨a, hr⟩
  · rw [hr] at h1 k1
    exact lv_aload_nN hC.1 hC.2.1 hd rfl h1 k1
  · rw [hr] at h1 k1
    exact lv_aload_n hC.1 hC.2.1 hd rfl h1 k1
theorem aw_aload {d : Nat} {M : MD} {pc pc' : Nat} {lv : LV} {st : List AV} {A : AHp} {Q : Option AV → AHp → Prop} {i : Nat} {x : Int} (hv : lvG lv i = some (vr x)) (hd : decode M.2.1 pc = .ok (.aload i, 2)) (hp : pc + 2 = pc') (k : AW d M pc' lv (vr x :: st) A Q) : AW d M pc lv st A Q := by
  subst hp
  refine AW.pure (fun l G p e R s m args below meth c H locs ls C S Qr hC hS hl ho hst hva kk => ?_) k
  have h1 := hl.at hv
  have k1 := kk ls hl ho (okc (ho.at hv) hst)
  change ls[(i : Nat)]? = some (.val (rR G x)) at h1
  change W p l e R s m args below meth c H locs C S Qr (F0 m (pc + 2) ls (rR G x :: st.map (rV G))) at k1
  rcases rR_ref G x with hr | ⟨a, hr⟩
  · rw [hr] at h1 k1
    exact lv_aloadN hC.1 hC.2.1 hd h1 k1
  · rw [hr] at h1 k1
    exact lv_aload hC.1 hC.2.1 hd h1 k1
theorem aw_istore_n {d : Nat} {M : MD} {pc pc' : Nat} {lv : LV} {st : List AV} {A : AHp} {Q : Option AV → AHp → Prop} {lv' : LV} {i : Fin 4} {x : Int} (hd : decode M.2.1 pc = .ok (.istore_n i, 1)) (hp : pc + 1 = pc') (hi : (i : Nat) < M.2.2.1) (hl' : st1 lv i (vi x) = lv') (k : AW d M pc' lv' st A Q) : AW d M pc lv (vi x :: st) A Q := by
  subst hp
  subst hl'
  refine AW.pure (fun l G p e R s m args below meth c H locs ls C S Qr hC hS hl ho hst hva kk => ?_) k
  exact lv_istore_n hC.1 hC.2.1 hd rfl hl.has hi rfl (fun ls' hl2 => kk ls' (lvOK.of1 hl2) (okL_s1 ho (okh hst)) (okt hst))
theorem aw_istore {d : Nat} {M : MD} {pc pc' : Nat} {lv : LV} {st : List AV} {A : AHp} {Q : Option AV → AHp → Prop} {lv' : LV} {i : Nat} {x : Int} (hd : decode M.2.1 pc = .ok (.istore i, 2)) (hp : pc + 2 = pc') (hi : (i : Nat) < M.2.2.1) (hl' : st1 lv i (vi x) = lv') (k : AW d M pc' lv' st A Q) : AW d M pc lv (vi x :: st) A Q := by
  subst hp
  subst hl'
  refine AW.pure (fun l G p e R s m args below meth c H locs ls C S Qr hC hS hl ho hst hva kk => ?_) k
  exact lv_istore hC.1 hC.2.1 hd hl.has hi rfl (fun ls' hl2 => kk ls' (lvOK.of1 hl2) (okL_s1 ho (okh hst)) (okt hst))
theorem aw_lstore_n {d : Nat} {M : MD} {pc pc' : Nat} {lv : LV} {st : List AV} {A : AHp} {Q : Option AV → AHp → Prop} {lv' : LV} {i : Fin 4} {x : Int} (hd : decode M.2.1 pc = .ok (.lstore_n i, 1)) (hp : pc + 1 = pc') (hi : (i : Nat) + 1 < M.2.2.1) (hl' : st2 lv i (vl x) = lv') (k : AW d M pc' lv' st A Q) : AW d M pc lv (vl x :: st) A Q := by
  subst hp
  subst hl'
  refine AW.pure (fun l G p e R s m args below meth c H locs ls C S Qr hC hS hl ho hst hva kk => ?_) k
  exact lv_lstore_n hC.1 hC.2.1 hd rfl hl.has hi rfl (fun ls' hl2 => kk ls' (lvOK.of2 hl2) (okL_s2 ho (okh hst)) (okt hst))
theorem aw_lstore {d : Nat} {M : MD} {pc pc' : Nat} {lv : LV} {st : List AV} {A : AHp} {Q : Option AV → AHp → Prop} {lv' : LV} {i : Nat} {x : Int} (hd : decode M.2.1 pc = .ok (.lstore i, 2)) (hp : pc + 2 = pc') (hi : (i : Nat) + 1 < M.2.2.1) (hl' : st2 lv i (vl x) = lv') (k : AW d M pc' lv' st A Q) : AW d M pc lv (vl x :: st) A Q := by
  subst hp
  subst hl'
  refine AW.pure (fun l G p e R s m args below meth c H locs ls C S Qr hC hS hl ho hst hva kk => ?_) k
  exact lv_lstore hC.1 hC.2.1 hd hl.has hi rfl (fun ls' hl2 => kk ls' (lvOK.of2 hl2) (okL_s2 ho (okh hst)) (okt hst))
theorem aw_astore_n {d : Nat} {M : MD} {pc pc' : Nat} {lv : LV} {st : List AV} {A : AHp} {Q : Option AV → AHp → Prop} {lv' : LV} {i : Fin 4} {x : Int} (hd : decode M.2.1 pc = .ok (.astore_n i, 1)) (hp : pc + 1 = pc') (hi : (i : Nat) < M.2.2.1) (hl' : st1 lv i (vr x) = lv') (k : AW d M pc' lv' st A Q) : AW d M pc lv (vr x :: st) A Q := by
  subst hp
  subst hl'
  refine AW.pure (fun l G p e R s m args below meth c H locs ls C S Qr hC hS hl ho hst hva kk => ?_) k
  change W p l e R s m args below meth c H locs C S Qr (F0 m pc ls (rR G x :: st.map (rV G)))
  rcases rR_ref G x with hr | ⟨a, hr⟩
  · rw [hr]
    exact lv_astore_nN hC.1 hC.2.1 hd rfl hl.has hi rfl (fun ls' hl2 => kk ls' (lvOK.of1 (v := vr x) (by show lv_has ls' _ ((_, rR G x) :: _); rw [hr]; exact hl2)) (okL_s1 ho trivial) (okt hst))
  · rw [hr]
    exact lv_astore_n hC.1 hC.2.1 hd rfl hl.has hi rfl (fun ls' hl2 => kk ls' (lvOK.of1 (v := vr x) (by show lv_has ls' _ ((_, rR G x) :: _); rw [hr]; exact hl2)) (okL_s1 ho trivial) (okt hst))
theorem aw_astore {d : Nat} {M : MD} {pc pc' : Nat} {lv : LV} {st : List AV} {A : AHp} {Q : Option AV → AHp → Prop} {lv' : LV} {i : Nat} {x : Int} (hd : decode M.2.1 pc = .ok (.astore i, 2)) (hp : pc + 2 = pc') (hi : (i : Nat) < M.2.2.1) (hl' : st1 lv i (vr x) = lv') (k : AW d M pc' lv' st A Q) : AW d M pc lv (vr x :: st) A Q := by
  subst hp
  subst hl'
  refine AW.pure (fun l G p e R s m args below meth c H locs ls C S Qr hC hS hl ho hst hva kk => ?_) k
  change W p l e R s m args below meth c H locs C S Qr (F0 m pc ls (rR G x :: st.map (rV G)))
  rcases rR_ref G x with hr | ⟨a, hr⟩
  · rw [hr]
    exact lv_astoreN hC.1 hC.2.1 hd hl.has hi rfl (fun ls' hl2 => kk ls' (lvOK.of1 (v := vr x) (by show lv_has ls' _ ((_, rR G x) :: _); rw [hr]; exact hl2)) (okL_s1 ho trivial) (okt hst))
  · rw [hr]
    exact lv_astore hC.1 hC.2.1 hd hl.has hi rfl (fun ls' hl2 => kk ls' (lvOK.of1 (v := vr x) (by show lv_has ls' _ ((_, rR G x) :: _); rw [hr]; exact hl2)) (okL_s1 ho trivial) (okt hst))
theorem aw_iinc {d : Nat} {M : MD} {pc pc' : Nat} {lv : LV} {st : List AV} {A : AHp} {Q : Option AV → AHp → Prop} {lv' : LV} {i : Nat} {n x y : Int} (hd : decode M.2.1 pc = .ok (.iinc i n, 3)) (hp : pc + 3 = pc') (hv : lvG lv i = some (vi x)) (hi : i < M.2.2.1) (hy : w32 (x + n) = y) (hl' : st1 lv i (vi y) = lv') (k : AW d M pc' lv' st A Q) : AW d M pc lv st A Q := by
  subst hp
  subst hl'
  subst hy
  refine AW.pure (fun l G p e R s m args below meth c H locs ls C S Qr hC hS hl ho hst hva kk => ?_) k
  obtain ⟨j, hj⟩ := List.getElem?_of_mem (lvR_mem.mpr ⟨vi x, lvG_iff.mp hv, rfl⟩ : (i, rV G (vi x)) ∈ lvR G lv)
  exact lv_iinc (v := Int32.ofInt (w32 (x + n))) hC.1 hC.2.1 hd hl.has hj (by rw [i32_w, Int32.ofInt_add]) hi rfl (fun ls' hl2 => kk ls' (lvOK.of1 (v := vi (w32 (x + n))) hl2) (okL_s1 ho (w32_in _)) hst)
theorem aw_iadd {d : Nat} {M : MD} {pc pc' : Nat} {lv : LV} {st : List AV} {A : AHp} {Q : Option AV → AHp → Prop} {x y z : Int} (hz : w32 (x + y) = z) (hd : decode M.2.1 pc = .ok (.iadd, 1)) (hp : pc + 1 = pc') (k : AW d M pc' lv (vi z :: st) A Q) : AW d M pc lv (vi y :: vi x :: st) A Q := by
  subst hp
  refine AW.pure (fun l G p e R s m args below meth c H locs ls C S Qr hC hS hl ho hst hva kk => ?_) k
  subst hz
  have hy : in32 y := okh hst
  have hx : in32 x := okh (okt hst)
  have k1 := kk ls hl ho (okc (w32_in _) (okt (okt hst)))
  refine lv_iadd hC.1 hC.2.1 hd ?_
  rw [i32_add]
  exact k1
theorem aw_isub {d : Nat} {M : MD} {pc pc' : Nat} {lv : LV} {st : List AV} {A : AHp} {Q : Option AV → AHp → Prop} {x y z : Int} (hz : w32 (x - y) = z) (hd : decode M.2.1 pc = .ok (.isub, 1)) (hp : pc + 1 = pc') (k : AW d M pc' lv (vi z :: st) A Q) : AW d M pc lv (vi y :: vi x :: st) A Q := by
  subst hp
  refine AW.pure (fun l G p e R s m args below meth c H locs ls C S Qr hC hS hl ho hst hva kk => ?_) k
  subst hz
  have hy : in32 y := okh hst
  have hx : in32 x := okh (okt hst)
  have k1 := kk ls hl ho (okc (w32_in _) (okt (okt hst)))
  refine lv_isub hC.1 hC.2.1 hd ?_
  rw [i32_sub]
  exact k1
theorem aw_imul {d : Nat} {M : MD} {pc pc' : Nat} {lv : LV} {st : List AV} {A : AHp} {Q : Option AV → AHp → Prop} {x y z : Int} (hz : w32 (x * y) = z) (hd : decode M.2.1 pc = .ok (.imul, 1)) (hp : pc + 1 = pc') (k : AW d M pc' lv (vi z :: st) A Q) : AW d M pc lv (vi y :: vi x :: st) A Q := by
  subst hp
  refine AW.pure (fun l G p e R s m args below meth c H locs ls C S Qr hC hS hl ho hst hva kk => ?_) k
  subst hz
  have hy : in32 y := okh hst
  have hx : in32 x := okh (okt hst)
  have k1 := kk ls hl ho (okc (w32_in _) (okt (okt hst)))
  refine lv_imul hC.1 hC.2.1 hd ?_
  rw [i32_mul]
  exact k1
theorem aw_irem {d : Nat} {M : MD} {pc pc' : Nat} {lv : LV} {st : List AV} {A : AHp} {Q : Option AV → AHp → Prop} {x y z : Int} (hne : ¬ y = 0) (hz : x.tmod y = z) (hd : decode M.2.1 pc = .ok (.irem, 1)) (hp : pc + 1 = pc') (k : AW d M pc' lv (vi z :: st) A Q) : AW d M pc lv (vi y :: vi x :: st) A Q := by
  subst hp
  refine AW.pure (fun l G p e R s m args below meth c H locs ls C S Qr hC hS hl ho hst hva kk => ?_) k
  subst hz
  have hy : in32 y := okh hst
  have hx : in32 x := okh (okt hst)
  have k1 := kk ls hl ho (okc (w_tmod hx hy) (okt (okt hst)))
  refine lv_irem hC.1 hC.2.1 hd (by rw [i32_0, i32_eq hy (by decide)]; exact hne) ?_
  rw [i32_rem hx hy]
  exact k1
theorem aw_iand {d : Nat} {M : MD} {pc pc' : Nat} {lv : LV} {st : List AV} {A : AHp} {Q : Option AV → AHp → Prop} {x y z : Int} (hz : (Int32.ofInt x &&& Int32.ofInt y).toInt = z) (hd : decode M.2.1 pc = .ok (.iand, 1)) (hp : pc + 1 = pc') (k : AW d M pc' lv (vi z :: st) A Q) : AW d M pc lv (vi y :: vi x :: st) A Q := by
  subst hp
  refine AW.pure (fun l G p e R s m args below meth c H locs ls C S Qr hC hS hl ho hst hva kk => ?_) k
  subst hz
  have k1 := kk ls hl ho (okc (i32_in _) (okt (okt hst)))
  refine lv_iand hC.1 hC.2.1 hd ?_
  change W p l e R s m args below meth c H locs C S Qr (F0 m (pc + 1) ls (.int (Int32.ofInt _) :: st.map (rV G))) at k1
  rw [i32_of] at k1
  exact k1
theorem aw_land {d : Nat} {M : MD} {pc pc' : Nat} {lv : LV} {st : List AV} {A : AHp} {Q : Option AV → AHp → Prop} {x y z : Int} (hz : (Int64.ofInt x &&& Int64.ofInt y).toInt = z) (hd : decode M.2.1 pc = .ok (.land, 1)) (hp : pc + 1 = pc') (k : AW d M pc' lv (vl z :: st) A Q) : AW d M pc lv (vl y :: vl x :: st) A Q := by
  subst hp
  refine AW.pure (fun l G p e R s m args below meth c H locs ls C S Qr hC hS hl ho hst hva kk => ?_) k
  subst hz
  have k1 := kk ls hl ho (okc (i64_in _) (okt (okt hst)))
  refine lv_land hC.1 hC.2.1 hd ?_
  change W p l e R s m args below meth c H locs C S Qr (F0 m (pc + 1) ls (.long (Int64.ofInt _) :: st.map (rV G))) at k1
  rw [i64_of] at k1
  exact k1
theorem aw_lor {d : Nat} {M : MD} {pc pc' : Nat} {lv : LV} {st : List AV} {A : AHp} {Q : Option AV → AHp → Prop} {x y z : Int} (hz : (Int64.ofInt x ||| Int64.ofInt y).toInt = z) (hd : decode M.2.1 pc = .ok (.lor, 1)) (hp : pc + 1 = pc') (k : AW d M pc' lv (vl z :: st) A Q) : AW d M pc lv (vl y :: vl x :: st) A Q := by
  subst hp
  refine AW.pure (fun l G p e R s m args below meth c H locs ls C S Qr hC hS hl ho hst hva kk => ?_) k
  subst hz
  have k1 := kk ls hl ho (okc (i64_in _) (okt (okt hst)))
  refine lv_lor hC.1 hC.2.1 hd ?_
  change W p l e R s m args below meth c H locs C S Qr (F0 m (pc + 1) ls (.long (Int64.ofInt _) :: st.map (rV G))) at k1
  rw [i64_of] at k1
  exact k1
theorem aw_ladd {d : Nat} {M : MD} {pc pc' : Nat} {lv : LV} {st : List AV} {A : AHp} {Q : Option AV → AHp → Prop} {x y z : Int} (hz : w64 (x + y) = z) (hd : decode M.2.1 pc = .ok (.ladd, 1)) (hp : pc + 1 = pc') (k : AW d M pc' lv (vl z :: st) A Q) : AW d M pc lv (vl y :: vl x :: st) A Q := by
  subst hp
  refine AW.pure (fun l G p e R s m args below meth c H locs ls C S Qr hC hS hl ho hst hva kk => ?_) k
  subst hz
  have k1 := kk ls hl ho (okc (w64_in _) (okt (okt hst)))
  refine lv_ladd hC.1 hC.2.1 hd ?_
  rw [i64_add]
  exact k1
theorem aw_lneg {d : Nat} {M : MD} {pc pc' : Nat} {lv : LV} {st : List AV} {A : AHp} {Q : Option AV → AHp → Prop} {x z : Int} (hz : w64 (-x) = z) (hd : decode M.2.1 pc = .ok (.lneg, 1)) (hp : pc + 1 = pc') (k : AW d M pc' lv (vl z :: st) A Q) : AW d M pc lv (vl x :: st) A Q := by
  subst hp
  refine AW.pure (fun l G p e R s m args below meth c H locs ls C S Qr hC hS hl ho hst hva kk => ?_) k
  subst hz
  have k1 := kk ls hl ho (okc (w64_in _) (okt hst))
  refine lv_lneg hC.1 hC.2.1 hd ?_
  rw [i64_neg]
  exact k1
theorem aw_lshl {d : Nat} {M : MD} {pc pc' : Nat} {lv : LV} {st : List AV} {A : AHp} {Q : Option AV → AHp → Prop} {x y z : Int} (hz : (Int64.ofInt x <<< ((Int32.ofInt y).toInt64 &&& 63)).toInt = z) (hd : decode M.2.1 pc = .ok (.lshl, 1)) (hp : pc + 1 = pc') (k : AW d M pc' lv (vl z :: st) A Q) : AW d M pc lv (vi y :: vl x :: st) A Q := by
  subst hp
  refine AW.pure (fun l G p e R s m args below meth c H locs ls C S Qr hC hS hl ho hst hva kk => ?_) k
  subst hz
  have k1 := kk ls hl ho (okc (i64_in _) (okt (okt hst)))
  refine lv_lshl hC.1 hC.2.1 hd rfl ?_
  change W p l e R s m args below meth c H locs C S Qr (F0 m (pc + 1) ls (.long (Int64.ofInt _) :: st.map (rV G))) at k1
  rw [i64_of] at k1
  exact k1
theorem aw_ldiv {d : Nat} {M : MD} {pc pc' : Nat} {lv : LV} {st : List AV} {A : AHp} {Q : Option AV → AHp → Prop} {x y z : Int} (hne : ¬ y = 0) (hz : w64 (x.tdiv y) = z) (hd : decode M.2.1 pc = .ok (.ldiv, 1)) (hp : pc + 1 = pc') (k : AW d M pc' lv (vl z :: st) A Q) : AW d M pc lv (vl y :: vl x :: st) A Q := by
  subst hp
  refine AW.pure (fun l G p e R s m args below meth c H locs ls C S Qr hC hS hl ho hst hva kk => ?_) k
  subst hz
  have hy : in64 y := okh hst
  have hx : in64 x := okh (okt hst)
  have k1 := kk ls hl ho (okc (w64_in _) (okt (okt hst)))
  refine lv_ldiv hC.1 hC.2.1 hd (by rw [i64_0, i64_eq hy (by decide)]; exact hne) ?_
  rw [i64_div hx hy]
  exact k1
theorem aw_lrem {d : Nat} {M : MD} {pc pc' : Nat} {lv : LV} {st : List AV} {A : AHp} {Q : Option AV → AHp → Prop} {x y z : Int} (hne : ¬ y = 0) (hz : x.tmod y = z) (hd : decode M.2.1 pc = .ok (.lrem, 1)) (hp : pc + 1 = pc') (k : AW d M pc' lv (vl z :: st) A Q) : AW d M pc lv (vl y :: vl x :: st) A Q := by
  subst hp
  refine AW.pure (fun l G p e R s m args below meth c H locs ls C S Qr hC hS hl ho hst hva kk => ?_) k
  subst hz
  have hy : in64 y := okh hst
  have hx : in64 x := okh (okt hst)
  have k1 := kk ls hl ho (okc (w_tmod64 hx hy) (okt (okt hst)))
  refine lv_lrem hC.1 hC.2.1 hd (by rw [i64_0, i64_eq hy (by decide)]; exact hne) ?_
  rw [i64_rem hx hy]
  exact k1
theorem aw_i2l {d : Nat} {M : MD} {pc pc' : Nat} {lv : LV} {st : List AV} {A : AHp} {Q : Option AV → AHp → Prop} {x : Int} (hd : decode M.2.1 pc = .ok (.i2l, 1)) (hp : pc + 1 = pc') (k : AW d M pc' lv (vl x :: st) A Q) : AW d M pc lv (vi x :: st) A Q := by
  subst hp
  refine AW.pure (fun l G p e R s m args below meth c H locs ls C S Qr hC hS hl ho hst hva kk => ?_) k
  have hx : in32 x := okh hst
  exact lv_i2l hC.1 hC.2.1 hd (i32_l hx) (kk ls hl ho (okc (in32_64 hx) (okt hst)))
theorem aw_l2i {d : Nat} {M : MD} {pc pc' : Nat} {lv : LV} {st : List AV} {A : AHp} {Q : Option AV → AHp → Prop} {x z : Int} (hz : w32 x = z) (hd : decode M.2.1 pc = .ok (.l2i, 1)) (hp : pc + 1 = pc') (k : AW d M pc' lv (vi z :: st) A Q) : AW d M pc lv (vl x :: st) A Q := by
  subst hp
  refine AW.pure (fun l G p e R s m args below meth c H locs ls C S Qr hC hS hl ho hst hva kk => ?_) k
  subst hz
  have hx : in64 x := okh hst
  exact lv_l2i hC.1 hC.2.1 hd (i64_i hx) (kk ls hl ho (okc (w32_in _) (okt hst)))
theorem aw_i2b {d : Nat} {M : MD} {pc pc' : Nat} {lv : LV} {st : List AV} {A : AHp} {Q : Option AV → AHp → Prop} {x z : Int} (hz : (Int32.ofInt x).toInt8.toInt = z) (hd : decode M.2.1 pc = .ok (.i2b, 1)) (hp : pc + 1 = pc') (k : AW d M pc' lv (vi z :: st) A Q) : AW d M pc lv (vi x :: st) A Q := by
  subst hp
  refine AW.pure (fun l G p e R s m args below meth c H locs ls C S Qr hC hS hl ho hst hva kk => ?_) k
  subst hz
  have hb1 : in32 (Int32.ofInt x).toInt8.toInt := by
    have h1 := Int8.le_toInt (Int32.ofInt x).toInt8
    have h2 := Int8.toInt_lt (Int32.ofInt x).toInt8
    unfold in32
    omega
  exact lv_i2b hC.1 hC.2.1 hd (by apply Int32.toInt_inj.mp; rw [i32_t hb1, Int8.toInt_toInt32]) (kk ls hl ho (okc hb1 (okt hst)))
theorem aw_i2s {d : Nat} {M : MD} {pc pc' : Nat} {lv : LV} {st : List AV} {A : AHp} {Q : Option AV → AHp → Prop} {x z : Int} (hz : (Int32.ofInt x).toInt16.toInt = z) (hd : decode M.2.1 pc = .ok (.i2s, 1)) (hp : pc + 1 = pc') (k : AW d M pc' lv (vi z :: st) A Q) : AW d M pc lv (vi x :: st) A Q := by
  subst hp
  refine AW.pure (fun l G p e R s m args below meth c H locs ls C S Qr hC hS hl ho hst hva kk => ?_) k
  subst hz
  have hb1 : in32 (Int32.ofInt x).toInt16.toInt := by
    have h1 := Int16.le_toInt (Int32.ofInt x).toInt16
    have h2 := Int16.toInt_lt (Int32.ofInt x).toInt16
    unfold in32
    omega
  exact lv_i2s hC.1 hC.2.1 hd (by apply Int32.toInt_inj.mp; rw [i32_t hb1, Int16.toInt_toInt32]) (kk ls hl ho (okc hb1 (okt hst)))
theorem aw_lcmp {d : Nat} {M : MD} {pc pc' : Nat} {lv : LV} {st : List AV} {A : AHp} {Q : Option AV → AHp → Prop} {x y : Int} (hd : decode M.2.1 pc = .ok (.lcmp, 1)) (hp : pc + 1 = pc') (k : AW d M pc' lv (vi (if x = y then 0 else if x < y then -1 else 1) :: st) A Q) : AW d M pc lv (vl y :: vl x :: st) A Q := by
  subst hp
  refine AW.pure (fun l G p e R s m args below meth c H locs ls C S Qr hC hS hl ho hst hva kk => ?_) k
  have hy : in64 y := okh hst
  have hx : in64 x := okh (okt hst)
  have k1 := kk ls hl ho (okc (by show in32 _; split; decide; split <;> decide) (okt (okt hst)))
  refine W.lcmp hC.1 hC.2.1 hd ?_
  rw [lcmp_of hx hy]
  exact k1
theorem aw_dup {d : Nat} {M : MD} {pc pc' : Nat} {lv : LV} {st : List AV} {A : AHp} {Q : Option AV → AHp → Prop} {a : AV} (ha : acat a = 1) (hd : decode M.2.1 pc = .ok (.dup, 1)) (hp : pc + 1 = pc') (k : AW d M pc' lv (a :: a :: st) A Q) : AW d M pc lv (a :: st) A Q := by
  subst hp
  refine AW.pure (fun l G p e R s m args below meth c H locs ls C S Qr hC hS hl ho hst hva kk => ?_) k
  exact lv_dup hC.1 hC.2.1 hd (by rw [rV_cat]; exact ha) (kk ls hl ho (okc (okh hst) hst))
theorem aw_pop {d : Nat} {M : MD} {pc pc' : Nat} {lv : LV} {st : List AV} {A : AHp} {Q : Option AV → AHp → Prop} {a : AV} (ha : acat a = 1) (hd : decode M.2.1 pc = .ok (.pop, 1)) (hp : pc + 1 = pc') (k : AW d M pc' lv st A Q) : AW d M pc lv (a :: st) A Q := by
  subst hp
  refine AW.pure (fun l G p e R s m args below meth c H locs ls C S Qr hC hS hl ho hst hva kk => ?_) k
  exact lv_pop hC.1 hC.2.1 hd (by rw [rV_cat]; exact ha) (kk ls hl ho (okt hst))
theorem aw_dup2 {d : Nat} {M : MD} {pc pc' : Nat} {lv : LV} {st : List AV} {A : AHp} {Q : Option AV → AHp → Prop} {a b : AV} (ha : acat a = 1) (hb : acat b = 1) (hd : decode M.2.1 pc = .ok (.dup2, 1)) (hp : pc + 1 = pc') (k : AW d M pc' lv (a :: b :: a :: b :: st) A Q) : AW d M pc lv (a :: b :: st) A Q := by
  subst hp
  refine AW.pure (fun l G p e R s m args below meth c H locs ls C S Qr hC hS hl ho hst hva kk => ?_) k
  exact lv_dup2_11 hC.1 hC.2.1 hd (by rw [rV_cat]; exact ha) (by rw [rV_cat]; exact hb) (kk ls hl ho (okc (okh hst) (okc (okh (okt hst)) hst)))
theorem aw_goto {d : Nat} {M : MD} {pc pc' : Nat} {lv : LV} {st : List AV} {A : AHp} {Q : Option AV → AHp → Prop} {off : Int} (hd : decode M.2.1 pc = .ok (.goto off, 3)) (hp : (pc : Int) + off = (pc' : Int)) (k : AW d M pc' lv st A Q) : AW d M pc lv st A Q := by
  refine AW.pure (fun l G p e R s m args below meth c H locs ls C S Qr hC hS hl ho hst hva kk => ?_) k
  exact lv_goto hC.1 hC.2.1 hd hp (kk ls hl ho hst)
theorem aw_if_eq {d : Nat} {M : MD} {pc pt pf : Nat} {lv : LV} {st : List AV} {A : AHp} {Q : Option AV → AHp → Prop} {x : Int} {off : Int} (hd : decode M.2.1 pc = .ok (.ifCond .eq off, 3)) (ht : (pc : Int) + off = (pt : Int)) (hf : pc + 3 = pf) (kt : (x = 0) → AW d M pt lv st A Q) (kf : ¬ (x = 0) → AW d M pf lv st A Q) : AW d M pc lv (vi x :: st) A Q := by
  subst hf
  by_cases hc : (x = 0)
  · refine AW.pure (fun l G p e R s m args below meth c H locs ls C S Qr hC hS hl ho hst hva kk => ?_) (kt hc)
    have hx : in32 x := okh hst
    have z0 : in32 (0 : Int) := by decide
    exact lv_if_eq hC.1 hC.2.1 hd ht (fun _ => kk ls hl ho (okt hst)) (fun q => absurd (i32_0 ▸ (i32_eq hx z0).mpr hc) q)
  · refine AW.pure (fun l G p e R s m args below meth c H locs ls C S Qr hC hS hl ho hst hva kk => ?_) (kf hc)
    have hx : in32 x := okh hst
    have z0 : in32 (0 : Int) := by decide
    exact lv_if_eq hC.1 hC.2.1 hd ht (fun q => absurd ((i32_eq hx z0).mp (i32_0 ▸ q)) hc) (fun _ => kk ls hl ho (okt hst))
theorem aw_if_ne {d : Nat} {M : MD} {pc pt pf : Nat} {lv : LV} {st : List AV} {A : AHp} {Q : Option AV → AHp → Prop} {x : Int} {off : Int} (hd : decode M.2.1 pc = .ok (.ifCond .ne off, 3)) (ht : (pc : Int) + off = (pt : Int)) (hf : pc + 3 = pf) (kt : (¬ x = 0) → AW d M pt lv st A Q) (kf : ¬ (¬ x = 0) → AW d M pf lv st A Q) : AW d M pc lv (vi x :: st) A Q := by
  subst hf
  by_cases hc : (¬ x = 0)
  · refine AW.pure (fun l G p e R s m args below meth c H locs ls C S Qr hC hS hl ho hst hva kk => ?_) (kt hc)
    have hx : in32 x := okh hst
    have z0 : in32 (0 : Int) := by decide
    exact lv_if_ne hC.1 hC.2.1 hd ht (fun _ => kk ls hl ho (okt hst)) (fun q => absurd ((i32_eq hx z0).mp (i32_0 ▸ q)) hc)
  · refine AW.pure (fun l G p e R s m args below meth c H locs ls C S Qr hC hS hl ho hst hva kk => ?_) (kf hc)
    have hx : in32 x := okh hst
    have z0 : in32 (0 : Int) := by decide
    exact lv_if_ne hC.1 hC.2.1 hd ht (fun q => absurd (i32_0 ▸ (i32_eq hx z0).mpr (Classical.not_not.mp hc)) q) (fun _ => kk ls hl ho (okt hst))
theorem aw_if_lt {d : Nat} {M : MD} {pc pt pf : Nat} {lv : LV} {st : List AV} {A : AHp} {Q : Option AV → AHp → Prop} {x : Int} {off : Int} (hd : decode M.2.1 pc = .ok (.ifCond .lt off, 3)) (ht : (pc : Int) + off = (pt : Int)) (hf : pc + 3 = pf) (kt : (x < 0) → AW d M pt lv st A Q) (kf : ¬ (x < 0) → AW d M pf lv st A Q) : AW d M pc lv (vi x :: st) A Q := by
  subst hf
  by_cases hc : (x < 0)
  · refine AW.pure (fun l G p e R s m args below meth c H locs ls C S Qr hC hS hl ho hst hva kk => ?_) (kt hc)
    have hx : in32 x := okh hst
    have z0 : in32 (0 : Int) := by decide
    exact lv_if_lt hC.1 hC.2.1 hd ht (fun _ => kk ls hl ho (okt hst)) (fun q => absurd (i32_0 ▸ (i32_lt hx z0).mpr hc) q)
  · refine AW.pure (fun l G p e R s m args below meth c H locs ls C S Qr hC hS hl ho hst hva kk => ?_) (kf hc)
    have hx : in32 x := okh hst
    have z0 : in32 (0 : Int) := by decide
    exact lv_if_lt hC.1 hC.2.1 hd ht (fun q => absurd ((i32_lt hx z0).mp (i32_0 ▸ q)) hc) (fun _ => kk ls hl ho (okt hst))
theorem aw_if_ge {d : Nat} {M : MD} {pc pt pf : Nat} {lv : LV} {st : List AV} {A : AHp} {Q : Option AV → AHp → Prop} {x : Int} {off : Int} (hd : decode M.2.1 pc = .ok (.ifCond .ge off, 3)) (ht : (pc : Int) + off = (pt : Int)) (hf : pc + 3 = pf) (kt : (0 ≤ x) → AW d M pt lv st A Q) (kf : ¬ (0 ≤ x) → AW d M pf lv st A Q) : AW d M pc lv (vi x :: st) A Q := by
  subst hf
  by_cases hc : (0 ≤ x)
  · refine AW.pure (fun l G p e R s m args below meth c H locs ls C S Qr hC hS hl ho hst hva kk => ?_) (kt hc)
    have hx : in32 x := okh hst
    have z0 : in32 (0 : Int) := by decide
    exact lv_if_ge hC.1 hC.2.1 hd ht (fun _ => kk ls hl ho (okt hst)) (fun q => absurd (i32_0 ▸ (i32_le z0 hx).mpr hc) q)
  · refine AW.pure (fun l G p e R s m args below meth c H locs ls C S Qr hC hS hl ho hst hva kk => ?_) (kf hc)
    have hx : in32 x := okh hst
    have z0 : in32 (0 : Int) := by decide
    exact lv_if_ge hC.1 hC.2.1 hd ht (fun q => absurd ((i32_le z0 hx).mp (i32_0 ▸ q)) hc) (fun _ => kk ls hl ho (okt hst))
theorem aw_if_gt {d : Nat} {M : MD} {pc pt pf : Nat} {lv : LV} {st : List AV} {A : AHp} {Q : Option AV → AHp → Prop} {x : Int} {off : Int} (hd : decode M.2.1 pc = .ok (.ifCond .gt off, 3)) (ht : (pc : Int) + off = (pt : Int)) (hf : pc + 3 = pf) (kt : (0 < x) → AW d M pt lv st A Q) (kf : ¬ (0 < x) → AW d M pf lv st A Q) : AW d M pc lv (vi x :: st) A Q := by
  subst hf
  by_cases hc : (0 < x)
  · refine AW.pure (fun l G p e R s m args below meth c H locs ls C S Qr hC hS hl ho hst hva kk => ?_) (kt hc)
    have hx : in32 x := okh hst
    have z0 : in32 (0 : Int) := by decide
    exact lv_if_gt hC.1 hC.2.1 hd ht (fun _ => kk ls hl ho (okt hst)) (fun q => absurd (i32_0 ▸ (i32_lt z0 hx).mpr hc) q)
  · refine AW.pure (fun l G p e R s m args below meth c H locs ls C S Qr hC hS hl ho hst hva kk => ?_) (kf hc)
    have hx : in32 x := okh hst
    have z0 : in32 (0 : Int) := by decide
    exact lv_if_gt hC.1 hC.2.1 hd ht (fun q => absurd ((i32_lt z0 hx).mp (i32_0 ▸ q)) hc) (fun _ => kk ls hl ho (okt hst))
theorem aw_if_le {d : Nat} {M : MD} {pc pt pf : Nat} {lv : LV} {st : List AV} {A : AHp} {Q : Option AV → AHp → Prop} {x : Int} {off : Int} (hd : decode M.2.1 pc = .ok (.ifCond .le off, 3)) (ht : (pc : Int) + off = (pt : Int)) (hf : pc + 3 = pf) (kt : (x ≤ 0) → AW d M pt lv st A Q) (kf : ¬ (x ≤ 0) → AW d M pf lv st A Q) : AW d M pc lv (vi x :: st) A Q := by
  subst hf
  by_cases hc : (x ≤ 0)
  · refine AW.pure (fun l G p e R s m args below meth c H locs ls C S Qr hC hS hl ho hst hva kk => ?_) (kt hc)
    have hx : in32 x := okh hst
    have z0 : in32 (0 : Int) := by decide
    exact lv_if_le hC.1 hC.2.1 hd ht (fun _ => kk ls hl ho (okt hst)) (fun q => absurd (i32_0 ▸ (i32_le hx z0).mpr hc) q)
  · refine AW.pure (fun l G p e R s m args below meth c H locs ls C S Qr hC hS hl ho hst hva kk => ?_) (kf hc)
    have hx : in32 x := okh hst
    have z0 : in32 (0 : Int) := by decide
    exact lv_if_le hC.1 hC.2.1 hd ht (fun q => absurd ((i32_le hx z0).mp (i32_0 ▸ q)) hc) (fun _ => kk ls hl ho (okt hst))
theorem aw_icmp_eq {d : Nat} {M : MD} {pc pt pf : Nat} {lv : LV} {st : List AV} {A : AHp} {Q : Option AV → AHp → Prop} {x y : Int} {off : Int} (hd : decode M.2.1 pc = .ok (.if_icmp .eq off, 3)) (ht : (pc : Int) + off = (pt : Int)) (hf : pc + 3 = pf) (kt : (x = y) → AW d M pt lv st A Q) (kf : ¬ (x = y) → AW d M pf lv st A Q) : AW d M pc lv (vi y :: vi x :: st) A Q := by
  subst hf
  by_cases hc : (x = y)
  · refine AW.pure (fun l G p e R s m args below meth c H locs ls C S Qr hC hS hl ho hst hva kk => ?_) (kt hc)
    have hy : in32 y := okh hst
    have hx : in32 x := okh (okt hst)
    exact lv_icmp_eq hC.1 hC.2.1 hd ht (fun _ => kk ls hl ho (okt (okt hst))) (fun q => absurd ((i32_eq hx hy).mpr hc) q)
  · refine AW.pure (fun l G p e R s m args below meth c H locs ls C S Qr hC hS hl ho hst hva kk => ?_) (kf hc)
    have hy : in32 y := okh hst
    have hx : in32 x := okh (okt hst)
    exact lv_icmp_eq hC.1 hC.2.1 hd ht (fun q => absurd ((i32_eq hx hy).mp q) hc) (fun _ => kk ls hl ho (okt (okt hst)))
theorem aw_icmp_ne {d : Nat} {M : MD} {pc pt pf : Nat} {lv : LV} {st : List AV} {A : AHp} {Q : Option AV → AHp → Prop} {x y : Int} {off : Int} (hd : decode M.2.1 pc = .ok (.if_icmp .ne off, 3)) (ht : (pc : Int) + off = (pt : Int)) (hf : pc + 3 = pf) (kt : (¬ x = y) → AW d M pt lv st A Q) (kf : ¬ (¬ x = y) → AW d M pf lv st A Q) : AW d M pc lv (vi y :: vi x :: st) A Q := by
  subst hf
  by_cases hc : (¬ x = y)
  · refine AW.pure (fun l G p e R s m args below meth c H locs ls C S Qr hC hS hl ho hst hva kk => ?_) (kt hc)
    have hy : in32 y := okh hst
    have hx : in32 x := okh (okt hst)
    exact lv_icmp_ne hC.1 hC.2.1 hd ht (fun _ => kk ls hl ho (okt (okt hst))) (fun q => absurd ((i32_eq hx hy).mp q) hc)
  · refine AW.pure (fun l G p e R s m args below meth c H locs ls C S Qr hC hS hl ho hst hva kk => ?_) (kf hc)
    have hy : in32 y := okh hst
    have hx : in32 x := okh (okt hst)
    exact lv_icmp_ne hC.1 hC.2.1 hd ht (fun q => absurd ((i32_eq hx hy).mpr (Classical.not_not.mp hc)) q) (fun _ => kk ls hl ho (okt (okt hst)))
theorem aw_icmp_lt {d : Nat} {M : MD} {pc pt pf : Nat} {lv : LV} {st : List AV} {A : AHp} {Q : Option AV → AHp → Prop} {x y : Int} {off : Int} (hd : decode M.2.1 pc = .ok (.if_icmp .lt off, 3)) (ht : (pc : Int) + off = (pt : Int)) (hf : pc + 3 = pf) (kt : (x < y) → AW d M pt lv st A Q) (kf : ¬ (x < y) → AW d M pf lv st A Q) : AW d M pc lv (vi y :: vi x :: st) A Q := by
  subst hf
  by_cases hc : (x < y)
  · refine AW.pure (fun l G p e R s m args below meth c H locs ls C S Qr hC hS hl ho hst hva kk => ?_) (kt hc)
    have hy : in32 y := okh hst
    have hx : in32 x := okh (okt hst)
    exact lv_icmp_lt hC.1 hC.2.1 hd ht (fun _ => kk ls hl ho (okt (okt hst))) (fun q => absurd ((i32_lt hx hy).mpr hc) q)
  · refine AW.pure (fun l G p e R s m args below meth c H locs ls C S Qr hC hS hl ho hst hva kk => ?_) (kf hc)
    have hy : in32 y := okh hst
    have hx : in32 x := okh (okt hst)
    exact lv_icmp_lt hC.1 hC.2.1 hd ht (fun q => absurd ((i32_lt hx hy).mp q) hc) (fun _ => kk ls hl ho (okt (okt hst)))
theorem aw_icmp_ge {d : Nat} {M : MD} {pc pt pf : Nat} {lv : LV} {st : List AV} {A : AHp} {Q : Option AV → AHp → Prop} {x y : Int} {off : Int} (hd : decode M.2.1 pc = .ok (.if_icmp .ge off, 3)) (ht : (pc : Int) + off = (pt : Int)) (hf : pc + 3 = pf) (kt : (y ≤ x) → AW d M pt lv st A Q) (kf : ¬ (y ≤ x) → AW d M pf lv st A Q) : AW d M pc lv (vi y :: vi x :: st) A Q := by
  subst hf
  by_cases hc : (y ≤ x)
  · refine AW.pure (fun l G p e R s m args below meth c H locs ls C S Qr hC hS hl ho hst hva kk => ?_) (kt hc)
    have hy : in32 y := okh hst
    have hx : in32 x := okh (okt hst)
    exact lv_icmp_ge hC.1 hC.2.1 hd ht (fun _ => kk ls hl ho (okt (okt hst))) (fun q => absurd ((i32_le hy hx).mpr hc) q)
  · refine AW.pure (fun l G p e R s m args below meth c H locs ls C S Qr hC hS hl ho hst hva kk => ?_) (kf hc)
    have hy : in32 y := okh hst
    have hx : in32 x := okh (okt hst)
    exact lv_icmp_ge hC.1 hC.2.1 hd ht (fun q => absurd ((i32_le hy hx).mp q) hc) (fun _ => kk ls hl ho (okt (okt hst)))
theorem aw_icmp_gt {d : Nat} {M : MD} {pc pt pf : Nat} {lv : LV} {st : List AV} {A : AHp} {Q : Option AV → AHp → Prop} {x y : Int} {off : Int} (hd : decode M.2.1 pc = .ok (.if_icmp .gt off, 3)) (ht : (pc : Int) + off = (pt : Int)) (hf : pc + 3 = pf) (kt : (y < x) → AW d M pt lv st A Q) (kf : ¬ (y < x) → AW d M pf lv st A Q) : AW d M pc lv (vi y :: vi x :: st) A Q := by
  subst hf
  by_cases hc : (y < x)
  · refine AW.pure (fun l G p e R s m args below meth c H locs ls C S Qr hC hS hl ho hst hva kk => ?_) (kt hc)
    have hy : in32 y := okh hst
    have hx : in32 x := okh (okt hst)
    exact lv_icmp_gt hC.1 hC.2.1 hd ht (fun _ => kk ls hl ho (okt (okt hst))) (fun q => absurd ((i32_lt hy hx).mpr hc) q)
  · refine AW.pure (fun l G p e R s m args below meth c H locs ls C S Qr hC hS hl ho hst hva kk => ?_) (kf hc)
    have hy : in32 y := okh hst
    have hx : in32 x := okh (okt hst)
    exact lv_icmp_gt hC.1 hC.2.1 hd ht (fun q => absurd ((i32_lt hy hx).mp q) hc) (fun _ => kk ls hl ho (okt (okt hst)))
theorem aw_icmp_le {d : Nat} {M : MD} {pc pt pf : Nat} {lv : LV} {st : List AV} {A : AHp} {Q : Option AV → AHp → Prop} {x y : Int} {off : Int} (hd : decode M.2.1 pc = .ok (.if_icmp .le off, 3)) (ht : (pc : Int) + off = (pt : Int)) (hf : pc + 3 = pf) (kt : (x ≤ y) → AW d M pt lv st A Q) (kf : ¬ (x ≤ y) → AW d M pf lv st A Q) : AW d M pc lv (vi y :: vi x :: st) A Q := by
  subst hf
  by_cases hc : (x ≤ y)
  · refine AW.pure (fun l G p e R s m args below meth c H locs ls C S Qr hC hS hl ho hst hva kk => ?_) (kt hc)
    have hy : in32 y := okh hst
    have hx : in32 x := okh (okt hst)
    exact lv_icmp_le hC.1 hC.2.1 hd ht (fun _ => kk ls hl ho (okt (okt hst))) (fun q => absurd ((i32_le hx hy).mpr hc) q)
  · refine AW.pure (fun l G p e R s m args below meth c H locs ls C S Qr hC hS hl ho hst hva kk => ?_) (kf hc)
    have hy : in32 y := okh hst
    have hx : in32 x := okh (okt hst)
    exact lv_icmp_le hC.1 hC.2.1 hd ht (fun q => absurd ((i32_le hx hy).mp q) hc) (fun _ => kk ls hl ho (okt (okt hst)))
theorem aw_ifnull {d : Nat} {M : MD} {pc pt pf : Nat} {lv : LV} {st : List AV} {A : AHp} {Q : Option AV → AHp → Prop} {x : Int} (hx34 : ¬ x = 34) {off : Int} (hd : decode M.2.1 pc = .ok (.ifnull off, 3)) (ht : (pc : Int) + off = (pt : Int)) (hf : pc + 3 = pf) (kt : (x = 0) → AW d M pt lv st A Q) (kf : ¬ (x = 0) → AW d M pf lv st A Q) : AW d M pc lv (vr x :: st) A Q := by
  subst hf
  by_cases hc : (x = 0)
  · refine AW.pure (fun l G p e R s m args below meth c H locs ls C S Qr hC hS hl ho hst hva kk => ?_) (kt hc)
    change W p l e R s m args below meth c H locs C S Qr (F0 m pc ls (rR G x :: st.map (rV G)))
    rw [show rR G x = .null by unfold rR; rw [if_pos (by omega)]]
    exact lv_ifnullN hC.1 hC.2.1 hd ht (kk ls hl ho (okt hst))
  · refine AW.pure (fun l G p e R s m args below meth c H locs ls C S Qr hC hS hl ho hst hva kk => ?_) (kf hc)
    change W p l e R s m args below meth c H locs C S Qr (F0 m pc ls (rR G x :: st.map (rV G)))
    rw [show rR G x = .ref (rA G x) by unfold rR; rw [if_neg (by omega)]]
    exact lv_ifnull hC.1 hC.2.1 hd (kk ls hl ho (okt hst))
theorem aw_ifnonnull {d : Nat} {M : MD} {pc pt pf : Nat} {lv : LV} {st : List AV} {A : AHp} {Q : Option AV → AHp → Prop} {x : Int} (hx34 : ¬ x = 34) {off : Int} (hd : decode M.2.1 pc = .ok (.ifnonnull off, 3)) (ht : (pc : Int) + off = (pt : Int)) (hf : pc + 3 = pf) (kt : (¬ x = 0) → AW d M pt lv st A Q) (kf : ¬ (¬ x = 0) → AW d M pf lv st A Q) : AW d M pc lv (vr x :: st) A Q := by
  subst hf
  by_cases hc : (¬ x = 0)
  · refine AW.pure (fun l G p e R s m args below meth c H locs ls C S Qr hC hS hl ho hst hva kk => ?_) (kt hc)
    change W p l e R s m args below meth c H locs C S Qr (F0 m pc ls (rR G x :: st.map (rV G)))
    rw [show rR G x = .ref (rA G x) by unfold rR; rw [if_neg (by omega)]]
    exact lv_ifnonnull hC.1 hC.2.1 hd ht (kk ls hl ho (okt hst))
  · refine AW.pure (fun l G p e R s m args below meth c H locs ls C S Qr hC hS hl ho hst hva kk => ?_) (kf hc)
    change W p l e R s m args below meth c H locs C S Qr (F0 m pc ls (rR G x :: st.map (rV G)))
    rw [show rR G x = .null by unfold rR; rw [if_pos (by omega)]]
    exact lv_ifnonnullN hC.1 hC.2.1 hd (kk ls hl ho (okt hst))
theorem aw_tabIn {d : Nat} {M : MD} {pc pc' : Nat} {lv : LV} {st : List AV} {A : AHp} {Q : Option AV → AHp → Prop} {dflt lo hi : Int} {offs : Array Int} {len : Nat} {x off : Int} (hd : decode M.2.1 pc = .ok (.tableswitch dflt lo hi offs, len)) (h1 : lo ≤ x) (h2 : x ≤ hi) (ho : offs[(x - lo).toNat]? = some off) (ht : (pc : Int) + off = (pc' : Int)) (k : AW d M pc' lv st A Q) : AW d M pc lv (vi x :: st) A Q := by
  refine AW.pure (fun l G p e R s m args below meth c H locs ls C S Qr hC hS hl ho' hst hva kk => ?_) k
  have hx : in32 x := okh hst
  have e := i32_t hx
  exact lv_tableIn hC.1 hC.2.1 hd (by rw [e]; omega) (by rw [e]; omega) (by rw [e]; exact ho) ht (kk ls hl ho' (okt hst))
theorem aw_tabOut {d : Nat} {M : MD} {pc pc' : Nat} {lv : LV} {st : List AV} {A : AHp} {Q : Option AV → AHp → Prop} {dflt lo hi : Int} {offs : Array Int} {len : Nat} {x : Int} (hd : decode M.2.1 pc = .ok (.tableswitch dflt lo hi offs, len)) (h1 : x < lo ∨ hi < x) (ht : (pc : Int) + dflt = (pc' : Int)) (k : AW d M pc' lv st A Q) : AW d M pc lv (vi x :: st) A Q := by
  refine AW.pure (fun l G p e R s m args below meth c H locs ls C S Qr hC hS hl ho' hst hva kk => ?_) k
  have hx : in32 x := okh hst
  have e := i32_t hx
  exact lv_tableOut hC.1 hC.2.1 hd (by rw [e]; exact h1) ht (kk ls hl ho' (okt hst))
end
section
/-! ===== rows that read and write the heap ===== -/
theorem cl_at {ci : Nat} (h : ci < 12) : vwCl[ci]? = some (clC ci, clT ci, clN ci) := by
  match ci, h with
  | 0, _ | 1, _ | 2, _ | 3, _ | 4, _ | 5, _ | 6, _ | 7, _ | 8, _ | 9, _ | 10, _ | 11, _ => rfl
theorem cl_nm : ∀ ci, ci < 12 → ∀ a, a < clN ci → ∀ b, b < clN ci → a ≠ b → (clT ci a).2.1 ≠ (clT ci b).2.1 := by decide +kernel
theorem cl_ty : ∀ ci, ci < 12 → ∀ k, k < clN ci → parseFieldDescriptor (clT ci k).2.2.1 = some (tyC ci k) := by decide +kernel
theorem cl_ws : ∀ ci, ci < 12 → ∀ w ∈ u_ws (clC ci) (clT ci) (clN ci), w ∈ lw_tbl ∧ goodWord w = true := by decide +kernel
theorem cl_tb {ci : Nat} (h : ci < 12) : ∀ w ∈ u_ws (clC ci) (clT ci) (clN ci), w ∈ TB := fun w hw => TB_of (cl_ws ci h w hw).1 (cl_ws ci h w hw).2
end
section
def isO (A : AHp) (o : Int) (kd : Nat) : Prop := 60 ≤ o ∧ o < hn A ∧ hk A o = kd
def isA (A : AHp) (o : Int) (kd : Nat) (n : Int) : Prop := 60 ≤ o ∧ o < hn A ∧ hk A o = kd ∧ hl A o = n
/-- the field that an instruction of a class names: its class, its place -/
def FL (own : String) (idx ci k : Nat) : Prop := ci < 12 ∧ k < clN ci ∧ Cond.fieldLink own idx (clT ci k).1 (clT ci k).2.1 (clT ci k).2.2.1 ∈ TB
theorem ent_obj {G : Gp} {A : AHp} {o : Int} {ci : Nat} (h : hk A o = ci + 1) (hc : ci < 12) : entE G A o = .inr (ci, fsE G A ci o) := by
  unfold entE
  rw [if_pos (by omega), h]
  rfl
theorem ent_long {G : Gp} {A : AHp} {o : Int} (h : hk A o = 21) : entE G A o = .inl (gC G 21, (hl A o).toNat, .inr (.inl fun j => Int64.ofInt (hv A o j))) := by
  unfold entE
  rw [if_neg (by omega), if_pos h]
theorem ent_int {G : Gp} {A : AHp} {o : Int} {kd : Nat} (h : hk A o = kd) (h1 : kd = 20 ∨ kd = 22 ∨ kd = 23) : entE G A o = .inl (gC G kd, (hl A o).toNat, .inl fun j => Int32.ofInt (hv A o j)) := by
  unfold entE
  rw [if_neg (by omega), if_neg (by omega), if_pos (by omega), h]
theorem ent_ref {G : Gp} {A : AHp} {o : Int} {kd : Nat} (h : hk A o = kd) (h1 : 30 ≤ kd) : entE G A o = .inl (gC G kd, (hl A o).toNat, .inr (.inr (.inr (.inr fun j => rO G (hv A o j))))) := by
  unfold entE
  rw [if_neg (by omega), if_neg (by omega), if_neg (by omega), h]
theorem fs_at {G : Gp} {A : AHp} {o : Int} {ci k : Nat} (hk : k < clN ci) : (fsE G A ci o)[k]? = some (fvl G (tyC ci k) (hx A ci o k)) := by
  unfold fsE
  rw [List.getElem?_map, List.getElem?_range hk]
  rfl
theorem fs_len {G : Gp} {A : AHp} {o : Int} {ci : Nat} : (fsE G A ci o).length = clN ci := by
  unfold fsE
  rw [List.length_map, List.length_range]
/-- a type's values: ints 0, references 1, booleans 2 -/
def tk (ty : FieldType) : Nat := match ty with
  | .int => 0 | .object _ => 1 | .array _ => 1 | .boolean => 2 | _ => 9
theorem fvl_i {G : Gp} {ty : FieldType} {x : Int} (h : tk ty = 0 ∨ tk ty = 2) : fvl G ty x = .int (Int32.ofInt x) := by
  cases ty <;> first | rfl | (simp [tk] at h)
theorem fvl_r {G : Gp} {ty : FieldType} {x : Int} (h : tk ty = 1) : fvl G ty x = rR G x := by
  cases ty <;> first | rfl | (simp [tk] at h)
theorem okS_i {ci k : Nat} {x : Int} (hc : ci < 12) (h : tk (tyC ci k) = 0 ∨ tk (tyC ci k) = 2) (ho : okS (ci + 1) k x) : in32 x := by
  unfold okS at ho
  rw [if_neg (by omega), if_neg (by omega), if_neg (by omega), if_neg (by omega), if_pos (by omega)] at ho
  rw [show ci + 1 - 1 = ci by omega, show ((k : Int)).toNat = k by omega] at ho
  generalize tyC ci k = ty at h ho
  cases ty <;> first | exact ho | (simp [tk] at h; done) | (rcases ho with rfl | rfl <;> decide)
theorem okS_mk {ci k : Nat} {x : Int} (hc : ci < 12) (h : (tk (tyC ci k) = 0 ∧ in32 x) ∨ tk (tyC ci k) = 1 ∨ (tk (tyC ci k) = 2 ∧ (x = 0 ∨ x = 1))) : okS (ci + 1) k x := by
  unfold okS
  rw [if_neg (by omega), if_neg (by omega), if_neg (by omega), if_neg (by omega), if_pos (by omega)]
  rw [show ci + 1 - 1 = ci by omega, show ((k : Int)).toNat = k by omega]
  generalize tyC ci k = ty at h ⊢
  cases ty <;> simp [tk] at h <;> first | exact h | trivial
theorem ot_get {d : Nat} {M : MD} {pc pc' : Nat} {lv : LV} {st : List AV} {A : AHp} {Q : Option AV → AHp → Prop} {o : Int} {v : AV} {idx ci k : Nat} (hd : decode M.2.1 pc = .ok (.getfield idx, 3)) (hp : pc + 3 = pc') (hf : FL M.1.cls idx ci k) (hO : isO A o (ci + 1))
    (hv1 : ∀ G, fvl G (tyC ci k) (hx A ci o k) = rV G v) (hok : okS (ci + 1) k (hx A ci o k) → okV v) (kk : AW d M pc' lv (v :: st) A Q) : AW d M pc lv (vr o :: st) A Q := by
  subst hp
  refine AW.pure (fun l G p e R s m args below meth c H locs ls C S Qr hC hS hl ho hst hva kk => ?_) kk
  obtain ⟨hc, hk1, hw⟩ := hf
  have hP := hS.at1 hO.1 hO.2.1
  rw [ent_obj hO.2.2 hc] at hP
  change W p l e R s m args below meth c H locs C S Qr (F0 m pc ls (rR G o :: st.map (rV G)))
  rw [rR_dyn hO.1]
  refine va_get (T := clT ci) (N := clN ci) (C := clC ci) (ci := ci) hC.1 hC.2.1 hC.2.2.2.2.2.1 (cl_tb hc) hC.2.2.2.2.1 hC.2.2.2.2.2.2.1.1.1 hP 0 rfl (cl_at hc) k hk1 (hC.2.2.2.2.2.1 _ hw) (fun _ h9 => h9) (fs_at hk1) hd ?_
  rw [hv1 G]
  exact kk ls hl ho (okc (hok (by have h1 := hS.2.2.2.1 o hO.1 hO.2.1 k (by omega); rw [hO.2.2] at h1; unfold hx; split; exact h1.2 (by omega); exact h1.1)) (okt hst))
theorem aw_geti {d : Nat} {M : MD} {pc pc' : Nat} {lv : LV} {st : List AV} {A : AHp} {Q : Option AV → AHp → Prop} {o : Int} {idx ci k : Nat} (hd : decode M.2.1 pc = .ok (.getfield idx, 3)) (hp9 : pc + 3 = pc') (hf : FL M.1.cls idx ci k) (ht : tk (tyC ci k) = 0 ∨ tk (tyC ci k) = 2) (hfin : (clT ci k).2.2.2 = false) (hO : isO A o (ci + 1))
    (kk : AW d M pc' lv (vi (hv A o k) :: st) A Q) : AW d M pc lv (vr o :: st) A Q := by
  have e : hx A ci o k = hv A o k := if_neg (by rw [hfin]; decide)
  rw [← e] at kk
  exact ot_get (v := vi (hx A ci o k)) hd hp9 hf hO (fun G => fvl_i ht) (fun h => okS_i hf.1 ht h) kk
theorem aw_getfi {d : Nat} {M : MD} {pc pc' : Nat} {lv : LV} {st : List AV} {A : AHp} {Q : Option AV → AHp → Prop} {o : Int} {idx ci k : Nat} (hd : decode M.2.1 pc = .ok (.getfield idx, 3)) (hp9 : pc + 3 = pc') (hf : FL M.1.cls idx ci k) (ht : tk (tyC ci k) = 0 ∨ tk (tyC ci k) = 2) (hfin : (clT ci k).2.2.2 = true) (hO : isO A o (ci + 1))
    (kk : AW d M pc' lv (vi (hp A o k) :: st) A Q) : AW d M pc lv (vr o :: st) A Q := by
  have e : hx A ci o k = hp A o k := if_pos hfin
  rw [← e] at kk
  exact ot_get (v := vi (hx A ci o k)) hd hp9 hf hO (fun G => fvl_i ht) (fun h => okS_i hf.1 ht h) kk
theorem aw_getr {d : Nat} {M : MD} {pc pc' : Nat} {lv : LV} {st : List AV} {A : AHp} {Q : Option AV → AHp → Prop} {o : Int} {idx ci k : Nat} (hd : decode M.2.1 pc = .ok (.getfield idx, 3)) (hp9 : pc + 3 = pc') (hf : FL M.1.cls idx ci k) (ht : tk (tyC ci k) = 1) (hfin : (clT ci k).2.2.2 = false) (hO : isO A o (ci + 1))
    (kk : AW d M pc' lv (vr (hv A o k) :: st) A Q) : AW d M pc lv (vr o :: st) A Q := by
  have e : hx A ci o k = hv A o k := if_neg (by rw [hfin]; decide)
  rw [← e] at kk
  exact ot_get (v := vr (hx A ci o k)) hd hp9 hf hO (fun G => fvl_r ht) (fun h => trivial) kk
theorem aw_getfr {d : Nat} {M : MD} {pc pc' : Nat} {lv : LV} {st : List AV} {A : AHp} {Q : Option AV → AHp → Prop} {o : Int} {idx ci k : Nat} (hd : decode M.2.1 pc = .ok (.getfield idx, 3)) (hp9 : pc + 3 = pc') (hf : FL M.1.cls idx ci k) (ht : tk (tyC ci k) = 1) (hfin : (clT ci k).2.2.2 = true) (hO : isO A o (ci + 1))
    (kk : AW d M pc' lv (vr (hp A o k) :: st) A Q) : AW d M pc lv (vr o :: st) A Q := by
  have e : hx A ci o k = hp A o k := if_pos hfin
  rw [← e] at kk
  exact ot_get (v := vr (hx A ci o k)) hd hp9 hf hO (fun G => fvl_r ht) (fun h => trivial) kk
/-- a row that writes one place -/
theorem AW.wr {d : Nat} {M : MD} {pc pc' : Nat} {lv : LV} {st st' : List AV} {A A1 : AHp} {Q : Option AV → AHp → Prop} (e1 : hn A1 = hn A) (e2 : hs A1 = hs A)
    (h : ∀ (l : Launch) (G : Gp) (p : Program) (e : Env) (R : Room) (s : State) (m : MethodId) (args : Array Value) (below : List Frame) (meth : Method) (c : Code) (H : Heap) (locs : List Loc) (ls : Array Slot) (C S : Nat) (Qr : State → Prop),
      CXd d M G p R s m args meth c → SIM G A H → lvOK G ls M.2.2.1 lv → okL lv → (∀ a ∈ st, okV a) → va_S (frA G) s.heap H locs →
      (∀ (H1 : Heap) (locs1 : List Loc), SIM G A1 H1 → va_S (frA G) s.heap H1 locs1 → (∀ a ∈ st', okV a) → W p l e R s m args below meth c H1 locs1 C S Qr (F0 m pc' ls (st'.map (rV G)))) →
      W p l e R s m args below meth c H locs C S Qr (F0 m pc ls (st.map (rV G))))
    (k : AW d M pc' lv st' A1 Q) : AW d M pc lv st A Q := by
  obtain ⟨r, A', h1, h2, h3, hW⟩ := k
  rw [e1] at h2
  rw [e2] at h3
  refine ⟨r, A', h1, h2, h3, fun l G p e R s m args below meth c H locs ls C S Qr hC hS hl ho hst hva hrm hret => ?_⟩
  rw [e1, e2] at hW
  exact h l G p e R s m args below meth c H locs ls C S Qr hC hS hl ho hst hva (fun H1 locs1 hS1 hva1 hst1 => hW l G p e R s m args below meth c H1 locs1 ls C S Qr hC hS1 hl ho hst1 hva1 hrm hret)
def hput (A : AHp) (ci : Nat) (o : Int) (k : Nat) (x : Int) : AHp := if (clT ci k).2.2.2 = true then hpset A o k x else hset A o k x
theorem hput_k (A : AHp) (ci : Nat) (o : Int) (k : Nat) (x : Int) : hk (hput A ci o k x) = hk A := by unfold hput; split <;> rfl
theorem hput_n (A : AHp) (ci : Nat) (o : Int) (k : Nat) (x : Int) : hn (hput A ci o k x) = hn A := by unfold hput; split <;> rfl
theorem hput_s (A : AHp) (ci : Nat) (o : Int) (k : Nat) (x : Int) : hs (hput A ci o k x) = hs A := by unfold hput; split <;> rfl
theorem hput_x (A : AHp) (ci : Nat) (o : Int) (k : Nat) (x : Int) (j : Nat) : hx (hput A ci o k x) ci o j = if j = k then x else hx A ci o j := by
  unfold hput hx
  by_cases e : j = k
  · subst e
    rw [if_pos rfl]
    by_cases f : (clT ci j).2.2.2 = true
    · rw [if_pos f, if_pos f, hp_pset, if_pos ⟨rfl, rfl⟩]
    · rw [if_neg f, if_neg f, hv_set, if_pos ⟨rfl, rfl⟩]
  · rw [if_neg e]
    have e2 : ¬ (o = o ∧ (j : Int) = (k : Int)) := fun q => e (by omega)
    by_cases f : (clT ci k).2.2.2 = true
    · rw [if_pos f]
      by_cases g : (clT ci j).2.2.2 = true
      · rw [if_pos g, if_pos g, hp_pset, if_neg e2]
      · rw [if_neg g, if_neg g, hv_pset]
    · rw [if_neg f]
      by_cases g : (clT ci j).2.2.2 = true
      · rw [if_pos g, if_pos g, hp_set]
      · rw [if_neg g, if_neg g, hv_set, if_neg e2]
theorem put_at {G : Gp} {A : AHp} {o x : Int} {ci k : Nat} {D9 : va_G} {H1 : Heap} {cell : Cell} (hc : ci < 12) (hk1 : k < clN ci) (hO : hk A o = ci + 1) (q2 : cell.cls = (gD G).1 ci) (q3 : cell.vm = .none)
    (q4 : ∀ j, j < clN ci → cell.slots[(gD G).2 ci j]? = some (vp_V (fsE G A ci o) j)) (hap : ∀ a b, a < clN ci → b < clN ci → a ≠ b → (gD G).2 ci a ≠ (gD G).2 ci b)
    (e1 : H1[rA G o]? = some (cell.setSlot ((gD G).2 ci k) (fvl G (tyC ci k) x))) : va_at (gD G) vwCl (rA G o, entE G (hput A ci o k x) o) H1 := by
  rw [ent_obj (A := hput A ci o k x) (by rw [hput_k]; exact hO) hc]
  refine ⟨_, cl_at hc, t_OB.to (V := updV (vp_V (fsE G A ci o)) k (fvl G (tyC ci k) x)) ⟨_, e1, q2, q3, t_set q4 hap hk1 _⟩ (fun j hj => ?_)⟩
  have g1 : vp_V (fsE G (hput A ci o k x) ci o) j = fvl G (tyC ci j) (hx (hput A ci o k x) ci o j) := by
    unfold vp_V
    rw [List.getD_eq_getElem?_getD, fs_at hj]
    rfl
  have g2 : vp_V (fsE G A ci o) j = fvl G (tyC ci j) (hx A ci o j) := by
    unfold vp_V
    rw [List.getD_eq_getElem?_getD, fs_at hj]
    rfl
  rw [g1]
  unfold updV
  by_cases e : j = k
  · subst e
    rw [if_pos rfl, hput_x, if_pos rfl]
  · rw [if_neg e, g2, hput_x, if_neg e]
theorem put_sim {G : Gp} {A : AHp} {H H1 : Heap} (h : SIM G A H) {o v : Int} {ci k : Nat} (h1 : 60 ≤ o) (h2 : o < hn A) (he : va_at (gD G) vwCl (rA G o, entE G (hput A ci o k v) o) H1) (z : H1.size = H.size)
    (oq : ∀ q : Nat, q ≠ rA G o → H1[q]? = H[q]?) (hok : okS (hk A o) k v) : SIM G (hput A ci o k v) H1 := by
  unfold hput at he ⊢
  by_cases f : (clT ci k).2.2.2 = true
  · rw [if_pos f] at he ⊢
    exact h.putF h1 h2 he z oq hok
  · rw [if_neg f] at he ⊢
    exact h.put h1 h2 he z oq hok
theorem ot_put {d : Nat} {M : MD} {pc pc' : Nat} {lv : LV} {st : List AV} {A : AHp} {Q : Option AV → AHp → Prop} {o x : Int} {v : AV} {idx ci k : Nat} (hd : decode M.2.1 pc = .ok (.putfield idx, 3)) (hp : pc + 3 = pc') (hf : FL M.1.cls idx ci k)
    (hfin : (clT ci k).2.2.2 = false ∨ ((clT ci k).2.2.2 = true ∧ M.1.name = "<init>" ∧ (clT ci k).1 = M.1.cls)) (hO : isO A o (ci + 1))
    (hv : ∀ G, fvl G (tyC ci k) x = rV G v) (hn : okV v → ∀ G, narrow (tyC ci k) (rV G v) = rV G v ∧ fits (tyC ci k) (rV G v) = true) (hok : okV v → okS (ci + 1) k x) (kk : AW d M pc' lv st (hput A ci o k x) Q) : AW d M pc lv (v :: vr o :: st) A Q := by
  subst hp
  refine AW.wr (A1 := hput A ci o k x) (hput_n _ _ _ _ _) (hput_s _ _ _ _ _) (fun l G p e R s m args below meth c H locs ls C S Qr hC hS hl ho hst hva kk => ?_) kk
  obtain ⟨hc, hk1, hw⟩ := hf
  have hV : okV v := okh hst
  have hP := (hS.2.2.1 o hO.1 hO.2.1).2.2.2
  rw [ent_obj hO.2.2 hc] at hP
  obtain ⟨r, h1, cell, q1, q2, q3, q4⟩ := hP
  have hr : r = (clC ci, clT ci, clN ci) := Option.some.inj (h1.symm.trans (cl_at hc))
  subst hr
  have hK := hC.2.2.2.2.2.2.1.1.1
  have hts := hC.2.2.2.2.2.1
  have hown := hC.2.2.2.2.1
  obtain ⟨hSl, hfc, kC, hkC, hkind⟩ := hK.1 ci _ (cl_at hc)
  obtain ⟨cf, kf, fi, f, hi, hsl⟩ := hSl k hk1
  have hap := va_apart (own := "") (tys := tysL G) (D := gD G) hts (cl_tb hc) (tyC ci) (cl_ty ci hc) (cl_nm ci hc) hK (cl_at hc)
  have hap' : ∀ a b, a < clN ci → b < clN ci → a ≠ b → (gD G).2 ci a ≠ (gD G).2 ci b := hap
  have hlay := hts _ (cl_tb hc _ (u_in_lay hk1))
  have hst2 := (u_facts hfc hkC (u_lays hts (cl_tb hc) hk1) hi).1
  have hd2 := cl_ty ci hc k hk1
  change W p l e R s m args below meth c H locs C S Qr (F0 m pc ls (rV G v :: rR G o :: st.map (rV G)))
  rw [rR_dyn hO.1]
  have fin : ∀ H' : Heap, H'[rA G o]? = some (cell.setSlot f.slot (rV G v)) → H'.size = H.size → (∀ q, q ≠ rA G o → H'[q]? = H[q]?) → W p l e R s m args below meth c H' (locs ++ [⟨rA G o, f.slot⟩]) C S Qr (F0 m (pc + 3) ls (st.map (rV G))) := by
    intro H' e1 e2 e3
    rw [hsl, ← hv G] at e1
    refine kk H' _ (put_sim hS hO.1 hO.2.1 (put_at (D9 := gD G) hc hk1 hO.2.2 q2 q3 q4 hap' e1) e2 e3 (by rw [hO.2.2]; exact hok hV)) (hva.put e2 e3 (by show gB G ≤ rA G o; rw [rA_dyn hO.1]; omega)) (okt (okt hst))
  rcases hfin with hfin | ⟨hfin, hin2, hdecl⟩
  · unfold u_lay at hlay
    rw [if_neg (by rw [hfin]; decide)] at hlay
    have h6 := u_store hfc hkC hkind hlay hi hd2 (hn hV G).1 (hn hV G).2
    refine W.putK hC.1 hC.2.1 (f := f) ⟨hown, hts _ hw, ⟨_, _, _, hi⟩, hst2⟩ (by rw [q2]; exact h6) q1 q3 (by rw [hsl]; exact k2_hasslot (q4 k hk1)) rfl rfl hd fin
  · unfold u_lay at hlay
    rw [if_pos hfin] at hlay
    have hcf : m.cls = cf := by
      obtain ⟨_, _, c', _, _, _, -, -, hf', -, -, -, hown2, -⟩ := Cond.laysFinal_spec hlay
      have e1 : c' = cf := by have := hi.symm.trans hf'; simp at this; exact this.1.symm
      rw [hdecl] at hown2
      rw [← e1]; exact Option.some.inj (hown.symm.trans hown2)
    have h6 := u_fits hfc hkC hkind (Or.inr hlay) hi hd2 (hn hV G).1 (hn hV G).2
    exact W.putFinK hC.1 hC.2.1 hown (hts _ hw) hi hst2 hcf (hC.2.2.2.2.2.2.2.2.2.2 hin2) (by rw [q2]; exact h6) q1 q3 (by rw [hsl]; exact k2_hasslot (q4 k hk1)) rfl rfl hd fin
theorem fit_i {ty : FieldType} {x : Int} (h : tk ty = 0) : narrow ty (.int (Int32.ofInt x)) = .int (Int32.ofInt x) ∧ fits ty (.int (Int32.ofInt x)) = true := by
  cases ty <;> simp [tk] at h <;> exact ⟨rfl, rfl⟩
theorem fit_z {ty : FieldType} {x : Int} (h : tk ty = 2) (hx : x = 0 ∨ x = 1) : narrow ty (.int (Int32.ofInt x)) = .int (Int32.ofInt x) ∧ fits ty (.int (Int32.ofInt x)) = true := by
  cases ty <;> simp [tk] at h
  rcases hx with rfl | rfl <;> exact ⟨rfl, by decide +kernel⟩
theorem fit_r {G : Gp} {ty : FieldType} {x : Int} (h : tk ty = 1) : narrow ty (rR G x) = rR G x ∧ fits ty (rR G x) = true := by
  rcases rR_ref G x with e | ⟨a, e⟩ <;> rw [e] <;> cases ty <;> simp [tk] at h <;> exact ⟨rfl, rfl⟩
theorem aw_puti {d : Nat} {M : MD} {pc pc' : Nat} {lv : LV} {st : List AV} {A : AHp} {Q : Option AV → AHp → Prop} {o x : Int} {idx ci k : Nat} (hd : decode M.2.1 pc = .ok (.putfield idx, 3)) (hp9 : pc + 3 = pc') (hf : FL M.1.cls idx ci k) (ht : tk (tyC ci k) = 0) (hfin : (clT ci k).2.2.2 = false) (hO : isO A o (ci + 1))
    (kk : AW d M pc' lv st (hset A o k x) Q) : AW d M pc lv (vi x :: vr o :: st) A Q := by
  have e : hput A ci o k x = hset A o k x := if_neg (by rw [hfin]; decide)
  rw [← e] at kk
  exact ot_put (v := vi x) hd hp9 hf (Or.inl hfin) hO (fun G => fvl_i (Or.inl ht)) (fun _ G => fit_i ht) (fun h => okS_mk hf.1 (Or.inl ⟨ht, h⟩)) kk
theorem aw_putr {d : Nat} {M : MD} {pc pc' : Nat} {lv : LV} {st : List AV} {A : AHp} {Q : Option AV → AHp → Prop} {o x : Int} {idx ci k : Nat} (hd : decode M.2.1 pc = .ok (.putfield idx, 3)) (hp9 : pc + 3 = pc') (hf : FL M.1.cls idx ci k) (ht : tk (tyC ci k) = 1) (hfin : (clT ci k).2.2.2 = false) (hO : isO A o (ci + 1))
    (kk : AW d M pc' lv st (hset A o k x) Q) : AW d M pc lv (vr x :: vr o :: st) A Q := by
  have e : hput A ci o k x = hset A o k x := if_neg (by rw [hfin]; decide)
  rw [← e] at kk
  exact ot_put (v := vr x) hd hp9 hf (Or.inl hfin) hO (fun G => fvl_r ht) (fun _ G => fit_r ht) (fun h => okS_mk hf.1 (Or.inr (Or.inl ht))) kk
theorem aw_putz {d : Nat} {M : MD} {pc pc' : Nat} {lv : LV} {st : List AV} {A : AHp} {Q : Option AV → AHp → Prop} {o x : Int} {idx ci k : Nat} (hd : decode M.2.1 pc = .ok (.putfield idx, 3)) (hp9 : pc + 3 = pc') (hf : FL M.1.cls idx ci k) (ht : tk (tyC ci k) = 2) (hfin : (clT ci k).2.2.2 = false) (hO : isO A o (ci + 1)) (hx : x = 0 ∨ x = 1)
    (kk : AW d M pc' lv st (hset A o k x) Q) : AW d M pc lv (vi x :: vr o :: st) A Q := by
  have e : hput A ci o k x = hset A o k x := if_neg (by rw [hfin]; decide)
  rw [← e] at kk
  exact ot_put (v := vi x) hd hp9 hf (Or.inl hfin) hO (fun G => fvl_i (Or.inr ht)) (fun _ G => fit_z ht hx) (fun h => okS_mk hf.1 (Or.inr (Or.inr ⟨ht, hx⟩))) kk
theorem aw_putFi {d : Nat} {M : MD} {pc pc' : Nat} {lv : LV} {st : List AV} {A : AHp} {Q : Option AV → AHp → Prop} {o x : Int} {idx ci k : Nat} (hd : decode M.2.1 pc = .ok (.putfield idx, 3)) (hp9 : pc + 3 = pc') (hf : FL M.1.cls idx ci k) (ht : tk (tyC ci k) = 0) (hfin : (clT ci k).2.2.2 = true) (hin : M.1.name = "<init>") (hdc : (clT ci k).1 = M.1.cls) (hO : isO A o (ci + 1))
    (kk : AW d M pc' lv st (hpset A o k x) Q) : AW d M pc lv (vi x :: vr o :: st) A Q := by
  have e : hput A ci o k x = hpset A o k x := if_pos hfin
  rw [← e] at kk
  exact ot_put (v := vi x) hd hp9 hf (Or.inr ⟨hfin, hin, hdc⟩) hO (fun G => fvl_i (Or.inl ht)) (fun _ G => fit_i ht) (fun h => okS_mk hf.1 (Or.inl ⟨ht, h⟩)) kk
theorem aw_putFr {d : Nat} {M : MD} {pc pc' : Nat} {lv : LV} {st : List AV} {A : AHp} {Q : Option AV → AHp → Prop} {o x : Int} {idx ci k : Nat} (hd : decode M.2.1 pc = .ok (.putfield idx, 3)) (hp9 : pc + 3 = pc') (hf : FL M.1.cls idx ci k) (ht : tk (tyC ci k) = 1) (hfin : (clT ci k).2.2.2 = true) (hin : M.1.name = "<init>") (hdc : (clT ci k).1 = M.1.cls) (hO : isO A o (ci + 1))
    (kk : AW d M pc' lv st (hpset A o k x) Q) : AW d M pc lv (vr x :: vr o :: st) A Q := by
  have e : hput A ci o k x = hpset A o k x := if_pos hfin
  rw [← e] at kk
  exact ot_put (v := vr x) hd hp9 hf (Or.inr ⟨hfin, hin, hdc⟩) hO (fun G => fvl_r ht) (fun _ G => fit_r ht) (fun h => okS_mk hf.1 (Or.inr (Or.inl ht))) kk
theorem aw_putFz {d : Nat} {M : MD} {pc pc' : Nat} {lv : LV} {st : List AV} {A : AHp} {Q : Option AV → AHp → Prop} {o x : Int} {idx ci k : Nat} (hd : decode M.2.1 pc = .ok (.putfield idx, 3)) (hp9 : pc + 3 = pc') (hf : FL M.1.cls idx ci k) (ht : tk (tyC ci k) = 2) (hfin : (clT ci k).2.2.2 = true) (hin : M.1.name = "<init>") (hdc : (clT ci k).1 = M.1.cls) (hO : isO A o (ci + 1)) (hx : x = 0 ∨ x = 1)
    (kk : AW d M pc' lv st (hpset A o k x) Q) : AW d M pc lv (vi x :: vr o :: st) A Q := by
  have e : hput A ci o k x = hpset A o k x := if_pos hfin
  rw [← e] at kk
  exact ot_put (v := vi x) hd hp9 hf (Or.inr ⟨hfin, hin, hdc⟩) hO (fun G => fvl_i (Or.inr ht)) (fun _ G => fit_z ht hx) (fun h => okS_mk hf.1 (Or.inr (Or.inr ⟨ht, hx⟩))) kk
end
section
/-! ===== rows of arrays ===== -/
theorem vp_of {i n : Int} (h : in32 i) (h0 : 0 ≤ i) (h1 : i < n) : vp_in (Int32.ofInt i) n.toNat := by
  rintro (q | q)
  · rw [i32_0, i32_lt h (by decide)] at q
    omega
  · rw [i32_n h] at q
    omega
theorem toNat_c {i : Int} (h0 : 0 ≤ i) : ((i.toNat : Nat) : Int) = i := Int.toNat_of_nonneg h0
theorem okS_20 {k x : Int} (h : okS 20 k x) : in32 x := by unfold okS at h; rw [if_pos rfl] at h; exact h
theorem okS_21 {k x : Int} (h : okS 21 k x) : in64 x := by unfold okS at h; rw [if_neg (by omega), if_pos rfl] at h; exact h
theorem okS_22 {k x : Int} (h : okS 22 k x) : -128 ≤ x ∧ x ≤ 127 := by unfold okS at h; rw [if_neg (by omega), if_neg (by omega), if_pos rfl] at h; exact h
theorem okS_23 {k x : Int} (h : okS 23 k x) : x = 0 ∨ x = 1 := by unfold okS at h; rw [if_neg (by omega), if_neg (by omega), if_neg (by omega), if_pos rfl] at h; exact h
theorem okS_r {kd : Nat} {k x : Int} (h : 30 ≤ kd) : okS kd k x := by unfold okS; rw [if_neg (by omega), if_neg (by omega), if_neg (by omega), if_neg (by omega), if_neg (by omega)]; trivial
theorem SIM.arr {G : Gp} {A : AHp} {H : Heap} (h : SIM G A H) {o n : Int} {kd : Nat} (hO : isA A o kd n) {x : va_E} (hx : entE G A o = x) : va_P (gD G) vwCl [(rA G o, x)] H := by
  rw [← hx]
  exact h.at1 hO.1 hO.2.1
section ARR
variable {d : Nat} {M : MD} {pc pc' : Nat} {lv : LV} {st : List AV} {A : AHp} {Q : Option AV → AHp → Prop} {o i n x : Int}
theorem aw_iald (hd : decode M.2.1 pc = .ok (.iaload, 1)) (hp : pc + 1 = pc') (hO : isA A o 20 n) (h0 : 0 ≤ i) (h1 : i < n) (kk : AW d M pc' lv (vi (hv A o i) :: st) A Q) : AW d M pc lv (vi i :: vr o :: st) A Q := by
  subst hp
  refine AW.pure (fun l G p e R s m args below meth c H locs ls C S Qr hC hS hl ho hst hva kk => ?_) kk
  have hi : in32 i := okh hst
  change W p l e R s m args below meth c H locs C S Qr (F0 m pc ls (.int (Int32.ofInt i) :: rR G o :: st.map (rV G)))
  rw [rR_dyn hO.1]
  refine va_iald hC.1 hC.2.1 hC.2.2.2.2.2.2.1.1.1 (hS.arr hO (ent_int hO.2.2.1 (Or.inl rfl))) 0 0 rfl rfl (by rw [hO.2.2.2]; exact vp_of hi h0 h1) hd ?_
  rw [i32_n hi, toNat_c h0]
  exact kk ls hl ho (okc (by have := (hS.2.2.2.1 o hO.1 hO.2.1 i h0).1; rw [hO.2.2.1] at this; exact okS_20 this) (okt (okt hst)))
theorem aw_lald (hd : decode M.2.1 pc = .ok (.laload, 1)) (hp : pc + 1 = pc') (hO : isA A o 21 n) (h0 : 0 ≤ i) (h1 : i < n) (kk : AW d M pc' lv (vl (hv A o i) :: st) A Q) : AW d M pc lv (vi i :: vr o :: st) A Q := by
  subst hp
  refine AW.pure (fun l G p e R s m args below meth c H locs ls C S Qr hC hS hl ho hst hva kk => ?_) kk
  have hi : in32 i := okh hst
  change W p l e R s m args below meth c H locs C S Qr (F0 m pc ls (.int (Int32.ofInt i) :: rR G o :: st.map (rV G)))
  rw [rR_dyn hO.1]
  refine va_lald hC.1 hC.2.1 hC.2.2.2.2.2.2.1.1.1 (hS.arr hO (ent_long hO.2.2.1)) 0 1 rfl rfl (by rw [hO.2.2.2]; exact vp_of hi h0 h1) hd ?_
  rw [i32_n hi, toNat_c h0]
  exact kk ls hl ho (okc (by have := (hS.2.2.2.1 o hO.1 hO.2.1 i h0).1; rw [hO.2.2.1] at this; exact okS_21 this) (okt (okt hst)))
theorem aw_bald (hd : decode M.2.1 pc = .ok (.baload, 1)) (hp : pc + 1 = pc') (hO : isA A o 22 n) (h0 : 0 ≤ i) (h1 : i < n) (kk : AW d M pc' lv (vi (hv A o i) :: st) A Q) : AW d M pc lv (vi i :: vr o :: st) A Q := by
  subst hp
  refine AW.pure (fun l G p e R s m args below meth c H locs ls C S Qr hC hS hl ho hst hva kk => ?_) kk
  have hi : in32 i := okh hst
  change W p l e R s m args below meth c H locs C S Qr (F0 m pc ls (.int (Int32.ofInt i) :: rR G o :: st.map (rV G)))
  rw [rR_dyn hO.1]
  refine va_bald hC.1 hC.2.1 hC.2.2.2.2.2.2.1.1.1 (hS.arr hO (ent_int hO.2.2.1 (Or.inr (Or.inl rfl)))) 0 2 rfl rfl (by rw [hO.2.2.2]; exact vp_of hi h0 h1) hd ?_
  rw [i32_n hi, toNat_c h0]
  exact kk ls hl ho (okc (by have := (hS.2.2.2.1 o hO.1 hO.2.1 i h0).1; rw [hO.2.2.1] at this; have := okS_22 this; show in32 _; unfold in32; omega) (okt (okt hst)))
theorem aw_zald (hd : decode M.2.1 pc = .ok (.baload, 1)) (hp : pc + 1 = pc') (hO : isA A o 23 n) (h0 : 0 ≤ i) (h1 : i < n) (kk : hv A o i = 0 ∨ hv A o i = 1 → AW d M pc' lv (vi (hv A o i) :: st) A Q) (hz : hv A o i = 0 ∨ hv A o i = 1) : AW d M pc lv (vi i :: vr o :: st) A Q := by
  subst hp
  refine AW.pure (fun l G p e R s m args below meth c H locs ls C S Qr hC hS hl ho hst hva kk => ?_) (kk hz)
  have hi : in32 i := okh hst
  change W p l e R s m args below meth c H locs C S Qr (F0 m pc ls (.int (Int32.ofInt i) :: rR G o :: st.map (rV G)))
  rw [rR_dyn hO.1]
  refine va_zald hC.1 hC.2.1 hC.2.2.2.2.2.2.1.1.1 (hS.arr hO (ent_int hO.2.2.1 (Or.inr (Or.inr rfl)))) 0 3 rfl rfl (by rw [hO.2.2.2]; exact vp_of hi h0 h1) hd ?_
  rw [i32_n hi, toNat_c h0]
  exact kk ls hl ho (okc (by show in32 _; unfold in32; omega) (okt (okt hst)))
theorem aw_aald {kd t0 : Nat} {Cn : String} (ht : ∀ G, (tysL G)[t0]? = some (gC G kd, .object Cn)) (hkd : 30 ≤ kd) (hd : decode M.2.1 pc = .ok (.aaload, 1)) (hp : pc + 1 = pc') (hO : isA A o kd n) (h0 : 0 ≤ i) (h1 : i < n) (kk : AW d M pc' lv (vr (hv A o i) :: st) A Q) : AW d M pc lv (vi i :: vr o :: st) A Q := by
  subst hp
  refine AW.pure (fun l G p e R s m args below meth c H locs ls C S Qr hC hS hl ho hst hva kk => ?_) kk
  have hi : in32 i := okh hst
  change W p l e R s m args below meth c H locs C S Qr (F0 m pc ls (.int (Int32.ofInt i) :: rR G o :: st.map (rV G)))
  rw [rR_dyn hO.1]
  refine va_aldq hC.1 hC.2.1 hC.2.2.2.2.2.2.1.1.1 (hS.arr hO (ent_ref hO.2.2.1 hkd)) 0 t0 rfl (ht G) (by rw [hO.2.2.2]; exact vp_of hi h0 h1) hd ?_
  rw [i32_n hi, toNat_c h0, rO_rf]
  exact kk ls hl ho (okc trivial (okt (okt hst)))
theorem aw_alen (hd : decode M.2.1 pc = .ok (.arraylength, 1)) (hp : pc + 1 = pc') (hO : isA A o 20 n) (kk : AW d M pc' lv (vi n :: st) A Q) : AW d M pc lv (vr o :: st) A Q := by
  subst hp
  refine AW.pure (fun l G p e R s m args below meth c H locs ls C S Qr hC hS hl9 ho hst hva kk => ?_) kk
  change W p l e R s m args below meth c H locs C S Qr (F0 m pc ls (rR G o :: st.map (rV G)))
  rw [rR_dyn hO.1]
  obtain ⟨-, b0, b1, -⟩ := hS.2.2.1 o hO.1 hO.2.1
  rw [hO.2.2.2] at b0 b1
  refine va_alen (v := Int32.ofInt n) hC.1 hC.2.1 hC.2.2.2.2.2.2.1.1.1 (hS.arr hO (ent_int hO.2.2.1 (Or.inl rfl))) 0 0 rfl rfl ?_ hd (kk ls hl9 ho (okc (by show in32 n; unfold in32; omega) (okt hst)))
  show Int32.ofNat (hl A o).toNat = _
  rw [hO.2.2.2]
  apply Int32.toInt_inj.mp
  rw [i32_t (by unfold in32; omega)]
  have := nI_toInt (n := n.toNat) (by omega)
  unfold nI at this
  rw [this]
  omega
end ARR
theorem arr_st {G : Gp} {A : AHp} {o i x n : Int} {kd : Nat} {H1 : Heap} (h1 : kd = 20 ∨ kd = 22 ∨ kd = 23) (hO : isA A o kd n) (h0 : 0 ≤ i) (e : H1[rA G o]? = some ((vp_cell (gC G kd) (n.toNat, .inl fun j => Int32.ofInt (hv A o j))).setSlot i.toNat (.int (Int32.ofInt x)))) : va_at (gD G) vwCl (rA G o, entE G (hset A o i x) o) H1 := by
  rw [ent_int (A := hset A o i x) (kd := kd) (by rw [hk_set]; exact hO.2.2.1) h1]
  show H1[rA G o]? = some (vp_cell _ _)
  rw [e, hl_set, hO.2.2.2, vp_cell_i, vp_cell_i, arrV_store]
  congr 2
  funext q
  unfold updV
  rw [hv_set]
  by_cases hq : q = i.toNat
  · rw [if_pos hq, if_pos ⟨rfl, by omega⟩]
  · rw [if_neg hq, if_neg (by omega)]
section ARS
variable {d : Nat} {M : MD} {pc pc' : Nat} {lv : LV} {st : List AV} {A : AHp} {Q : Option AV → AHp → Prop} {o i n x : Int}
theorem frA_dyn {G : Gp} {o : Int} (h : 60 ≤ o) : frA G (rA G o) := by show gB G ≤ rA G o; rw [rA_dyn h]; omega
theorem aw_iast (hd : decode M.2.1 pc = .ok (.iastore, 1)) (hp : pc + 1 = pc') (hO : isA A o 20 n) (h0 : 0 ≤ i) (h1 : i < n) (kk : AW d M pc' lv st (hset A o i x) Q) : AW d M pc lv (vi x :: vi i :: vr o :: st) A Q := by
  subst hp
  refine AW.wr (A1 := hset A o i x) rfl rfl (fun l G p e R s m args below meth c H locs ls C S Qr hC hS hl ho hst hva kk => ?_) kk
  have hx : in32 x := okh hst
  have hi : in32 i := okh (okt hst)
  change W p l e R s m args below meth c H locs C S Qr (F0 m pc ls (.int (Int32.ofInt x) :: .int (Int32.ofInt i) :: rR G o :: st.map (rV G)))
  rw [rR_dyn hO.1]
  have hP := hS.arr hO (ent_int hO.2.2.1 (Or.inl rfl)) 0 _ rfl
  rw [hO.2.2.2] at hP
  refine W.iast hC.1 hC.2.1 (cell := vp_cell (gC G 20) (n.toNat, .inl fun j => Int32.ofInt (hv A o j))) hP ((hC.2.2.2.2.2.2.1.1.1.2 0 _ rfl).1 n.toNat (fun j => .int (Int32.ofInt (hv A o j)))) (fun q => by cases q) (by show ¬ (_ ∨ (arrV _ _ _).slots.size ≤ _); rw [arrV_size]; exact vp_of hi h0 h1) rfl rfl hd fun H1 e z oq => ?_
  rw [i32_n hi] at e
  exact kk H1 _ (hS.put hO.1 hO.2.1 (arr_st (Or.inl rfl) hO h0 e) z oq (by rw [hO.2.2.1]; unfold okS; rw [if_pos rfl]; exact hx)) (hva.put z oq (frA_dyn hO.1)) (okt (okt (okt hst)))
theorem i8_id {x : Int} (h0 : -128 ≤ x) (h1 : x ≤ 127) : (Int32.ofInt x).toInt8.toInt = x := by
  rw [Int32.toInt_toInt8, i32_t (by unfold in32; omega)]
  show x.bmod 256 = x
  rw [Int.bmod_def]
  split <;> omega
theorem nar_b {x : Int} (h0 : -128 ≤ x) (h1 : x ≤ 127) : narrow .byte (.int (Int32.ofInt x)) = .int (Int32.ofInt x) := by
  show Value.int (Int32.ofInt x).toInt8.toInt32 = _
  congr 1
  apply Int32.toInt_inj.mp
  rw [Int8.toInt_toInt32, i8_id h0 h1, i32_t (by unfold in32; omega)]
theorem aw_bast (hd : decode M.2.1 pc = .ok (.bastore, 1)) (hp : pc + 1 = pc') (hO : isA A o 22 n) (h0 : 0 ≤ i) (h1 : i < n) (hx : -128 ≤ x ∧ x ≤ 127) (kk : AW d M pc' lv st (hset A o i x) Q) : AW d M pc lv (vi x :: vi i :: vr o :: st) A Q := by
  subst hp
  refine AW.wr (A1 := hset A o i x) rfl rfl (fun l G p e R s m args below meth c H locs ls C S Qr hC hS hl ho hst hva kk => ?_) kk
  have hi : in32 i := okh (okt hst)
  change W p l e R s m args below meth c H locs C S Qr (F0 m pc ls (.int (Int32.ofInt x) :: .int (Int32.ofInt i) :: rR G o :: st.map (rV G)))
  rw [rR_dyn hO.1]
  have hP := hS.arr hO (ent_int hO.2.2.1 (Or.inr (Or.inl rfl))) 0 _ rfl
  rw [hO.2.2.2] at hP
  refine W.bast hC.1 hC.2.1 (cell := vp_cell (gC G 22) (n.toNat, .inl fun j => Int32.ofInt (hv A o j))) hP ((hC.2.2.2.2.2.2.1.1.1.2 2 _ rfl).1 n.toNat (fun j => .int (Int32.ofInt (hv A o j)))) (fun q => by cases q) (by show ¬ (_ ∨ (arrV _ _ _).slots.size ≤ _); rw [arrV_size]; exact vp_of hi h0 h1) rfl rfl hd fun H1 e z oq => ?_
  rw [i32_n hi, nar_b hx.1 hx.2] at e
  exact kk H1 _ (hS.put hO.1 hO.2.1 (arr_st (Or.inr (Or.inl rfl)) hO h0 e) z oq (by rw [hO.2.2.1]; unfold okS; rw [if_neg (by omega), if_neg (by omega), if_pos rfl]; exact hx)) (hva.put z oq (frA_dyn hO.1)) (okt (okt (okt hst)))
theorem aw_zast (hd : decode M.2.1 pc = .ok (.bastore, 1)) (hp : pc + 1 = pc') (hO : isA A o 23 n) (h0 : 0 ≤ i) (h1 : i < n) (hx : x = 0 ∨ x = 1) (kk : AW d M pc' lv st (hset A o i x) Q) : AW d M pc lv (vi x :: vi i :: vr o :: st) A Q := by
  subst hp
  refine AW.wr (A1 := hset A o i x) rfl rfl (fun l G p e R s m args below meth c H locs ls C S Qr hC hS hl ho hst hva kk => ?_) kk
  have hi : in32 i := okh (okt hst)
  change W p l e R s m args below meth c H locs C S Qr (F0 m pc ls (.int (Int32.ofInt x) :: .int (Int32.ofInt i) :: rR G o :: st.map (rV G)))
  rw [rR_dyn hO.1]
  have hP := hS.arr hO (ent_int hO.2.2.1 (Or.inr (Or.inr rfl))) 0 _ rfl
  rw [hO.2.2.2] at hP
  refine W.zast hC.1 hC.2.1 (cell := vp_cell (gC G 23) (n.toNat, .inl fun j => Int32.ofInt (hv A o j))) hP ((hC.2.2.2.2.2.2.1.1.1.2 3 _ rfl).1 n.toNat (fun j => .int (Int32.ofInt (hv A o j)))) (fun q => by cases q) (by show ¬ (_ ∨ (arrV _ _ _).slots.size ≤ _); rw [arrV_size]; exact vp_of hi h0 h1) rfl rfl hd fun H1 e z oq => ?_
  rw [i32_n hi, show narrow .boolean (.int (Int32.ofInt x)) = .int (Int32.ofInt x) by rcases hx with rfl | rfl <;> rfl] at e
  exact kk H1 _ (hS.put hO.1 hO.2.1 (arr_st (Or.inr (Or.inr rfl)) hO h0 e) z oq (by rw [hO.2.2.1]; unfold okS; rw [if_neg (by omega), if_neg (by omega), if_neg (by omega), if_pos rfl]; exact hx)) (hva.put z oq (frA_dyn hO.1)) (okt (okt (okt hst)))
theorem aw_last (hd : decode M.2.1 pc = .ok (.lastore, 1)) (hp : pc + 1 = pc') (hO : isA A o 21 n) (h0 : 0 ≤ i) (h1 : i < n) (kk : AW d M pc' lv st (hset A o i x) Q) : AW d M pc lv (vl x :: vi i :: vr o :: st) A Q := by
  subst hp
  refine AW.wr (A1 := hset A o i x) rfl rfl (fun l G p e R s m args below meth c H locs ls C S Qr hC hS hl ho hst hva kk => ?_) kk
  have hx : in64 x := okh hst
  have hi : in32 i := okh (okt hst)
  change W p l e R s m args below meth c H locs C S Qr (F0 m pc ls (.long (Int64.ofInt x) :: .int (Int32.ofInt i) :: rR G o :: st.map (rV G)))
  rw [rR_dyn hO.1]
  have hP := hS.arr hO (ent_long hO.2.2.1) 0 _ rfl
  rw [hO.2.2.2] at hP
  refine W.last hC.1 hC.2.1 (cell := vp_cell (gC G 21) (n.toNat, .inr (.inl fun j => Int64.ofInt (hv A o j)))) hP ((hC.2.2.2.2.2.2.1.1.1.2 1 _ rfl).1 n.toNat (fun j => .long (Int64.ofInt (hv A o j)))) (fun q => by cases q) (by show ¬ (_ ∨ (arrV _ _ _).slots.size ≤ _); rw [arrV_size]; exact vp_of hi h0 h1) rfl rfl hd fun H1 e z oq => ?_
  rw [i32_n hi] at e
  refine kk H1 _ (hS.put hO.1 hO.2.1 ?_ z oq (by rw [hO.2.2.1]; unfold okS; rw [if_neg (by omega), if_pos rfl]; exact hx)) (hva.put z oq (frA_dyn hO.1)) (okt (okt (okt hst)))
  rw [ent_long (A := hset A o i x) (by rw [hk_set]; exact hO.2.2.1)]
  show H1[rA G o]? = some (vp_cell _ _)
  rw [e, hl_set, hO.2.2.2, vp_cell_l, vp_cell_l, arrV_store]
  congr 2
  funext q
  unfold updV
  rw [hv_set]
  by_cases hq : q = i.toNat
  · rw [if_pos hq, if_pos ⟨rfl, by omega⟩]
  · rw [if_neg hq, if_neg (by omega)]
theorem aw_aast {kd t0 ci : Nat} (ht : ∀ G, (tysL G)[t0]? = some (gC G kd, .object (clC ci))) (hci : ci < 12) (hkd : 30 ≤ kd) (hd : decode M.2.1 pc = .ok (.aastore, 1)) (hp : pc + 1 = pc') (hO : isA A o kd n) (h0 : 0 ≤ i) (h1 : i < n) (hX : isO A x (ci + 1)) (kk : AW d M pc' lv st (hset A o i x) Q) : AW d M pc lv (vr x :: vi i :: vr o :: st) A Q := by
  subst hp
  refine AW.wr (A1 := hset A o i x) rfl rfl (fun l G p e R s m args below meth c H locs ls C S Qr hC hS hl ho hst hva kk => ?_) kk
  have hi : in32 i := okh (okt hst)
  change W p l e R s m args below meth c H locs C S Qr (F0 m pc ls (rR G x :: .int (Int32.ofInt i) :: rR G o :: st.map (rV G)))
  rw [rR_dyn hO.1, rR_dyn hX.1]
  have hP := hS.arr hO (ent_ref hO.2.2.1 hkd) 0 _ rfl
  rw [hO.2.2.2] at hP
  have hPx := (hS.2.2.1 x hX.1 hX.2.1).2.2.2
  rw [ent_obj hX.2.2 hci] at hPx
  obtain ⟨r', hr', cellV, g1, g2, g3, -⟩ := hPx
  have hK := hC.2.2.2.2.2.2.1.1.1
  have hcls := (hK.1 ci _ (cl_at hci)).2
  obtain ⟨kA, comp, k1, k2, k3, -⟩ := (hK.2 t0 _ (ht G)).2
  have hcomp : comp = (gD G).1 ci := Option.some.inj (k3.symm.trans hcls.1)
  subst hcomp
  obtain ⟨kC, hkC, -⟩ := hcls.2
  refine W.aast hC.1 hC.2.1 (cell := vp_cell (gC G kd) (n.toNat, .inr (.inr (.inr (.inr fun j => rO G (hv A o j)))))) hP (fun q h => by cases h) (fun h => by cases h) k1 k2 rfl hkC ⟨by rw [i32_0, i32_lt hi (by decide)]; omega, by show _ < (arrV _ _ _).slots.size; rw [arrV_size, i32_n hi]; omega⟩ g1 (fun q h => by rw [g3] at h; cases h) (by rw [g2]; exact hkC) (by rw [g2]; exact va_assign hcls) rfl rfl hd fun H1 e z oq => ?_
  rw [i32_n hi] at e
  refine kk H1 _ (hS.put hO.1 hO.2.1 ?_ z oq (by rw [hO.2.2.1]; exact okS_r hkd)) (hva.put z oq (frA_dyn hO.1)) (okt (okt (okt hst)))
  rw [ent_ref (A := hset A o i x) (kd := kd) (by rw [hk_set]; exact hO.2.2.1) hkd]
  show H1[rA G o]? = some (vp_cell _ _)
  rw [e, hl_set, hO.2.2.2, vp_cell_q, vp_cell_q, arrV_store]
  congr 2
  funext q
  unfold updV
  rw [hv_set]
  by_cases hq : q = i.toNat
  · rw [if_pos hq, if_pos ⟨rfl, by omega⟩, rO_rf, rR_dyn hX.1]
  · rw [if_neg hq, if_neg (by omega)]
end ARS
end
section
/-! ===== rows that make things; Object.<init> ===== -/
section ALC
variable {d : Nat} {M : MD} {pc pc' : Nat} {lv : LV} {st st' : List AV} {A A1 : AHp} {Q : Option AV → AHp → Prop} {o i n x : Int} {sl : Nat}
theorem AW.al (e1 : hn A1 = hn A + 1) (e2 : hs A1 = hs A + sl)
    (h : ∀ (l : Launch) (G : Gp) (p : Program) (e : Env) (R : Room) (s : State) (m : MethodId) (args : Array Value) (below : List Frame) (meth : Method) (c : Code) (H : Heap) (locs : List Loc) (ls : Array Slot) (C S : Nat) (Qr : State → Prop),
      CXd d M G p R s m args meth c → SIM G A H → lvOK G ls M.2.2.1 lv → okL lv → (∀ a ∈ st, okV a) → va_S (frA G) s.heap H locs → C + 1 ≤ R.cells → S + sl ≤ R.slots →
      (∀ (H1 : Heap), SIM G A1 H1 → va_S (frA G) s.heap H1 locs → (∀ a ∈ st', okV a) → W p l e R s m args below meth c H1 locs (C + 1) (S + sl) Qr (F0 m pc' ls (st'.map (rV G)))) →
      W p l e R s m args below meth c H locs C S Qr (F0 m pc ls (st.map (rV G))))
    (k : AW d M pc' lv st' A1 Q) : AW d M pc lv st A Q := by
  obtain ⟨r, A', h1, h2, h3, hW⟩ := k
  rw [e1] at h2
  rw [e2] at h3
  refine ⟨r, A', h1, by omega, by omega, fun l G p e R s m args below meth c H locs ls C S Qr hC hS hl9 ho hst hva hrm hret => ?_⟩
  rw [e1, e2] at hW
  have q1 : C + 1 + (hn A' - (hn A + 1)).toNat = C + (hn A' - hn A).toNat := by omega
  have q2 : S + sl + (hs A' - (hs A + sl)) = S + (hs A' - hs A) := by omega
  exact h l G p e R s m args below meth c H locs ls C S Qr hC hS hl9 ho hst hva (by omega) (by omega) (fun H1 hS1 hva1 hst1 => hW l G p e R s m args below meth c H1 locs ls (C + 1) (S + sl) Qr hC hS1 hl9 ho hst1 hva1 (by rw [q1, q2]; exact hrm) (by rw [q1, q2]; exact hret))
theorem hn_r {G : Gp} {A : AHp} {H : Heap} (h : SIM G A H) : rR G (hn A) = .ref H.size := by
  have h1 := h.2.1
  rw [rR_dyn h1, rA_dyn h1, ← h.1]
theorem va_psh {A0 : Nat → Prop} {H0 H H1 : Heap} {locs : List Loc} (hS : va_S A0 H0 H locs) (z : H1.size = H.size + 1) (oq : ∀ q : Nat, q < H.size → H1[q]? = H[q]?) : va_S A0 H0 H1 locs :=
  ⟨Nat.le_trans hS.1 (by omega), fun q h1 h2 => by rw [oq q (Nat.lt_of_lt_of_le h1 hS.1)]; exact hS.2.1 q h1 h2, hS.2.2⟩
theorem dfl_i {ty : FieldType} (h : ty = .int ∨ ty = .byte ∨ ty = .boolean) : defaultValue ty = .int (Int32.ofInt 0) := by
  rcases h with rfl | rfl | rfl <;> rfl
theorem aw_newa {atype : ArrayType} {kd t0 : Nat} (ht : ∀ G, (tysL G)[t0]? = some (gC G kd, newarray.typeOf atype)) (hkd : (kd = 20 ∧ newarray.typeOf atype = .int) ∨ (kd = 22 ∧ newarray.typeOf atype = .byte) ∨ (kd = 23 ∧ newarray.typeOf atype = .boolean) ∨ (kd = 21 ∧ newarray.typeOf atype = .long)) (hw : Cond.arrayClass (newarray.typeOf atype) ∈ TB)
    (hd : decode M.2.1 pc = .ok (.newarray atype, 2)) (hp : pc + 2 = pc') (h0 : 0 ≤ n) (h1 : n < 65536) (kk : AW d M pc' lv (vr (hn A) :: st) (hnew A kd n n.toNat (fun _ => 0)) Q) : AW d M pc lv (vi n :: st) A Q := by
  subst hp
  refine AW.al (sl := n.toNat) (hn_new _ _ _ _ _) (hs_new _ _ _ _ _) (fun l G p e R s m args below meth c H locs ls C S Qr hC hS hl9 ho hst hva hcc hss kk => ?_) kk
  have hn32 : in32 n := by unfold in32; omega
  have hb : n.toNat * componentBytes (newarray.typeOf atype) ≤ 536870912 := by
    have : componentBytes (newarray.typeOf atype) ≤ 8 := by cases atype <;> decide
    have := Nat.mul_le_mul (Nat.le_refl n.toNat) this
    omega
  change W p l e R s m args below meth c H locs C S Qr (F0 m pc ls (.int (Int32.ofInt n) :: st.map (rV G)))
  refine va_newaK (N := n.toNat) hC.1 hC.2.1 (hC.2.2.2.2.2.1 _ hw) rfl hd rfl (by rw [i32_0, i32_lt hn32 (by decide)]; omega) (i32_n hn32) hb hcc hss rfl fun H1 cA e1 z o1 hAr hfc => ?_
  have hRA := (hC.2.2.2.2.2.2.1.1.1.2 t0 _ (ht G)).2
  have hcA : gC G kd = cA := by
    have q : s.vm.findClass ("[" ++ (newarray.typeOf atype).toString) = some (gC G kd) := by
      revert hRA
      cases atype <;> exact fun h => h
    exact Option.some.inj (q.symm.trans hfc)
  subst hcA
  have hk1 := kk H1 (hS.push (kd := kd) (by omega) h0 (by omega) ?_ z o1 (fun k hk => ?_) (fun k _ _ => okS_0)) (va_psh hva z o1) (okc trivial (okt hst))
  · change W p l e R s m args below meth c H1 locs (C + 1) (S + n.toNat) Qr (F0 m (pc + 2) ls (rR G (hn A) :: st.map (rV G))) at hk1
    rw [hn_r hS] at hk1
    exact hk1
  · have e3 : rA G (hn A) = H.size := by rw [rA_dyn hS.2.1, ← hS.1]
    have z1 : hk (hnew A kd n n.toNat (fun _ => 0)) (hn A) = kd := by rw [hk_new, if_pos rfl]
    have z2 : hl (hnew A kd n n.toNat (fun _ => 0)) (hn A) = n := by rw [hl_new, if_pos rfl]
    have z3 : ∀ j, hv (hnew A kd n n.toNat (fun _ => 0)) (hn A) j = 0 := fun j => by rw [hv_new, if_pos rfl]
    rcases hkd with ⟨a1, a2⟩ | ⟨a1, a2⟩ | ⟨a1, a2⟩ | ⟨a1, a2⟩
    · rw [ent_int z1 (by omega)]
      show H1[rA G (hn A)]? = some (vp_cell _ _)
      rw [e3, e1, vp_cell_i, z2, a2]
      simp only [z3]
      rfl
    · rw [ent_int z1 (by omega)]
      show H1[rA G (hn A)]? = some (vp_cell _ _)
      rw [e3, e1, vp_cell_i, z2, a2]
      simp only [z3]
      rfl
    · rw [ent_int z1 (by omega)]
      show H1[rA G (hn A)]? = some (vp_cell _ _)
      rw [e3, e1, vp_cell_i, z2, a2]
      simp only [z3]
      rfl
    · subst a1
      rw [ent_long z1]
      show H1[rA G (hn A)]? = some (vp_cell _ _)
      rw [e3, e1, vp_cell_l, z2, a2]
      simp only [z3]
      rfl
  · rcases hkd with ⟨rfl, -⟩ | ⟨rfl, -⟩ | ⟨rfl, -⟩ | ⟨rfl, -⟩
    · unfold okS; rw [if_pos rfl]; decide
    · unfold okS; rw [if_neg (by omega), if_neg (by omega), if_pos rfl]; decide
    · unfold okS; rw [if_neg (by omega), if_neg (by omega), if_neg (by omega), if_pos rfl]; exact Or.inl rfl
    · unfold okS; rw [if_neg (by omega), if_pos rfl]; decide
theorem aw_newq {idx : Nat} {kd t0 : Nat} {Cn : String} (ht : ∀ G, (tysL G)[t0]? = some (gC G kd, .object Cn)) (hkd : 30 ≤ kd) (hw : Cond.classLink M.1.cls idx Cn ∈ TB) (hao : Cn ∈ aoL)
    (hd : decode M.2.1 pc = .ok (.anewarray idx, 3)) (hp : pc + 3 = pc') (h0 : 0 ≤ n) (h1 : n < 65536) (kk : AW d M pc' lv (vr (hn A) :: st) (hnew A kd n n.toNat (fun _ => 0)) Q) : AW d M pc lv (vi n :: st) A Q := by
  subst hp
  refine AW.al (sl := n.toNat) (hn_new _ _ _ _ _) (hs_new _ _ _ _ _) (fun l G p e R s m args below meth c H locs ls C S Qr hC hS hl9 ho hst hva hcc hss kk => ?_) kk
  have hn32 : in32 n := by unfold in32; omega
  change W p l e R s m args below meth c H locs C S Qr (F0 m pc ls (.int (Int32.ofInt n) :: st.map (rV G)))
  have hover := va_AO.use (A := args) (hC.2.2.2.2.2.2.1.1.2.2.1 Cn hao)
  refine W.anew hC.1 hC.2.1 hC.2.2.2.2.1 (hC.2.2.2.2.2.1 _ hw) hover rfl hd rfl (by rw [i32_0, i32_lt hn32 (by decide)]; omega) (by rw [i32_n hn32]; omega) hcc (by rw [i32_n hn32]; exact hss) fun cA kA comp f1 f2 f3 f4 => ?_
  rw [i32_n hn32]
  generalize hH1 : H.push ({ cls := cA, slots := Array.replicate n.toNat .null, vm := .none } : Cell) = H1
  have z1 : H1.size = H.size + 1 := by rw [← hH1, Array.size_push]
  have e1 : H1[H.size]? = some (arrV cA n.toNat (fun _ => .null)) := by rw [← hH1, Array.getElem?_push_size, ← arrV_new]
  have o1 : ∀ q : Nat, q < H.size → H1[q]? = H[q]? := fun q hq => by rw [← hH1, Array.getElem?_push, if_neg (Nat.ne_of_lt hq)]
  obtain ⟨kA', comp', -, -, -, r4⟩ := (hC.2.2.2.2.2.2.1.1.1.2 t0 _ (ht G)).2
  have hcA : gC G kd = cA := Option.some.inj (r4.symm.trans f1)
  subst hcA
  have hk1 := kk H1 (hS.push (kd := kd) (by omega) h0 (by omega) ?_ z1 o1 (fun k hk => okS_r hkd) (fun k _ _ => okS_0)) (va_psh hva z1 o1) (okc trivial (okt hst))
  · change W p l e R s m args below meth c H1 locs (C + 1) (S + n.toNat) Qr (F0 m (pc + 3) ls (rR G (hn A) :: st.map (rV G))) at hk1
    rw [hn_r hS] at hk1
    exact hk1
  · have e3 : rA G (hn A) = H.size := by rw [rA_dyn hS.2.1, ← hS.1]
    have y1 : hk (hnew A kd n n.toNat (fun _ => 0)) (hn A) = kd := by rw [hk_new, if_pos rfl]
    have y2 : hl (hnew A kd n n.toNat (fun _ => 0)) (hn A) = n := by rw [hl_new, if_pos rfl]
    have y3 : ∀ j, hv (hnew A kd n n.toNat (fun _ => 0)) (hn A) j = 0 := fun j => by rw [hv_new, if_pos rfl]
    rw [ent_ref y1 hkd]
    show H1[rA G (hn A)]? = some (vp_cell _ _)
    rw [e3, e1, vp_cell_q, y2]
    simp only [y3]
    rfl
theorem dfl_at : ∀ ci, ci < 12 → ∀ j, j < clN ci → tk (tyC ci j) = 0 ∨ tk (tyC ci j) = 1 ∨ tk (tyC ci j) = 2 := by decide +kernel
theorem dfl_tk {G : Gp} {ty : FieldType} (h : tk ty = 0 ∨ tk ty = 1 ∨ tk ty = 2) : defaultValue ty = fvl G ty 0 := by
  have h0 : rR G 0 = .null := by unfold rR; rw [if_pos (Or.inl rfl)]
  cases ty <;> first | rfl | (simp [tk] at h; done) | exact h0.symm
theorem aw_new {idx ci : Nat} (hci : ci < 12) (hw : Cond.classLink M.1.cls idx (clC ci) ∈ TB) (hw2 : Cond.instantiable (clC ci) (clN ci) ∈ TB) (hw3 : Cond.initialized (clC ci) ∈ TB)
    (hd : decode M.2.1 pc = .ok (.new idx, 3)) (hp : pc + 3 = pc') (kk : AW d M pc' lv (vr (hn A) :: st) (hnew A (ci + 1) 0 (clN ci) (fun _ => 0)) Q) : AW d M pc lv st A Q := by
  subst hp
  refine AW.al (sl := clN ci) (hn_new _ _ _ _ _) (hs_new _ _ _ _ _) (fun l G p e R s m args below meth c H locs ls C S Qr hC hS hl9 ho hst hva hcc hss kk => ?_) kk
  have hts := hC.2.2.2.2.2.1
  have hKn := hC.2.2.2.2.2.2.1.1.1.1 ci _ (cl_at hci)
  refine W.newcK hC.1 hC.2.1 hC.2.2.2.2.1 (hts _ hw) (hts _ hw2) (hts _ hw3) rfl hd hcc hss hKn.2.1 rfl fun H1 kC hkC e1 z1 o1 => ?_
  have hk1 := kk H1 (hS.push (kd := ci + 1) (by omega) (Int.le_refl 0) (by omega) ?_ z1 o1 (fun k hk => ?_) (fun k _ _ => okS_0)) (va_psh hva z1 o1) (okc trivial hst)
  · change W p l e R s m args below meth c H1 locs (C + 1) (S + clN ci) Qr (F0 m (pc + 3) ls (rR G (hn A) :: st.map (rV G))) at hk1
    rw [hn_r hS] at hk1
    exact hk1
  · have e3 : rA G (hn A) = H.size := by rw [rA_dyn hS.2.1, ← hS.1]
    rw [e3, ent_obj (A := hnew A (ci + 1) 0 (clN ci) (fun _ => 0)) (by rw [hk_new, if_pos rfl]) hci]
    refine ⟨_, cl_at hci, (u_born (tyC ci) hts (cl_tb hci) hKn hkC e1 (cl_ty ci hci)).to (fun j hj => ?_)⟩
    unfold vp_V
    rw [List.getD_eq_getElem?_getD, fs_at hj]
    show _ = fvl G (tyC ci j) (hx _ _ _ _)
    rw [show hx (hnew A (ci + 1) 0 (clN ci) fun _ => 0) ci (hn A) j = 0 by unfold hx; split; rw [hp_new, if_pos rfl]; rw [hv_new, if_pos rfl]]
    exact dfl_tk (dfl_at ci hci j hj)
  · unfold okS
    rw [if_neg (by omega), if_neg (by omega), if_neg (by omega), if_neg (by omega), if_pos (by omega)]
    split <;> first | trivial | exact Or.inl rfl | decide
theorem aw_obj {idx : Nat} (hw : Cond.methodLink M.1.cls idx Lib.objectInit ∈ TB) (hw2 : Cond.instanceMethod Lib.objectInit ∈ TB) (hw3 : Cond.code Lib.objectInit ⟨#[0xb1]⟩ 1 none ∈ TB) (hd1 : 1 ≤ d) (hst : (st.map acat).sum ≤ 8)
    (hd : decode M.2.1 pc = .ok (.invokespecial idx, 3)) (hp : pc + 3 = pc') (ho60 : 60 ≤ o) (kk : AW d M pc' lv st A Q) : AW d M pc lv (vr o :: st) A Q := by
  subst hp
  refine AW.pure (fun l G p e R s m args below meth c H locs ls C S Qr hC hS hl9 ho hst9 hva kk => ?_) kk
  have hts := hC.2.2.2.2.2.1
  change W p l e R s m args below meth c H locs C S Qr (F0 m pc ls (rR G o :: st.map (rV G)))
  rw [rR_dyn ho60]
  have h8 : ((st.map (rV G)).map fun v => v.category).sum ≤ 8 := by
    rw [List.map_map]
    have : (st.map ((fun v => v.category) ∘ rV G)) = st.map acat := by
      apply List.map_congr_left
      intro a _
      exact rV_cat G a
    rw [this]
    exact hst
  refine W.objInit hC.1 hC.2.1 hC.2.2.2.2.1 (hts _ hw) (hts _ hw2) (hts _ hw3) rfl (by rw [hC.2.2.1]; exact hl9.1) rfl hd (by have := hC.2.2.2.2.2.2.2.1; omega) (by show 2 * 0 + _ + 12 ≤ _; have := hC.2.2.2.2.2.2.2.2.1; omega) ?_
  exact kk ls hl9 ho (okt hst9)
end ALC
end
section
/-! ===== calls ===== -/
/-- what the tables say of a method: its code, its class, how many arguments -/
def MOK (M : MD) (n : Nat) : Prop := Cond.code M.1 M.2.1 M.2.2.1 M.2.2.2 ∈ TB ∧ Cond.initialized M.1.cls ∈ TB ∧ M.1.cls ≠ "java/lang/invoke/MethodHandle" ∧ M.1.cls ≠ "java/lang/invoke/VarHandle" ∧ (parseMethodDescriptor M.1.desc).map (fun d => d.parameters.length) = some n ∧ M.2.2.1 ≤ 20
def WSd (st : List AV) : Prop := (st.map acat).sum ≤ 8
theorem ws_room {G : Gp} {m : MethodId} {pc : Nat} {ls : Array Slot} {g rest : List AV} (h : WSd rest) : 2 * (F0 m pc ls (g.map (rV G))).monitorRoom + ((rest.map (rV G)).map fun v => v.category).sum ≤ 8 := by
  have e : (rest.map (rV G)).map (fun v => v.category) = rest.map acat := by
    rw [List.map_map]
    apply List.map_congr_left
    intro a _
    exact rV_cat G a
  rw [e]
  show 2 * 0 + _ ≤ 8
  unfold WSd at h
  omega
theorem rm_ok {d d' mc ms : Nat} {M M' : MD} {n : Nat} {G : Gp} {p : Program} {R : Room} {s : State} {m : MethodId} {args : Array Value} {meth : Method} {c : Code} (hC : CXd d M G p R s m args meth c) (hd : d' + 1 ≤ d) (hm : MOK M' n) : (RMd d' mc ms).frames + 1 ≤ R.frames ∧ 8 + (M'.2.2.1 + 11) + (RMd d' mc ms).locals ≤ R.locals := by
  have h1 := hC.2.2.2.2.2.2.2.1
  have h2 := hC.2.2.2.2.2.2.2.2.1
  have h3 := hm.2.2.2.2.2
  refine ⟨Nat.le_trans hd h1, ?_⟩
  show 8 + (M'.2.2.1 + 11) + 45 * d' ≤ R.locals
  omega
theorem NWL_tab : ∀ w ∈ NWL, w.onTables = true := by decide +kernel
theorem CTX.same {G : Gp} {u U : State} {H : Heap} (hv : u.vm = U.vm) (h : CTX G u H) : CTX G U H := by
  obtain ⟨⟨a1, a2, a3, a4⟩, ⟨b1, b2, b3⟩, ⟨c1, c2, c3, c4⟩, d1, d2, d3, d4⟩ := h
  have hvm : u.vm.Alike U.vm := by rw [hv]; exact Vm.Alike.refl _
  exact ⟨⟨va_K.moved hvm a1, fun w hw => va_Nw.same (NWL_tab w hw) hv (a2 w hw), fun c hc => va_AO.moved hvm (a3 c hc), fun j hj => vk_R.same hv.symm (a4 j hj)⟩, ⟨va_En.moved hvm b1, va_Ef.moved hvm b2, vk_S.moved hvm b3⟩,
    ⟨va_Z.moved hvm c1, VCL.moved hvm c2, va_Z.moved hvm c3, va_T.moved hvm c4⟩, va_Z.moved hvm d1, va_Z.moved hvm d2, va_T.moved hvm d3, d4⟩
theorem ok_blind (G : Gp) (as : List AV) (A : AHp) : FrameBlind (Pcm G as A) := by
  intro a U g mk h
  obtain ⟨h1, h2, h3, h4, h5⟩ := h
  exact ⟨h1, CTX.same (u := U) rfl h2, h3, h4, h5⟩
theorem pcm_of {G : Gp} {as : List AV} {A : AHp} {s : State} {H : Heap} {locs : List Loc} (hX : CTX G s s.heap) (hS : SIM G A H) (hok : ∀ a ∈ as, okV a) (hva : va_S (frA G) s.heap H locs) (U : State) (hU : U.heap = H) (hW : s.WarmedH U.vm) : Pcm G as A (as.map (rV G)).toArray U :=
  ⟨rfl, hX.to hU hW hva, by rw [hU]; exact hS, hok, by rw [hU, hS.1]; omega⟩
/-- a call's end: from what the callee says to the caller's next instruction -/
theorem AW.after {d : Nat} {M : MD} {pc : Nat} {lv : LV} {st rest as : List AV} {A : AHp} {Q : Option AV → AHp → Prop} {d' : Nat} {M' : MD}
    (hcall : CALL d' M' as A (fun r A1 => AW d M (pc + 3) lv (r.toList ++ rest) A1 Q)) (hrest : ∀ a ∈ rest, a ∈ st) 
    (run : ∀ (l : Launch) (G : Gp) (p : Program) (e : Env) (R : Room) (s : State) (m : MethodId) (args : Array Value) (below : List Frame) (meth : Method) (c : Code) (H : Heap) (locs : List Loc) (ls : Array Slot) (C S mc ms : Nat) (r1 : Option AV) (A1 : AHp),
      CXd d M G p R s m args meth c → SIM G A H → lvOK G ls M.2.2.1 lv → (∀ a ∈ st, okV a) → va_S (frA G) s.heap H locs → C + mc ≤ R.cells → S + ms ≤ R.slots →
      Met l M'.1 (WSm M') (RMd d' mc ms) (Pcm G as A) (Qcm G r1 A1) mc ms (frA G) →
      va_Run p l e R s m args below meth c H locs C S mc ms (F0 m pc ls (st.map (rV G))) (rest.map (rV G)) (Qcm G r1 A1 (as.map (rV G)).toArray) (frA G)) : AW d M pc lv st A Q := by
  obtain ⟨r1, A1, ⟨r, A', hQ, a1, a2, hW⟩, b1, b2, hM⟩ := hcall
  refine ⟨r, A', hQ, Int.le_trans b1 a1, Nat.le_trans b2 a2, fun l G p e R s m args below meth c H locs ls C S Qr hC hS hl9 ho hst hva hrm hret => ?_⟩
  have q1 : C + (hn A1 - hn A).toNat + (hn A' - hn A1).toNat = C + (hn A' - hn A).toNat := by omega
  have q2 : S + (hs A1 - hs A) + (hs A' - hs A1) = S + (hs A' - hs A) := by omega
  intro T hT X
  obtain ⟨v, st₀, t, T', L, h0, X', hL, e1, e2, ⟨ho1, hS1, hok1, hz, hk9⟩, stp⟩ := run l G p e R s m args below meth c H locs ls C S _ _ r1 A1 hC hS hl9 hst hva (by omega) (by omega) (hM l G) T hT X
  have hv1 : v = r1.map (rV G) := Outcome.returned.inj ho1
  subst hv1
  rw [h0] at hz hk9
  have hva1 : va_S (frA G) s.heap T'.heap (locs ++ L) := ⟨Nat.le_trans hva.1 (by rw [e1]; exact hz), fun q g1 g2 => by
      rw [e1, hk9 q (Nat.lt_of_lt_of_le g1 hva.1) g2]
      exact hva.2.1 q g1 g2, fun q hq => by
      rcases List.mem_append.mp hq with h | h
      · exact hva.2.2 q h
      · exact hL q h⟩
  have hst1 : ∀ a ∈ r1.toList ++ rest, okV a := by
    intro a ha
    rcases List.mem_append.mp ha with h | h
    · exact hok1 a (by simpa using h)
    · exact hst a (hrest a h)
  have K := hW l G p e R s m args below meth c T'.heap (locs ++ L) ls (C + (hn A1 - hn A).toNat) (S + (hs A1 - hs A)) Qr hC (by rw [e1]; exact hS1) hl9 ho hst1 hva1 (by rw [q1, q2]; exact hrm) (by rw [q1, q2]; exact hret)
  have e9 : (r1.toList ++ rest).map (rV G) = (r1.map (rV G)).toList ++ rest.map (rV G) := by
    rw [List.map_append]
    cases r1 <;> rfl
  rw [e9] at K
  obtain ⟨t2, c1, c2⟩ := K T' rfl X'
  exact ⟨t2, stp t2 c1, c2⟩
section CAL
variable {d : Nat} {M : MD} {pc pc' : Nat} {lv : LV} {rest as : List AV} {A : AHp} {Q : Option AV → AHp → Prop} {d' : Nat} {M' : MD} {n idx : Nat} {o : Int}
theorem st_rev {G : Gp} {as rest : List AV} : (as.reverse ++ rest).map (rV G) = (as.map (rV G)).reverse ++ rest.map (rV G) := by rw [List.map_append, List.map_reverse]
theorem aw_callS (hm : MOK M' n) (hst : Cond.static M'.1 ∈ TB) (hln : Cond.methodLink M.1.cls idx M'.1 ∈ TB) (hd : decode M.2.1 pc = .ok (.invokestatic idx, 3)) (hp : pc + 3 = pc') (hn1 : as.length = n) (hws : WSd rest) (hdd : d' + 1 ≤ d)
    (kk : CALL d' M' as A (fun r A1 => AW d M pc' lv (r.toList ++ rest) A1 Q)) : AW d M pc lv (as.reverse ++ rest) A Q := by
  subst hp
  refine AW.after kk (fun a ha => List.mem_append_right _ ha) (fun l G p e R s m args below meth c H locs ls C S mc ms r1 A1 hC hS hl9 hst9 hva h1 h2 hM => ?_)
  have hts := hC.2.2.2.2.2.1
  refine va_runS (As := as.map (rV G)) ⟨hC.1, hC.2.1, hC.2.2.1, hC.2.2.2.2.1, hts⟩ hM ⟨callB_of n hts (WSm_good hm.1) rfl rfl rfl (hts _ hm.2.1) (hts _ hln) ⟨hm.2.2.1, hm.2.2.2.1, hm.2.2.2.2.1⟩ (rm_ok hC hdd hm), hts _ hst⟩ ⟨ok_blind _ _ _, fun U hU hW => pcm_of hC.2.2.2.2.2.2.1 hS (fun a ha => hst9 a (List.mem_append_left _ (List.mem_reverse.mpr ha))) hva U hU hW⟩ rfl (by rw [List.length_map]; exact hn1) hl9.1 st_rev (ws_room hws) hd ⟨h1, h2⟩
theorem aw_callSN {host : String} (hm : MOK M' n) (hst : Cond.static M'.1 ∈ TB) (hln : Cond.methodLinkNest M.1.cls idx M'.1 host ∈ NWL) (hd : decode M.2.1 pc = .ok (.invokestatic idx, 3)) (hp : pc + 3 = pc') (hn1 : as.length = n) (hws : WSd rest) (hdd : d' + 1 ≤ d)
    (kk : CALL d' M' as A (fun r A1 => AW d M pc' lv (r.toList ++ rest) A1 Q)) : AW d M pc lv (as.reverse ++ rest) A Q := by
  subst hp
  refine AW.after kk (fun a ha => List.mem_append_right _ ha) (fun l G p e R s m args below meth c H locs ls C S mc ms r1 A1 hC hS hl9 hst9 hva h1 h2 hM => ?_)
  have hts := hC.2.2.2.2.2.1
  refine va_runSN (host := host) (As := as.map (rV G)) ⟨hC.1, hC.2.1, hC.2.2.1, hC.2.2.2.2.1, hts⟩ hM ⟨va_cnB n hts (WSm_good hm.1) rfl rfl rfl (hC.2.2.2.2.2.2.1.1.2.1 _ hln) (hts _ hm.2.1) ⟨hm.2.2.1, hm.2.2.2.1, hm.2.2.2.2.1⟩ (rm_ok hC hdd hm), hts _ hst, trivial⟩ ⟨ok_blind _ _ _, fun U hU hW => pcm_of hC.2.2.2.2.2.2.1 hS (fun a ha => hst9 a (List.mem_append_left _ (List.mem_reverse.mpr ha))) hva U hU hW⟩ rfl (by rw [List.length_map]; exact hn1) hl9.1 st_rev (ws_room hws) hd ⟨h1, h2⟩
theorem as_rev {o : Int} {as rest : List AV} {G : Gp} (h : 60 ≤ o) : (as.reverse ++ vr o :: rest).map (rV G) = (as.map (rV G)).reverse ++ .ref (rA G o) :: rest.map (rV G) := by
  rw [List.map_append, List.map_reverse, List.map_cons]
  show _ ++ rR G o :: _ = _
  rw [rR_dyn h]
theorem mem_as {o : Int} {as rest : List AV} {a : AV} (h : a ∈ vr o :: as) : a ∈ as.reverse ++ vr o :: rest := by
  rcases List.mem_cons.mp h with rfl | h
  · exact List.mem_append_right _ List.mem_cons_self
  · exact List.mem_append_left _ (List.mem_reverse.mpr h)
theorem recv {d : Nat} {M : MD} {G : Gp} {p : Program} {R : Room} {s : State} {m : MethodId} {args : Array Value} {meth : Method} {c : Code} {A : AHp} {H : Heap} {o : Int} {ci : Nat} (hC : CXd d M G p R s m args meth c) (hS : SIM G A H) (hO : isO A o (ci + 1)) (hci : ci < 12) : ∃ cell : Cell, H[rA G o]? = some cell ∧ cell.vm.isStatics = false ∧ s.vm.findClass (clC ci) = some cell.cls := by
  have hP := hS.at1 hO.1 hO.2.1
  rw [ent_obj hO.2.2 hci] at hP
  exact va_recv (q0 := 0) hC.2.2.2.2.2.2.1.1.1 hP (cl_at hci) rfl
theorem aw_callV {ci : Nat} (hci : ci < 12) (hcl : clC ci = M'.1.cls) (hm : MOK M' n) (hin : Cond.instanceMethod M'.1 ∈ TB) (hse : Cond.selects M'.1.cls M'.1 M'.1 ∈ TB) (hln : Cond.methodLink M.1.cls idx M'.1 ∈ TB) (hO : isO A o (ci + 1)) (hd : decode M.2.1 pc = .ok (.invokevirtual idx, 3)) (hp : pc + 3 = pc') (hn1 : as.length = n) (hws : WSd rest) (hdd : d' + 1 ≤ d)
    (kk : CALL d' M' (vr o :: as) A (fun r A1 => AW d M pc' lv (r.toList ++ rest) A1 Q)) : AW d M pc lv (as.reverse ++ vr o :: rest) A Q := by
  subst hp
  refine AW.after kk (fun a ha => List.mem_append_right _ (List.mem_cons_of_mem _ ha)) (fun l G p e R s m args below meth c H locs ls C S mc ms r1 A1 hC hS hl9 hst9 hva h1 h2 hM => ?_)
  have hts := hC.2.2.2.2.2.1
  have hrecv := recv hC hS hO hci
  rw [hcl] at hrecv
  have hP9 : ∀ U : State, U.heap = H → s.WarmedH U.vm → Pcm G (vr o :: as) A (Value.ref (rA G o) :: as.map (rV G)).toArray U := by
    intro U hU hW
    have := pcm_of (as := vr o :: as) hC.2.2.2.2.2.2.1 hS (fun a ha => hst9 a (mem_as ha)) hva U hU hW
    rw [List.map_cons] at this
    change Pcm G (vr o :: as) A (rR G o :: as.map (rV G)).toArray U at this
    rw [rR_dyn hO.1] at this
    exact this
  have hQ9 : Qcm G r1 A1 ((vr o :: as).map (rV G)).toArray = Qcm G r1 A1 (Value.ref (rA G o) :: as.map (rV G)).toArray := rfl
  rw [hQ9]
  refine va_runV (b := rA G o) (C := M'.1.cls) (As := as.map (rV G)) ⟨hC.1, hC.2.1, hC.2.2.1, hC.2.2.2.2.1, hts⟩ hM ⟨callB_of n hts (WSm_good hm.1) rfl rfl rfl (hts _ hm.2.1) (hts _ hln) ⟨hm.2.2.1, hm.2.2.2.1, hm.2.2.2.2.1⟩ (rm_ok hC hdd hm), hts _ hin, hts _ hse⟩ ⟨ok_blind _ _ _, hrecv, hP9⟩ rfl (by rw [List.length_map]; exact hn1) hl9.1 (as_rev hO.1) (ws_room hws) hd ⟨h1, h2⟩
theorem aw_callI (hret : M'.2.2.2 = none) (hm : MOK M' n) (hy : M'.1.name = "<init>") (hin : Cond.instanceMethod M'.1 ∈ TB) (hln : Cond.methodLink M.1.cls idx M'.1 ∈ TB) (ho60 : 60 ≤ o) (hd : decode M.2.1 pc = .ok (.invokespecial idx, 3)) (hp : pc + 3 = pc') (hn1 : as.length = n) (hws : WSd rest) (hdd : d' + 1 ≤ d)
    (kk : CALL d' M' (vr o :: as) A (fun r A1 => AW d M pc' lv (r.toList ++ rest) A1 Q)) : AW d M pc lv (as.reverse ++ vr o :: rest) A Q := by
  subst hp
  refine AW.after kk (fun a ha => List.mem_append_right _ (List.mem_cons_of_mem _ ha)) (fun l G p e R s m args below meth c H locs ls C S mc ms r1 A1 hC hS hl9 hst9 hva h1 h2 hM => ?_)
  have hts := hC.2.2.2.2.2.1
  have hP9 : ∀ U : State, U.heap = H → s.WarmedH U.vm → Pcm G (vr o :: as) A (Value.ref (rA G o) :: as.map (rV G)).toArray U := by
    intro U hU hW
    have := pcm_of (as := vr o :: as) hC.2.2.2.2.2.2.1 hS (fun a ha => hst9 a (mem_as ha)) hva U hU hW
    rw [List.map_cons] at this
    change Pcm G (vr o :: as) A (rR G o :: as.map (rV G)).toArray U at this
    rw [rR_dyn ho60] at this
    exact this
  have hQ9 : Qcm G r1 A1 ((vr o :: as).map (rV G)).toArray = Qcm G r1 A1 (Value.ref (rA G o) :: as.map (rV G)).toArray := rfl
  rw [hQ9]
  refine va_runI (b := rA G o) (bytes := M'.2.1) (maxL := M'.2.2.1) (As := as.map (rV G)) ⟨hC.1, hC.2.1, hC.2.2.1, hC.2.2.2.2.1, hts⟩ hM ⟨callB_of n hts (WSm_good hm.1) (by rw [← hret]; rfl) rfl rfl (hts _ hm.2.1) (hts _ hln) ⟨hm.2.2.1, hm.2.2.2.1, hm.2.2.2.2.1⟩ (rm_ok hC hdd hm), hy, hts _ hin⟩ ⟨ok_blind _ _ _, hP9⟩ rfl (by rw [List.length_map]; exact hn1) hl9.1 (as_rev ho60) (ws_room hws) hd ⟨h1, h2⟩
theorem aw_callIN {host : String} (hret : M'.2.2.2 = none) (hm : MOK M' n) (hy : M'.1.name = "<init>") (hin : Cond.instanceMethod M'.1 ∈ TB) (hln : Cond.methodLinkNest M.1.cls idx M'.1 host ∈ NWL) (ho60 : 60 ≤ o) (hd : decode M.2.1 pc = .ok (.invokespecial idx, 3)) (hp : pc + 3 = pc') (hn1 : as.length = n) (hws : WSd rest) (hdd : d' + 1 ≤ d)
    (kk : CALL d' M' (vr o :: as) A (fun r A1 => AW d M pc' lv (r.toList ++ rest) A1 Q)) : AW d M pc lv (as.reverse ++ vr o :: rest) A Q := by
  subst hp
  refine AW.after kk (fun a ha => List.mem_append_right _ (List.mem_cons_of_mem _ ha)) (fun l G p e R s m args below meth c H locs ls C S mc ms r1 A1 hC hS hl9 hst9 hva h1 h2 hM => ?_)
  have hts := hC.2.2.2.2.2.1
  have hP9 : ∀ U : State, U.heap = H → s.WarmedH U.vm → Pcm G (vr o :: as) A (Value.ref (rA G o) :: as.map (rV G)).toArray U := by
    intro U hU hW
    have := pcm_of (as := vr o :: as) hC.2.2.2.2.2.2.1 hS (fun a ha => hst9 a (mem_as ha)) hva U hU hW
    rw [List.map_cons] at this
    change Pcm G (vr o :: as) A (rR G o :: as.map (rV G)).toArray U at this
    rw [rR_dyn ho60] at this
    exact this
  have hQ9 : Qcm G r1 A1 ((vr o :: as).map (rV G)).toArray = Qcm G r1 A1 (Value.ref (rA G o) :: as.map (rV G)).toArray := rfl
  rw [hQ9]
  refine va_runIN (host := host) (b := rA G o) (bytes := M'.2.1) (maxL := M'.2.2.1) (As := as.map (rV G)) ⟨hC.1, hC.2.1, hC.2.2.1, hC.2.2.2.2.1, hts⟩ hM ⟨va_cnB n hts (WSm_good hm.1) (by rw [← hret]; rfl) rfl rfl (hC.2.2.2.2.2.2.1.1.2.1 _ hln) (hts _ hm.2.1) ⟨hm.2.2.1, hm.2.2.2.1, hm.2.2.2.2.1⟩ (rm_ok hC hdd hm), hy, hts _ hin⟩ ⟨ok_blind _ _ _, hP9⟩ rfl (by rw [List.length_map]; exact hn1) hl9.1 (as_rev ho60) (ws_room hws) hd ⟨h1, h2⟩
end CAL
end
section
/-! ===== rows of constants: statics, the words, their texts, the switch, the script; copies of arrays ===== -/
theorem SIM.putX {G : Gp} {A A' : AHp} {H H1 : Heap} (h : SIM G A H) {o : Int} (h1 : 60 ≤ o) (h2 : o < hn A) (hA2 : A'.2 = A.2) (hne : ∀ x k, x ≠ o → hv A' x k = hv A x k) (he : va_at (gD G) vwCl (rA G o, entE G A' o) H1) (z : H1.size = H.size)
    (oq : ∀ q : Nat, q ≠ rA G o → H1[q]? = H[q]?) (hok : ∀ k, 0 ≤ k → okS (hk A o) k (hv A' o k)) : SIM G A' H1 := by
  have g4 : hp A' = hp A := by unfold hp; rw [hA2]
  have g1 : hk A' = hk A := by unfold hk; rw [hA2]
  have g2 : hl A' = hl A := by unfold hl; rw [hA2]
  have g3 : hn A' = hn A := by unfold hn; rw [hA2]
  refine ⟨by rw [g3]; exact z.trans h.1, by rw [g3]; exact h.2.1, fun x hx1 hx2 => ?_, fun x hx1 hx2 j hj => ?_, fun e => ?_⟩
  · rw [g3] at hx2
    obtain ⟨a1, a2, a3, a4⟩ := h.2.2.1 x hx1 hx2
    refine ⟨by rw [g1]; exact a1, by rw [g2]; exact a2, by rw [g2]; exact a3, ?_⟩
    by_cases hxo : x = o
    · subst hxo
      exact he
    · rw [entE_same (A := A) (A' := A') (x := x) (by rw [g1]) (by rw [g2]) (fun k' => hne x k' hxo) (fun k' => by rw [g4])]
      exact a4.kept (oq _ (fun e => hxo (rA_inj hx1 h1 e)))
  · rw [g3] at hx2
    rw [g1, g4]
    refine ⟨?_, (h.2.2.2.1 x hx1 hx2 j hj).2⟩
    by_cases hxo : x = o
    · subst hxo
      exact hok j hj
    · rw [hne x j hxo]
      exact (h.2.2.2.1 x hx1 hx2 j hj).1
  · rw [g1] at e
    refine ⟨by rw [g2]; exact (h.2.2.2.2 e).1, fun i hi => by rw [hne 33 i (by omega)]; exact (h.2.2.2.2 e).2 i hi⟩
def hcpy (A : AHp) (s sp d dp n : Int) : AHp := (fun o' k' => if o' = d ∧ dp ≤ k' ∧ k' < dp + n then hv A s (sp + (k' - dp)) else hv A o' k', A.2)
theorem hv_cpy (A : AHp) (s sp d dp n o' k' : Int) : hv (hcpy A s sp d dp n) o' k' = if o' = d ∧ dp ≤ k' ∧ k' < dp + n then hv A s (sp + (k' - dp)) else hv A o' k' := rfl
theorem hk_cpy (A : AHp) (s sp d dp n : Int) : hk (hcpy A s sp d dp n) = hk A := rfl
theorem hl_cpy (A : AHp) (s sp d dp n : Int) : hl (hcpy A s sp d dp n) = hl A := rfl
theorem hn_cpy (A : AHp) (s sp d dp n : Int) : hn (hcpy A s sp d dp n) = hn A := rfl
theorem hp_cpy (A : AHp) (s sp d dp n : Int) : hp (hcpy A s sp d dp n) = hp A := rfl
theorem hs_cpy (A : AHp) (s sp d dp n : Int) : hs (hcpy A s sp d dp n) = hs A := rfl
theorem rR_st {G : Gp} {o : Int} (h0 : 0 < o) (h1 : o < 60) (h2 : o ≠ 34) : rR G o = .ref (gA G o.toNat) := by
  unfold rR rA
  rw [if_neg (by omega), if_pos h1]
section STA
variable {d : Nat} {M : MD} {pc pc' : Nat} {lv : LV} {st : List AV} {A : AHp} {Q : Option AV → AHp → Prop} {o i n x : Int} {idx : Nat}
theorem aw_gsW {j : Nat} (hj : j < 15) (hw : Cond.fieldLink M.1.cls idx RX11 (wdN.getD j "") "LShellLines$Word;" ∈ TB) (hd : decode M.2.1 pc = .ok (.getstatic idx, 3)) (hp : pc + 3 = pc') (kk : AW d M pc' lv (vr (1 + (j : Int)) :: st) A Q) : AW d M pc lv st A Q := by
  subst hp
  refine AW.pure (fun l G p e R s m args below meth c H locs ls C S Qr hC hS hl9 ho hst hva kk => ?_) kk
  have hE := hC.2.2.2.2.2.2.1.2.1.1
  have hZ := (hE.1 j (by show j < wdN.length; exact hj)).1
  have k1 := kk ls hl9 ho (okc trivial hst)
  change W p l e R s m args below meth c H locs C S Qr (F0 m (pc + 3) ls (rR G (1 + (j : Int)) :: st.map (rV G))) at k1
  rw [rR_st (by omega) (by omega) (by omega), show (1 + (j : Int)).toNat = 1 + j by omega] at k1
  exact va_gets hC.1 hC.2.1 hZ hva hC.2.2.2.2.1 (hC.2.2.2.2.2.1 _ hw) (fun _ h => h) hd k1
theorem aw_gsV (hw : Cond.fieldLink M.1.cls idx RX11 "$VALUES" "[LShellLines$Word;" ∈ TB) (hd : decode M.2.1 pc = .ok (.getstatic idx, 3)) (hp : pc + 3 = pc') (kk : AW d M pc' lv (vr 32 :: st) A Q) : AW d M pc lv st A Q := by
  subst hp
  refine AW.pure (fun l G p e R s m args below meth c H locs ls C S Qr hC hS hl9 ho hst hva kk => ?_) kk
  have hZ := hC.2.2.2.2.2.2.1.2.2.1.1
  have k1 := kk ls hl9 ho (okc trivial hst)
  change W p l e R s m args below meth c H locs C S Qr (F0 m (pc + 3) ls (rR G 32 :: st.map (rV G))) at k1
  rw [rR_st (by omega) (by omega) (by omega)] at k1
  exact va_gets hC.1 hC.2.1 hZ hva hC.2.2.2.2.1 (hC.2.2.2.2.2.1 _ hw) (fun _ h => h) hd k1
theorem aw_gsS (hw : Cond.fieldLink M.1.cls idx RX0 "$SwitchMap$ShellLines$Word" "[I" ∈ TB) (hd : decode M.2.1 pc = .ok (.getstatic idx, 3)) (hp : pc + 3 = pc') (kk : AW d M pc' lv (vr 31 :: st) A Q) : AW d M pc lv st A Q := by
  subst hp
  refine AW.pure (fun l G p e R s m args below meth c H locs ls C S Qr hC hS hl9 ho hst hva kk => ?_) kk
  have hZ := hC.2.2.2.2.2.2.1.2.2.1.2.2.1
  have k1 := kk ls hl9 ho (okc trivial hst)
  change W p l e R s m args below meth c H locs C S Qr (F0 m (pc + 3) ls (rR G 31 :: st.map (rV G))) at k1
  rw [rR_st (by omega) (by omega) (by omega)] at k1
  exact va_gets hC.1 hC.2.1 hZ hva hC.2.2.2.2.1 (hC.2.2.2.2.2.1 _ hw) (fun _ h => h) hd k1
theorem aw_gsC (hw : Cond.fieldLink M.1.cls idx "java/lang/String" "COMPACT_STRINGS" "Z" ∈ TB) (hd : decode M.2.1 pc = .ok (.getstatic idx, 3)) (hp : pc + 3 = pc') (kk : AW d M pc' lv (vi 1 :: st) A Q) : AW d M pc lv st A Q := by
  subst hp
  refine AW.pure (fun l G p e R s m args below meth c H locs ls C S Qr hC hS hl9 ho hst hva kk => ?_) kk
  have hZ := hC.2.2.2.2.2.2.1.2.2.2.1
  exact va_gets hC.1 hC.2.1 hZ hva hC.2.2.2.2.1 (hC.2.2.2.2.2.1 _ hw) (fun _ h => h) hd (kk ls hl9 ho (okc (by show in32 1; decide) hst))
theorem aw_gsF (hw : Cond.fieldLink M.1.cls idx "jdk/internal/util/Preconditions" "SIOOBE_FORMATTER" "Ljava/util/function/BiFunction;" ∈ TB) (hd : decode M.2.1 pc = .ok (.getstatic idx, 3)) (hp : pc + 3 = pc') (kk : AW d M pc' lv (vr 34 :: st) A Q) : AW d M pc lv st A Q := by
  subst hp
  refine AW.pure (fun l G p e R s m args below meth c H locs ls C S Qr hC hS hl9 ho hst hva kk => ?_) kk
  have hZ := hC.2.2.2.2.2.2.1.2.2.2.2.1
  exact va_gets hC.1 hC.2.1 hZ hva hC.2.2.2.2.1 (hC.2.2.2.2.2.1 _ hw) (fun _ h => h) hd (kk ls hl9 ho (okc trivial hst))
/-- a word's field of ints -/
theorem wd_get {q : String × String × String × List Int32} {v : Int} (hq : q ∈ wdFl) (h1 : 1 ≤ o) (h2 : o ≤ 15) (hv1 : q.2.2.2.getD (o - 1).toNat 0 = Int32.ofInt v) (hv2 : in32 v) (hw : Cond.fieldLink M.1.cls idx q.1 q.2.1 q.2.2.1 ∈ TB) (hd : decode M.2.1 pc = .ok (.getfield idx, 3)) (hp : pc + 3 = pc') (kk : AW d M pc' lv (vi v :: st) A Q) : AW d M pc lv (vr o :: st) A Q := by
  subst hp
  refine AW.pure (fun l G p e R s m args below meth c H locs ls C S Qr hC hS hl9 ho hst hva kk => ?_) kk
  have hE := hC.2.2.2.2.2.2.1.2.1.1
  have k1 := kk ls hl9 ho (okc hv2 (okt hst))
  change W p l e R s m args below meth c H locs C S Qr (F0 m (pc + 3) ls (.int (Int32.ofInt v) :: st.map (rV G))) at k1
  rw [← hv1] at k1
  change W p l e R s m args below meth c H locs C S Qr (F0 m pc ls (rR G o :: st.map (rV G)))
  rw [rR_st (by omega) (by omega) (by omega), show o.toNat = 1 + (o - 1).toNat by omega]
  exact va_getE (E := RX11) (d := "LShellLines$Word;") (nm := wdN) (ad := fun j => gA G (1 + j)) (i := (o - 1).toNat) hC.1 hC.2.1 hE (show (o - 1).toNat < wdN.length by show _ < 15; omega) hva hC.2.2.2.2.1 hq (hC.2.2.2.2.2.1 _ hw) (fun _ h => h) hd k1
theorem lst_in {l : List Int} (h : ∀ a ∈ l, in32 a) (k : Nat) : in32 (l.getD k 0) := by
  rw [List.getD_eq_getElem?_getD]
  cases e : l[k]? with
  | none => decide
  | some a => exact h a (List.mem_of_getElem? e)
theorem lst_map (l : List Int) (k : Nat) : (l.map Int32.ofInt).getD k 0 = Int32.ofInt (l.getD k 0) := by
  rw [List.getD_eq_getElem?_getD, List.getD_eq_getElem?_getD, List.getElem?_map]
  cases l[k]? <;> rfl
def wLeast (o : Int) : Int := wdL.getD (o - 1).toNat 0
def wMost (o : Int) : Int := wdM.getD (o - 1).toNat 0
def wFun (o : Int) : Int := wdF.getD (o - 1).toNat 0
theorem aw_wLeast (h1 : 1 ≤ o) (h2 : o ≤ 15) (hw : Cond.fieldLink M.1.cls idx RX11 "least" "I" ∈ TB) (hd : decode M.2.1 pc = .ok (.getfield idx, 3)) (hp : pc + 3 = pc') (kk : AW d M pc' lv (vi (wLeast o) :: st) A Q) : AW d M pc lv (vr o :: st) A Q :=
  wd_get (q := (RX11, "least", "I", wdL.map Int32.ofInt)) (by simp [wdFl]) h1 h2 (lst_map _ _) (lst_in (by decide) _) hw hd hp kk
theorem aw_wMost (h1 : 1 ≤ o) (h2 : o ≤ 15) (hw : Cond.fieldLink M.1.cls idx RX11 "most" "I" ∈ TB) (hd : decode M.2.1 pc = .ok (.getfield idx, 3)) (hp : pc + 3 = pc') (kk : AW d M pc' lv (vi (wMost o) :: st) A Q) : AW d M pc lv (vr o :: st) A Q :=
  wd_get (q := (RX11, "most", "I", wdM.map Int32.ofInt)) (by simp [wdFl]) h1 h2 (lst_map _ _) (lst_in (by decide) _) hw hd hp kk
theorem aw_wFun (h1 : 1 ≤ o) (h2 : o ≤ 15) (hw : Cond.fieldLink M.1.cls idx RX11 "function" "I" ∈ TB) (hd : decode M.2.1 pc = .ok (.getfield idx, 3)) (hp : pc + 3 = pc') (kk : AW d M pc' lv (vi (wFun o) :: st) A Q) : AW d M pc lv (vr o :: st) A Q :=
  wd_get (q := (RX11, "function", "I", wdF.map Int32.ofInt)) (by simp [wdFl]) h1 h2 (lst_map _ _) (lst_in (by decide) _) hw hd hp kk
theorem ord_at : ∀ k, k < 15 → ([0, 1, 2, 3, 4, 5, 6, 7, 8, 9, 10, 11, 12, 13, 14] : List Int32).getD k 0 = Int32.ofInt k := by decide +kernel
theorem aw_wOrd (h1 : 1 ≤ o) (h2 : o ≤ 15) (hw : Cond.fieldLink M.1.cls idx "java/lang/Enum" "ordinal" "I" ∈ TB) (hd : decode M.2.1 pc = .ok (.getfield idx, 3)) (hp : pc + 3 = pc') (kk : AW d M pc' lv (vi (o - 1) :: st) A Q) : AW d M pc lv (vr o :: st) A Q :=
  wd_get (q := ("java/lang/Enum", "ordinal", "I", [0, 1, 2, 3, 4, 5, 6, 7, 8, 9, 10, 11, 12, 13, 14])) (by simp [wdFl]) h1 h2 (by rw [ord_at _ (by omega)]; congr 1; omega) (by unfold in32; omega) hw hd hp kk
theorem aw_wText (h1 : 1 ≤ o) (h2 : o ≤ 15) (hw : Cond.fieldLink M.1.cls idx RX11 "text" "Ljava/lang/String;" ∈ TB) (hd : decode M.2.1 pc = .ok (.getfield idx, 3)) (hp : pc + 3 = pc') (kk : AW d M pc' lv (vr (o + 15) :: st) A Q) : AW d M pc lv (vr o :: st) A Q := by
  subst hp
  refine AW.pure (fun l G p e R s m args below meth c H locs ls C S Qr hC hS hl9 ho hst hva kk => ?_) kk
  have hE := hC.2.2.2.2.2.2.1.2.1.2.1
  have k1 := kk ls hl9 ho (okc trivial (okt hst))
  change W p l e R s m args below meth c H locs C S Qr (F0 m (pc + 3) ls (rR G (o + 15) :: st.map (rV G))) at k1
  rw [rR_st (by omega) (by omega) (by omega), show (o + 15).toNat = 16 + (o - 1).toNat by omega] at k1
  change W p l e R s m args below meth c H locs C S Qr (F0 m pc ls (rR G o :: st.map (rV G)))
  rw [rR_st (by omega) (by omega) (by omega), show o.toNat = 1 + (o - 1).toNat by omega]
  exact va_getX (N := 15) (v := fun j => .ref (gA G (16 + j))) (ad := fun j => gA G (1 + j)) hC.1 hC.2.1 hE (show (o - 1).toNat < 15 by omega) hva hC.2.2.2.2.1 (hC.2.2.2.2.2.1 _ hw) (fun _ h => h) hd k1
theorem aw_sVal (h1 : 16 ≤ o) (h2 : o ≤ 30) (hw : Cond.fieldLink M.1.cls idx "java/lang/String" "value" "[B" ∈ TB) (hd : decode M.2.1 pc = .ok (.getfield idx, 3)) (hp : pc + 3 = pc') (kk : AW d M pc' lv (vr (o + 25) :: st) A Q) : AW d M pc lv (vr o :: st) A Q := by
  subst hp
  refine AW.pure (fun l G p e R s m args below meth c H locs ls C S Qr hC hS hl9 ho hst hva kk => ?_) kk
  have hE := (hC.2.2.2.2.2.2.1.2.1.2.2.1 (o - 16).toNat (by omega)).2.2.1
  have k1 := kk ls hl9 ho (okc trivial (okt hst))
  change W p l e R s m args below meth c H locs C S Qr (F0 m (pc + 3) ls (rR G (o + 25) :: st.map (rV G))) at k1
  rw [rR_st (by omega) (by omega) (by omega), show (o + 25).toNat = 41 + (o - 16).toNat by omega] at k1
  change W p l e R s m args below meth c H locs C S Qr (F0 m pc ls (rR G o :: st.map (rV G)))
  rw [rR_st (by omega) (by omega) (by omega), show o.toNat = 16 + (o - 16).toNat by omega]
  exact vk_getf hC.1 hC.2.1 hE hva hC.2.2.2.2.1 (hC.2.2.2.2.2.1 _ hw) (fun _ h => h) hd k1
theorem aw_sCod (h1 : 16 ≤ o) (h2 : o ≤ 30) (hw : Cond.fieldLink M.1.cls idx "java/lang/String" "coder" "B" ∈ TB) (hd : decode M.2.1 pc = .ok (.getfield idx, 3)) (hp : pc + 3 = pc') (kk : AW d M pc' lv (vi 0 :: st) A Q) : AW d M pc lv (vr o :: st) A Q := by
  subst hp
  refine AW.pure (fun l G p e R s m args below meth c H locs ls C S Qr hC hS hl9 ho hst hva kk => ?_) kk
  have hE := (hC.2.2.2.2.2.2.1.2.1.2.2.1 (o - 16).toNat (by omega)).2.1
  change W p l e R s m args below meth c H locs C S Qr (F0 m pc ls (rR G o :: st.map (rV G)))
  rw [rR_st (by omega) (by omega) (by omega), show o.toNat = 16 + (o - 16).toNat by omega]
  exact vk_getf hC.1 hC.2.1 hE hva hC.2.2.2.2.1 (hC.2.2.2.2.2.1 _ hw) (fun _ h => h) hd (kk ls hl9 ho (okc (by show in32 0; decide) (okt hst)))
/-- how long a word's text is (by the address of its bytes, or of itself less 25) -/
def sLen (k : Nat) : Nat := txL.getD k 0
def sChr (k : Nat) (i : Int) : Int := (txB.getD k []).getD i.toNat 0
theorem aw_sLen (h1 : 41 ≤ o) (h2 : o ≤ 55) (hd : decode M.2.1 pc = .ok (.arraylength, 1)) (hp : pc + 1 = pc') (kk : AW d M pc' lv (vi (sLen (o - 41).toNat) :: st) A Q) : AW d M pc lv (vr o :: st) A Q := by
  subst hp
  refine AW.pure (fun l G p e R s m args below meth c H locs ls C S Qr hC hS hl9 ho hst hva kk => ?_) kk
  have hE := (hC.2.2.2.2.2.2.1.2.1.2.2.1 (o - 41).toNat (by omega)).2.2.2
  change W p l e R s m args below meth c H locs C S Qr (F0 m pc ls (rR G o :: st.map (rV G)))
  rw [rR_st (by omega) (by omega) (by omega), show o.toNat = 41 + (o - 41).toNat by omega]
  have hb : ∀ k, k < 15 → sLen k < 10 := by decide
  refine va_tlen hC.1 hC.2.1 hE hva (v := Int32.ofInt (sLen (o - 41).toNat)) rfl hd (kk ls hl9 ho (okc ?_ (okt hst)))
  have := hb (o - 41).toNat (by omega)
  show in32 _
  unfold in32
  omega
theorem chr_in : ∀ k, k < 15 → ∀ i, i < 10 → in32 ((txB.getD k []).getD i 0) := by decide
theorem aw_sChr (h1 : 41 ≤ o) (h2 : o ≤ 55) (h0 : 0 ≤ i) (hi1 : i < sLen (o - 41).toNat) (hd : decode M.2.1 pc = .ok (.baload, 1)) (hp : pc + 1 = pc') (kk : AW d M pc' lv (vi (sChr (o - 41).toNat i) :: st) A Q) : AW d M pc lv (vi i :: vr o :: st) A Q := by
  subst hp
  refine AW.pure (fun l G p e R s m args below meth c H locs ls C S Qr hC hS hl9 ho hst hva kk => ?_) kk
  have hE := (hC.2.2.2.2.2.2.1.2.1.2.2.1 (o - 41).toNat (by omega)).2.2.2
  have hi : in32 i := okh hst
  have hb : ∀ k, k < 15 → sLen k < 10 := by decide
  have hb1 := hb (o - 41).toNat (by omega)
  change W p l e R s m args below meth c H locs C S Qr (F0 m pc ls (.int (Int32.ofInt i) :: rR G o :: st.map (rV G)))
  rw [rR_st (by omega) (by omega) (by omega), show o.toNat = 41 + (o - 41).toNat by omega]
  refine va_tb hC.1 hC.2.1 hE hva (v := .int (Int32.ofInt (sChr (o - 41).toNat i))) ?_ ?_ hd (kk ls hl9 ho (okc (chr_in _ (by omega) _ (by omega)) (okt (okt hst))))
  · have := vp_of (n := sLen (o - 41).toNat) hi h0 hi1
    exact this
  · show Value.int (((txB.map fun l => l.map Int32.ofInt).getD (o - 41).toNat []).getD _ 0) = _
    rw [i32_n hi]
    have e1 : (txB.map fun l => l.map Int32.ofInt).getD (o - 41).toNat [] = (txB.getD (o - 41).toNat []).map Int32.ofInt := by
      rw [List.getD_eq_getElem?_getD, List.getD_eq_getElem?_getD, List.getElem?_map]
      cases txB[(o - 41).toNat]? <;> rfl
    rw [e1, lst_map]
    rfl
theorem aw_sw (h0 : 0 ≤ i) (h1 : i < 15) (hd : decode M.2.1 pc = .ok (.iaload, 1)) (hp : pc + 1 = pc') (kk : AW d M pc' lv (vi (swL.getD i.toNat 0) :: st) A Q) : AW d M pc lv (vi i :: vr 31 :: st) A Q := by
  subst hp
  refine AW.pure (fun l G p e R s m args below meth c H locs ls C S Qr hC hS hl9 ho hst hva kk => ?_) kk
  have hT := hC.2.2.2.2.2.2.1.2.2.1.2.2.2
  have hi : in32 i := okh hst
  change W p l e R s m args below meth c H locs C S Qr (F0 m pc ls (.int (Int32.ofInt i) :: rR G 31 :: st.map (rV G)))
  rw [rR_st (by omega) (by omega) (by omega)]
  refine va_ti hC.1 hC.2.1 hT hva (v := .int (Int32.ofInt (swL.getD i.toNat 0))) ?_ (by rw [i32_n hi]) hd (kk ls hl9 ho (okc (lst_in (by decide) _) (okt (okt hst))))
  exact vp_of (n := 15) hi h0 h1
theorem aw_scrL (hk33 : hk A 33 = 62) (hd : decode M.2.1 pc = .ok (.arraylength, 1)) (hp : pc + 1 = pc') (kk : AW d M pc' lv (vi (hl A 33) :: st) A Q) : AW d M pc lv (vr 33 :: st) A Q := by
  subst hp
  refine AW.pure (fun l G p e R s m args below meth c H locs ls C S Qr hC hS hl9 ho hst hva kk => ?_) kk
  have hT := hC.2.2.2.2.2.2.1.2.2.2.2.2.1
  have hL := hC.2.2.2.2.2.2.1.2.2.2.2.2.2
  have hq := (hS.2.2.2.2 hk33).1
  change W p l e R s m args below meth c H locs C S Qr (F0 m pc ls (rR G 33 :: st.map (rV G)))
  rw [rR_st (by omega) (by omega) (by omega)]
  refine va_tlen hC.1 hC.2.1 hT hva (v := Int32.ofInt (hl A 33)) (by rw [hq]; rfl) hd (kk ls hl9 ho (okc ?_ (okt hst)))
  show in32 _
  rw [hq]
  unfold in32
  omega
theorem aw_scr (hk33 : hk A 33 = 62) (h0 : 0 ≤ i) (h1 : i < hl A 33) (hd : decode M.2.1 pc = .ok (.iaload, 1)) (hp : pc + 1 = pc') (kk : AW d M pc' lv (vi (hv A 33 i) :: st) A Q) : AW d M pc lv (vi i :: vr 33 :: st) A Q := by
  subst hp
  refine AW.pure (fun l G p e R s m args below meth c H locs ls C S Qr hC hS hl9 ho hst hva kk => ?_) kk
  have hT := hC.2.2.2.2.2.2.1.2.2.2.2.2.1
  have hi : in32 i := okh hst
  obtain ⟨hq, hx⟩ := hS.2.2.2.2 hk33
  have hx1 := hx i.toNat (by omega)
  rw [toNat_c h0] at hx1
  change W p l e R s m args below meth c H locs C S Qr (F0 m pc ls (.int (Int32.ofInt i) :: rR G 33 :: st.map (rV G)))
  rw [rR_st (by omega) (by omega) (by omega)]
  refine va_ti hC.1 hC.2.1 hT hva (v := .int (Int32.ofInt (hv A 33 i))) ?_ (by rw [i32_n hi, hx1, i32_of]) hd (kk ls hl9 ho (okc (by show in32 _; rw [hx1]; exact i32_in _) (okt (okt hst))))
  have := vp_of (n := gL G) hi h0 (by omega)
  exact this
end STA
end
section
/-! ===== copies, the clone of the row of words, casts, shifts of ints, JDK's little ones ===== -/
section CPY
variable {d : Nat} {M : MD} {pc pc' : Nat} {lv : LV} {st : List AV} {A : AHp} {Q : Option AV → AHp → Prop} {o i n x : Int} {idx : Nat}
def CPW (own : String) (idx : Nat) : Prop := Cond.methodLink own idx arraycopyName ∈ TB ∧ Cond.native arraycopyName ∈ TB ∧ Cond.static arraycopyName ∈ TB ∧ Cond.initialized "java/lang/System" ∈ TB
theorem i_nn {z : Int} (h0 : 0 ≤ z) (h : in32 z) : ¬ Int32.ofInt z < 0 := by rw [i32_0, i32_lt h (by decide)]; omega
theorem aw_copy {kd t0 : Nat} {ty : FieldType} {o1 sp dp n0 n1 : Int} (ht : ∀ G, (tysL G)[t0]? = some (gC G kd, ty)) (hkd : (kd = 20 ∧ ty = .int) ∨ (kd = 21 ∧ ty = .long)) (hw : CPW M.1.cls idx) (hd1 : 2 ≤ d) (hws : WSd st)
    (hd : decode M.2.1 pc = .ok (.invokestatic idx, 3)) (hp : pc + 3 = pc') (hO : isA A o kd n0) (hO1 : isA A o1 kd n1) (h1 : 0 ≤ sp) (h2 : 0 ≤ dp) (h3 : 0 ≤ n) (h4 : sp + n ≤ n0) (h5 : dp + n ≤ n1)
    (kk : AW d M pc' lv st (hcpy A o sp o1 dp n) Q) : AW d M pc lv (vi n :: vi dp :: vr o1 :: vi sp :: vr o :: st) A Q := by
  subst hp
  refine AW.wr (A1 := hcpy A o sp o1 dp n) rfl rfl (fun l G p e R s m args below meth c H locs ls C S Qr hC hS hl9 ho hst hva kk => ?_) kk
  have hn9 : in32 n := okh hst
  have hdp : in32 dp := okh (okt hst)
  have hsp : in32 sp := okh (okt (okt (okt hst)))
  change W p l e R s m args below meth c H locs C S Qr (F0 m pc ls (.int (Int32.ofInt n) :: .int (Int32.ofInt dp) :: rR G o1 :: .int (Int32.ofInt sp) :: rR G o :: st.map (rV G)))
  rw [rR_dyn hO.1, rR_dyn hO1.1]
  have hts := hC.2.2.2.2.2.1
  obtain ⟨-, b0, b1, b2⟩ := hS.2.2.1 o hO.1 hO.2.1
  obtain ⟨-, c0, c1, c2⟩ := hS.2.2.1 o1 hO1.1 hO1.2.1
  rw [hO.2.2.2] at b0 b1
  rw [hO1.2.2.2] at c0 c1
  have hcat : ((st.map (rV G)).map fun v => v.category).sum ≤ 8 := by
    have e : (st.map (rV G)).map (fun v => v.category) = st.map acat := by
      rw [List.map_map]
      apply List.map_congr_left
      intro a _
      exact rV_cat G a
    rw [e]
    exact hws
  have nn : ∀ z : Int, 0 ≤ z → in32 z → ((Int32.ofInt z).toInt = z) := fun z _ h => i32_t h
  obtain ⟨mkv, e0, e1, r0, r1, rlong⟩ : ∃ mkv : Int → Value, entE G A o = .inl (gC G kd, n0.toNat, (if kd = 21 then .inr (.inl fun j => Int64.ofInt (hv A o j)) else .inl fun j => Int32.ofInt (hv A o j))) ∧ entE G A o1 = .inl (gC G kd, n1.toNat, (if kd = 21 then .inr (.inl fun j => Int64.ofInt (hv A o1 j)) else .inl fun j => Int32.ofInt (hv A o1 j))) ∧
      H[rA G o]? = some (arrV (gC G kd) n0.toNat (fun j => mkv (hv A o j))) ∧ H[rA G o1]? = some (arrV (gC G kd) n1.toNat (fun j => mkv (hv A o1 j))) ∧
      ((∀ z, fits ty (mkv z) = true) ∧ (∀ (U : State) (cm : ClassId) (z : Int), U.takes cm (mkv z)) ∧ ∀ H1 : Heap, H1[rA G o1]? = some (arrV (gC G kd) n1.toNat (fun j => mkv (hv (hcpy A o sp o1 dp n) o1 j))) → va_at (gD G) vwCl (rA G o1, entE G (hcpy A o sp o1 dp n) o1) H1) := by
    rcases hkd with ⟨rfl, rfl⟩ | ⟨rfl, rfl⟩
    · have q0 := ent_int (G := G) (A := A) (o := o) hO.2.2.1 (Or.inl rfl)
      have q1 := ent_int (G := G) (A := A) (o := o1) hO1.2.2.1 (Or.inl rfl)
      rw [hO.2.2.2] at q0
      rw [hO1.2.2.2] at q1
      refine ⟨fun z => .int (Int32.ofInt z), q0, q1, ?_, ?_, fun z => rfl, fun U cm z => trivial, fun H1 h => ?_⟩
      · rw [q0] at b2
        exact b2
      · rw [q1] at c2
        exact c2
      · rw [ent_int (A := hcpy A o sp o1 dp n) (o := o1) (kd := 20) (by rw [hk_cpy]; exact hO1.2.2.1) (Or.inl rfl)]
        show H1[rA G o1]? = some (vp_cell _ _)
        rw [h, hl_cpy, hO1.2.2.2, vp_cell_i]
    · have q0 := ent_long (G := G) (A := A) (o := o) hO.2.2.1
      have q1 := ent_long (G := G) (A := A) (o := o1) hO1.2.2.1
      rw [hO.2.2.2] at q0
      rw [hO1.2.2.2] at q1
      refine ⟨fun z => .long (Int64.ofInt z), q0, q1, ?_, ?_, fun z => rfl, fun U cm z => trivial, fun H1 h => ?_⟩
      · rw [q0] at b2
        exact b2
      · rw [q1] at c2
        exact c2
      · rw [ent_long (A := hcpy A o sp o1 dp n) (o := o1) (by rw [hk_cpy]; exact hO1.2.2.1)]
        show H1[rA G o1]? = some (vp_cell _ _)
        rw [h, hl_cpy, hO1.2.2.2, vp_cell_l]
  obtain ⟨hfits, hnr, hfin⟩ := rlong
  intro T hT X
  obtain ⟨-, k0, hk0, cm0, hkk0⟩ := (hC.2.2.2.2.2.2.1.1.1.2 t0 _ (ht G)).1 n0.toNat (fun j => mkv (hv A o j))
  obtain ⟨-, k1, hk1, cm1, hkk1⟩ := (hC.2.2.2.2.2.2.1.1.1.2 t0 _ (ht G)).1 n1.toNat (fun j => mkv (hv A o1 j))
  have hprim : refKind ty = false := by rcases hkd with ⟨-, rfl⟩ | ⟨-, rfl⟩ <;> rfl
  obtain ⟨vm', X', step⟩ := X.arraycopy hC.1 hC.2.2.2.2.1 (hts _ hw.1) (hts _ hw.2.1) (hts _ hw.2.2.1) (hts _ hw.2.2.2) (src := rA G o) (dst := rA G o1) (cs := arrV (gC G kd) n0.toNat (fun j => mkv (hv A o j))) (cd := arrV (gC G kd) n1.toNat (fun j => mkv (hv A o1 j))) (srcPos := Int32.ofInt sp) (destPos := Int32.ofInt dp) (n := Int32.ofInt n) (by rw [hT]; exact r0) (by rw [hT]; exact r1)
    (fun _ h => by cases h) (fun _ h => by cases h) (fun h => by cases h) (fun h => by cases h) hk0 hk1 hkk0 hkk1 (by simp [hprim]) (i_nn h1 hsp) (i_nn h2 hdp) (i_nn h3 hn9)
    (by rw [i32_t hsp, i32_t hn9, arrV_size]; omega)
    (by rw [i32_t hdp, i32_t hn9, arrV_size]; omega)
    (fun vm₁ _ i hi => by
      have e : (arrV (gC G kd) n0.toNat (fun j => mkv (hv A o j))).slots.getD ((Int32.ofInt sp).toNatClampNeg + i) .null = mkv (hv A o ((Int32.ofInt sp).toNatClampNeg + i : Nat)) := by
        rw [i32_n hn9] at hi
        rw [Array.getD_eq_getD_getElem?, arrV_read _ _ (by rw [i32_n hsp]; omega)]
        rfl
      refine ⟨?_, ?_⟩
      · rw [e]
        exact hfits _
      · rw [e]
        exact hnr _ _ _)
    (g := F0 m pc ls (.int (Int32.ofInt n) :: .int (Int32.ofInt dp) :: .ref (rA G o1) :: .int (Int32.ofInt sp) :: .ref (rA G o) :: st.map (rV G))) rfl (by rw [hC.2.2.1]; exact hl9.1) (rest := st.map (rV G)) rfl (by rw [hC.2.1]; exact hd) (by have := hC.2.2.2.2.2.2.2.1; omega)
    (by
      have q1 := hC.2.2.2.2.2.2.2.2.1
      have q2 : nativeFrameWords "java/lang/System" "arraycopy" 5 + 11 ≤ 60 := by decide
      show 2 * 0 + _ + _ ≤ _
      omega)
  have e9 : copied (arrV (gC G kd) n0.toNat (fun j => mkv (hv A o j))) (arrV (gC G kd) n1.toNat (fun j => mkv (hv A o1 j))) (Int32.ofInt sp) (Int32.ofInt dp) (Int32.ofInt n) = arrV (gC G kd) n1.toNat (fun j => mkv (hv (hcpy A o sp o1 dp n) o1 j)) := by
    have := va_copied (fun z => mkv z) (gC G kd) (gC G kd) (n0 := n0.toNat) (n1 := n1.toNat) (sp := sp.toNat) (dp := dp.toNat) (n := n.toNat) (fun j => hv A o j) (fun j => hv A o1 j) (by omega)
    show (arrV _ _ _).storeRun (Int32.ofInt dp).toNatClampNeg ((arrV _ _ _).stretch (Int32.ofInt sp).toNatClampNeg (Int32.ofInt n).toNatClampNeg) = _
    rw [i32_n hdp, i32_n hsp, i32_n hn9, this]
    congr 1
    funext j
    congr 1
    rw [hv_cpy]
    unfold va_cpy
    by_cases q : dp.toNat ≤ j ∧ j < dp.toNat + n.toNat
    · rw [if_pos q, if_pos ⟨rfl, by omega, by omega⟩]
      show hv A o ((sp.toNat + (j - dp.toNat) : Nat) : Int) = hv A o (sp + ((j : Int) - dp))
      congr 1
      omega
    · rw [if_neg q, if_neg (by omega)]
  rw [e9] at X' step
  have hl8 : rA G o1 < H.size := (Array.getElem?_eq_some_iff.mp r1).1
  generalize hNew : arrV (gC G kd) n1.toNat (fun j => mkv (hv (hcpy A o sp o1 dp n) o1 j)) = cnew at X' step hfin
  have hheap : ((T.setVm vm').setCell (rA G o1) cnew).heap = H.setIfInBounds (rA G o1) cnew := by rw [← hT]; rfl
  have oq : ∀ q : Nat, q ≠ rA G o1 → (H.setIfInBounds (rA G o1) cnew)[q]? = H[q]? := fun q hq => by simp [Array.getElem?_setIfInBounds, Ne.symm hq]
  have hokx : ∀ k, 0 ≤ k → okS (hk A o1) k (hv (hcpy A o sp o1 dp n) o1 k) := by
    intro k hk9
    rw [hv_cpy]
    split
    · next q =>
      have := (hS.2.2.2.1 o hO.1 hO.2.1 (sp + (k - dp)) (by omega)).1
      rw [hO.2.2.1] at this
      rw [hO1.2.2.1]
      rcases hkd with ⟨rfl, -⟩ | ⟨rfl, -⟩
      · have h9 := okS_20 this
        unfold okS
        rw [if_pos rfl]
        exact h9
      · have h9 := okS_21 this
        unfold okS
        rw [if_neg (by omega), if_pos rfl]
        exact h9
    · exact (hS.2.2.2.1 o1 hO1.1 hO1.2.1 k hk9).1
  obtain ⟨t, a1, b9⟩ := kk _ _ (hS.putX (A' := hcpy A o sp o1 dp n) hO1.1 hO1.2.1 rfl (fun x k hx => by rw [hv_cpy, if_neg (fun q => hx q.1)]) (hfin _ (by simp [Array.getElem?_setIfInBounds, hl8])) (by simp) oq hokx) ⟨by simp; exact hva.1, fun q g1 g2 => by
      rw [oq q (fun e => g2 (by rw [e]; exact frA_dyn hO1.1))]
      exact hva.2.1 q g1 g2, fun q hq => by
      rcases List.mem_append.mp hq with h | h
      · exact hva.2.2 q h
      · obtain ⟨z, -, hz⟩ := List.mem_map.mp h
        rw [← hz]
        exact frA_dyn hO1.1⟩ (okt (okt (okt (okt (okt hst))))) _ hheap X'
  exact ⟨t, step t a1, b9⟩
end CPY
end
section
/-! ===== the clone of the row of words, the cast behind it, rows of texts, receivers that are constants ===== -/
section MSC
variable {d : Nat} {M : MD} {pc pc' : Nat} {lv : LV} {st rest as : List AV} {A : AHp} {Q : Option AV → AHp → Prop} {o i n x : Int} {idx : Nat} {d' : Nat} {M' : MD} {nn : Nat}
theorem lv_cats {G : Gp} (h : WSd st) : ((st.map (rV G)).map fun v => v.category).sum ≤ 8 := by
  have e : (st.map (rV G)).map (fun v => v.category) = st.map acat := by
    rw [List.map_map]
    apply List.map_congr_left
    intro a _
    exact rV_cat G a
  rw [e]
  exact h
theorem aw_ishr0 (h0 : 0 ≤ x) (h1 : x < 100) (hd : decode M.2.1 pc = .ok (.ishr, 1)) (hp : pc + 1 = pc') (k : AW d M pc' lv (vi x :: st) A Q) : AW d M pc lv (vi 0 :: vi x :: st) A Q := by
  subst hp
  refine AW.pure (fun l G p e R s m args below meth c H locs ls C S Qr hC hS hl9 ho hst hva kk => ?_) k
  have key : ∀ k : Nat, k < 100 → Int32.ofInt k >>> (Int32.ofInt 0 &&& 31) = Int32.ofInt k := by decide +kernel
  have k1 := kk ls hl9 ho (okc (okh (okt hst)) (okt (okt hst)))
  change W p l e R s m args below meth c H locs C S Qr (F0 m (pc + 1) ls (.int (Int32.ofInt x) :: st.map (rV G))) at k1
  have e1 := key x.toNat (by omega)
  rw [show ((x.toNat : Nat) : Int) = x by omega] at e1
  rw [← e1] at k1
  exact lv_ishr hC.1 hC.2.1 hd k1
theorem aw_i2cs (h0 : 0 ≤ x) (h1 : x < 128) (hd : decode M.2.1 pc = .ok (.i2c, 1)) (hp : pc + 1 = pc') (k : AW d M pc' lv (vi x :: st) A Q) : AW d M pc lv (vi x :: st) A Q := by
  subst hp
  refine AW.pure (fun l G p e R s m args below meth c H locs ls C S Qr hC hS hl9 ho hst hva kk => ?_) k
  have key : ∀ k : Nat, k < 128 → ((Int32.ofInt k).toUInt32 % 65536).toInt32 = Int32.ofInt k := by decide +kernel
  have e1 := key x.toNat (by omega)
  rw [show ((x.toNat : Nat) : Int) = x by omega] at e1
  exact lv_i2c hC.1 hC.2.1 hd e1 (kk ls hl9 ho hst)
theorem and255 {x : Int} (h0 : 0 ≤ x) (h1 : x < 128) : (Int32.ofInt x &&& Int32.ofInt 255).toInt = x := by
  have key : ∀ k : Nat, k < 128 → (Int32.ofInt k &&& Int32.ofInt 255).toInt = k := by decide +kernel
  have e1 := key x.toNat (by omega)
  rw [show ((x.toNat : Nat) : Int) = x by omega] at e1
  exact e1
theorem aw_clone (hd1 : 2 ≤ d) (hws : WSd st) {own ad : String} (hown : M.1.cls = own) (hadn : ad = "[LShellLines$Word;") (hlink : Cond.methodLink M.1.cls idx ⟨ad, "clone", "()Ljava/lang/Object;"⟩ ∈ TB) (hsame : Cond.sameMethod ad "java/lang/Object" "clone" "()Ljava/lang/Object;" ∈ TB)
    (hnat : Cond.native ⟨"java/lang/Object", "clone", "()Ljava/lang/Object;"⟩ ∈ TB) (hinst : Cond.instanceMethod ⟨"java/lang/Object", "clone", "()Ljava/lang/Object;"⟩ ∈ TB)
    (hsel : Cond.selects ad ⟨ad, "clone", "()Ljava/lang/Object;"⟩ ⟨"java/lang/Object", "clone", "()Ljava/lang/Object;"⟩ ∈ TB) (hcl : Cond.castable ad "java/lang/Cloneable" ∈ NWL)
    (hd : decode M.2.1 pc = .ok (.invokevirtual idx, 3)) (hp : pc + 3 = pc') (kk : AW d M pc' lv (vr (hn A) :: st) (hnew A 50 15 15 (fun i => if 0 ≤ i ∧ i < 15 then 1 + i else 0)) Q) : AW d M pc lv (vr 32 :: st) A Q := by
  subst hp
  subst hadn
  refine AW.al (sl := 15) (hn_new _ _ _ _ _) (hs_new _ _ _ _ _) (fun l G p e R s m args below meth c H locs ls C S Qr hC hS hl9 ho hst hva hcc hss kk => ?_) kk
  have hts := hC.2.2.2.2.2.1
  have hcas := va_Nw.use (A := args) rfl (hC.2.2.2.2.2.2.1.1.2.1 _ hcl)
  obtain ⟨cell, t1, t2, t3, t4, t5, t6⟩ := hC.2.2.2.2.2.2.1.2.2.1.2.1
  have hcell : H[gA G 32]? = some cell := by
    rw [hva.2.1 _ (Array.getElem?_eq_some_iff.mp t1).1 t6]
    exact t1
  obtain ⟨hAr, kB, compB, u1, u2, u3, u4⟩ := hC.2.2.2.2.2.2.1.1.1.2 8 (gC G 50, .object RX11) rfl
  have hcls : gC G 50 = cell.cls := Option.some.inj (u4.symm.trans t4)
  obtain ⟨c0, t0', f1, f2, f3⟩ := Cond.castable_spec hcas
  have e0 : c0 = cell.cls := Option.some.inj (f1.symm.trans t4)
  subst e0
  have hsz : cell.slots.size = 15 := by rw [t5]; exact Array.size_ofFn
  change W p l e R s m args below meth c H locs C S Qr (F0 m pc ls (rR G 32 :: st.map (rV G)))
  rw [rR_st (by omega) (by omega) (by omega)]
  intro T hT X
  rw [hcls] at u1
  obtain ⟨k', hk', hke⟩ := X.warmed.alike.2.2 _ _ u1
  have hkind' : k'.kind = .array compB (.object RX11) := by rw [hke]; exact u2
  obtain ⟨vm', X', stp⟩ := X.cloneArray hC.1 hC.2.2.2.2.1 (hts _ hlink) (hts _ hsame) (hts _ hnat) (hts _ hinst) (hts _ hsel) (a := gA G 32) (cell := cell) (by rw [hT]; exact hcell) t2 t3 t4 f2 f3
    (fun i v hv9 => by
      have hv8 : ∃ a, v = .ref a := by
        rw [t5, Array.getElem?_ofFn] at hv9
        split at hv9
        · exact ⟨_, (Option.some.inj hv9).symm⟩
        · cases hv9
      obtain ⟨a, rfl⟩ := hv8
      simp [State.fitsSlot, State.slotType?, hk', hkind', fits])
    (g := F0 m pc ls (.ref (gA G 32) :: st.map (rV G))) rfl (by rw [hC.2.2.1]; exact hl9.1) rfl (by rw [hC.2.1]; exact hd) (by have := hC.2.2.2.2.2.2.2.1; omega) (by have := lv_cats (G := G) hws; have := hC.2.2.2.2.2.2.2.2.1; show 2 * 0 + _ + 14 ≤ _; omega) hcc (by rw [hsz]; exact hss) (hloader := Vm.clonesLoader_of_array u1 u2)
  generalize hnc : ({ cls := cell.cls, slots := cell.slots } : Cell) = nc at X' stp
  rw [hsz] at X'
  generalize hH1 : H.push nc = H1
  have z1 : H1.size = H.size + 1 := by rw [← hH1, Array.size_push]
  have e1 : H1[H.size]? = some nc := by rw [← hH1, Array.getElem?_push_size]
  have o1 : ∀ q : Nat, q < H.size → H1[q]? = H[q]? := fun q hq => by rw [← hH1, Array.getElem?_push, if_neg (Nat.ne_of_lt hq)]
  have hk1 := kk H1 (hS.push (kd := 50) (n := 15) (by omega) (by omega) (by omega) ?_ z1 o1 (fun k hk => okS_r (by omega)) (fun k _ _ => okS_0)) (va_psh hva z1 o1) (okc trivial (okt hst))
  · change W p l e R s m args below meth c H1 locs (C + 1) (S + 15) Qr (F0 m (pc + 3) ls (rR G (hn A) :: st.map (rV G))) at hk1
    rw [hn_r hS] at hk1
    obtain ⟨t, b1, b2⟩ := hk1 ((T.setVm vm').pushCell nc) (by rw [← hH1, ← hT]; rfl) X'
    refine ⟨t, stp t ?_, b2⟩
    rw [hT]
    exact b1
  · have e3 : rA G (hn A) = H.size := by rw [rA_dyn hS.2.1, ← hS.1]
    rw [ent_ref (A := hnew A 50 15 15 (fun i => if 0 ≤ i ∧ i < 15 then 1 + i else 0)) (kd := 50) (by rw [hk_new, if_pos rfl]) (by omega)]
    show H1[rA G (hn A)]? = some (vp_cell _ _)
    rw [e3, e1, ← hnc, vp_cell_q, hl_new, if_pos rfl, hcls]
    unfold arrV
    congr 1
    show ({ cls := cell.cls, slots := cell.slots } : Cell) = { cls := cell.cls, slots := _, vm := .none }
    congr 1
    rw [t5]
    show _ = Array.ofFn (n := 15) _
    congr 1
    funext j
    have hj := j.isLt
    show Value.ref (gA G (1 + j.val)) = va_rf (rO G (hv (hnew A 50 15 15 fun i => if 0 ≤ i ∧ i < 15 then 1 + i else 0) (hn A) (j.val : Int)))
    rw [hv_new, if_pos rfl, if_pos (by omega), rO_rf, rR_st (by omega) (by omega) (by omega)]
    congr 2
theorem aw_cast {kd : Nat} {Cn : String} (hkd : 30 ≤ kd) {t0 : Nat} (ht : ∀ G, (tysL G)[t0]? = some (gC G kd, .object Cn)) {nm : String} (hnm : nm = "[" ++ (FieldType.object Cn).toString) (hw : Cond.classLink M.1.cls idx nm ∈ TB) (hO : isA A o kd n)
    (hd : decode M.2.1 pc = .ok (.checkcast idx, 3)) (hp : pc + 3 = pc') (kk : AW d M pc' lv (vr o :: st) A Q) : AW d M pc lv (vr o :: st) A Q := by
  subst hp
  refine AW.pure (fun l G p e R s m args below meth c H locs ls C S Qr hC hS hl9 ho hst hva kk => ?_) kk
  have k1 := kk ls hl9 ho hst
  change W p l e R s m args below meth c H locs C S Qr (F0 m (pc + 3) ls (rR G o :: st.map (rV G))) at k1
  change W p l e R s m args below meth c H locs C S Qr (F0 m pc ls (rR G o :: st.map (rV G)))
  rw [rR_dyn hO.1] at k1 ⊢
  obtain ⟨-, kB, compB, u1, u2, u3, u4⟩ := hC.2.2.2.2.2.2.1.1.1.2 t0 _ (ht G)
  exact va_castA hC.1 hC.2.1 hC.2.2.2.2.1 (hC.2.2.2.2.2.1 _ hw) (hS.arr hO (ent_ref hO.2.2.1 hkd)) 0 rfl (by rw [hnm]; exact u4) hd k1
/-- a text is laid into a row of texts -/
theorem aw_aastS {ys : MethodName} {bs : ByteArray} {ns : Nat} {rs : Option FieldType} (hys : ys.cls = "java/lang/String") (hcs : Cond.code ys bs ns rs ∈ TB) (hX1 : 16 ≤ x) (hX2 : x ≤ 30) (hd : decode M.2.1 pc = .ok (.aastore, 1)) (hp : pc + 1 = pc') (hO : isA A o 51 n) (h0 : 0 ≤ i) (h1 : i < n) (kk : AW d M pc' lv st (hset A o i x) Q) : AW d M pc lv (vr x :: vi i :: vr o :: st) A Q := by
  subst hp
  refine AW.wr (A1 := hset A o i x) rfl rfl (fun l G p e R s m args below meth c H locs ls C S Qr hC hS hl9 ho hst hva kk => ?_) kk
  have hi : in32 i := okh (okt hst)
  change W p l e R s m args below meth c H locs C S Qr (F0 m pc ls (rR G x :: .int (Int32.ofInt i) :: rR G o :: st.map (rV G)))
  rw [rR_dyn hO.1, rR_st (by omega) (by omega) (by omega)]
  have hP := hS.arr hO (ent_ref hO.2.2.1 (by omega)) 0 _ rfl
  rw [hO.2.2.2] at hP
  have hsv := hC.2.2.2.2.2.2.1.2.1.2.2.1 (x - 16).toNat (by omega)
  obtain ⟨cellV, g1, g3, g2, g4⟩ := hsv.1
  have ex : 16 + (x - 16).toNat = x.toNat := by omega
  change s.heap[gA G (16 + (x - 16).toNat)]? = some cellV at g1
  change ¬ frA G (gA G (16 + (x - 16).toNat)) at g4
  rw [ex] at g1 g4
  have g1' : H[gA G x.toNat]? = some cellV := by
    rw [hva.2.1 _ (Array.getElem?_eq_some_iff.mp g1).1 g4]
    exact g1
  obtain ⟨-, kA, comp, k1, k2, k3, -⟩ := hC.2.2.2.2.2.2.1.1.1.2 9 (gC G 51, .object "java/lang/String") rfl
  have hcomp : comp = cellV.cls := Option.some.inj (k3.symm.trans g2)
  subst hcomp
  obtain ⟨kC, hkC, hsub⟩ : ∃ kC : Class, s.vm.classes[cellV.cls]? = some kC ∧ s.vm.assignable cellV.cls cellV.cls = true := by
    obtain ⟨mk, hnamed⟩ := Cond.code_named (hC.2.2.2.2.2.1 _ hcs)
    obtain ⟨kP, hkP, -⟩ := className_of_methodNamed hnamed
    have hf := findClass_of_methodNamed hnamed
    rw [hys] at hf
    have e9 : mk.cls = cellV.cls := Option.some.inj (hf.symm.trans g2)
    exact ⟨kP, by rw [← e9]; exact hkP, va_asg _ _⟩
  refine W.aast hC.1 hC.2.1 (cell := vp_cell (gC G 51) (n.toNat, .inr (.inr (.inr (.inr fun j => rO G (hv A o j)))))) hP (fun q h => by cases h) (fun h => by cases h) k1 k2 rfl hkC ⟨by rw [i32_0, i32_lt hi (by decide)]; omega, by show _ < (arrV _ _ _).slots.size; rw [arrV_size, i32_n hi]; omega⟩ g1' (fun q h => by rw [h] at g3; cases g3) hkC hsub rfl rfl hd fun H1 e z oq => ?_
  rw [i32_n hi] at e
  refine kk H1 _ (hS.put hO.1 hO.2.1 ?_ z oq (by rw [hO.2.2.1]; exact okS_r (by omega))) (hva.put z oq (frA_dyn hO.1)) (okt (okt (okt hst)))
  rw [ent_ref (A := hset A o i x) (kd := 51) (by rw [hk_set]; exact hO.2.2.1) (by omega)]
  show H1[rA G o]? = some (vp_cell _ _)
  rw [e, hl_set, hO.2.2.2, vp_cell_q, vp_cell_q, arrV_store]
  congr 2
  funext q
  unfold updV
  rw [hv_set]
  by_cases hq : q = i.toNat
  · rw [if_pos hq, if_pos ⟨rfl, by omega⟩, rO_rf, rR_st (by omega) (by omega) (by omega)]
  · rw [if_neg hq, if_neg (by omega)]
/-- a call of a text's own method -/
theorem aw_callStr (hcl : M'.1.cls = "java/lang/String") (hm : MOK M' nn) (hin : Cond.instanceMethod M'.1 ∈ TB) (hse : Cond.selects M'.1.cls M'.1 M'.1 ∈ TB) (hln : Cond.methodLink M.1.cls idx M'.1 ∈ TB) (h1o : 16 ≤ o) (h2o : o ≤ 30) (hd : decode M.2.1 pc = .ok (.invokevirtual idx, 3)) (hp : pc + 3 = pc') (hn1 : as.length = nn) (hws : WSd rest) (hdd : d' + 1 ≤ d)
    (kk : CALL d' M' (vr o :: as) A (fun r A1 => AW d M pc' lv (r.toList ++ rest) A1 Q)) : AW d M pc lv (as.reverse ++ vr o :: rest) A Q := by
  subst hp
  refine AW.after kk (fun a ha => List.mem_append_right _ (List.mem_cons_of_mem _ ha)) (fun l G p e R s m args below meth c H locs ls C S mc ms r1 A1 hC hS hl9 hst9 hva h1 h2 hM => ?_)
  have hts := hC.2.2.2.2.2.1
  have hrr : rR G o = .ref (gA G o.toNat) := rR_st (by omega) (by omega) (by omega)
  have hrecv := vk_recv (hC.2.2.2.2.2.2.1.2.1.2.2) (i := (o - 16).toNat) (by omega) hva
  rw [← hcl] at hrecv
  have ex : 16 + (o - 16).toNat = o.toNat := by omega
  change ∃ cell : Cell, H[gA G (16 + (o - 16).toNat)]? = some cell ∧ _ at hrecv
  rw [ex] at hrecv
  have hP9 : ∀ U : State, U.heap = H → s.WarmedH U.vm → Pcm G (vr o :: as) A (Value.ref (gA G o.toNat) :: as.map (rV G)).toArray U := by
    intro U hU hW
    have := pcm_of (as := vr o :: as) hC.2.2.2.2.2.2.1 hS (fun a ha => hst9 a (mem_as ha)) hva U hU hW
    rw [List.map_cons] at this
    change Pcm G (vr o :: as) A (rR G o :: as.map (rV G)).toArray U at this
    rw [hrr] at this
    exact this
  have hQ9 : Qcm G r1 A1 ((vr o :: as).map (rV G)).toArray = Qcm G r1 A1 (Value.ref (gA G o.toNat) :: as.map (rV G)).toArray := rfl
  rw [hQ9]
  have hst8 : (as.reverse ++ vr o :: rest).map (rV G) = (as.map (rV G)).reverse ++ .ref (gA G o.toNat) :: rest.map (rV G) := by
    rw [List.map_append, List.map_reverse, List.map_cons]
    show _ ++ rR G o :: _ = _
    rw [hrr]
  refine va_runV (b := gA G o.toNat) (C := M'.1.cls) (As := as.map (rV G)) ⟨hC.1, hC.2.1, hC.2.2.1, hC.2.2.2.2.1, hts⟩ hM ⟨callB_of nn hts (WSm_good hm.1) rfl rfl rfl (hts _ hm.2.1) (hts _ hln) ⟨hm.2.2.1, hm.2.2.2.1, hm.2.2.2.2.1⟩ (rm_ok hC hdd hm), hts _ hin, hts _ hse⟩ ⟨ok_blind _ _ _, hrecv, hP9⟩ rfl (by rw [List.length_map]; exact hn1) hl9.1 hst8 (ws_room hws) hd ⟨h1, h2⟩
/-- Enum.ordinal, asked of a word -/
theorem aw_callOrd (hm : MOK M' 0) (hy : M'.1 = ⟨"java/lang/Enum", "ordinal", "()I"⟩) (hw : ∀ w ∈ ([.methodLink M.1.cls idx ⟨RX11, "ordinal", "()I"⟩, .sameMethod RX11 "java/lang/Enum" "ordinal" "()I", .selects RX11 ⟨RX11, "ordinal", "()I"⟩ M'.1, .instanceMethod M'.1] : List Cond), w ∈ TB) (h1o : 1 ≤ o) (h2o : o ≤ 15) (hd : decode M.2.1 pc = .ok (.invokevirtual idx, 3)) (hp : pc + 3 = pc') (hws : WSd rest) (hdd : d' + 1 ≤ d)
    (kk : CALL d' M' [vr o] A (fun r A1 => AW d M pc' lv (r.toList ++ rest) A1 Q)) : AW d M pc lv (vr o :: rest) A Q := by
  subst hp
  refine AW.after kk (fun a ha => List.mem_cons_of_mem _ ha) (fun l G p e R s m args below meth c H locs ls C S mc ms r1 A1 hC hS hl9 hst9 hva h1 h2 hM => ?_)
  have hts := hC.2.2.2.2.2.1
  have hrr : rR G o = .ref (gA G o.toNat) := rR_st (by omega) (by omega) (by omega)
  have hrecv := va_recvE (hC.2.2.2.2.2.2.1.2.1.1) (i := (o - 1).toNat) (by show _ < 15; omega) hva
  have ex : 1 + (o - 1).toNat = o.toNat := by omega
  change ∃ cell : Cell, H[gA G (1 + (o - 1).toNat)]? = some cell ∧ _ at hrecv
  rw [ex] at hrecv
  have hP9 : ∀ U : State, U.heap = H → s.WarmedH U.vm → Pcm G [vr o] A (Value.ref (gA G o.toNat) :: ([] : List AV).map (rV G)).toArray U := by
    intro U hU hW
    have := pcm_of (as := [vr o]) hC.2.2.2.2.2.2.1 hS (fun a ha => hst9 a (by rcases List.mem_cons.mp ha with rfl | h; exact List.mem_cons_self; cases h)) hva U hU hW
    rw [List.map_cons] at this
    change Pcm G [vr o] A (rR G o :: ([] : List AV).map (rV G)).toArray U at this
    rw [hrr] at this
    exact this
  have hQ9 : Qcm G r1 A1 (([vr o] : List AV).map (rV G)).toArray = Qcm G r1 A1 (Value.ref (gA G o.toNat) :: ([] : List AV).map (rV G)).toArray := rfl
  rw [hQ9]
  have hG : GoodIn TB (va_wsU M.1.cls idx RX11 "java/lang/Enum" ⟨RX11, "ordinal", "()I"⟩ M'.1 (WSm M')) := by
    have hall : ∀ w ∈ va_wsU M.1.cls idx RX11 "java/lang/Enum" ⟨RX11, "ordinal", "()I"⟩ M'.1 (WSm M'), w ∈ TB := by
      intro w hw9
      unfold va_wsU at hw9
      rcases List.mem_append.mp hw9 with h | h
      · simp only [List.mem_cons, List.not_mem_nil, or_false] at h
        rcases h with rfl | rfl | rfl | rfl | rfl
        · exact hw _ (by simp)
        · exact hw _ (by simp)
        · exact hw _ (by simp)
        · exact hw _ (by simp)
        · exact hm.2.1
      · rcases List.mem_cons.mp h with rfl | h
        · exact hm.1
        · exact h
    exact fun w h => ⟨hall w h, good_of_word (TB_good w (hall w h))⟩
  have hst8 : (vr o :: rest).map (rV G) = (([] : List AV).map (rV G)).reverse ++ .ref (gA G o.toNat) :: rest.map (rV G) := by
    rw [List.map_cons]
    show rR G o :: _ = _
    rw [hrr]
    rfl
  have cw := va_cwU (R := R) (rm := RMd d' mc ms) (mc := mc) (ms := ms) (bytes := M'.2.1) (maxL := M'.2.2.1) (ret := M'.2.2.2) (ws' := TB) 0 hts hG rfl rfl rfl hy ⟨by decide, by decide, by decide +kernel⟩ (rm_ok hC hdd hm)
  exact va_runU (b := gA G o.toNat) (C := RX11) (As := ([] : List AV).map (rV G)) ⟨hC.1, hC.2.1, hC.2.2.1, hC.2.2.2.2.1, hts⟩ hM cw ⟨ok_blind _ _ _, hrecv, hP9⟩ rfl rfl hl9.1 hst8 (ws_room hws) hd ⟨h1, h2⟩
end MSC
end
