section
-- ===== PART A: goes FIRST, ahead of the names: the tables' words, and 'selects' of the private methods out of them =====
/-- a private method of a class that the tables say can be made, by its rows of tables_1 -/
def lw_okq (q : MethodName × Nat) : Prop := (q.1.cls ≠ "java/lang/invoke/MethodHandle" ∧ q.1.cls ≠ "java/lang/invoke/VarHandle") ∧ Cond.instantiable q.1.cls q.2 ∈ tables_1 ∧ Cond.privateMethod q.1 ∈ tables_1 ∧ Cond.instanceMethod q.1 ∈ tables_1
theorem lw_p0 : lw_okq (⟨"java/lang/Throwable", "fillInStackTrace", "(I)Ljava/lang/Throwable;"⟩, 6) := ⟨⟨by decide +kernel, by decide +kernel⟩, List.mem_of_getElem? (i := 375) (by decide +kernel), List.mem_of_getElem? (i := 373) (by decide +kernel), List.mem_of_getElem? (i := 374) (by decide +kernel)⟩
theorem lw_p1 : lw_okq (⟨"BundleMill", "someBlockIsMissing", "()Z"⟩, 10) := ⟨⟨by decide +kernel, by decide +kernel⟩, List.mem_of_getElem? (i := 20) (by decide +kernel), List.mem_of_getElem? (i := 449) (by decide +kernel), List.mem_of_getElem? (i := 450) (by decide +kernel)⟩
theorem lw_p2 : lw_okq (⟨"BundleMill", "someLoopWritesItsCount", "()Z"⟩, 10) := ⟨⟨by decide +kernel, by decide +kernel⟩, List.mem_of_getElem? (i := 20) (by decide +kernel), List.mem_of_getElem? (i := 472) (by decide +kernel), List.mem_of_getElem? (i := 473) (by decide +kernel)⟩
theorem lw_p3 : lw_okq (⟨"BundleMill", "planBlocks", "()I"⟩, 10) := ⟨⟨by decide +kernel, by decide +kernel⟩, List.mem_of_getElem? (i := 20) (by decide +kernel), List.mem_of_getElem? (i := 511) (by decide +kernel), List.mem_of_getElem? (i := 512) (by decide +kernel)⟩
theorem lw_p4 : lw_okq (⟨"BundleMill$Graph", "findOffset", "(LBundleMill$Block;I)V"⟩, 12) := ⟨⟨by decide +kernel, by decide +kernel⟩, List.mem_of_getElem? (i := 175) (by decide +kernel), List.mem_of_getElem? (i := 526) (by decide +kernel), List.mem_of_getElem? (i := 527) (by decide +kernel)⟩
theorem lw_p5 : lw_okq (⟨"BundleMill$Graph", "drawDirect", "(LBundleMill$Block;II)V"⟩, 12) := ⟨⟨by decide +kernel, by decide +kernel⟩, List.mem_of_getElem? (i := 175) (by decide +kernel), List.mem_of_getElem? (i := 538) (by decide +kernel), List.mem_of_getElem? (i := 539) (by decide +kernel)⟩
theorem lw_p6 : lw_okq (⟨"BundleMill$Graph", "drawMemory", "(LBundleMill$Block;II)V"⟩, 12) := ⟨⟨by decide +kernel, by decide +kernel⟩, List.mem_of_getElem? (i := 175) (by decide +kernel), List.mem_of_getElem? (i := 563) (by decide +kernel), List.mem_of_getElem? (i := 564) (by decide +kernel)⟩
theorem lw_p7 : lw_okq (⟨"BundleMill$Graph", "meetingDistance", "(LBundleMill$Block;II)I"⟩, 12) := ⟨⟨by decide +kernel, by decide +kernel⟩, List.mem_of_getElem? (i := 175) (by decide +kernel), List.mem_of_getElem? (i := 571) (by decide +kernel), List.mem_of_getElem? (i := 572) (by decide +kernel)⟩
theorem lw_p8 : lw_okq (⟨"BundleMill$Graph", "weighEdge", "(IIII)V"⟩, 12) := ⟨⟨by decide +kernel, by decide +kernel⟩, List.mem_of_getElem? (i := 175) (by decide +kernel), List.mem_of_getElem? (i := 583) (by decide +kernel), List.mem_of_getElem? (i := 584) (by decide +kernel)⟩
theorem lw_p9 : lw_okq (⟨"BundleMill$ModuloScheduler", "leastInterval", "(LBundleMill$Graph;)I"⟩, 3) := ⟨⟨by decide +kernel, by decide +kernel⟩, List.mem_of_getElem? (i := 231) (by decide +kernel), List.mem_of_getElem? (i := 613) (by decide +kernel), List.mem_of_getElem? (i := 614) (by decide +kernel)⟩
theorem lw_p10 : lw_okq (⟨"BundleMill$ModuloScheduler", "findPriorities", "(LBundleMill$Graph;I)Z"⟩, 3) := ⟨⟨by decide +kernel, by decide +kernel⟩, List.mem_of_getElem? (i := 231) (by decide +kernel), List.mem_of_getElem? (i := 621) (by decide +kernel), List.mem_of_getElem? (i := 622) (by decide +kernel)⟩
theorem lw_p11 : lw_okq (⟨"BundleMill$ModuloScheduler", "tryInterval", "(LBundleMill$Graph;LBundleMill$Plan;I)Z"⟩, 3) := ⟨⟨by decide +kernel, by decide +kernel⟩, List.mem_of_getElem? (i := 231) (by decide +kernel), List.mem_of_getElem? (i := 628) (by decide +kernel), List.mem_of_getElem? (i := 629) (by decide +kernel)⟩
theorem lw_p12 : lw_okq (⟨"BundleMill$ModuloScheduler", "nextOperation", "(LBundleMill$Graph;LBundleMill$Plan;)I"⟩, 3) := ⟨⟨by decide +kernel, by decide +kernel⟩, List.mem_of_getElem? (i := 231) (by decide +kernel), List.mem_of_getElem? (i := 632) (by decide +kernel), List.mem_of_getElem? (i := 633) (by decide +kernel)⟩
theorem lw_p13 : lw_okq (⟨"BundleMill$ModuloScheduler", "settle", "(LBundleMill$Graph;LBundleMill$Plan;II)V"⟩, 3) := ⟨⟨by decide +kernel, by decide +kernel⟩, List.mem_of_getElem? (i := 231) (by decide +kernel), List.mem_of_getElem? (i := 636) (by decide +kernel), List.mem_of_getElem? (i := 637) (by decide +kernel)⟩
theorem lw_p14 : lw_okq (⟨"BundleMill$ModuloScheduler", "firstFree", "(LBundleMill$Graph;LBundleMill$Plan;III)I"⟩, 3) := ⟨⟨by decide +kernel, by decide +kernel⟩, List.mem_of_getElem? (i := 231) (by decide +kernel), List.mem_of_getElem? (i := 644) (by decide +kernel), List.mem_of_getElem? (i := 645) (by decide +kernel)⟩
theorem lw_p15 : lw_okq (⟨"BundleMill$ModuloScheduler", "takesUnit", "(LBundleMill$Graph;LBundleMill$Plan;III)Z"⟩, 3) := ⟨⟨by decide +kernel, by decide +kernel⟩, List.mem_of_getElem? (i := 231) (by decide +kernel), List.mem_of_getElem? (i := 651) (by decide +kernel), List.mem_of_getElem? (i := 652) (by decide +kernel)⟩
def lw_privs_1 : List (MethodName × Nat) := [(⟨"java/lang/Throwable", "fillInStackTrace", "(I)Ljava/lang/Throwable;"⟩, 6), (⟨"BundleMill", "someBlockIsMissing", "()Z"⟩, 10), (⟨"BundleMill", "someLoopWritesItsCount", "()Z"⟩, 10), (⟨"BundleMill", "planBlocks", "()I"⟩, 10), (⟨"BundleMill$Graph", "findOffset", "(LBundleMill$Block;I)V"⟩, 12), (⟨"BundleMill$Graph", "drawDirect", "(LBundleMill$Block;II)V"⟩, 12), (⟨"BundleMill$Graph", "drawMemory", "(LBundleMill$Block;II)V"⟩, 12), (⟨"BundleMill$Graph", "meetingDistance", "(LBundleMill$Block;II)I"⟩, 12), (⟨"BundleMill$Graph", "weighEdge", "(IIII)V"⟩, 12), (⟨"BundleMill$ModuloScheduler", "leastInterval", "(LBundleMill$Graph;)I"⟩, 3), (⟨"BundleMill$ModuloScheduler", "findPriorities", "(LBundleMill$Graph;I)Z"⟩, 3), (⟨"BundleMill$ModuloScheduler", "tryInterval", "(LBundleMill$Graph;LBundleMill$Plan;I)Z"⟩, 3), (⟨"BundleMill$ModuloScheduler", "nextOperation", "(LBundleMill$Graph;LBundleMill$Plan;)I"⟩, 3), (⟨"BundleMill$ModuloScheduler", "settle", "(LBundleMill$Graph;LBundleMill$Plan;II)V"⟩, 3), (⟨"BundleMill$ModuloScheduler", "firstFree", "(LBundleMill$Graph;LBundleMill$Plan;III)I"⟩, 3), (⟨"BundleMill$ModuloScheduler", "takesUnit", "(LBundleMill$Graph;LBundleMill$Plan;III)Z"⟩, 3)]
theorem lw_r1 : ∀ q ∈ lw_privs_1, lw_okq q := List.forall_mem_cons.mpr ⟨lw_p0, List.forall_mem_cons.mpr ⟨lw_p1, List.forall_mem_cons.mpr ⟨lw_p2, List.forall_mem_cons.mpr ⟨lw_p3, List.forall_mem_cons.mpr ⟨lw_p4, List.forall_mem_cons.mpr ⟨lw_p5, List.forall_mem_cons.mpr ⟨lw_p6, List.forall_mem_cons.mpr ⟨lw_p7, List.forall_mem_cons.mpr ⟨lw_p8, List.forall_mem_cons.mpr ⟨lw_p9, List.forall_mem_cons.mpr ⟨lw_p10, List.forall_mem_cons.mpr ⟨lw_p11, List.forall_mem_cons.mpr ⟨lw_p12, List.forall_mem_cons.mpr ⟨lw_p13, List.forall_mem_cons.mpr ⟨lw_p14, List.forall_mem_cons.mpr ⟨lw_p15, fun _ h => absurd h List.not_mem_nil⟩⟩⟩⟩⟩⟩⟩⟩⟩⟩⟩⟩⟩⟩⟩⟩
theorem lw_p16 : lw_okq (⟨"BundleMill$ModuloScheduler", "driveOut", "(LBundleMill$Graph;LBundleMill$Plan;II)V"⟩, 3) := ⟨⟨by decide +kernel, by decide +kernel⟩, List.mem_of_getElem? (i := 231) (by decide +kernel), List.mem_of_getElem? (i := 659) (by decide +kernel), List.mem_of_getElem? (i := 660) (by decide +kernel)⟩
theorem lw_p17 : lw_okq (⟨"BundleMill", "cyclesOfRun", "()I"⟩, 10) := ⟨⟨by decide +kernel, by decide +kernel⟩, List.mem_of_getElem? (i := 20) (by decide +kernel), List.mem_of_getElem? (i := 687) (by decide +kernel), List.mem_of_getElem? (i := 688) (by decide +kernel)⟩
theorem lw_p18 : lw_okq (⟨"BundleMill", "cyclesOfBlock", "(LBundleMill$Block;LBundleMill$Plan;I)I"⟩, 10) := ⟨⟨by decide +kernel, by decide +kernel⟩, List.mem_of_getElem? (i := 20) (by decide +kernel), List.mem_of_getElem? (i := 701) (by decide +kernel), List.mem_of_getElem? (i := 702) (by decide +kernel)⟩
theorem lw_p19 : lw_okq (⟨"BundleMill$Outcome", "isAllowed", "(I)Z"⟩, 6) := ⟨⟨by decide +kernel, by decide +kernel⟩, List.mem_of_getElem? (i := 247) (by decide +kernel), List.mem_of_getElem? (i := 709) (by decide +kernel), List.mem_of_getElem? (i := 710) (by decide +kernel)⟩
theorem lw_p20 : lw_okq (⟨"BundleMill$Outcome", "putOut", "(I)V"⟩, 6) := ⟨⟨by decide +kernel, by decide +kernel⟩, List.mem_of_getElem? (i := 247) (by decide +kernel), List.mem_of_getElem? (i := 714) (by decide +kernel), List.mem_of_getElem? (i := 715) (by decide +kernel)⟩
theorem lw_p21 : lw_okq (⟨"BundleMill$Outcome", "divide", "(III)V"⟩, 6) := ⟨⟨by decide +kernel, by decide +kernel⟩, List.mem_of_getElem? (i := 247) (by decide +kernel), List.mem_of_getElem? (i := 718) (by decide +kernel), List.mem_of_getElem? (i := 719) (by decide +kernel)⟩
theorem lw_p22 : lw_okq (⟨"BundleMill$Outcome", "valueOf", "(IIII)I"⟩, 6) := ⟨⟨by decide +kernel, by decide +kernel⟩, List.mem_of_getElem? (i := 247) (by decide +kernel), List.mem_of_getElem? (i := 722) (by decide +kernel), List.mem_of_getElem? (i := 723) (by decide +kernel)⟩
theorem lw_p23 : lw_okq (⟨"BundleMill", "checkBlock", "(I)V"⟩, 10) := ⟨⟨by decide +kernel, by decide +kernel⟩, List.mem_of_getElem? (i := 20) (by decide +kernel), List.mem_of_getElem? (i := 780) (by decide +kernel), List.mem_of_getElem? (i := 781) (by decide +kernel)⟩
theorem lw_p24 : lw_okq (⟨"BundleMillModel", "isLost", "()Z"⟩, 57) := ⟨⟨by decide +kernel, by decide +kernel⟩, List.mem_of_getElem? (i := 827) (by decide +kernel), List.mem_of_getElem? (i := 1043) (by decide +kernel), List.mem_of_getElem? (i := 1044) (by decide +kernel)⟩
theorem lw_p25 : lw_okq (⟨"BundleMillModel", "spoils", "()Z"⟩, 57) := ⟨⟨by decide +kernel, by decide +kernel⟩, List.mem_of_getElem? (i := 827) (by decide +kernel), List.mem_of_getElem? (i := 1053) (by decide +kernel), List.mem_of_getElem? (i := 1054) (by decide +kernel)⟩
theorem lw_p26 : lw_okq (⟨"BundleMillModel", "copy", "()V"⟩, 57) := ⟨⟨by decide +kernel, by decide +kernel⟩, List.mem_of_getElem? (i := 827) (by decide +kernel), List.mem_of_getElem? (i := 1060) (by decide +kernel), List.mem_of_getElem? (i := 1061) (by decide +kernel)⟩
theorem lw_p27 : lw_okq (⟨"BundleMillModel", "add", "(IIIIIII)V"⟩, 57) := ⟨⟨by decide +kernel, by decide +kernel⟩, List.mem_of_getElem? (i := 827) (by decide +kernel), List.mem_of_getElem? (i := 1064) (by decide +kernel), List.mem_of_getElem? (i := 1065) (by decide +kernel)⟩
theorem lw_p28 : lw_okq (⟨"BundleMillModel", "guardBranch", "(I)V"⟩, 57) := ⟨⟨by decide +kernel, by decide +kernel⟩, List.mem_of_getElem? (i := 827) (by decide +kernel), List.mem_of_getElem? (i := 1068) (by decide +kernel), List.mem_of_getElem? (i := 1069) (by decide +kernel)⟩
theorem lw_p29 : lw_okq (⟨"BundleMillModel", "isFree", "(II)Z"⟩, 57) := ⟨⟨by decide +kernel, by decide +kernel⟩, List.mem_of_getElem? (i := 827) (by decide +kernel), List.mem_of_getElem? (i := 1072) (by decide +kernel), List.mem_of_getElem? (i := 1073) (by decide +kernel)⟩
theorem lw_p30 : lw_okq (⟨"BundleMillModel", "take", "(III)V"⟩, 57) := ⟨⟨by decide +kernel, by decide +kernel⟩, List.mem_of_getElem? (i := 827) (by decide +kernel), List.mem_of_getElem? (i := 1076) (by decide +kernel), List.mem_of_getElem? (i := 1077) (by decide +kernel)⟩
theorem lw_p31 : lw_okq (⟨"BundleMillModel", "leads", "(II)V"⟩, 57) := ⟨⟨by decide +kernel, by decide +kernel⟩, List.mem_of_getElem? (i := 827) (by decide +kernel), List.mem_of_getElem? (i := 1080) (by decide +kernel), List.mem_of_getElem? (i := 1081) (by decide +kernel)⟩
def lw_privs_2 : List (MethodName × Nat) := [(⟨"BundleMill$ModuloScheduler", "driveOut", "(LBundleMill$Graph;LBundleMill$Plan;II)V"⟩, 3), (⟨"BundleMill", "cyclesOfRun", "()I"⟩, 10), (⟨"BundleMill", "cyclesOfBlock", "(LBundleMill$Block;LBundleMill$Plan;I)I"⟩, 10), (⟨"BundleMill$Outcome", "isAllowed", "(I)Z"⟩, 6), (⟨"BundleMill$Outcome", "putOut", "(I)V"⟩, 6), (⟨"BundleMill$Outcome", "divide", "(III)V"⟩, 6), (⟨"BundleMill$Outcome", "valueOf", "(IIII)I"⟩, 6), (⟨"BundleMill", "checkBlock", "(I)V"⟩, 10), (⟨"BundleMillModel", "isLost", "()Z"⟩, 57), (⟨"BundleMillModel", "spoils", "()Z"⟩, 57), (⟨"BundleMillModel", "copy", "()V"⟩, 57), (⟨"BundleMillModel", "add", "(IIIIIII)V"⟩, 57), (⟨"BundleMillModel", "guardBranch", "(I)V"⟩, 57), (⟨"BundleMillModel", "isFree", "(II)Z"⟩, 57), (⟨"BundleMillModel", "take", "(III)V"⟩, 57), (⟨"BundleMillModel", "leads", "(II)V"⟩, 57)]
theorem lw_r2 : ∀ q ∈ lw_privs_2, lw_okq q := List.forall_mem_cons.mpr ⟨lw_p16, List.forall_mem_cons.mpr ⟨lw_p17, List.forall_mem_cons.mpr ⟨lw_p18, List.forall_mem_cons.mpr ⟨lw_p19, List.forall_mem_cons.mpr ⟨lw_p20, List.forall_mem_cons.mpr ⟨lw_p21, List.forall_mem_cons.mpr ⟨lw_p22, List.forall_mem_cons.mpr ⟨lw_p23, List.forall_mem_cons.mpr ⟨lw_p24, List.forall_mem_cons.mpr ⟨lw_p25, List.forall_mem_cons.mpr ⟨lw_p26, List.forall_mem_cons.mpr ⟨lw_p27, List.forall_mem_cons.mpr ⟨lw_p28, List.forall_mem_cons.mpr ⟨lw_p29, List.forall_mem_cons.mpr ⟨lw_p30, List.forall_mem_cons.mpr ⟨lw_p31, fun _ h => absurd h List.not_mem_nil⟩⟩⟩⟩⟩⟩⟩⟩⟩⟩⟩⟩⟩⟩⟩⟩
theorem lw_p32 : lw_okq (⟨"BundleMillModel", "schedule", "(I)V"⟩, 57) := ⟨⟨by decide +kernel, by decide +kernel⟩, List.mem_of_getElem? (i := 827) (by decide +kernel), List.mem_of_getElem? (i := 1084) (by decide +kernel), List.mem_of_getElem? (i := 1085) (by decide +kernel)⟩
theorem lw_p33 : lw_okq (⟨"BundleMillModel", "edges", "(I)V"⟩, 57) := ⟨⟨by decide +kernel, by decide +kernel⟩, List.mem_of_getElem? (i := 827) (by decide +kernel), List.mem_of_getElem? (i := 1088) (by decide +kernel), List.mem_of_getElem? (i := 1089) (by decide +kernel)⟩
theorem lw_p34 : lw_okq (⟨"BundleMillModel", "isAccess", "(I)Z"⟩, 57) := ⟨⟨by decide +kernel, by decide +kernel⟩, List.mem_of_getElem? (i := 827) (by decide +kernel), List.mem_of_getElem? (i := 1092) (by decide +kernel), List.mem_of_getElem? (i := 1093) (by decide +kernel)⟩
theorem lw_p35 : lw_okq (⟨"BundleMillModel", "meeting", "(III)I"⟩, 57) := ⟨⟨by decide +kernel, by decide +kernel⟩, List.mem_of_getElem? (i := 827) (by decide +kernel), List.mem_of_getElem? (i := 1096) (by decide +kernel), List.mem_of_getElem? (i := 1097) (by decide +kernel)⟩
theorem lw_p36 : lw_okq (⟨"BundleMillModel", "writer", "(II)I"⟩, 57) := ⟨⟨by decide +kernel, by decide +kernel⟩, List.mem_of_getElem? (i := 827) (by decide +kernel), List.mem_of_getElem? (i := 1100) (by decide +kernel), List.mem_of_getElem? (i := 1101) (by decide +kernel)⟩
theorem lw_p37 : lw_okq (⟨"BundleMillModel", "writes", "(II)Z"⟩, 57) := ⟨⟨by decide +kernel, by decide +kernel⟩, List.mem_of_getElem? (i := 827) (by decide +kernel), List.mem_of_getElem? (i := 1104) (by decide +kernel), List.mem_of_getElem? (i := 1105) (by decide +kernel)⟩
theorem lw_p38 : lw_okq (⟨"BundleMillModel", "isSteady", "(II)Z"⟩, 57) := ⟨⟨by decide +kernel, by decide +kernel⟩, List.mem_of_getElem? (i := 827) (by decide +kernel), List.mem_of_getElem? (i := 1108) (by decide +kernel), List.mem_of_getElem? (i := 1109) (by decide +kernel)⟩
theorem lw_p39 : lw_okq (⟨"BundleMillModel", "usualDelay", "(II)I"⟩, 57) := ⟨⟨by decide +kernel, by decide +kernel⟩, List.mem_of_getElem? (i := 827) (by decide +kernel), List.mem_of_getElem? (i := 1113) (by decide +kernel), List.mem_of_getElem? (i := 1114) (by decide +kernel)⟩
theorem lw_p40 : lw_okq (⟨"BundleMillModel", "reads", "(II)Z"⟩, 57) := ⟨⟨by decide +kernel, by decide +kernel⟩, List.mem_of_getElem? (i := 827) (by decide +kernel), List.mem_of_getElem? (i := 1117) (by decide +kernel), List.mem_of_getElem? (i := 1118) (by decide +kernel)⟩
theorem lw_p41 : lw_okq (⟨"BundleMillModel", "latency", "(I)I"⟩, 57) := ⟨⟨by decide +kernel, by decide +kernel⟩, List.mem_of_getElem? (i := 827) (by decide +kernel), List.mem_of_getElem? (i := 1121) (by decide +kernel), List.mem_of_getElem? (i := 1122) (by decide +kernel)⟩
theorem lw_p42 : lw_okq (⟨"BundleMillModel", "greater", "(II)I"⟩, 57) := ⟨⟨by decide +kernel, by decide +kernel⟩, List.mem_of_getElem? (i := 827) (by decide +kernel), List.mem_of_getElem? (i := 1125) (by decide +kernel), List.mem_of_getElem? (i := 1126) (by decide +kernel)⟩
theorem lw_p43 : lw_okq (⟨"BundleMillModel", "isOrdered", "(II)Z"⟩, 57) := ⟨⟨by decide +kernel, by decide +kernel⟩, List.mem_of_getElem? (i := 827) (by decide +kernel), List.mem_of_getElem? (i := 1129) (by decide +kernel), List.mem_of_getElem? (i := 1130) (by decide +kernel)⟩
theorem lw_p44 : lw_okq (⟨"BundleMillModel", "list", "(I)V"⟩, 57) := ⟨⟨by decide +kernel, by decide +kernel⟩, List.mem_of_getElem? (i := 827) (by decide +kernel), List.mem_of_getElem? (i := 1133) (by decide +kernel), List.mem_of_getElem? (i := 1134) (by decide +kernel)⟩
theorem lw_p45 : lw_okq (⟨"BundleMillModel", "asksAtOnce", "(II)I"⟩, 57) := ⟨⟨by decide +kernel, by decide +kernel⟩, List.mem_of_getElem? (i := 827) (by decide +kernel), List.mem_of_getElem? (i := 1137) (by decide +kernel), List.mem_of_getElem? (i := 1138) (by decide +kernel)⟩
theorem lw_p46 : lw_okq (⟨"BundleMillModel", "next", "(II)I"⟩, 57) := ⟨⟨by decide +kernel, by decide +kernel⟩, List.mem_of_getElem? (i := 827) (by decide +kernel), List.mem_of_getElem? (i := 1141) (by decide +kernel), List.mem_of_getElem? (i := 1142) (by decide +kernel)⟩
theorem lw_p47 : lw_okq (⟨"BundleMillModel", "isPort", "(I)Z"⟩, 57) := ⟨⟨by decide +kernel, by decide +kernel⟩, List.mem_of_getElem? (i := 827) (by decide +kernel), List.mem_of_getElem? (i := 1145) (by decide +kernel), List.mem_of_getElem? (i := 1146) (by decide +kernel)⟩
def lw_privs_3 : List (MethodName × Nat) := [(⟨"BundleMillModel", "schedule", "(I)V"⟩, 57), (⟨"BundleMillModel", "edges", "(I)V"⟩, 57), (⟨"BundleMillModel", "isAccess", "(I)Z"⟩, 57), (⟨"BundleMillModel", "meeting", "(III)I"⟩, 57), (⟨"BundleMillModel", "writer", "(II)I"⟩, 57), (⟨"BundleMillModel", "writes", "(II)Z"⟩, 57), (⟨"BundleMillModel", "isSteady", "(II)Z"⟩, 57), (⟨"BundleMillModel", "usualDelay", "(II)I"⟩, 57), (⟨"BundleMillModel", "reads", "(II)Z"⟩, 57), (⟨"BundleMillModel", "latency", "(I)I"⟩, 57), (⟨"BundleMillModel", "greater", "(II)I"⟩, 57), (⟨"BundleMillModel", "isOrdered", "(II)Z"⟩, 57), (⟨"BundleMillModel", "list", "(I)V"⟩, 57), (⟨"BundleMillModel", "asksAtOnce", "(II)I"⟩, 57), (⟨"BundleMillModel", "next", "(II)I"⟩, 57), (⟨"BundleMillModel", "isPort", "(I)Z"⟩, 57)]
theorem lw_r3 : ∀ q ∈ lw_privs_3, lw_okq q := List.forall_mem_cons.mpr ⟨lw_p32, List.forall_mem_cons.mpr ⟨lw_p33, List.forall_mem_cons.mpr ⟨lw_p34, List.forall_mem_cons.mpr ⟨lw_p35, List.forall_mem_cons.mpr ⟨lw_p36, List.forall_mem_cons.mpr ⟨lw_p37, List.forall_mem_cons.mpr ⟨lw_p38, List.forall_mem_cons.mpr ⟨lw_p39, List.forall_mem_cons.mpr ⟨lw_p40, List.forall_mem_cons.mpr ⟨lw_p41, List.forall_mem_cons.mpr ⟨lw_p42, List.forall_mem_cons.mpr ⟨lw_p43, List.forall_mem_cons.mpr ⟨lw_p44, List.forall_mem_cons.mpr ⟨lw_p45, List.forall_mem_cons.mpr ⟨lw_p46, List.forall_mem_cons.mpr ⟨lw_p47, fun _ h => absurd h List.not_mem_nil⟩⟩⟩⟩⟩⟩⟩⟩⟩⟩⟩⟩⟩⟩⟩⟩
theorem lw_p48 : lw_okq (⟨"BundleMillModel", "units", "(I)I"⟩, 57) := ⟨⟨by decide +kernel, by decide +kernel⟩, List.mem_of_getElem? (i := 827) (by decide +kernel), List.mem_of_getElem? (i := 1149) (by decide +kernel), List.mem_of_getElem? (i := 1150) (by decide +kernel)⟩
theorem lw_p49 : lw_okq (⟨"BundleMillModel", "closes", "(II)Z"⟩, 57) := ⟨⟨by decide +kernel, by decide +kernel⟩, List.mem_of_getElem? (i := 827) (by decide +kernel), List.mem_of_getElem? (i := 1153) (by decide +kernel), List.mem_of_getElem? (i := 1154) (by decide +kernel)⟩
theorem lw_p50 : lw_okq (⟨"BundleMillModel", "asks", "(III)I"⟩, 57) := ⟨⟨by decide +kernel, by decide +kernel⟩, List.mem_of_getElem? (i := 827) (by decide +kernel), List.mem_of_getElem? (i := 1157) (by decide +kernel), List.mem_of_getElem? (i := 1158) (by decide +kernel)⟩
theorem lw_p51 : lw_okq (⟨"BundleMillModel", "tries", "(II)Z"⟩, 57) := ⟨⟨by decide +kernel, by decide +kernel⟩, List.mem_of_getElem? (i := 827) (by decide +kernel), List.mem_of_getElem? (i := 1161) (by decide +kernel), List.mem_of_getElem? (i := 1162) (by decide +kernel)⟩
theorem lw_p52 : lw_okq (⟨"BundleMillModel", "put", "(III)V"⟩, 57) := ⟨⟨by decide +kernel, by decide +kernel⟩, List.mem_of_getElem? (i := 827) (by decide +kernel), List.mem_of_getElem? (i := 1165) (by decide +kernel), List.mem_of_getElem? (i := 1166) (by decide +kernel)⟩
theorem lw_p53 : lw_okq (⟨"BundleMillModel", "inRow", "(IIII)I"⟩, 57) := ⟨⟨by decide +kernel, by decide +kernel⟩, List.mem_of_getElem? (i := 827) (by decide +kernel), List.mem_of_getElem? (i := 1169) (by decide +kernel), List.mem_of_getElem? (i := 1170) (by decide +kernel)⟩
theorem lw_p54 : lw_okq (⟨"BundleMillModel", "drive", "(IIII)V"⟩, 57) := ⟨⟨by decide +kernel, by decide +kernel⟩, List.mem_of_getElem? (i := 827) (by decide +kernel), List.mem_of_getElem? (i := 1173) (by decide +kernel), List.mem_of_getElem? (i := 1174) (by decide +kernel)⟩
theorem lw_p55 : lw_okq (⟨"BundleMillModel", "once", "(I)I"⟩, 57) := ⟨⟨by decide +kernel, by decide +kernel⟩, List.mem_of_getElem? (i := 827) (by decide +kernel), List.mem_of_getElem? (i := 1181) (by decide +kernel), List.mem_of_getElem? (i := 1182) (by decide +kernel)⟩
theorem lw_p56 : lw_okq (⟨"BundleMillModel", "does", "(I)Z"⟩, 57) := ⟨⟨by decide +kernel, by decide +kernel⟩, List.mem_of_getElem? (i := 827) (by decide +kernel), List.mem_of_getElem? (i := 1185) (by decide +kernel), List.mem_of_getElem? (i := 1186) (by decide +kernel)⟩
theorem lw_p57 : lw_okq (⟨"BundleMillModel", "isOn", "(I)Z"⟩, 57) := ⟨⟨by decide +kernel, by decide +kernel⟩, List.mem_of_getElem? (i := 827) (by decide +kernel), List.mem_of_getElem? (i := 1189) (by decide +kernel), List.mem_of_getElem? (i := 1190) (by decide +kernel)⟩
theorem lw_p58 : lw_okq (⟨"BundleMillModel", "takes", "(II)I"⟩, 57) := ⟨⟨by decide +kernel, by decide +kernel⟩, List.mem_of_getElem? (i := 827) (by decide +kernel), List.mem_of_getElem? (i := 1193) (by decide +kernel), List.mem_of_getElem? (i := 1194) (by decide +kernel)⟩
theorem lw_p59 : lw_okq (⟨"BundleMillModel", "settle", "(IZ)V"⟩, 57) := ⟨⟨by decide +kernel, by decide +kernel⟩, List.mem_of_getElem? (i := 827) (by decide +kernel), List.mem_of_getElem? (i := 1197) (by decide +kernel), List.mem_of_getElem? (i := 1198) (by decide +kernel)⟩
theorem lw_p60 : lw_okq (⟨"BundleMillModel", "asked", "(IZZ)I"⟩, 57) := ⟨⟨by decide +kernel, by decide +kernel⟩, List.mem_of_getElem? (i := 827) (by decide +kernel), List.mem_of_getElem? (i := 1217) (by decide +kernel), List.mem_of_getElem? (i := 1218) (by decide +kernel)⟩
def lw_privs_4 : List (MethodName × Nat) := [(⟨"BundleMillModel", "units", "(I)I"⟩, 57), (⟨"BundleMillModel", "closes", "(II)Z"⟩, 57), (⟨"BundleMillModel", "asks", "(III)I"⟩, 57), (⟨"BundleMillModel", "tries", "(II)Z"⟩, 57), (⟨"BundleMillModel", "put", "(III)V"⟩, 57), (⟨"BundleMillModel", "inRow", "(IIII)I"⟩, 57), (⟨"BundleMillModel", "drive", "(IIII)V"⟩, 57), (⟨"BundleMillModel", "once", "(I)I"⟩, 57), (⟨"BundleMillModel", "does", "(I)Z"⟩, 57), (⟨"BundleMillModel", "isOn", "(I)Z"⟩, 57), (⟨"BundleMillModel", "takes", "(II)I"⟩, 57), (⟨"BundleMillModel", "settle", "(IZ)V"⟩, 57), (⟨"BundleMillModel", "asked", "(IZZ)I"⟩, 57)]
theorem lw_r4 : ∀ q ∈ lw_privs_4, lw_okq q := List.forall_mem_cons.mpr ⟨lw_p48, List.forall_mem_cons.mpr ⟨lw_p49, List.forall_mem_cons.mpr ⟨lw_p50, List.forall_mem_cons.mpr ⟨lw_p51, List.forall_mem_cons.mpr ⟨lw_p52, List.forall_mem_cons.mpr ⟨lw_p53, List.forall_mem_cons.mpr ⟨lw_p54, List.forall_mem_cons.mpr ⟨lw_p55, List.forall_mem_cons.mpr ⟨lw_p56, List.forall_mem_cons.mpr ⟨lw_p57, List.forall_mem_cons.mpr ⟨lw_p58, List.forall_mem_cons.mpr ⟨lw_p59, List.forall_mem_cons.mpr ⟨lw_p60, fun _ h => absurd h List.not_mem_nil⟩⟩⟩⟩⟩⟩⟩⟩⟩⟩⟩⟩⟩
def lw_privs : List (MethodName × Nat) := lw_privs_1 ++ (lw_privs_2 ++ (lw_privs_3 ++ (lw_privs_4)))
def lw_tbl : List Cond := k2_sels lw_privs ++ tables_1
theorem lw_privs_ok : ∀ q ∈ lw_privs, lw_okq q := by
  show ∀ q ∈ lw_privs_1 ++ (lw_privs_2 ++ (lw_privs_3 ++ (lw_privs_4))), lw_okq q
  exact List.forall_mem_append.mpr ⟨lw_r1, List.forall_mem_append.mpr ⟨lw_r2, List.forall_mem_append.mpr ⟨lw_r3, lw_r4⟩⟩⟩
/-- the streams that the claim lets the run draw from -/
abbrev lw_cs : List Choice := [Jvm.Choice.named "NaN.bits"]
theorem lw_bits : nanBits ∈ lw_cs := by first | decide | exact List.mem_cons_self | simp [lw_cs, nanBits]
end
section
/-! THE PROGRAM AS TABLES: printed by wip/whole/gen_prog2.py out of the claim's own listings -/
abbrev En : Type := Instr × Nat × Nat × Nat × Nat × Int32
abbrev Mem : Type := Nat → Nat → Int32
def kdL : List Nat := [6, 2, 22, 22, 23, 0, 20, 20, 20, 20, 20, 20, 0, 20, 20, 20, 20, 20, 20, 5, 20, 20, 20, 0, 20, 20, 20, 20, 20, 20, 0, 20, 20, 20, 20, 20, 20, 5, 20, 20, 20, 0, 20, 20, 20, 20, 20, 20, 0, 20, 20, 20, 20, 20, 20, 5, 20, 20, 20, 0, 20, 20, 20, 20, 20, 20, 0, 20, 20, 20, 20, 20, 20, 5, 20, 20, 20, 0, 20, 20, 20, 20, 20, 20, 0, 20, 20, 20, 20, 20, 20, 5, 20, 20, 20, 0, 20, 20, 20, 20, 20, 20, 0, 20, 20, 20, 20, 20, 20, 5, 20, 20, 20, 1, 21, 20, 20, 20, 20, 21, 20, 20, 3, 20, 20, 20, 4, 20, 20, 20, 4, 20, 20, 20, 7, 20, 20, 20, 20, 20, 20, 20, 20, 20, 20, 20, 21, 20, 20, 20, 20, 20, 20, 20, 20, 20, 20, 20, 20, 20, 20, 20, 20, 20, 20, 20, 20, 20, 20, 20, 20, 20, 20, 20, 20, 20, 20, 20, 24, 25]
def lnL : List Nat := [0, 0, 6, 6, 6, 0, 10, 10, 10, 10, 10, 10, 0, 10, 10, 10, 10, 10, 10, 0, 10, 10, 10, 0, 10, 10, 10, 10, 10, 10, 0, 10, 10, 10, 10, 10, 10, 0, 10, 10, 10, 0, 10, 10, 10, 10, 10, 10, 0, 10, 10, 10, 10, 10, 10, 0, 10, 10, 10, 0, 10, 10, 10, 10, 10, 10, 0, 10, 10, 10, 10, 10, 10, 0, 10, 10, 10, 0, 10, 10, 10, 10, 10, 10, 0, 10, 10, 10, 10, 10, 10, 0, 10, 10, 10, 0, 10, 10, 10, 10, 10, 10, 0, 10, 10, 10, 10, 10, 10, 0, 10, 10, 10, 0, 10, 10, 200, 200, 100, 10, 10, 10, 0, 10, 10, 10, 0, 64, 12, 64, 0, 64, 12, 64, 0, 6, 6, 6, 6, 6, 60, 60, 60, 60, 60, 60, 6, 6, 6, 6, 6, 6, 60, 60, 60, 60, 60, 60, 60, 60, 60, 6, 6, 6, 6, 100, 100, 100, 100, 10, 10, 10, 64, 64, 12, 12, 64, 64, 1, 1]
def kd (k : Nat) : Nat := kdL.getD k 99
def ln (k : Nat) : Nat := lnL.getD k 0
def ftyL : List (List Nat) := [[0, 0, 0, 0, 0, 0, 1, 1, 1, 1, 1, 1], [0, 0, 0, 0, 1, 1, 1, 1, 1, 1, 1, 1], [0, 0, 0, 0, 0, 0], [1, 1, 1], [0, 0, 0, 1, 1, 1], [0, 0, 0, 0, 0, 1, 1, 1], [1, 1, 1, 1, 1, 1, 0, 0, 2, 2], [0, 0, 0, 0, 0, 0, 0, 0, 1, 1, 1, 1, 1, 1, 1, 1, 1, 1, 1, 0, 0, 1, 1, 1, 1, 1, 1, 1, 1, 1, 1, 1, 1, 1, 1, 1, 1, 1, 1, 1, 1, 1, 1, 1, 1, 1, 1, 1, 1, 1, 1, 1, 1, 0, 0, 0, 0]]
def fty (c j : Nat) : Nat := (ftyL.getD c []).getD j 9
def fboL : List (List Nat) := [[0, 0, 0, 0, 0, 1, 0, 0, 0, 0, 0, 0], [0, 1, 0, 0, 0, 0, 0, 0, 0, 0, 0, 0], [0, 0, 0, 0, 0, 0], [0, 0, 0], [0, 0, 1, 0, 0, 0], [0, 0, 0, 0, 0, 0, 0, 0], [0, 0, 0, 0, 0, 0, 0, 1, 0, 0], [0, 0, 0, 0, 0, 0, 0, 0, 0, 0, 0, 0, 0, 0, 0, 0, 0, 0, 0, 1, 0, 0, 0, 0, 0, 0, 0, 0, 0, 0, 0, 0, 0, 0, 0, 0, 0, 0, 0, 0, 0, 0, 0, 0, 0, 0, 0, 0, 0, 0, 0, 0, 0, 0, 0, 0, 0]]
def fbo (c j : Nat) : Nat := (fboL.getD c []).getD j 0
def offL : List (List Nat) := [[0, 0, 0, 0, 0, 0, 1, 2, 3, 4, 5, 6], [0, 0, 0, 0, 1, 2, 3, 4, 5, 6, 7, 8], [0, 0, 0, 0, 0, 0], [1, 2, 3], [0, 0, 0, 1, 2, 3], [0, 0, 0, 0, 0, 1, 2, 3], [1, 2, 3, 4, 113, 122, 0, 0, 0, 0], [0, 0, 0, 0, 0, 0, 0, 0, 1, 2, 3, 4, 5, 6, 7, 8, 9, 10, 11, 0, 0, 12, 13, 14, 15, 16, 17, 18, 19, 20, 21, 22, 23, 24, 25, 26, 27, 28, 29, 30, 31, 32, 33, 34, 35, 36, 37, 38, 39, 40, 41, 42, 43, 0, 0, 0, 0]]
def off (c j : Nat) : Nat := (offL.getD c []).getD j 0
def finL : List (List Nat) := [[0, 0, 0, 0, 0, 0, 1, 1, 1, 1, 1, 1], [0, 0, 0, 0, 1, 1, 1, 1, 1, 1, 1, 1], [0, 0, 0, 0, 0, 0], [1, 1, 1], [0, 0, 0, 1, 1, 1], [0, 0, 0, 0, 0, 1, 1, 1], [1, 1, 1, 1, 1, 1, 0, 0, 0, 0], [0, 0, 0, 0, 0, 0, 0, 0, 1, 1, 1, 1, 1, 1, 1, 1, 1, 1, 1, 0, 0, 1, 1, 1, 1, 1, 1, 1, 1, 1, 1, 1, 1, 1, 1, 1, 1, 1, 1, 1, 1, 1, 1, 1, 1, 1, 1, 1, 1, 1, 1, 1, 1, 0, 0, 0, 0]]
def fin (c j : Nat) : Nat := (finL.getD c []).getD j 0
def nfL : List Nat := [12, 12, 6, 3, 6, 8, 10, 57]
def nf (c : Nat) : Nat := nfL.getD c 0
/-- the class's number of elements' first object, of the arrays of blocks and plans -/
def elb (k : Nat) : Nat := if k = 2 then 5 else if k = 3 then 12 else 19
def cnL : List String := ["BundleMill$Block", "BundleMill$Graph", "BundleMill$Machine", "BundleMill$ModuloScheduler", "BundleMill$Outcome", "BundleMill$Plan", "BundleMill", "BundleMillModel", "BundleMill$ListScheduler", "BundleMillLaw", "java/lang/Math"]
def cn (c : Nat) : String := cnL.getD c ""
def exL : List String := ["java/lang/IllegalArgumentException", "java/lang/IllegalStateException", "java/lang/IndexOutOfBoundsException", "java/lang/UnsupportedOperationException", "java/util/NoSuchElementException"]
def ex (c : Nat) : String := exL.getD c ""
def tF_0 : u_T := fun k => match k with
  | 0 => ("BundleMill$Block", "end", "I", false)
  | 1 => ("BundleMill$Block", "v", "I", false)
  | 2 => ("BundleMill$Block", "t", "I", false)
  | 3 => ("BundleMill$Block", "f", "I", false)
  | 4 => ("BundleMill$Block", "count", "I", false)
  | 5 => ("BundleMill$Block", "gone", "Z", false)
  | 6 => ("BundleMill$Block", "code", "[I", true)
  | 7 => ("BundleMill$Block", "d", "[I", true)
  | 8 => ("BundleMill$Block", "a", "[I", true)
  | 9 => ("BundleMill$Block", "b", "[I", true)
  | 10 => ("BundleMill$Block", "n", "[I", true)
  | _ => ("BundleMill$Block", "guard", "[I", true)
def tF_1 : u_T := fun k => match k with
  | 0 => ("BundleMill$Graph", "count", "I", false)
  | 1 => ("BundleMill$Graph", "loop", "Z", false)
  | 2 => ("BundleMill$Graph", "alus", "I", false)
  | 3 => ("BundleMill$Graph", "ports", "I", false)
  | 4 => ("BundleMill$Graph", "usesPort", "[Z", true)
  | 5 => ("BundleMill$Graph", "latency", "[I", true)
  | 6 => ("BundleMill$Graph", "delay", "[I", true)
  | 7 => ("BundleMill$Graph", "distance", "[I", true)
  | 8 => ("BundleMill$Graph", "weight", "[I", true)
  | 9 => ("BundleMill$Graph", "loose", "[Z", true)
  | 10 => ("BundleMill$Graph", "offset", "[I", true)
  | _ => ("BundleMill$Graph", "amount", "[I", true)
def tF_2 : u_T := fun k => match k with
  | 0 => ("BundleMill$Machine", "alus", "I", false)
  | 1 => ("BundleMill$Machine", "ports", "I", false)
  | 2 => ("BundleMill$Machine", "plain", "I", false)
  | 3 => ("BundleMill$Machine", "mul", "I", false)
  | 4 => ("BundleMill$Machine", "div", "I", false)
  | _ => ("BundleMill$Machine", "load", "I", false)
def tF_3 : u_T := fun k => match k with
  | 0 => ("BundleMill$ModuloScheduler", "priority", "[I", true)
  | 1 => ("BundleMill$ModuloScheduler", "lastCycle", "[I", true)
  | _ => ("BundleMill$ModuloScheduler", "lastRow", "[I", true)
def tF_4 : u_T := fun k => match k with
  | 0 => ("BundleMill$Outcome", "outputCount", "I", false)
  | 1 => ("BundleMill$Outcome", "turns", "I", false)
  | 2 => ("BundleMill$Outcome", "trapped", "Z", false)
  | 3 => ("BundleMill$Outcome", "outputs", "[I", true)
  | 4 => ("BundleMill$Outcome", "variables", "[I", true)
  | _ => ("BundleMill$Outcome", "memory", "[I", true)
def tF_5 : u_T := fun k => match k with
  | 0 => ("BundleMill$Plan", "length", "I", false)
  | 1 => ("BundleMill$Plan", "leastInterval", "I", false)
  | 2 => ("BundleMill$Plan", "interval", "I", false)
  | 3 => ("BundleMill$Plan", "stages", "I", false)
  | 4 => ("BundleMill$Plan", "span", "I", false)
  | 5 => ("BundleMill$Plan", "height", "[I", true)
  | 6 => ("BundleMill$Plan", "listCycle", "[I", true)
  | _ => ("BundleMill$Plan", "moduloCycle", "[I", true)
def tF_6 : u_T := fun k => match k with
  | 0 => ("BundleMill", "target", "LBundleMill$Machine;", true)
  | 1 => ("BundleMill", "given", "[LBundleMill$Block;", true)
  | 2 => ("BundleMill", "built", "[LBundleMill$Block;", true)
  | 3 => ("BundleMill", "plans", "[LBundleMill$Plan;", true)
  | 4 => ("BundleMill", "graph", "LBundleMill$Graph;", true)
  | 5 => ("BundleMill", "modulos", "LBundleMill$ModuloScheduler;", true)
  | 6 => ("BundleMill", "blockCount", "I", false)
  | 7 => ("BundleMill", "compiled", "Z", false)
  | 8 => ("BundleMill", "told", "LBundleMill$Outcome;", false)
  | _ => ("BundleMill", "tried", "LBundleMill$Outcome;", false)
def tF_7 : u_T := fun k => match k with
  | 0 => ("BundleMillModel", "thrown", "I", false)
  | 1 => ("BundleMillModel", "alus", "I", false)
  | 2 => ("BundleMillModel", "ports", "I", false)
  | 3 => ("BundleMillModel", "plain", "I", false)
  | 4 => ("BundleMillModel", "mul", "I", false)
  | 5 => ("BundleMillModel", "div", "I", false)
  | 6 => ("BundleMillModel", "load", "I", false)
  | 7 => ("BundleMillModel", "blocks", "I", false)
  | 8 => ("BundleMillModel", "ends", "[I", true)
  | 9 => ("BundleMillModel", "tests", "[I", true)
  | 10 => ("BundleMillModel", "thens", "[I", true)
  | 11 => ("BundleMillModel", "elses", "[I", true)
  | 12 => ("BundleMillModel", "sizes", "[I", true)
  | 13 => ("BundleMillModel", "codes", "[I", true)
  | 14 => ("BundleMillModel", "ds", "[I", true)
  | 15 => ("BundleMillModel", "as", "[I", true)
  | 16 => ("BundleMillModel", "bs", "[I", true)
  | 17 => ("BundleMillModel", "ns", "[I", true)
  | 18 => ("BundleMillModel", "guards", "[I", true)
  | 19 => ("BundleMillModel", "compiled", "Z", false)
  | 20 => ("BundleMillModel", "made", "I", false)
  | 21 => ("BundleMillModel", "gone", "[Z", true)
  | 22 => ("BundleMillModel", "end", "[I", true)
  | 23 => ("BundleMillModel", "test", "[I", true)
  | 24 => ("BundleMillModel", "then", "[I", true)
  | 25 => ("BundleMillModel", "other", "[I", true)
  | 26 => ("BundleMillModel", "size", "[I", true)
  | 27 => ("BundleMillModel", "code", "[I", true)
  | 28 => ("BundleMillModel", "d", "[I", true)
  | 29 => ("BundleMillModel", "a", "[I", true)
  | 30 => ("BundleMillModel", "b", "[I", true)
  | 31 => ("BundleMillModel", "n", "[I", true)
  | 32 => ("BundleMillModel", "guard", "[I", true)
  | 33 => ("BundleMillModel", "height", "[I", true)
  | 34 => ("BundleMillModel", "byList", "[I", true)
  | 35 => ("BundleMillModel", "byRows", "[I", true)
  | 36 => ("BundleMillModel", "length", "[I", true)
  | 37 => ("BundleMillModel", "least", "[I", true)
  | 38 => ("BundleMillModel", "interval", "[I", true)
  | 39 => ("BundleMillModel", "stages", "[I", true)
  | 40 => ("BundleMillModel", "usual", "[I", true)
  | 41 => ("BundleMillModel", "memory", "[I", true)
  | 42 => ("BundleMillModel", "distance", "[I", true)
  | 43 => ("BundleMillModel", "ways", "[I", true)
  | 44 => ("BundleMillModel", "priority", "[I", true)
  | 45 => ("BundleMillModel", "cycle", "[I", true)
  | 46 => ("BundleMillModel", "had", "[I", true)
  | 47 => ("BundleMillModel", "cells", "[I", true)
  | 48 => ("BundleMillModel", "tried", "[I", true)
  | 49 => ("BundleMillModel", "now", "[I", true)
  | 50 => ("BundleMillModel", "variables", "[I", true)
  | 51 => ("BundleMillModel", "shown", "[I", true)
  | 52 => ("BundleMillModel", "showing", "[I", true)
  | 53 => ("BundleMillModel", "shows", "I", false)
  | 54 => ("BundleMillModel", "showed", "I", false)
  | 55 => ("BundleMillModel", "turns", "I", false)
  | _ => ("BundleMillModel", "trapped", "I", false)
def tF (c : Nat) : u_T := match c with
  | 0 => tF_0
  | 1 => tF_1
  | 2 => tF_2
  | 3 => tF_3
  | 4 => tF_4
  | 5 => tF_5
  | 6 => tF_6
  | _ => tF_7
def fT_0 : Nat → FieldType := fun k => match k with
  | 0 => .int
  | 1 => .int
  | 2 => .int
  | 3 => .int
  | 4 => .int
  | 5 => .boolean
  | 6 => .array .int
  | 7 => .array .int
  | 8 => .array .int
  | 9 => .array .int
  | 10 => .array .int
  | _ => .array .int
def fT_1 : Nat → FieldType := fun k => match k with
  | 0 => .int
  | 1 => .boolean
  | 2 => .int
  | 3 => .int
  | 4 => .array .boolean
  | 5 => .array .int
  | 6 => .array .int
  | 7 => .array .int
  | 8 => .array .int
  | 9 => .array .boolean
  | 10 => .array .int
  | _ => .array .int
def fT_2 : Nat → FieldType := fun k => match k with
  | 0 => .int
  | 1 => .int
  | 2 => .int
  | 3 => .int
  | 4 => .int
  | _ => .int
def fT_3 : Nat → FieldType := fun k => match k with
  | 0 => .array .int
  | 1 => .array .int
  | _ => .array .int
def fT_4 : Nat → FieldType := fun k => match k with
  | 0 => .int
  | 1 => .int
  | 2 => .boolean
  | 3 => .array .int
  | 4 => .array .int
  | _ => .array .int
def fT_5 : Nat → FieldType := fun k => match k with
  | 0 => .int
  | 1 => .int
  | 2 => .int
  | 3 => .int
  | 4 => .int
  | 5 => .array .int
  | 6 => .array .int
  | _ => .array .int
def fT_6 : Nat → FieldType := fun k => match k with
  | 0 => .object "BundleMill$Machine"
  | 1 => .array (.object "BundleMill$Block")
  | 2 => .array (.object "BundleMill$Block")
  | 3 => .array (.object "BundleMill$Plan")
  | 4 => .object "BundleMill$Graph"
  | 5 => .object "BundleMill$ModuloScheduler"
  | 6 => .int
  | 7 => .boolean
  | 8 => .object "BundleMill$Outcome"
  | _ => .object "BundleMill$Outcome"
def fT_7 : Nat → FieldType := fun k => match k with
  | 0 => .int
  | 1 => .int
  | 2 => .int
  | 3 => .int
  | 4 => .int
  | 5 => .int
  | 6 => .int
  | 7 => .int
  | 8 => .array .int
  | 9 => .array .int
  | 10 => .array .int
  | 11 => .array .int
  | 12 => .array .int
  | 13 => .array .int
  | 14 => .array .int
  | 15 => .array .int
  | 16 => .array .int
  | 17 => .array .int
  | 18 => .array .int
  | 19 => .boolean
  | 20 => .int
  | 21 => .array .boolean
  | 22 => .array .int
  | 23 => .array .int
  | 24 => .array .int
  | 25 => .array .int
  | 26 => .array .int
  | 27 => .array .int
  | 28 => .array .int
  | 29 => .array .int
  | 30 => .array .int
  | 31 => .array .int
  | 32 => .array .int
  | 33 => .array .int
  | 34 => .array .int
  | 35 => .array .int
  | 36 => .array .int
  | 37 => .array .int
  | 38 => .array .int
  | 39 => .array .int
  | 40 => .array .int
  | 41 => .array .int
  | 42 => .array .int
  | 43 => .array .int
  | 44 => .array .int
  | 45 => .array .int
  | 46 => .array .int
  | 47 => .array .int
  | 48 => .array .int
  | 49 => .array .int
  | 50 => .array .int
  | 51 => .array .int
  | 52 => .array .int
  | 53 => .int
  | 54 => .int
  | 55 => .int
  | _ => .int
def fT (c : Nat) : Nat → FieldType := match c with
  | 0 => fT_0
  | 1 => fT_1
  | 2 => fT_2
  | 3 => fT_3
  | 4 => fT_4
  | 5 => fT_5
  | 6 => fT_6
  | _ => fT_7
abbrev cl8 : List vw_C := [("BundleMill$Block", tF_0, 12), ("BundleMill$Graph", tF_1, 12), ("BundleMill$Machine", tF_2, 6), ("BundleMill$ModuloScheduler", tF_3, 3), ("BundleMill$Outcome", tF_4, 6), ("BundleMill$Plan", tF_5, 8), ("BundleMill", tF_6, 10), ("BundleMillModel", tF_7, 57)]
def yL : List MethodName := [⟨"BundleMill$Block", "<init>", "()V"⟩, ⟨"BundleMill$Block", "begin", "(IIII)V"⟩, ⟨"BundleMill$Block", "add", "(IIIIII)V"⟩, ⟨"BundleMill$Block", "copy", "(LBundleMill$Block;)V"⟩, ⟨"BundleMill$Block", "take", "(LBundleMill$Block;I)V"⟩, ⟨"BundleMill$Block", "jumpTo", "(I)V"⟩, ⟨"BundleMill$Block", "comesTo", "(I)Z"⟩, ⟨"BundleMill$Block", "hasGuard", "()Z"⟩, ⟨"BundleMill$Block", "writesVariable", "(I)Z"⟩, ⟨"BundleMill$Block", "written", "(I)I"⟩, ⟨"BundleMill$Block", "guarding", "(I)I"⟩, ⟨"BundleMill$Block", "reads", "(II)Z"⟩, ⟨"BundleMill$Block", "usesMemory", "(I)Z"⟩, ⟨"BundleMill$Block", "stepsItself", "(I)Z"⟩, ⟨"BundleMill$Graph", "<init>", "()V"⟩, ⟨"BundleMill$Graph", "pair", "(II)I"⟩, ⟨"BundleMill$Graph", "unitsLike", "(I)I"⟩, ⟨"BundleMill$Graph", "countLike", "(Z)I"⟩, ⟨"BundleMill$Graph", "draw", "(LBundleMill$Block;LBundleMill$Machine;)V"⟩, ⟨"BundleMill$Graph", "drawDirect", "(LBundleMill$Block;II)V"⟩, ⟨"BundleMill$Graph", "keepOrder", "(II)Z"⟩, ⟨"BundleMill$Graph", "staysBehindTraps", "(I)Z"⟩, ⟨"BundleMill$Graph", "drawMemory", "(LBundleMill$Block;II)V"⟩, ⟨"BundleMill$Graph", "meetingDistance", "(LBundleMill$Block;II)I"⟩, ⟨"BundleMill$Graph", "findOffset", "(LBundleMill$Block;I)V"⟩, ⟨"BundleMill$Graph", "weigh", "(II)V"⟩, ⟨"BundleMill$Graph", "weighEdge", "(IIII)V"⟩, ⟨"BundleMill$Graph", "greatestBehind", "(I[II)I"⟩, ⟨"BundleMill$Graph", "early", "(I[I)I"⟩, ⟨"BundleMill$Graph", "end", "([I)I"⟩, ⟨"BundleMill$ListScheduler", "schedule", "(LBundleMill$Graph;LBundleMill$Plan;)V"⟩, ⟨"BundleMill$ListScheduler", "fillCycle", "(LBundleMill$Graph;LBundleMill$Plan;I)I"⟩, ⟨"BundleMill$ListScheduler", "highestReady", "(LBundleMill$Graph;LBundleMill$Plan;III)I"⟩, ⟨"BundleMill$ListScheduler", "isReady", "(LBundleMill$Graph;LBundleMill$Plan;II)Z"⟩, ⟨"BundleMill$Machine", "<init>", "()V"⟩, ⟨"BundleMill$Machine", "latency", "(I)I"⟩, ⟨"BundleMill$ModuloScheduler", "<init>", "()V"⟩, ⟨"BundleMill$ModuloScheduler", "schedule", "(LBundleMill$Graph;LBundleMill$Plan;)V"⟩, ⟨"BundleMill$ModuloScheduler", "dropSchedule", "(LBundleMill$Graph;LBundleMill$Plan;)V"⟩, ⟨"BundleMill$ModuloScheduler", "keepSchedule", "(LBundleMill$Graph;LBundleMill$Plan;I)V"⟩, ⟨"BundleMill$ModuloScheduler", "greatestStage", "(LBundleMill$Graph;LBundleMill$Plan;I)I"⟩, ⟨"BundleMill$ModuloScheduler", "leastInterval", "(LBundleMill$Graph;)I"⟩, ⟨"BundleMill$ModuloScheduler", "findPriorities", "(LBundleMill$Graph;I)Z"⟩, ⟨"BundleMill$ModuloScheduler", "tryInterval", "(LBundleMill$Graph;LBundleMill$Plan;I)Z"⟩, ⟨"BundleMill$ModuloScheduler", "nextOperation", "(LBundleMill$Graph;LBundleMill$Plan;)I"⟩, ⟨"BundleMill$ModuloScheduler", "settle", "(LBundleMill$Graph;LBundleMill$Plan;II)V"⟩, ⟨"BundleMill$ModuloScheduler", "firstFree", "(LBundleMill$Graph;LBundleMill$Plan;III)I"⟩, ⟨"BundleMill$ModuloScheduler", "driveOut", "(LBundleMill$Graph;LBundleMill$Plan;II)V"⟩, ⟨"BundleMill$ModuloScheduler", "takesUnit", "(LBundleMill$Graph;LBundleMill$Plan;III)Z"⟩, ⟨"BundleMill$Outcome", "<init>", "()V"⟩, ⟨"BundleMill$Outcome", "begin", "([I)V"⟩, ⟨"BundleMill$Outcome", "makeTurns", "(I)Z"⟩, ⟨"BundleMill$Outcome", "perform", "(LBundleMill$Block;I)V"⟩, ⟨"BundleMill$Outcome", "isAllowed", "(I)Z"⟩, ⟨"BundleMill$Outcome", "putOut", "(I)V"⟩, ⟨"BundleMill$Outcome", "divide", "(III)V"⟩, ⟨"BundleMill$Outcome", "valueOf", "(IIII)I"⟩, ⟨"BundleMill$Plan", "<init>", "()V"⟩, ⟨"BundleMill$Plan", "rows", "()I"⟩, ⟨"BundleMill$Plan", "cyclesOf", "(I)I"⟩, ⟨"BundleMill$Plan", "cyclesUntil", "(II)I"⟩, ⟨"BundleMill$Plan", "pack", "(LBundleMill$Block;[III)J"⟩, ⟨"BundleMill$Plan", "stageOf", "(II)I"⟩, ⟨"BundleMill$Plan", "rowOf", "(II)I"⟩, ⟨"BundleMill", "<init>", "()V"⟩, ⟨"BundleMill", "machine", "(IIIIII)V"⟩, ⟨"BundleMill", "block", "(IIII)I"⟩, ⟨"BundleMill", "operation", "(IIIIII)I"⟩, ⟨"BundleMill", "erase", "()V"⟩, ⟨"BundleMill", "poke", "(II)V"⟩, ⟨"BundleMill", "peek", "(I)I"⟩, ⟨"BundleMill", "compile", "()I"⟩, ⟨"BundleMill", "run", "()I"⟩, ⟨"BundleMill", "result", "(I)I"⟩, ⟨"BundleMill", "output", "(I)I"⟩, ⟨"BundleMill", "variable", "(I)I"⟩, ⟨"BundleMill", "shape", "(II)I"⟩, ⟨"BundleMill", "place", "(III)I"⟩, ⟨"BundleMill", "bundle", "(IIZ)J"⟩, ⟨"BundleMill", "filled", "(I)D"⟩, ⟨"BundleMill", "checkBlock", "(I)V"⟩, ⟨"BundleMill", "isFrom", "(III)Z"⟩, ⟨"BundleMill", "isVariable", "(I)Z"⟩, ⟨"BundleMill", "usesPort", "(I)Z"⟩, ⟨"BundleMill", "cell", "(I)I"⟩, ⟨"BundleMill", "someBlockIsMissing", "()Z"⟩, ⟨"BundleMill", "someLoopWritesItsCount", "()Z"⟩, ⟨"BundleMill", "guardBranches", "([LBundleMill$Block;I)V"⟩, ⟨"BundleMill", "guardBranch", "([LBundleMill$Block;II)V"⟩, ⟨"BundleMill", "mayTake", "([LBundleMill$Block;III)Z"⟩, ⟨"BundleMill", "planBlocks", "()I"⟩, ⟨"BundleMill", "cyclesOfRun", "()I"⟩, ⟨"BundleMill", "cyclesOfBlock", "(LBundleMill$Block;LBundleMill$Plan;I)I"⟩, ⟨"BundleMillModel", "<init>", "()V"⟩, ⟨"BundleMillModel", "thrown", "()I"⟩, ⟨"BundleMillModel", "outside", "(III)Z"⟩, ⟨"BundleMillModel", "isMachine", "(I)Z"⟩, ⟨"BundleMillModel", "machine", "(IIIIII)V"⟩, ⟨"BundleMillModel", "block", "(IIII)I"⟩, ⟨"BundleMillModel", "operation", "(IIIIII)I"⟩, ⟨"BundleMillModel", "erase", "()V"⟩, ⟨"BundleMillModel", "poke", "(II)V"⟩, ⟨"BundleMillModel", "peek", "(I)I"⟩, ⟨"BundleMillModel", "goes", "(I)Z"⟩, ⟨"BundleMillModel", "forks", "(I)Z"⟩, ⟨"BundleMillModel", "isWriter", "(I)Z"⟩, ⟨"BundleMillModel", "isLost", "()Z"⟩, ⟨"BundleMillModel", "spoils", "()Z"⟩, ⟨"BundleMillModel", "compile", "()I"⟩, ⟨"BundleMillModel", "copy", "()V"⟩, ⟨"BundleMillModel", "add", "(IIIIIII)V"⟩, ⟨"BundleMillModel", "isFree", "(II)Z"⟩, ⟨"BundleMillModel", "guardBranch", "(I)V"⟩, ⟨"BundleMillModel", "take", "(III)V"⟩, ⟨"BundleMillModel", "leads", "(II)V"⟩, ⟨"BundleMillModel", "latency", "(I)I"⟩, ⟨"BundleMillModel", "isPort", "(I)Z"⟩, ⟨"BundleMillModel", "writes", "(II)Z"⟩, ⟨"BundleMillModel", "reads", "(II)Z"⟩, ⟨"BundleMillModel", "isAccess", "(I)Z"⟩, ⟨"BundleMillModel", "isOrdered", "(II)Z"⟩, ⟨"BundleMillModel", "greater", "(II)I"⟩, ⟨"BundleMillModel", "usualDelay", "(II)I"⟩, ⟨"BundleMillModel", "writer", "(II)I"⟩, ⟨"BundleMillModel", "isSteady", "(II)Z"⟩, ⟨"BundleMillModel", "meeting", "(III)I"⟩, ⟨"BundleMillModel", "edges", "(I)V"⟩, ⟨"BundleMillModel", "asks", "(III)I"⟩, ⟨"BundleMillModel", "asksAtOnce", "(II)I"⟩, ⟨"BundleMillModel", "closes", "(II)Z"⟩, ⟨"BundleMillModel", "units", "(I)I"⟩, ⟨"BundleMillModel", "schedule", "(I)V"⟩, ⟨"BundleMillModel", "list", "(I)V"⟩, ⟨"BundleMillModel", "next", "(II)I"⟩, ⟨"BundleMillModel", "inRow", "(IIII)I"⟩, ⟨"BundleMillModel", "drive", "(IIII)V"⟩, ⟨"BundleMillModel", "tries", "(II)Z"⟩, ⟨"BundleMillModel", "put", "(III)V"⟩, ⟨"BundleMillModel", "isOn", "(I)Z"⟩, ⟨"BundleMillModel", "does", "(I)Z"⟩, ⟨"BundleMillModel", "once", "(I)I"⟩, ⟨"BundleMillModel", "takes", "(II)I"⟩, ⟨"BundleMillModel", "run", "()I"⟩, ⟨"BundleMillModel", "settle", "(IZ)V"⟩, ⟨"BundleMillModel", "result", "(I)I"⟩, ⟨"BundleMillModel", "output", "(I)I"⟩, ⟨"BundleMillModel", "variable", "(I)I"⟩, ⟨"BundleMillModel", "asked", "(IZZ)I"⟩, ⟨"BundleMillModel", "shape", "(II)I"⟩, ⟨"BundleMillModel", "place", "(III)I"⟩, ⟨"BundleMillModel", "bundle", "(IIZ)J"⟩, ⟨"BundleMillModel", "filled", "(I)D"⟩, ⟨"BundleMillLaw", "machine", "(LBundleMill;IIIIII)I"⟩, ⟨"BundleMillLaw", "block", "(LBundleMill;IIII[J)I"⟩, ⟨"BundleMillLaw", "operation", "(LBundleMill;IIIIII[J)I"⟩, ⟨"BundleMillLaw", "compile", "(LBundleMill;[J)I"⟩, ⟨"BundleMillLaw", "run", "(LBundleMill;[J)I"⟩, ⟨"BundleMillLaw", "result", "(LBundleMill;I[J)I"⟩, ⟨"BundleMillLaw", "output", "(LBundleMill;I[J)I"⟩, ⟨"BundleMillLaw", "variable", "(LBundleMill;I[J)I"⟩, ⟨"BundleMillLaw", "shape", "(LBundleMill;II[J)I"⟩, ⟨"BundleMillLaw", "place", "(LBundleMill;III[J)I"⟩, ⟨"BundleMillLaw", "bundle", "(LBundleMill;IIZ[J)I"⟩, ⟨"BundleMillLaw", "filled", "(LBundleMill;I[D)I"⟩, ⟨"java/lang/Math", "max", "(II)I"⟩, ⟨"java/lang/Math", "abs", "(I)I"⟩, ⟨"BundleMillLaw", "law", "([I)Z"⟩]
def yN (z : Nat) : MethodName := yL.getD z ⟨"", "", ""⟩
def ccL : List ByteArray := [prog_2_method_1_code, prog_2_method_2_code, prog_2_method_3_code, prog_2_method_4_code, prog_2_method_5_code, prog_2_method_6_code, prog_2_method_7_code, prog_2_method_8_code, prog_2_method_9_code, prog_2_method_10_code, prog_2_method_11_code, prog_2_method_12_code, prog_2_method_13_code, prog_2_method_14_code, prog_3_method_1_code, prog_3_method_2_code, prog_3_method_3_code, prog_3_method_4_code, prog_3_method_5_code, prog_3_method_6_code, prog_3_method_7_code, prog_3_method_8_code, prog_3_method_9_code, prog_3_method_10_code, prog_3_method_11_code, prog_3_method_12_code, prog_3_method_13_code, prog_3_method_14_code, prog_3_method_15_code, prog_3_method_16_code, prog_4_method_2_code, prog_4_method_3_code, prog_4_method_4_code, prog_4_method_5_code, prog_5_method_1_code, prog_5_method_2_code, prog_6_method_1_code, prog_6_method_2_code, prog_6_method_3_code, prog_6_method_4_code, prog_6_method_5_code, prog_6_method_6_code, prog_6_method_7_code, prog_6_method_8_code, prog_6_method_9_code, prog_6_method_10_code, prog_6_method_11_code, prog_6_method_12_code, prog_6_method_13_code, prog_7_method_1_code, prog_7_method_2_code, prog_7_method_3_code, prog_7_method_4_code, prog_7_method_5_code, prog_7_method_6_code, prog_7_method_7_code, prog_7_method_8_code, prog_8_method_1_code, prog_8_method_2_code, prog_8_method_3_code, prog_8_method_4_code, prog_8_method_5_code, prog_8_method_6_code, prog_8_method_7_code, prog_1_method_1_code, prog_1_method_2_code, prog_1_method_3_code, prog_1_method_4_code, prog_1_method_5_code, prog_1_method_6_code, prog_1_method_7_code, prog_1_method_8_code, prog_1_method_9_code, prog_1_method_10_code, prog_1_method_11_code, prog_1_method_12_code, prog_1_method_13_code, prog_1_method_14_code, prog_1_method_15_code, prog_1_method_16_code, prog_1_method_17_code, prog_1_method_18_code, prog_1_method_19_code, prog_1_method_20_code, prog_1_method_21_code, prog_1_method_22_code, prog_1_method_23_code, prog_1_method_24_code, prog_1_method_25_code, prog_1_method_26_code, prog_1_method_27_code, prog_1_method_28_code, prog_1_method_29_code, prog_10_method_1_code, prog_10_method_2_code, prog_10_method_3_code, prog_10_method_4_code, prog_10_method_5_code, prog_10_method_6_code, prog_10_method_7_code, prog_10_method_8_code, prog_10_method_9_code, prog_10_method_10_code, prog_10_method_11_code, prog_10_method_12_code, prog_10_method_13_code, prog_10_method_14_code, prog_10_method_15_code, prog_10_method_16_code, prog_10_method_17_code, prog_10_method_18_code, prog_10_method_19_code, prog_10_method_20_code, prog_10_method_21_code, prog_10_method_22_code, prog_10_method_23_code, prog_10_method_24_code, prog_10_method_25_code, prog_10_method_26_code, prog_10_method_27_code, prog_10_method_28_code, prog_10_method_29_code, prog_10_method_30_code, prog_10_method_31_code, prog_10_method_32_code, prog_10_method_33_code, prog_10_method_34_code, prog_10_method_35_code, prog_10_method_36_code, prog_10_method_37_code, prog_10_method_38_code, prog_10_method_39_code, prog_10_method_40_code, prog_10_method_41_code, prog_10_method_42_code, prog_10_method_43_code, prog_10_method_44_code, prog_10_method_45_code, prog_10_method_46_code, prog_10_method_47_code, prog_10_method_48_code, prog_10_method_49_code, prog_10_method_50_code, prog_10_method_51_code, prog_10_method_52_code, prog_10_method_53_code, prog_10_method_54_code, prog_10_method_55_code, prog_10_method_56_code, prog_10_method_57_code, prog_10_method_58_code, prog_10_method_59_code, method_3_code, method_4_code, method_5_code, method_6_code, method_7_code, method_8_code, method_9_code, method_10_code, method_11_code, method_12_code, method_13_code, method_14_code, prog_16_method_65_code, prog_16_method_59_code, code]
def cc (z : Nat) : ByteArray := ccL.getD z ⟨#[]⟩
def mlL : List Nat := [1, 5, 7, 3, 4, 2, 2, 2, 3, 2, 2, 5, 2, 2, 1, 2, 2, 4, 5, 5, 2, 1, 5, 7, 5, 6, 6, 6, 5, 4, 4, 7, 8, 6, 1, 2, 1, 4, 3, 3, 5, 5, 7, 6, 5, 9, 10, 7, 6, 1, 3, 3, 6, 2, 2, 4, 5, 1, 1, 2, 3, 12, 2, 2, 2, 9, 5, 8, 1, 3, 2, 2, 3, 2, 2, 2, 3, 4, 5, 3, 2, 3, 1, 1, 1, 3, 2, 4, 9, 5, 3, 6, 6, 1, 1, 3, 1, 7, 6, 9, 1, 3, 2, 1, 1, 1, 3, 4, 3, 3, 9, 6, 8, 5, 3, 2, 2, 3, 6, 2, 5, 3, 5, 5, 3, 11, 9, 7, 5, 7, 2, 5, 6, 9, 7, 8, 8, 7, 2, 5, 3, 5, 8, 4, 2, 2, 2, 4, 3, 6, 14, 6, 8, 7, 9, 3, 3, 4, 4, 4, 5, 6, 6, 4, 2, 1, 9]
def mL (z : Nat) : Nat := mlL.getD z 0
def rtL : List (Option FieldType) := [none, none, none, none, none, none, some .boolean, some .boolean, some .boolean, some .int, some .int, some .boolean, some .boolean, some .boolean, none, some .int, some .int, some .int, none, none, some .boolean, some .boolean, none, some .int, none, none, none, some .int, some .int, some .int, none, some .int, some .int, some .boolean, none, some .int, none, none, none, none, some .int, some .int, some .boolean, some .boolean, some .int, none, some .int, none, some .boolean, none, none, some .boolean, none, some .boolean, none, none, some .int, none, some .int, some .int, some .int, some .long, some .int, some .int, none, none, some .int, some .int, none, none, some .int, some .int, some .int, some .int, some .int, some .int, some .int, some .int, some .long, some .double, none, some .boolean, some .boolean, some .boolean, some .int, some .boolean, some .boolean, none, none, some .boolean, some .int, some .int, some .int, none, some .int, some .boolean, some .boolean, none, some .int, some .int, none, none, some .int, some .boolean, some .boolean, some .boolean, some .boolean, some .boolean, some .int, none, none, some .boolean, none, none, none, some .int, some .boolean, some .boolean, some .boolean, some .boolean, some .boolean, some .int, some .int, some .int, some .boolean, some .int, none, some .int, some .int, some .boolean, some .int, none, none, some .int, some .int, none, some .boolean, none, some .boolean, some .boolean, some .int, some .int, some .int, none, some .int, some .int, some .int, some .int, some .int, some .int, some .long, some .double, some .int, some .int, some .int, some .int, some .int, some .int, some .int, some .int, some .int, some .int, some .int, some .int, some .int, some .int, ret]
def rt (z : Nat) : Option FieldType := rtL.getD z none
def ocL : List Nat := [0, 0, 0, 0, 0, 0, 0, 0, 0, 0, 0, 0, 0, 0, 1, 1, 1, 1, 1, 1, 1, 1, 1, 1, 1, 1, 1, 1, 1, 1, 8, 8, 8, 8, 2, 2, 3, 3, 3, 3, 3, 3, 3, 3, 3, 3, 3, 3, 3, 4, 4, 4, 4, 4, 4, 4, 4, 5, 5, 5, 5, 5, 5, 5, 6, 6, 6, 6, 6, 6, 6, 6, 6, 6, 6, 6, 6, 6, 6, 6, 6, 6, 6, 6, 6, 6, 6, 6, 6, 6, 6, 6, 6, 7, 7, 7, 7, 7, 7, 7, 7, 7, 7, 7, 7, 7, 7, 7, 7, 7, 7, 7, 7, 7, 7, 7, 7, 7, 7, 7, 7, 7, 7, 7, 7, 7, 7, 7, 7, 7, 7, 7, 7, 7, 7, 7, 7, 7, 7, 7, 7, 7, 7, 7, 7, 7, 7, 7, 7, 7, 7, 7, 9, 9, 9, 9, 9, 9, 9, 9, 9, 9, 9, 9, 10, 10, 9]
def oc (z : Nat) : Nat := ocL.getD z 99
def hhL : List (List (Nat × Nat × Nat × Nat)) := [[], [], [], [], [], [], [], [], [], [], [], [], [], [], [], [], [], [], [], [], [], [], [], [], [], [], [], [], [], [], [], [], [], [], [], [], [], [], [], [], [], [], [], [], [], [], [], [], [], [], [], [], [], [], [], [], [], [], [], [], [], [], [], [], [], [], [], [], [], [], [], [], [], [], [], [], [], [], [], [], [], [], [], [], [], [], [], [], [], [], [], [], [], [], [], [], [], [], [], [], [], [], [], [], [], [], [], [], [], [], [], [], [], [], [], [], [], [], [], [], [], [], [], [], [], [], [], [], [], [], [], [], [], [], [], [], [], [], [], [], [], [], [], [], [], [], [], [], [], [], [], [], [((0 : Nat), (13 : Nat), (16 : Nat), (13 : Nat))], [((0 : Nat), (14 : Nat), (17 : Nat), (13 : Nat)), ((0 : Nat), (14 : Nat), (21 : Nat), (19 : Nat))], [((0 : Nat), (18 : Nat), (21 : Nat), (13 : Nat)), ((0 : Nat), (18 : Nat), (25 : Nat), (19 : Nat))], [((0 : Nat), (8 : Nat), (11 : Nat), (19 : Nat)), ((0 : Nat), (8 : Nat), (14 : Nat), (29 : Nat)), ((0 : Nat), (8 : Nat), (17 : Nat), (13 : Nat))], [((0 : Nat), (8 : Nat), (11 : Nat), (19 : Nat)), ((0 : Nat), (8 : Nat), (14 : Nat), (34 : Nat))], [((0 : Nat), (9 : Nat), (12 : Nat), (29 : Nat))], [((0 : Nat), (9 : Nat), (12 : Nat), (29 : Nat))], [((0 : Nat), (9 : Nat), (12 : Nat), (29 : Nat))], [((0 : Nat), (10 : Nat), (13 : Nat), (19 : Nat)), ((0 : Nat), (10 : Nat), (17 : Nat), (50 : Nat)), ((0 : Nat), (10 : Nat), (21 : Nat), (29 : Nat))], [((0 : Nat), (12 : Nat), (15 : Nat), (19 : Nat)), ((0 : Nat), (12 : Nat), (19 : Nat), (50 : Nat)), ((0 : Nat), (12 : Nat), (23 : Nat), (29 : Nat))], [((0 : Nat), (11 : Nat), (14 : Nat), (19 : Nat)), ((0 : Nat), (11 : Nat), (18 : Nat), (50 : Nat)), ((0 : Nat), (11 : Nat), (22 : Nat), (29 : Nat))], [((0 : Nat), (8 : Nat), (11 : Nat), (19 : Nat)), ((0 : Nat), (8 : Nat), (14 : Nat), (50 : Nat))], [], [], []]
def hh (z : Nat) : List (Nat × Nat × Nat × Nat) := hhL.getD z []
def rfL : List Nat := [1, 0, 0, 1, 1, 0, 0, 0, 1, 0, 1, 2, 0, 0, 1, 0, 0, 0, 4, 3, 1, 0, 2, 1, 1, 1, 0, 1, 1, 1, 4, 3, 2, 1, 1, 0, 1, 4, 0, 2, 1, 3, 2, 3, 0, 2, 1, 1, 0, 1, 0, 1, 2, 0, 0, 0, 1, 1, 0, 1, 1, 1, 0, 0, 2, 6, 6, 6, 0, 1, 1, 6, 6, 6, 6, 6, 7, 7, 7, 7, 6, 0, 1, 0, 0, 1, 2, 4, 3, 2, 5, 4, 3, 1, 0, 0, 1, 2, 1, 1, 0, 0, 0, 0, 0, 0, 1, 1, 6, 1, 0, 1, 2, 1, 0, 0, 0, 1, 0, 0, 0, 0, 2, 2, 0, 3, 4, 1, 1, 2, 1, 5, 3, 2, 1, 1, 3, 2, 0, 1, 2, 1, 3, 0, 1, 1, 1, 1, 2, 2, 2, 2, 7, 7, 7, 7, 7, 7, 7, 7, 8, 8, 8, 8, 0, 0, 9]
def rf (z : Nat) : Nat := rfL.getD z 0
def rlL : List Nat := [20, 0, 0, 26, 26, 0, 0, 0, 21, 0, 20, 41, 0, 0, 20, 0, 0, 0, 89, 65, 20, 0, 46, 20, 21, 25, 0, 21, 21, 21, 99, 73, 46, 21, 20, 0, 20, 107, 0, 45, 21, 76, 50, 82, 0, 54, 25, 25, 0, 20, 0, 21, 44, 0, 0, 0, 20, 20, 0, 21, 20, 21, 0, 0, 40, 89, 89, 89, 0, 20, 20, 152, 119, 89, 89, 89, 110, 110, 110, 110, 89, 0, 22, 0, 0, 21, 43, 95, 67, 43, 130, 94, 69, 20, 0, 0, 22, 42, 22, 22, 0, 0, 0, 0, 0, 0, 20, 20, 148, 28, 0, 20, 52, 28, 0, 0, 0, 20, 0, 0, 0, 0, 42, 42, 0, 66, 96, 22, 22, 48, 21, 124, 74, 46, 21, 21, 74, 48, 0, 21, 45, 22, 67, 0, 22, 22, 22, 22, 45, 45, 45, 45, 117, 113, 116, 173, 141, 110, 110, 110, 132, 133, 134, 132, 0, 0, 195]
def rl (z : Nat) : Nat := rlL.getD z 0
def agL : List Nat := [0, 4, 6, 1, 2, 1, 1, 0, 1, 1, 1, 2, 1, 1, 0, 2, 1, 1, 2, 3, 2, 1, 3, 3, 2, 2, 4, 3, 2, 1, 2, 3, 5, 4, 0, 1, 0, 2, 2, 3, 3, 1, 2, 3, 2, 4, 5, 4, 5, 0, 1, 1, 2, 1, 1, 3, 4, 0, 0, 1, 2, 4, 2, 2, 0, 6, 4, 6, 0, 2, 1, 0, 0, 1, 1, 1, 2, 3, 3, 1, 1, 3, 1, 1, 1, 0, 0, 2, 3, 4, 0, 0, 3, 0, 0, 3, 1, 6, 4, 6, 0, 2, 1, 1, 1, 1, 0, 0, 0, 0, 7, 2, 1, 3, 2, 1, 1, 2, 2, 1, 2, 2, 2, 2, 2, 3, 1, 3, 2, 2, 1, 1, 1, 2, 4, 4, 2, 3, 1, 1, 1, 2, 0, 2, 1, 1, 1, 3, 2, 3, 3, 1, 7, 6, 8, 2, 2, 3, 3, 3, 4, 5, 5, 3, 2, 1, 1]
def ag (z : Nat) : Nat := agL.getD z 0
def isI (z : Nat) : Bool := (yN z).name == "<init>"
/-- a method's handlers: method, exception, its answer, which row, where -/
def hdL : List (Nat × Nat × Int32 × Nat × Nat) := [(152, 0, 1, 0, 16), (153, 0, 1, 0, 17), (153, 1, 2, 1, 21), (154, 0, 1, 0, 21), (154, 1, 2, 1, 25), (155, 1, 1, 0, 11), (155, 2, 2, 1, 14), (155, 0, 3, 2, 17), (156, 1, 1, 0, 11), (156, 3, 2, 1, 14), (157, 2, 1, 0, 12), (158, 2, 1, 0, 12), (159, 2, 1, 0, 12), (160, 1, 1, 0, 13), (160, 4, 2, 1, 17), (160, 2, 3, 2, 21), (161, 1, 1, 0, 15), (161, 4, 2, 1, 19), (161, 2, 3, 2, 23), (162, 1, 1, 0, 14), (162, 4, 2, 1, 18), (162, 2, 3, 2, 22), (163, 1, 1, 0, 11), (163, 4, 2, 1, 14)]
def tb_0 : List (Nat × En) := [(0, .aload_n 0, 1, 0, 0, 0, 0), (1, .invokespecial 3, 4, 0, 9, 0, 0), (4, .aload_n 0, 5, 0, 0, 0, 0), (5, .iconst 0, 6, 0, 0, 0, 0), (6, .putfield 9, 9, 0, 0, 0, 0), (9, .aload_n 0, 10, 0, 0, 0, 0), (10, .iconst 0, 11, 0, 0, 0, 0), (11, .putfield 15, 14, 0, 1, 0, 0), (14, .aload_n 0, 15, 0, 0, 0, 0), (15, .iconst 0, 16, 0, 0, 0, 0), (16, .putfield 18, 19, 0, 2, 0, 0), (19, .aload_n 0, 20, 0, 0, 0, 0), (20, .iconst 0, 21, 0, 0, 0, 0), (21, .putfield 21, 24, 0, 3, 0, 0), (24, .aload_n 0, 25, 0, 0, 0, 0), (25, .iconst 0, 26, 0, 0, 0, 0), (26, .putfield 24, 29, 0, 4, 0, 0), (29, .aload_n 0, 30, 0, 0, 0, 0), (30, .iconst 0, 31, 0, 0, 0, 0), (31, .putfield 27, 34, 0, 5, 0, 0), (34, .aload_n 0, 35, 0, 0, 0, 0), (35, .bipush 10, 37, 0, 0, 0, 10), (37, .newarray .int, 39, 20, 0, 0, 0), (39, .putfield 31, 42, 0, 6, 0, 0), (42, .aload_n 0, 43, 0, 0, 0, 0), (43, .bipush 10, 45, 0, 0, 0, 10), (45, .newarray .int, 47, 20, 0, 0, 0), (47, .putfield 35, 50, 0, 7, 0, 0), (50, .aload_n 0, 51, 0, 0, 0, 0), (51, .bipush 10, 53, 0, 0, 0, 10), (53, .newarray .int, 55, 20, 0, 0, 0), (55, .putfield 38, 58, 0, 8, 0, 0), (58, .aload_n 0, 59, 0, 0, 0, 0), (59, .bipush 10, 61, 0, 0, 0, 10), (61, .newarray .int, 63, 20, 0, 0, 0), (63, .putfield 41, 66, 0, 9, 0, 0), (66, .aload_n 0, 67, 0, 0, 0, 0), (67, .bipush 10, 69, 0, 0, 0, 10), (69, .newarray .int, 71, 20, 0, 0, 0), (71, .putfield 44, 74, 0, 10, 0, 0), (74, .aload_n 0, 75, 0, 0, 0, 0), (75, .bipush 10, 77, 0, 0, 0, 10), (77, .newarray .int, 79, 20, 0, 0, 0), (79, .putfield 47, 82, 0, 11, 0, 0), (82, .return_, 83, 0, 0, 0, 0)]
def tb_1 : List (Nat × En) := [(0, .aload_n 0, 1, 0, 0, 0, 0), (1, .iload_n 1, 2, 1, 0, 0, 0), (2, .putfield 9, 5, 0, 0, 0, 0), (5, .aload_n 0, 6, 0, 0, 0, 0), (6, .iload_n 2, 7, 2, 0, 0, 0), (7, .putfield 15, 10, 0, 1, 0, 0), (10, .aload_n 0, 11, 0, 0, 0, 0), (11, .iload_n 3, 12, 3, 0, 0, 0), (12, .putfield 18, 15, 0, 2, 0, 0), (15, .aload_n 0, 16, 0, 0, 0, 0), (16, .iload 4, 18, 4, 0, 0, 0), (18, .putfield 21, 21, 0, 3, 0, 0), (21, .aload_n 0, 22, 0, 0, 0, 0), (22, .iconst 0, 23, 0, 0, 0, 0), (23, .putfield 24, 26, 0, 4, 0, 0), (26, .aload_n 0, 27, 0, 0, 0, 0), (27, .iconst 0, 28, 0, 0, 0, 0), (28, .putfield 27, 31, 0, 5, 0, 0), (31, .return_, 32, 0, 0, 0, 0)]
def tb_2 : List (Nat × En) := [(0, .aload_n 0, 1, 0, 0, 0, 0), (1, .getfield 24, 4, 0, 4, 0, 0), (4, .bipush 10, 6, 0, 0, 0, 10), (6, .if_icmp .ge 76, 9, 82, 0, 0, 0), (9, .aload_n 0, 10, 0, 0, 0, 0), (10, .getfield 31, 13, 0, 6, 0, 0), (13, .aload_n 0, 14, 0, 0, 0, 0), (14, .getfield 24, 17, 0, 4, 0, 0), (17, .iload_n 1, 18, 1, 0, 0, 0), (18, .iastore, 19, 0, 0, 0, 0), (19, .aload_n 0, 20, 0, 0, 0, 0), (20, .getfield 35, 23, 0, 7, 0, 0), (23, .aload_n 0, 24, 0, 0, 0, 0), (24, .getfield 24, 27, 0, 4, 0, 0), (27, .iload_n 2, 28, 2, 0, 0, 0), (28, .iastore, 29, 0, 0, 0, 0), (29, .aload_n 0, 30, 0, 0, 0, 0), (30, .getfield 38, 33, 0, 8, 0, 0), (33, .aload_n 0, 34, 0, 0, 0, 0), (34, .getfield 24, 37, 0, 4, 0, 0), (37, .iload_n 3, 38, 3, 0, 0, 0), (38, .iastore, 39, 0, 0, 0, 0), (39, .aload_n 0, 40, 0, 0, 0, 0), (40, .getfield 41, 43, 0, 9, 0, 0), (43, .aload_n 0, 44, 0, 0, 0, 0), (44, .getfield 24, 47, 0, 4, 0, 0), (47, .iload 4, 49, 4, 0, 0, 0), (49, .iastore, 50, 0, 0, 0, 0), (50, .aload_n 0, 51, 0, 0, 0, 0), (51, .getfield 44, 54, 0, 10, 0, 0), (54, .aload_n 0, 55, 0, 0, 0, 0), (55, .getfield 24, 58, 0, 4, 0, 0), (58, .iload 5, 60, 5, 0, 0, 0), (60, .iastore, 61, 0, 0, 0, 0), (61, .aload_n 0, 62, 0, 0, 0, 0), (62, .getfield 47, 65, 0, 11, 0, 0), (65, .aload_n 0, 66, 0, 0, 0, 0), (66, .getfield 24, 69, 0, 4, 0, 0), (69, .iload 6, 71, 6, 0, 0, 0), (71, .iastore, 72, 0, 0, 0, 0), (72, .aload_n 0, 73, 0, 0, 0, 0), (73, .dup, 74, 0, 0, 0, 0), (74, .getfield 24, 77, 0, 4, 0, 0), (77, .iconst 1, 78, 0, 0, 0, 1), (78, .iadd, 79, 0, 0, 0, 0), (79, .putfield 24, 82, 0, 4, 0, 0), (82, .return_, 83, 0, 0, 0, 0)]
def tb_3 : List (Nat × En) := [(0, .aload_n 0, 1, 0, 0, 0, 0), (1, .aload_n 1, 2, 1, 0, 0, 0), (2, .getfield 9, 5, 0, 0, 0, 0), (5, .aload_n 1, 6, 1, 0, 0, 0), (6, .getfield 15, 9, 0, 1, 0, 0), (9, .aload_n 1, 10, 1, 0, 0, 0), (10, .getfield 18, 13, 0, 2, 0, 0), (13, .aload_n 1, 14, 1, 0, 0, 0), (14, .getfield 21, 17, 0, 3, 0, 0), (17, .invokevirtual 50, 20, 1, 0, 5, 0), (20, .iconst 0, 21, 0, 0, 0, 0), (21, .istore_n 2, 22, 2, 0, 0, 0), (22, .iload_n 2, 23, 2, 0, 0, 0), (23, .aload_n 1, 24, 1, 0, 0, 0), (24, .getfield 24, 27, 0, 4, 0, 0), (27, .if_icmp .ge 49, 30, 76, 0, 0, 0), (30, .aload_n 0, 31, 0, 0, 0, 0), (31, .aload_n 1, 32, 1, 0, 0, 0), (32, .getfield 31, 35, 0, 6, 0, 0), (35, .iload_n 2, 36, 2, 0, 0, 0), (36, .iaload, 37, 0, 0, 0, 0), (37, .aload_n 1, 38, 1, 0, 0, 0), (38, .getfield 35, 41, 0, 7, 0, 0), (41, .iload_n 2, 42, 2, 0, 0, 0), (42, .iaload, 43, 0, 0, 0, 0), (43, .aload_n 1, 44, 1, 0, 0, 0), (44, .getfield 38, 47, 0, 8, 0, 0), (47, .iload_n 2, 48, 2, 0, 0, 0), (48, .iaload, 49, 0, 0, 0, 0), (49, .aload_n 1, 50, 1, 0, 0, 0), (50, .getfield 41, 53, 0, 9, 0, 0), (53, .iload_n 2, 54, 2, 0, 0, 0), (54, .iaload, 55, 0, 0, 0, 0), (55, .aload_n 1, 56, 1, 0, 0, 0), (56, .getfield 44, 59, 0, 10, 0, 0), (59, .iload_n 2, 60, 2, 0, 0, 0), (60, .iaload, 61, 0, 0, 0, 0), (61, .aload_n 1, 62, 1, 0, 0, 0), (62, .getfield 47, 65, 0, 11, 0, 0), (65, .iload_n 2, 66, 2, 0, 0, 0), (66, .iaload, 67, 0, 0, 0, 0), (67, .invokevirtual 54, 70, 2, 0, 7, 0), (70, .iinc 2 1, 73, 2, 0, 0, 1), (73, .goto (-51), 76, 22, 0, 0, 0), (76, .return_, 77, 0, 0, 0, 0)]
def tb_4 : List (Nat × En) := [(0, .iconst 0, 1, 0, 0, 0, 0), (1, .istore_n 3, 2, 3, 0, 0, 0), (2, .iload_n 3, 3, 3, 0, 0, 0), (3, .aload_n 1, 4, 1, 0, 0, 0), (4, .getfield 24, 7, 0, 4, 0, 0), (7, .if_icmp .ge 44, 10, 51, 0, 0, 0), (10, .aload_n 0, 11, 0, 0, 0, 0), (11, .aload_n 1, 12, 1, 0, 0, 0), (12, .getfield 31, 15, 0, 6, 0, 0), (15, .iload_n 3, 16, 3, 0, 0, 0), (16, .iaload, 17, 0, 0, 0, 0), (17, .aload_n 1, 18, 1, 0, 0, 0), (18, .getfield 35, 21, 0, 7, 0, 0), (21, .iload_n 3, 22, 3, 0, 0, 0), (22, .iaload, 23, 0, 0, 0, 0), (23, .aload_n 1, 24, 1, 0, 0, 0), (24, .getfield 38, 27, 0, 8, 0, 0), (27, .iload_n 3, 28, 3, 0, 0, 0), (28, .iaload, 29, 0, 0, 0, 0), (29, .aload_n 1, 30, 1, 0, 0, 0), (30, .getfield 41, 33, 0, 9, 0, 0), (33, .iload_n 3, 34, 3, 0, 0, 0), (34, .iaload, 35, 0, 0, 0, 0), (35, .aload_n 1, 36, 1, 0, 0, 0), (36, .getfield 44, 39, 0, 10, 0, 0), (39, .iload_n 3, 40, 3, 0, 0, 0), (40, .iaload, 41, 0, 0, 0, 0), (41, .iload_n 2, 42, 2, 0, 0, 0), (42, .invokevirtual 54, 45, 2, 0, 7, 0), (45, .iinc 3 1, 48, 3, 0, 0, 1), (48, .goto (-46), 51, 2, 0, 0, 0), (51, .aload_n 1, 52, 1, 0, 0, 0), (52, .iconst 1, 53, 0, 0, 0, 1), (53, .putfield 27, 56, 0, 5, 0, 0), (56, .return_, 57, 0, 0, 0, 0)]
def tb_5 : List (Nat × En) := [(0, .aload_n 0, 1, 0, 0, 0, 0), (1, .iconst 1, 2, 0, 0, 0, 1), (2, .putfield 9, 5, 0, 0, 0, 0), (5, .aload_n 0, 6, 0, 0, 0, 0), (6, .iload_n 1, 7, 1, 0, 0, 0), (7, .putfield 18, 10, 0, 2, 0, 0), (10, .return_, 11, 0, 0, 0, 0)]
def tb_6 : List (Nat × En) := [(0, .aload_n 0, 1, 0, 0, 0, 0), (1, .getfield 9, 4, 0, 0, 0, 0), (4, .ifCond .eq 11, 7, 15, 0, 0, 0), (7, .aload_n 0, 8, 0, 0, 0, 0), (8, .getfield 18, 11, 0, 2, 0, 0), (11, .iload_n 1, 12, 1, 0, 0, 0), (12, .if_icmp .eq 19, 15, 31, 0, 0, 0), (15, .aload_n 0, 16, 0, 0, 0, 0), (16, .getfield 9, 19, 0, 0, 0, 0), (19, .iconst 2, 20, 0, 0, 0, 2), (20, .if_icmp .ne 15, 23, 35, 0, 0, 0), (23, .aload_n 0, 24, 0, 0, 0, 0), (24, .getfield 21, 27, 0, 3, 0, 0), (27, .iload_n 1, 28, 1, 0, 0, 0), (28, .if_icmp .ne 7, 31, 35, 0, 0, 0), (31, .iconst 1, 32, 0, 0, 0, 1), (32, .goto 4, 35, 36, 0, 0, 0), (35, .iconst 0, 36, 0, 0, 0, 0), (36, .ireturn, 37, 0, 0, 0, 0)]
def tb_7 : List (Nat × En) := [(0, .iconst 0, 1, 0, 0, 0, 0), (1, .istore_n 1, 2, 1, 0, 0, 0), (2, .iload_n 1, 3, 1, 0, 0, 0), (3, .aload_n 0, 4, 0, 0, 0, 0), (4, .getfield 24, 7, 0, 4, 0, 0), (7, .if_icmp .ge 20, 10, 27, 0, 0, 0), (10, .aload_n 0, 11, 0, 0, 0, 0), (11, .getfield 47, 14, 0, 11, 0, 0), (14, .iload_n 1, 15, 1, 0, 0, 0), (15, .iaload, 16, 0, 0, 0, 0), (16, .ifCond .eq 5, 19, 21, 0, 0, 0), (19, .iconst 1, 20, 0, 0, 0, 1), (20, .ireturn, 21, 0, 0, 0, 0), (21, .iinc 1 1, 24, 1, 0, 0, 1), (24, .goto (-22), 27, 2, 0, 0, 0), (27, .iconst 0, 28, 0, 0, 0, 0), (28, .ireturn, 29, 0, 0, 0, 0)]
def tb_8 : List (Nat × En) := [(0, .iconst 0, 1, 0, 0, 0, 0), (1, .istore_n 2, 2, 2, 0, 0, 0), (2, .iload_n 2, 3, 2, 0, 0, 0), (3, .aload_n 0, 4, 0, 0, 0, 0), (4, .getfield 24, 7, 0, 4, 0, 0), (7, .if_icmp .ge 20, 10, 27, 0, 0, 0), (10, .aload_n 0, 11, 0, 0, 0, 0), (11, .iload_n 2, 12, 2, 0, 0, 0), (12, .invokevirtual 58, 15, 9, 0, 2, 0), (15, .iload_n 1, 16, 1, 0, 0, 0), (16, .if_icmp .ne 5, 19, 21, 0, 0, 0), (19, .iconst 1, 20, 0, 0, 0, 1), (20, .ireturn, 21, 0, 0, 0, 0), (21, .iinc 2 1, 24, 2, 0, 0, 1), (24, .goto (-22), 27, 2, 0, 0, 0), (27, .iconst 0, 28, 0, 0, 0, 0), (28, .ireturn, 29, 0, 0, 0, 0)]
def tb_9 : List (Nat × En) := [(0, .aload_n 0, 1, 0, 0, 0, 0), (1, .getfield 31, 4, 0, 6, 0, 0), (4, .iload_n 1, 5, 1, 0, 0, 0), (5, .iaload, 6, 0, 0, 0, 0), (6, .bipush 8, 8, 0, 0, 0, 8), (8, .if_icmp .ge 12, 11, 20, 0, 0, 0), (11, .aload_n 0, 12, 0, 0, 0, 0), (12, .getfield 35, 15, 0, 7, 0, 0), (15, .iload_n 1, 16, 1, 0, 0, 0), (16, .iaload, 17, 0, 0, 0, 0), (17, .goto 4, 20, 21, 0, 0, 0), (20, .iconst (-1), 21, 0, 0, 0, (-1)), (21, .ireturn, 22, 0, 0, 0, 0)]
def tb_10 : List (Nat × En) := [(0, .aload_n 0, 1, 0, 0, 0, 0), (1, .getfield 47, 4, 0, 11, 0, 0), (4, .iload_n 1, 5, 1, 0, 0, 0), (5, .iaload, 6, 0, 0, 0, 0), (6, .invokestatic 62, 9, 165, 1, 1, 0), (9, .iconst 1, 10, 0, 0, 0, 1), (10, .isub, 11, 0, 0, 0, 0), (11, .ireturn, 12, 0, 0, 0, 0)]
def tb_11_0 : List (Nat × En) := [(0, .iload_n 2, 1, 2, 0, 0, 0), (1, .iconst (-1), 2, 0, 0, 0, (-1)), (2, .if_icmp .ne 5, 5, 7, 0, 0, 0), (5, .iconst 0, 6, 0, 0, 0, 0), (6, .ireturn, 7, 0, 0, 0, 0), (7, .aload_n 0, 8, 0, 0, 0, 0), (8, .getfield 31, 11, 0, 6, 0, 0), (11, .iload_n 1, 12, 1, 0, 0, 0), (12, .iaload, 13, 0, 0, 0, 0), (13, .ifCond .eq 7, 16, 20, 0, 0, 0), (16, .iconst 1, 17, 0, 0, 0, 1), (17, .goto 4, 20, 21, 0, 0, 0), (20, .iconst 0, 21, 0, 0, 0, 0), (21, .istore_n 3, 22, 3, 0, 0, 0), (22, .aload_n 0, 23, 0, 0, 0, 0), (23, .getfield 31, 26, 0, 6, 0, 0), (26, .iload_n 1, 27, 1, 0, 0, 0), (27, .iaload, 28, 0, 0, 0, 0), (28, .iconst 2, 29, 0, 0, 0, 2), (29, .if_icmp .lt 14, 32, 43, 0, 0, 0), (32, .aload_n 0, 33, 0, 0, 0, 0), (33, .getfield 31, 36, 0, 6, 0, 0), (36, .iload_n 1, 37, 1, 0, 0, 0), (37, .iaload, 38, 0, 0, 0, 0), (38, .bipush 6, 40, 0, 0, 0, 6), (40, .if_icmp .le 14, 43, 54, 0, 0, 0), (43, .aload_n 0, 44, 0, 0, 0, 0), (44, .getfield 31, 47, 0, 6, 0, 0), (47, .iload_n 1, 48, 1, 0, 0, 0), (48, .iaload, 49, 0, 0, 0, 0), (49, .bipush 8, 51, 0, 0, 0, 8), (51, .if_icmp .ne 7, 54, 58, 0, 0, 0), (54, .iconst 1, 55, 0, 0, 0, 1), (55, .goto 4, 58, 59, 0, 0, 0), (58, .iconst 0, 59, 0, 0, 0, 0), (59, .istore 4, 61, 4, 0, 0, 0), (61, .iload_n 3, 62, 3, 0, 0, 0), (62, .ifCond .eq 13, 65, 75, 0, 0, 0), (65, .aload_n 0, 66, 0, 0, 0, 0), (66, .getfield 38, 69, 0, 8, 0, 0), (69, .iload_n 1, 70, 1, 0, 0, 0), (70, .iaload, 71, 0, 0, 0, 0), (71, .iload_n 2, 72, 2, 0, 0, 0), (72, .if_icmp .eq 27, 75, 99, 0, 0, 0), (75, .iload 4, 77, 4, 0, 0, 0), (77, .ifCond .eq 13, 80, 90, 0, 0, 0), (80, .aload_n 0, 81, 0, 0, 0, 0), (81, .getfield 41, 84, 0, 9, 0, 0), (84, .iload_n 1, 85, 1, 0, 0, 0), (85, .iaload, 86, 0, 0, 0, 0)]
def tb_11_1 : List (Nat × En) := [(86, .iload_n 2, 87, 2, 0, 0, 0), (87, .if_icmp .eq 12, 90, 99, 0, 0, 0), (90, .aload_n 0, 91, 0, 0, 0, 0), (91, .iload_n 1, 92, 1, 0, 0, 0), (92, .invokevirtual 67, 95, 10, 0, 2, 0), (95, .iload_n 2, 96, 2, 0, 0, 0), (96, .if_icmp .ne 7, 99, 103, 0, 0, 0), (99, .iconst 1, 100, 0, 0, 0, 1), (100, .goto 4, 103, 104, 0, 0, 0), (103, .iconst 0, 104, 0, 0, 0, 0), (104, .ireturn, 105, 0, 0, 0, 0)]
def tb_11 : List (Nat × En) := tb_11_0 ++ (tb_11_1)
def tb_12 : List (Nat × En) := [(0, .aload_n 0, 1, 0, 0, 0, 0), (1, .getfield 31, 4, 0, 6, 0, 0), (4, .iload_n 1, 5, 1, 0, 0, 0), (5, .iaload, 6, 0, 0, 0, 0), (6, .bipush 7, 8, 0, 0, 0, 7), (8, .if_icmp .eq 14, 11, 22, 0, 0, 0), (11, .aload_n 0, 12, 0, 0, 0, 0), (12, .getfield 31, 15, 0, 6, 0, 0), (15, .iload_n 1, 16, 1, 0, 0, 0), (16, .iaload, 17, 0, 0, 0, 0), (17, .bipush 8, 19, 0, 0, 0, 8), (19, .if_icmp .ne 7, 22, 26, 0, 0, 0), (22, .iconst 1, 23, 0, 0, 0, 1), (23, .goto 4, 26, 27, 0, 0, 0), (26, .iconst 0, 27, 0, 0, 0, 0), (27, .ireturn, 28, 0, 0, 0, 0)]
def tb_13 : List (Nat × En) := [(0, .aload_n 0, 1, 0, 0, 0, 0), (1, .getfield 31, 4, 0, 6, 0, 0), (4, .iload_n 1, 5, 1, 0, 0, 0), (5, .iaload, 6, 0, 0, 0, 0), (6, .iconst 1, 7, 0, 0, 0, 1), (7, .if_icmp .ne 31, 10, 38, 0, 0, 0), (10, .aload_n 0, 11, 0, 0, 0, 0), (11, .getfield 35, 14, 0, 7, 0, 0), (14, .iload_n 1, 15, 1, 0, 0, 0), (15, .iaload, 16, 0, 0, 0, 0), (16, .aload_n 0, 17, 0, 0, 0, 0), (17, .getfield 38, 20, 0, 8, 0, 0), (20, .iload_n 1, 21, 1, 0, 0, 0), (21, .iaload, 22, 0, 0, 0, 0), (22, .if_icmp .ne 16, 25, 38, 0, 0, 0), (25, .aload_n 0, 26, 0, 0, 0, 0), (26, .getfield 47, 29, 0, 11, 0, 0), (29, .iload_n 1, 30, 1, 0, 0, 0), (30, .iaload, 31, 0, 0, 0, 0), (31, .ifCond .ne 7, 34, 38, 0, 0, 0), (34, .iconst 1, 35, 0, 0, 0, 1), (35, .goto 4, 38, 39, 0, 0, 0), (38, .iconst 0, 39, 0, 0, 0, 0), (39, .ireturn, 40, 0, 0, 0, 0)]
def tb_14 : List (Nat × En) := [(0, .aload_n 0, 1, 0, 0, 0, 0), (1, .invokespecial 3, 4, 0, 9, 0, 0), (4, .aload_n 0, 5, 0, 0, 0, 0), (5, .iconst 0, 6, 0, 0, 0, 0), (6, .putfield 9, 9, 1, 0, 0, 0), (9, .aload_n 0, 10, 0, 0, 0, 0), (10, .iconst 0, 11, 0, 0, 0, 0), (11, .putfield 15, 14, 1, 1, 0, 0), (14, .aload_n 0, 15, 0, 0, 0, 0), (15, .iconst 0, 16, 0, 0, 0, 0), (16, .putfield 19, 19, 1, 2, 0, 0), (19, .aload_n 0, 20, 0, 0, 0, 0), (20, .iconst 0, 21, 0, 0, 0, 0), (21, .putfield 22, 24, 1, 3, 0, 0), (24, .aload_n 0, 25, 0, 0, 0, 0), (25, .bipush 10, 27, 0, 0, 0, 10), (27, .newarray .boolean, 29, 21, 0, 0, 0), (29, .putfield 25, 32, 1, 4, 0, 0), (32, .aload_n 0, 33, 0, 0, 0, 0), (33, .bipush 10, 35, 0, 0, 0, 10), (35, .newarray .int, 37, 20, 0, 0, 0), (37, .putfield 29, 40, 1, 5, 0, 0), (40, .aload_n 0, 41, 0, 0, 0, 0), (41, .sipush 200, 44, 0, 0, 0, 200), (44, .newarray .int, 46, 20, 0, 0, 0), (46, .putfield 33, 49, 1, 6, 0, 0), (49, .aload_n 0, 50, 0, 0, 0, 0), (50, .sipush 200, 53, 0, 0, 0, 200), (53, .newarray .int, 55, 20, 0, 0, 0), (55, .putfield 36, 58, 1, 7, 0, 0), (58, .aload_n 0, 59, 0, 0, 0, 0), (59, .bipush 100, 61, 0, 0, 0, 100), (61, .newarray .int, 63, 20, 0, 0, 0), (63, .putfield 39, 66, 1, 8, 0, 0), (66, .aload_n 0, 67, 0, 0, 0, 0), (67, .bipush 10, 69, 0, 0, 0, 10), (69, .newarray .boolean, 71, 21, 0, 0, 0), (71, .putfield 42, 74, 1, 9, 0, 0), (74, .aload_n 0, 75, 0, 0, 0, 0), (75, .bipush 10, 77, 0, 0, 0, 10), (77, .newarray .int, 79, 20, 0, 0, 0), (79, .putfield 45, 82, 1, 10, 0, 0), (82, .aload_n 0, 83, 0, 0, 0, 0), (83, .bipush 10, 85, 0, 0, 0, 10), (85, .newarray .int, 87, 20, 0, 0, 0), (87, .putfield 48, 90, 1, 11, 0, 0), (90, .return_, 91, 0, 0, 0, 0)]
def tb_15 : List (Nat × En) := [(0, .iload_n 0, 1, 0, 0, 0, 0), (1, .bipush 10, 3, 0, 0, 0, 10), (3, .imul, 4, 0, 0, 0, 0), (4, .iload_n 1, 5, 1, 0, 0, 0), (5, .iadd, 6, 0, 0, 0, 0), (6, .ireturn, 7, 0, 0, 0, 0)]
def tb_16 : List (Nat × En) := [(0, .aload_n 0, 1, 0, 0, 0, 0), (1, .getfield 25, 4, 1, 4, 0, 0), (4, .iload_n 1, 5, 1, 0, 0, 0), (5, .baload, 6, 0, 0, 0, 0), (6, .ifCond .eq 10, 9, 16, 0, 0, 0), (9, .aload_n 0, 10, 0, 0, 0, 0), (10, .getfield 22, 13, 1, 3, 0, 0), (13, .goto 7, 16, 20, 0, 0, 0), (16, .aload_n 0, 17, 0, 0, 0, 0), (17, .getfield 19, 20, 1, 2, 0, 0), (20, .ireturn, 21, 0, 0, 0, 0)]
def tb_17 : List (Nat × En) := [(0, .iconst 0, 1, 0, 0, 0, 0), (1, .istore_n 2, 2, 2, 0, 0, 0), (2, .iconst 0, 3, 0, 0, 0, 0), (3, .istore_n 3, 4, 3, 0, 0, 0), (4, .iload_n 3, 5, 3, 0, 0, 0), (5, .aload_n 0, 6, 0, 0, 0, 0), (6, .getfield 9, 9, 1, 0, 0, 0), (9, .if_icmp .ge 27, 12, 36, 0, 0, 0), (12, .iload_n 2, 13, 2, 0, 0, 0), (13, .aload_n 0, 14, 0, 0, 0, 0), (14, .getfield 25, 17, 1, 4, 0, 0), (17, .iload_n 3, 18, 3, 0, 0, 0), (18, .baload, 19, 0, 0, 0, 0), (19, .iload_n 1, 20, 1, 0, 0, 0), (20, .if_icmp .ne 7, 23, 27, 0, 0, 0), (23, .iconst 1, 24, 0, 0, 0, 1), (24, .goto 4, 27, 28, 0, 0, 0), (27, .iconst 0, 28, 0, 0, 0, 0), (28, .iadd, 29, 0, 0, 0, 0), (29, .istore_n 2, 30, 2, 0, 0, 0), (30, .iinc 3 1, 33, 3, 0, 0, 1), (33, .goto (-29), 36, 4, 0, 0, 0), (36, .iload_n 2, 37, 2, 0, 0, 0), (37, .ireturn, 38, 0, 0, 0, 0)]
def tb_18_0 : List (Nat × En) := [(0, .aload_n 0, 1, 0, 0, 0, 0), (1, .aload_n 1, 2, 1, 0, 0, 0), (2, .getfield 51, 5, 0, 4, 0, 0), (5, .putfield 9, 8, 1, 0, 0, 0), (8, .aload_n 0, 9, 0, 0, 0, 0), (9, .aload_n 1, 10, 1, 0, 0, 0), (10, .getfield 54, 13, 0, 0, 0, 0), (13, .iconst 3, 14, 0, 0, 0, 3), (14, .if_icmp .ne 7, 17, 21, 0, 0, 0), (17, .iconst 1, 18, 0, 0, 0, 1), (18, .goto 4, 21, 22, 0, 0, 0), (21, .iconst 0, 22, 0, 0, 0, 0), (22, .putfield 15, 25, 1, 1, 0, 0), (25, .aload_n 0, 26, 0, 0, 0, 0), (26, .aload_n 2, 27, 2, 0, 0, 0), (27, .getfield 57, 30, 2, 0, 0, 0), (30, .putfield 19, 33, 1, 2, 0, 0), (33, .aload_n 0, 34, 0, 0, 0, 0), (34, .aload_n 2, 35, 2, 0, 0, 0), (35, .getfield 60, 38, 2, 1, 0, 0), (38, .putfield 22, 41, 1, 3, 0, 0), (41, .iconst 0, 42, 0, 0, 0, 0), (42, .istore_n 3, 43, 3, 0, 0, 0), (43, .iload_n 3, 44, 3, 0, 0, 0), (44, .aload_n 0, 45, 0, 0, 0, 0), (45, .getfield 9, 48, 1, 0, 0, 0), (48, .if_icmp .ge 46, 51, 94, 0, 0, 0), (51, .aload_n 0, 52, 0, 0, 0, 0), (52, .getfield 25, 55, 1, 4, 0, 0), (55, .iload_n 3, 56, 3, 0, 0, 0), (56, .aload_n 1, 57, 1, 0, 0, 0), (57, .getfield 61, 60, 0, 6, 0, 0), (60, .iload_n 3, 61, 3, 0, 0, 0), (61, .iaload, 62, 0, 0, 0, 0), (62, .invokestatic 64, 65, 83, 5, 1, 0), (65, .bastore, 66, 0, 0, 0, 0), (66, .aload_n 0, 67, 0, 0, 0, 0), (67, .getfield 29, 70, 1, 5, 0, 0), (70, .iload_n 3, 71, 3, 0, 0, 0), (71, .aload_n 2, 72, 2, 0, 0, 0), (72, .aload_n 1, 73, 1, 0, 0, 0), (73, .getfield 61, 76, 0, 6, 0, 0), (76, .iload_n 3, 77, 3, 0, 0, 0), (77, .iaload, 78, 0, 0, 0, 0), (78, .invokevirtual 67, 81, 35, 0, 2, 0), (81, .iastore, 82, 0, 0, 0, 0), (82, .aload_n 0, 83, 0, 0, 0, 0), (83, .aload_n 1, 84, 1, 0, 0, 0), (84, .iload_n 3, 85, 3, 0, 0, 0), (85, .invokevirtual 70, 88, 24, 0, 3, 0)]
def tb_18_1 : List (Nat × En) := [(88, .iinc 3 1, 91, 3, 0, 0, 1), (91, .goto (-48), 94, 43, 0, 0, 0), (94, .iconst 0, 95, 0, 0, 0, 0), (95, .istore_n 3, 96, 3, 0, 0, 0), (96, .iload_n 3, 97, 3, 0, 0, 0), (97, .aload_n 0, 98, 0, 0, 0, 0), (98, .getfield 9, 101, 1, 0, 0, 0), (101, .if_icmp .ge 83, 104, 184, 0, 0, 0), (104, .iconst 0, 105, 0, 0, 0, 0), (105, .istore 4, 107, 4, 0, 0, 0), (107, .iload 4, 109, 4, 0, 0, 0), (109, .aload_n 0, 110, 0, 0, 0, 0), (110, .getfield 9, 113, 1, 0, 0, 0), (113, .if_icmp .ge 65, 116, 178, 0, 0, 0), (116, .aload_n 0, 117, 0, 0, 0, 0), (117, .getfield 36, 120, 1, 7, 0, 0), (120, .iload_n 3, 121, 3, 0, 0, 0), (121, .iload 4, 123, 4, 0, 0, 0), (123, .invokestatic 74, 126, 15, 1, 2, 0), (126, .iconst (-1), 127, 0, 0, 0, (-1)), (127, .iastore, 128, 0, 0, 0, 0), (128, .aload_n 0, 129, 0, 0, 0, 0), (129, .getfield 36, 132, 1, 7, 0, 0), (132, .bipush 100, 134, 0, 0, 0, 100), (134, .iload_n 3, 135, 3, 0, 0, 0), (135, .iload 4, 137, 4, 0, 0, 0), (137, .invokestatic 74, 140, 15, 1, 2, 0), (140, .iadd, 141, 0, 0, 0, 0), (141, .iconst (-1), 142, 0, 0, 0, (-1)), (142, .iastore, 143, 0, 0, 0, 0), (143, .iload_n 3, 144, 3, 0, 0, 0), (144, .iload 4, 146, 4, 0, 0, 0), (146, .if_icmp .lt 10, 149, 156, 0, 0, 0), (149, .aload_n 0, 150, 0, 0, 0, 0), (150, .getfield 15, 153, 1, 1, 0, 0), (153, .ifCond .eq 19, 156, 172, 0, 0, 0), (156, .aload_n 0, 157, 0, 0, 0, 0), (157, .aload_n 1, 158, 1, 0, 0, 0), (158, .iload_n 3, 159, 3, 0, 0, 0), (159, .iload 4, 161, 4, 0, 0, 0), (161, .invokevirtual 78, 164, 19, 0, 4, 0), (164, .aload_n 0, 165, 0, 0, 0, 0), (165, .aload_n 1, 166, 1, 0, 0, 0), (166, .iload_n 3, 167, 3, 0, 0, 0), (167, .iload 4, 169, 4, 0, 0, 0), (169, .invokevirtual 82, 172, 22, 0, 4, 0), (172, .iinc 4 1, 175, 4, 0, 0, 1), (175, .goto (-68), 178, 107, 0, 0, 0), (178, .iinc 3 1, 181, 3, 0, 0, 1), (181, .goto (-85), 184, 96, 0, 0, 0)]
def tb_18_2 : List (Nat × En) := [(184, .return_, 185, 0, 0, 0, 0)]
def tb_18 : List (Nat × En) := tb_18_0 ++ (tb_18_1 ++ (tb_18_2))
def tb_19_0 : List (Nat × En) := [(0, .ldc 85, 2, 85, 0, 0, (-1000000)), (2, .istore 4, 4, 4, 0, 0, 0), (4, .aload_n 1, 5, 1, 0, 0, 0), (5, .iload_n 3, 6, 3, 0, 0, 0), (6, .aload_n 1, 7, 1, 0, 0, 0), (7, .iload_n 2, 8, 2, 0, 0, 0), (8, .invokevirtual 86, 11, 9, 0, 2, 0), (11, .invokevirtual 89, 14, 11, 0, 3, 0), (14, .ifCond .eq 16, 17, 30, 0, 0, 0), (17, .iload 4, 19, 4, 0, 0, 0), (19, .aload_n 0, 20, 0, 0, 0, 0), (20, .getfield 29, 23, 1, 5, 0, 0), (23, .iload_n 2, 24, 2, 0, 0, 0), (24, .iaload, 25, 0, 0, 0, 0), (25, .invokestatic 93, 28, 164, 1, 2, 0), (28, .istore 4, 30, 4, 0, 0, 0), (30, .aload_n 1, 31, 1, 0, 0, 0), (31, .iload_n 2, 32, 2, 0, 0, 0), (32, .aload_n 1, 33, 1, 0, 0, 0), (33, .iload_n 3, 34, 3, 0, 0, 0), (34, .invokevirtual 86, 37, 9, 0, 2, 0), (37, .invokevirtual 89, 40, 11, 0, 3, 0), (40, .ifCond .eq 18, 43, 58, 0, 0, 0), (43, .iload 4, 45, 4, 0, 0, 0), (45, .iconst 1, 46, 0, 0, 0, 1), (46, .aload_n 0, 47, 0, 0, 0, 0), (47, .getfield 29, 50, 1, 5, 0, 0), (50, .iload_n 3, 51, 3, 0, 0, 0), (51, .iaload, 52, 0, 0, 0, 0), (52, .isub, 53, 0, 0, 0, 0), (53, .invokestatic 93, 56, 164, 1, 2, 0), (56, .istore 4, 58, 4, 0, 0, 0), (58, .aload_n 1, 59, 1, 0, 0, 0), (59, .iload_n 2, 60, 2, 0, 0, 0), (60, .invokevirtual 86, 63, 9, 0, 2, 0), (63, .iconst (-1), 64, 0, 0, 0, (-1)), (64, .if_icmp .eq 38, 67, 102, 0, 0, 0), (67, .aload_n 1, 68, 1, 0, 0, 0), (68, .iload_n 2, 69, 2, 0, 0, 0), (69, .invokevirtual 86, 72, 9, 0, 2, 0), (72, .aload_n 1, 73, 1, 0, 0, 0), (73, .iload_n 3, 74, 3, 0, 0, 0), (74, .invokevirtual 86, 77, 9, 0, 2, 0), (77, .if_icmp .ne 25, 80, 102, 0, 0, 0), (80, .iload 4, 82, 4, 0, 0, 0), (82, .aload_n 0, 83, 0, 0, 0, 0), (83, .getfield 29, 86, 1, 5, 0, 0), (86, .iload_n 2, 87, 2, 0, 0, 0), (87, .iaload, 88, 0, 0, 0, 0), (88, .aload_n 0, 89, 0, 0, 0, 0)]
def tb_19_1 : List (Nat × En) := [(89, .getfield 29, 92, 1, 5, 0, 0), (92, .iload_n 3, 93, 3, 0, 0, 0), (93, .iaload, 94, 0, 0, 0, 0), (94, .isub, 95, 0, 0, 0, 0), (95, .iconst 1, 96, 0, 0, 0, 1), (96, .iadd, 97, 0, 0, 0, 0), (97, .invokestatic 93, 100, 164, 1, 2, 0), (100, .istore 4, 102, 4, 0, 0, 0), (102, .aload_n 1, 103, 1, 0, 0, 0), (103, .getfield 61, 106, 0, 6, 0, 0), (106, .iload_n 2, 107, 2, 0, 0, 0), (107, .iaload, 108, 0, 0, 0, 0), (108, .aload_n 1, 109, 1, 0, 0, 0), (109, .getfield 61, 112, 0, 6, 0, 0), (112, .iload_n 3, 113, 3, 0, 0, 0), (113, .iaload, 114, 0, 0, 0, 0), (114, .invokestatic 98, 117, 20, 1, 2, 0), (117, .ifCond .eq 11, 120, 128, 0, 0, 0), (120, .iload 4, 122, 4, 0, 0, 0), (122, .iconst 1, 123, 0, 0, 0, 1), (123, .invokestatic 93, 126, 164, 1, 2, 0), (126, .istore 4, 128, 4, 0, 0, 0), (128, .iload 4, 130, 4, 0, 0, 0), (130, .ldc 85, 132, 85, 0, 0, (-1000000)), (132, .if_icmp .eq 35, 135, 167, 0, 0, 0), (135, .aload_n 0, 136, 0, 0, 0, 0), (136, .getfield 33, 139, 1, 6, 0, 0), (139, .iload_n 2, 140, 2, 0, 0, 0), (140, .iload_n 3, 141, 3, 0, 0, 0), (141, .invokestatic 74, 144, 15, 1, 2, 0), (144, .iload 4, 146, 4, 0, 0, 0), (146, .iastore, 147, 0, 0, 0, 0), (147, .aload_n 0, 148, 0, 0, 0, 0), (148, .getfield 36, 151, 1, 7, 0, 0), (151, .iload_n 2, 152, 2, 0, 0, 0), (152, .iload_n 3, 153, 3, 0, 0, 0), (153, .invokestatic 74, 156, 15, 1, 2, 0), (156, .iload_n 2, 157, 2, 0, 0, 0), (157, .iload_n 3, 158, 3, 0, 0, 0), (158, .if_icmp .ge 7, 161, 165, 0, 0, 0), (161, .iconst 0, 162, 0, 0, 0, 0), (162, .goto 4, 165, 166, 0, 0, 0), (165, .iconst 1, 166, 0, 0, 0, 1), (166, .iastore, 167, 0, 0, 0, 0), (167, .return_, 168, 0, 0, 0, 0)]
def tb_19 : List (Nat × En) := tb_19_0 ++ (tb_19_1)
def tb_20 : List (Nat × En) := [(0, .iload_n 0, 1, 0, 0, 0, 0), (1, .bipush 9, 3, 0, 0, 0, 9), (3, .if_icmp .ne 9, 6, 12, 0, 0, 0), (6, .iload_n 1, 7, 1, 0, 0, 0), (7, .bipush 9, 9, 0, 0, 0, 9), (9, .if_icmp .eq 29, 12, 38, 0, 0, 0), (12, .iload_n 0, 13, 0, 0, 0, 0), (13, .bipush 6, 15, 0, 0, 0, 6), (15, .if_icmp .ne 10, 18, 25, 0, 0, 0), (18, .iload_n 1, 19, 1, 0, 0, 0), (19, .invokestatic 101, 22, 21, 1, 1, 0), (22, .ifCond .ne 16, 25, 38, 0, 0, 0), (25, .iload_n 1, 26, 1, 0, 0, 0), (26, .bipush 6, 28, 0, 0, 0, 6), (28, .if_icmp .ne 14, 31, 42, 0, 0, 0), (31, .iload_n 0, 32, 0, 0, 0, 0), (32, .invokestatic 101, 35, 21, 1, 1, 0), (35, .ifCond .eq 7, 38, 42, 0, 0, 0), (38, .iconst 1, 39, 0, 0, 0, 1), (39, .goto 4, 42, 43, 0, 0, 0), (42, .iconst 0, 43, 0, 0, 0, 0), (43, .ireturn, 44, 0, 0, 0, 0)]
def tb_21 : List (Nat × En) := [(0, .iload_n 0, 1, 0, 0, 0, 0), (1, .bipush 6, 3, 0, 0, 0, 6), (3, .if_icmp .eq 15, 6, 18, 0, 0, 0), (6, .iload_n 0, 7, 0, 0, 0, 0), (7, .bipush 9, 9, 0, 0, 0, 9), (9, .if_icmp .eq 9, 12, 18, 0, 0, 0), (12, .iload_n 0, 13, 0, 0, 0, 0), (13, .bipush 8, 15, 0, 0, 0, 8), (15, .if_icmp .ne 7, 18, 22, 0, 0, 0), (18, .iconst 1, 19, 0, 0, 0, 1), (19, .goto 4, 22, 23, 0, 0, 0), (22, .iconst 0, 23, 0, 0, 0, 0), (23, .ireturn, 24, 0, 0, 0, 0)]
def tb_22_0 : List (Nat × En) := [(0, .aload_n 1, 1, 1, 0, 0, 0), (1, .getfield 61, 4, 0, 6, 0, 0), (4, .iload_n 2, 5, 2, 0, 0, 0), (5, .iaload, 6, 0, 0, 0, 0), (6, .bipush 8, 8, 0, 0, 0, 8), (8, .if_icmp .eq 14, 11, 22, 0, 0, 0), (11, .aload_n 1, 12, 1, 0, 0, 0), (12, .getfield 61, 15, 0, 6, 0, 0), (15, .iload_n 3, 16, 3, 0, 0, 0), (16, .iaload, 17, 0, 0, 0, 0), (17, .bipush 8, 19, 0, 0, 0, 8), (19, .if_icmp .ne 7, 22, 26, 0, 0, 0), (22, .iconst 1, 23, 0, 0, 0, 1), (23, .goto 4, 26, 27, 0, 0, 0), (26, .iconst 0, 27, 0, 0, 0, 0), (27, .istore 4, 29, 4, 0, 0, 0), (29, .iload 4, 31, 4, 0, 0, 0), (31, .ifCond .eq 68, 34, 99, 0, 0, 0), (34, .aload_n 1, 35, 1, 0, 0, 0), (35, .iload_n 2, 36, 2, 0, 0, 0), (36, .invokevirtual 104, 39, 12, 0, 2, 0), (39, .ifCond .eq 60, 42, 99, 0, 0, 0), (42, .aload_n 1, 43, 1, 0, 0, 0), (43, .iload_n 3, 44, 3, 0, 0, 0), (44, .invokevirtual 104, 47, 12, 0, 2, 0), (47, .ifCond .eq 52, 50, 99, 0, 0, 0), (50, .aload_n 0, 51, 0, 0, 0, 0), (51, .getfield 33, 54, 1, 6, 0, 0), (54, .bipush 100, 56, 0, 0, 0, 100), (56, .iload_n 2, 57, 2, 0, 0, 0), (57, .iload_n 3, 58, 3, 0, 0, 0), (58, .invokestatic 74, 61, 15, 1, 2, 0), (61, .iadd, 62, 0, 0, 0, 0), (62, .aload_n 1, 63, 1, 0, 0, 0), (63, .getfield 61, 66, 0, 6, 0, 0), (66, .iload_n 2, 67, 2, 0, 0, 0), (67, .iaload, 68, 0, 0, 0, 0), (68, .bipush 8, 70, 0, 0, 0, 8), (70, .if_icmp .ne 7, 73, 77, 0, 0, 0), (73, .iconst 1, 74, 0, 0, 0, 1), (74, .goto 4, 77, 78, 0, 0, 0), (77, .iconst 0, 78, 0, 0, 0, 0), (78, .iastore, 79, 0, 0, 0, 0), (79, .aload_n 0, 80, 0, 0, 0, 0), (80, .getfield 36, 83, 1, 7, 0, 0), (83, .bipush 100, 85, 0, 0, 0, 100), (85, .iload_n 2, 86, 2, 0, 0, 0), (86, .iload_n 3, 87, 3, 0, 0, 0), (87, .invokestatic 74, 90, 15, 1, 2, 0), (90, .iadd, 91, 0, 0, 0, 0)]
def tb_22_1 : List (Nat × En) := [(91, .aload_n 0, 92, 0, 0, 0, 0), (92, .aload_n 1, 93, 1, 0, 0, 0), (93, .iload_n 2, 94, 2, 0, 0, 0), (94, .iload_n 3, 95, 3, 0, 0, 0), (95, .invokevirtual 107, 98, 23, 0, 4, 0), (98, .iastore, 99, 0, 0, 0, 0), (99, .return_, 100, 0, 0, 0, 0)]
def tb_22 : List (Nat × En) := tb_22_0 ++ (tb_22_1)
def tb_23_0 : List (Nat × En) := [(0, .iload_n 2, 1, 2, 0, 0, 0), (1, .iload_n 3, 2, 3, 0, 0, 0), (2, .if_icmp .ge 7, 5, 9, 0, 0, 0), (5, .iconst 0, 6, 0, 0, 0, 0), (6, .goto 4, 9, 10, 0, 0, 0), (9, .iconst 1, 10, 0, 0, 0, 1), (10, .istore 4, 12, 4, 0, 0, 0), (12, .aload_n 1, 13, 1, 0, 0, 0), (13, .getfield 111, 16, 0, 8, 0, 0), (16, .iload_n 2, 17, 2, 0, 0, 0), (17, .iaload, 18, 0, 0, 0, 0), (18, .aload_n 1, 19, 1, 0, 0, 0), (19, .getfield 111, 22, 0, 8, 0, 0), (22, .iload_n 3, 23, 3, 0, 0, 0), (23, .iaload, 24, 0, 0, 0, 0), (24, .if_icmp .ne 12, 27, 36, 0, 0, 0), (27, .aload_n 0, 28, 0, 0, 0, 0), (28, .getfield 42, 31, 1, 9, 0, 0), (31, .iload_n 2, 32, 2, 0, 0, 0), (32, .baload, 33, 0, 0, 0, 0), (33, .ifCond .eq 6, 36, 39, 0, 0, 0), (36, .iload 4, 38, 4, 0, 0, 0), (38, .ireturn, 39, 0, 0, 0, 0), (39, .aload_n 0, 40, 0, 0, 0, 0), (40, .getfield 15, 43, 1, 1, 0, 0), (43, .ifCond .eq 8, 46, 51, 0, 0, 0), (46, .bipush 64, 48, 0, 0, 0, 64), (48, .goto 4, 51, 52, 0, 0, 0), (51, .iconst 0, 52, 0, 0, 0, 0), (52, .istore 5, 54, 5, 0, 0, 0), (54, .iload 4, 56, 4, 0, 0, 0), (56, .istore 6, 58, 6, 0, 0, 0), (58, .iload 6, 60, 6, 0, 0, 0), (60, .iload 5, 62, 5, 0, 0, 0), (62, .if_icmp .gt 41, 65, 103, 0, 0, 0), (65, .aload_n 0, 66, 0, 0, 0, 0), (66, .getfield 45, 69, 1, 10, 0, 0), (69, .iload_n 2, 70, 2, 0, 0, 0), (70, .iaload, 71, 0, 0, 0, 0), (71, .aload_n 0, 72, 0, 0, 0, 0), (72, .getfield 45, 75, 1, 10, 0, 0), (75, .iload_n 3, 76, 3, 0, 0, 0), (76, .iaload, 77, 0, 0, 0, 0), (77, .isub, 78, 0, 0, 0, 0), (78, .iload 6, 80, 6, 0, 0, 0), (80, .aload_n 0, 81, 0, 0, 0, 0), (81, .getfield 48, 84, 1, 11, 0, 0), (84, .iload_n 2, 85, 2, 0, 0, 0), (85, .iaload, 86, 0, 0, 0, 0), (86, .imul, 87, 0, 0, 0, 0)]
def tb_23_1 : List (Nat × En) := [(87, .isub, 88, 0, 0, 0, 0), (88, .invokestatic 114, 91, 84, 5, 1, 0), (91, .ifCond .ne 6, 94, 97, 0, 0, 0), (94, .iload 6, 96, 6, 0, 0, 0), (96, .ireturn, 97, 0, 0, 0, 0), (97, .iinc 6 1, 100, 6, 0, 0, 1), (100, .goto (-42), 103, 58, 0, 0, 0), (103, .iconst (-1), 104, 0, 0, 0, (-1)), (104, .ireturn, 105, 0, 0, 0, 0)]
def tb_23 : List (Nat × En) := tb_23_0 ++ (tb_23_1)
def tb_24_0 : List (Nat × En) := [(0, .aload_n 0, 1, 0, 0, 0, 0), (1, .getfield 42, 4, 1, 9, 0, 0), (4, .iload_n 2, 5, 2, 0, 0, 0), (5, .iconst 0, 6, 0, 0, 0, 0), (6, .bastore, 7, 0, 0, 0, 0), (7, .aload_n 0, 8, 0, 0, 0, 0), (8, .getfield 45, 11, 1, 10, 0, 0), (11, .iload_n 2, 12, 2, 0, 0, 0), (12, .aload_n 1, 13, 1, 0, 0, 0), (13, .getfield 117, 16, 0, 10, 0, 0), (16, .iload_n 2, 17, 2, 0, 0, 0), (17, .iaload, 18, 0, 0, 0, 0), (18, .iastore, 19, 0, 0, 0, 0), (19, .aload_n 0, 20, 0, 0, 0, 0), (20, .getfield 48, 23, 1, 11, 0, 0), (23, .iload_n 2, 24, 2, 0, 0, 0), (24, .iconst 0, 25, 0, 0, 0, 0), (25, .iastore, 26, 0, 0, 0, 0), (26, .iconst 0, 27, 0, 0, 0, 0), (27, .istore_n 3, 28, 3, 0, 0, 0), (28, .iconst 0, 29, 0, 0, 0, 0), (29, .istore 4, 31, 4, 0, 0, 0), (31, .iload 4, 33, 4, 0, 0, 0), (33, .aload_n 1, 34, 1, 0, 0, 0), (34, .getfield 51, 37, 0, 4, 0, 0), (37, .if_icmp .ge 91, 40, 128, 0, 0, 0), (40, .aload_n 1, 41, 1, 0, 0, 0), (41, .iload 4, 43, 4, 0, 0, 0), (43, .invokevirtual 86, 46, 9, 0, 2, 0), (46, .aload_n 1, 47, 1, 0, 0, 0), (47, .getfield 111, 50, 0, 8, 0, 0), (50, .iload_n 2, 51, 2, 0, 0, 0), (51, .iaload, 52, 0, 0, 0, 0), (52, .if_icmp .ne 70, 55, 122, 0, 0, 0), (55, .iinc 3 1, 58, 3, 0, 0, 1), (58, .aload_n 0, 59, 0, 0, 0, 0), (59, .getfield 42, 62, 1, 9, 0, 0), (62, .iload_n 2, 63, 2, 0, 0, 0), (63, .iload_n 3, 64, 3, 0, 0, 0), (64, .iconst 1, 65, 0, 0, 0, 1), (65, .if_icmp .gt 12, 68, 77, 0, 0, 0), (68, .aload_n 1, 69, 1, 0, 0, 0), (69, .iload 4, 71, 4, 0, 0, 0), (71, .invokevirtual 120, 74, 13, 0, 2, 0), (74, .ifCond .ne 7, 77, 81, 0, 0, 0), (77, .iconst 1, 78, 0, 0, 0, 1), (78, .goto 4, 81, 82, 0, 0, 0), (81, .iconst 0, 82, 0, 0, 0, 0), (82, .bastore, 83, 0, 0, 0, 0), (83, .aload_n 0, 84, 0, 0, 0, 0)]
def tb_24_1 : List (Nat × En) := [(84, .getfield 48, 87, 1, 11, 0, 0), (87, .iload_n 2, 88, 2, 0, 0, 0), (88, .aload_n 1, 89, 1, 0, 0, 0), (89, .getfield 117, 92, 0, 10, 0, 0), (92, .iload 4, 94, 4, 0, 0, 0), (94, .iaload, 95, 0, 0, 0, 0), (95, .iastore, 96, 0, 0, 0, 0), (96, .aload_n 0, 97, 0, 0, 0, 0), (97, .getfield 45, 100, 1, 10, 0, 0), (100, .iload_n 2, 101, 2, 0, 0, 0), (101, .dup2, 102, 0, 0, 0, 0), (102, .iaload, 103, 0, 0, 0, 0), (103, .iload 4, 105, 4, 0, 0, 0), (105, .iload_n 2, 106, 2, 0, 0, 0), (106, .if_icmp .ge 13, 109, 119, 0, 0, 0), (109, .aload_n 1, 110, 1, 0, 0, 0), (110, .getfield 117, 113, 0, 10, 0, 0), (113, .iload 4, 115, 4, 0, 0, 0), (115, .iaload, 116, 0, 0, 0, 0), (116, .goto 4, 119, 120, 0, 0, 0), (119, .iconst 0, 120, 0, 0, 0, 0), (120, .iadd, 121, 0, 0, 0, 0), (121, .iastore, 122, 0, 0, 0, 0), (122, .iinc 4 1, 125, 4, 0, 0, 1), (125, .goto (-94), 128, 31, 0, 0, 0), (128, .return_, 129, 0, 0, 0, 0)]
def tb_24 : List (Nat × En) := tb_24_0 ++ (tb_24_1)
def tb_25 : List (Nat × En) := [(0, .iconst 0, 1, 0, 0, 0, 0), (1, .istore_n 3, 2, 3, 0, 0, 0), (2, .iload_n 3, 3, 3, 0, 0, 0), (3, .aload_n 0, 4, 0, 0, 0, 0), (4, .getfield 9, 7, 1, 0, 0, 0), (7, .if_icmp .ge 67, 10, 74, 0, 0, 0), (10, .iconst 0, 11, 0, 0, 0, 0), (11, .istore 4, 13, 4, 0, 0, 0), (13, .iload 4, 15, 4, 0, 0, 0), (15, .aload_n 0, 16, 0, 0, 0, 0), (16, .getfield 9, 19, 1, 0, 0, 0), (19, .if_icmp .ge 49, 22, 68, 0, 0, 0), (22, .iload_n 3, 23, 3, 0, 0, 0), (23, .iload 4, 25, 4, 0, 0, 0), (25, .invokestatic 74, 28, 15, 1, 2, 0), (28, .istore 5, 30, 5, 0, 0, 0), (30, .aload_n 0, 31, 0, 0, 0, 0), (31, .getfield 39, 34, 1, 8, 0, 0), (34, .iload 5, 36, 5, 0, 0, 0), (36, .ldc 85, 38, 85, 0, 0, (-1000000)), (38, .iastore, 39, 0, 0, 0, 0), (39, .aload_n 0, 40, 0, 0, 0, 0), (40, .iload 5, 42, 5, 0, 0, 0), (42, .iload 5, 44, 5, 0, 0, 0), (44, .iload_n 1, 45, 1, 0, 0, 0), (45, .iload_n 2, 46, 2, 0, 0, 0), (46, .invokevirtual 123, 49, 26, 0, 5, 0), (49, .aload_n 0, 50, 0, 0, 0, 0), (50, .iload 5, 52, 5, 0, 0, 0), (52, .bipush 100, 54, 0, 0, 0, 100), (54, .iload 5, 56, 5, 0, 0, 0), (56, .iadd, 57, 0, 0, 0, 0), (57, .iload_n 1, 58, 1, 0, 0, 0), (58, .iload_n 2, 59, 2, 0, 0, 0), (59, .invokevirtual 123, 62, 26, 0, 5, 0), (62, .iinc 4 1, 65, 4, 0, 0, 1), (65, .goto (-52), 68, 13, 0, 0, 0), (68, .iinc 3 1, 71, 3, 0, 0, 1), (71, .goto (-69), 74, 2, 0, 0, 0), (74, .return_, 75, 0, 0, 0, 0)]
def tb_26 : List (Nat × En) := [(0, .aload_n 0, 1, 0, 0, 0, 0), (1, .getfield 33, 4, 1, 6, 0, 0), (4, .iload_n 2, 5, 2, 0, 0, 0), (5, .iaload, 6, 0, 0, 0, 0), (6, .iload_n 3, 7, 3, 0, 0, 0), (7, .aload_n 0, 8, 0, 0, 0, 0), (8, .getfield 36, 11, 1, 7, 0, 0), (11, .iload_n 2, 12, 2, 0, 0, 0), (12, .iaload, 13, 0, 0, 0, 0), (13, .imul, 14, 0, 0, 0, 0), (14, .isub, 15, 0, 0, 0, 0), (15, .istore 5, 17, 5, 0, 0, 0), (17, .aload_n 0, 18, 0, 0, 0, 0), (18, .getfield 36, 21, 1, 7, 0, 0), (21, .iload_n 2, 22, 2, 0, 0, 0), (22, .iaload, 23, 0, 0, 0, 0), (23, .iconst (-1), 24, 0, 0, 0, (-1)), (24, .if_icmp .eq 33, 27, 57, 0, 0, 0), (27, .aload_n 0, 28, 0, 0, 0, 0), (28, .getfield 36, 31, 1, 7, 0, 0), (31, .iload_n 2, 32, 2, 0, 0, 0), (32, .iaload, 33, 0, 0, 0, 0), (33, .iload 4, 35, 4, 0, 0, 0), (35, .if_icmp .gt 22, 38, 57, 0, 0, 0), (38, .iload 5, 40, 5, 0, 0, 0), (40, .aload_n 0, 41, 0, 0, 0, 0), (41, .getfield 39, 44, 1, 8, 0, 0), (44, .iload_n 1, 45, 1, 0, 0, 0), (45, .iaload, 46, 0, 0, 0, 0), (46, .if_icmp .le 11, 49, 57, 0, 0, 0), (49, .aload_n 0, 50, 0, 0, 0, 0), (50, .getfield 39, 53, 1, 8, 0, 0), (53, .iload_n 1, 54, 1, 0, 0, 0), (54, .iload 5, 56, 5, 0, 0, 0), (56, .iastore, 57, 0, 0, 0, 0), (57, .return_, 58, 0, 0, 0, 0)]
def tb_27 : List (Nat × En) := [(0, .iload_n 3, 1, 3, 0, 0, 0), (1, .istore 4, 3, 4, 0, 0, 0), (3, .iconst 0, 4, 0, 0, 0, 0), (4, .istore 5, 6, 5, 0, 0, 0), (6, .iload 5, 8, 5, 0, 0, 0), (8, .aload_n 0, 9, 0, 0, 0, 0), (9, .getfield 9, 12, 1, 0, 0, 0), (12, .if_icmp .ge 48, 15, 60, 0, 0, 0), (15, .aload_n 0, 16, 0, 0, 0, 0), (16, .getfield 39, 19, 1, 8, 0, 0), (19, .iload_n 1, 20, 1, 0, 0, 0), (20, .iload 5, 22, 5, 0, 0, 0), (22, .invokestatic 74, 25, 15, 1, 2, 0), (25, .iaload, 26, 0, 0, 0, 0), (26, .ldc 85, 28, 85, 0, 0, (-1000000)), (28, .if_icmp .eq 26, 31, 54, 0, 0, 0), (31, .iload 4, 33, 4, 0, 0, 0), (33, .aload_n 0, 34, 0, 0, 0, 0), (34, .getfield 39, 37, 1, 8, 0, 0), (37, .iload_n 1, 38, 1, 0, 0, 0), (38, .iload 5, 40, 5, 0, 0, 0), (40, .invokestatic 74, 43, 15, 1, 2, 0), (43, .iaload, 44, 0, 0, 0, 0), (44, .aload_n 2, 45, 2, 0, 0, 0), (45, .iload 5, 47, 5, 0, 0, 0), (47, .iaload, 48, 0, 0, 0, 0), (48, .iadd, 49, 0, 0, 0, 0), (49, .invokestatic 93, 52, 164, 1, 2, 0), (52, .istore 4, 54, 4, 0, 0, 0), (54, .iinc 5 1, 57, 5, 0, 0, 1), (57, .goto (-51), 60, 6, 0, 0, 0), (60, .iload 4, 62, 4, 0, 0, 0), (62, .ireturn, 63, 0, 0, 0, 0)]
def tb_28 : List (Nat × En) := [(0, .iconst 0, 1, 0, 0, 0, 0), (1, .istore_n 3, 2, 3, 0, 0, 0), (2, .iconst 0, 3, 0, 0, 0, 0), (3, .istore 4, 5, 4, 0, 0, 0), (5, .iload 4, 7, 4, 0, 0, 0), (7, .aload_n 0, 8, 0, 0, 0, 0), (8, .getfield 9, 11, 1, 0, 0, 0), (11, .if_icmp .ge 54, 14, 65, 0, 0, 0), (14, .aload_n 0, 15, 0, 0, 0, 0), (15, .getfield 39, 18, 1, 8, 0, 0), (18, .iload 4, 20, 4, 0, 0, 0), (20, .iload_n 1, 21, 1, 0, 0, 0), (21, .invokestatic 74, 24, 15, 1, 2, 0), (24, .iaload, 25, 0, 0, 0, 0), (25, .ldc 85, 27, 85, 0, 0, (-1000000)), (27, .if_icmp .eq 32, 30, 59, 0, 0, 0), (30, .aload_n 2, 31, 2, 0, 0, 0), (31, .iload 4, 33, 4, 0, 0, 0), (33, .iaload, 34, 0, 0, 0, 0), (34, .iconst (-1), 35, 0, 0, 0, (-1)), (35, .if_icmp .eq 24, 38, 59, 0, 0, 0), (38, .iload_n 3, 39, 3, 0, 0, 0), (39, .aload_n 2, 40, 2, 0, 0, 0), (40, .iload 4, 42, 4, 0, 0, 0), (42, .iaload, 43, 0, 0, 0, 0), (43, .aload_n 0, 44, 0, 0, 0, 0), (44, .getfield 39, 47, 1, 8, 0, 0), (47, .iload 4, 49, 4, 0, 0, 0), (49, .iload_n 1, 50, 1, 0, 0, 0), (50, .invokestatic 74, 53, 15, 1, 2, 0), (53, .iaload, 54, 0, 0, 0, 0), (54, .iadd, 55, 0, 0, 0, 0), (55, .invokestatic 93, 58, 164, 1, 2, 0), (58, .istore_n 3, 59, 3, 0, 0, 0), (59, .iinc 4 1, 62, 4, 0, 0, 1), (62, .goto (-57), 65, 5, 0, 0, 0), (65, .iload_n 3, 66, 3, 0, 0, 0), (66, .ireturn, 67, 0, 0, 0, 0)]
def tb_29 : List (Nat × En) := [(0, .iconst 0, 1, 0, 0, 0, 0), (1, .istore_n 2, 2, 2, 0, 0, 0), (2, .iconst 0, 3, 0, 0, 0, 0), (3, .istore_n 3, 4, 3, 0, 0, 0), (4, .iload_n 3, 5, 3, 0, 0, 0), (5, .aload_n 0, 6, 0, 0, 0, 0), (6, .getfield 9, 9, 1, 0, 0, 0), (9, .if_icmp .ge 24, 12, 33, 0, 0, 0), (12, .iload_n 2, 13, 2, 0, 0, 0), (13, .aload_n 1, 14, 1, 0, 0, 0), (14, .iload_n 3, 15, 3, 0, 0, 0), (15, .iaload, 16, 0, 0, 0, 0), (16, .aload_n 0, 17, 0, 0, 0, 0), (17, .getfield 29, 20, 1, 5, 0, 0), (20, .iload_n 3, 21, 3, 0, 0, 0), (21, .iaload, 22, 0, 0, 0, 0), (22, .iadd, 23, 0, 0, 0, 0), (23, .invokestatic 93, 26, 164, 1, 2, 0), (26, .istore_n 2, 27, 2, 0, 0, 0), (27, .iinc 3 1, 30, 3, 0, 0, 1), (30, .goto (-26), 33, 4, 0, 0, 0), (33, .iload_n 2, 34, 2, 0, 0, 0), (34, .ireturn, 35, 0, 0, 0, 0)]
def tb_30_0 : List (Nat × En) := [(0, .aload_n 0, 1, 0, 0, 0, 0), (1, .iconst 0, 2, 0, 0, 0, 0), (2, .iconst 0, 3, 0, 0, 0, 0), (3, .invokevirtual 9, 6, 25, 0, 3, 0), (6, .aload_n 0, 7, 0, 0, 0, 0), (7, .getfield 15, 10, 1, 0, 0, 0), (10, .iconst 1, 11, 0, 0, 0, 1), (11, .isub, 12, 0, 0, 0, 0), (12, .istore_n 2, 13, 2, 0, 0, 0), (13, .iload_n 2, 14, 2, 0, 0, 0), (14, .ifCond .lt 37, 17, 51, 0, 0, 0), (17, .aload_n 1, 18, 1, 0, 0, 0), (18, .getfield 19, 21, 5, 5, 0, 0), (21, .iload_n 2, 22, 2, 0, 0, 0), (22, .aload_n 0, 23, 0, 0, 0, 0), (23, .iload_n 2, 24, 2, 0, 0, 0), (24, .aload_n 1, 25, 1, 0, 0, 0), (25, .getfield 19, 28, 5, 5, 0, 0), (28, .aload_n 0, 29, 0, 0, 0, 0), (29, .getfield 25, 32, 1, 5, 0, 0), (32, .iload_n 2, 33, 2, 0, 0, 0), (33, .iaload, 34, 0, 0, 0, 0), (34, .invokevirtual 28, 37, 27, 0, 4, 0), (37, .iastore, 38, 0, 0, 0, 0), (38, .aload_n 1, 39, 1, 0, 0, 0), (39, .getfield 32, 42, 5, 6, 0, 0), (42, .iload_n 2, 43, 2, 0, 0, 0), (43, .iconst (-1), 44, 0, 0, 0, (-1)), (44, .iastore, 45, 0, 0, 0, 0), (45, .iinc 2 (-1), 48, 2, 0, 0, (-1)), (48, .goto (-35), 51, 13, 0, 0, 0), (51, .aload_n 0, 52, 0, 0, 0, 0), (52, .getfield 15, 55, 1, 0, 0, 0), (55, .istore_n 2, 56, 2, 0, 0, 0), (56, .iconst 0, 57, 0, 0, 0, 0), (57, .istore_n 3, 58, 3, 0, 0, 0), (58, .iload_n 3, 59, 3, 0, 0, 0), (59, .sipush 1000, 62, 0, 0, 0, 1000), (62, .if_icmp .ge 22, 65, 84, 0, 0, 0), (65, .iload_n 2, 66, 2, 0, 0, 0), (66, .ifCond .le 18, 69, 84, 0, 0, 0), (69, .iload_n 2, 70, 2, 0, 0, 0), (70, .aload_n 0, 71, 0, 0, 0, 0), (71, .aload_n 1, 72, 1, 0, 0, 0), (72, .iload_n 3, 73, 3, 0, 0, 0), (73, .invokestatic 35, 76, 31, 1, 3, 0), (76, .isub, 77, 0, 0, 0, 0), (77, .istore_n 2, 78, 2, 0, 0, 0), (78, .iinc 3 1, 81, 3, 0, 0, 1), (81, .goto (-23), 84, 58, 0, 0, 0)]
def tb_30_1 : List (Nat × En) := [(84, .aload_n 1, 85, 1, 0, 0, 0), (85, .aload_n 0, 86, 0, 0, 0, 0), (86, .aload_n 1, 87, 1, 0, 0, 0), (87, .getfield 32, 90, 5, 6, 0, 0), (90, .invokevirtual 41, 93, 29, 0, 2, 0), (93, .putfield 45, 96, 5, 0, 0, 0), (96, .return_, 97, 0, 0, 0, 0)]
def tb_30 : List (Nat × En) := tb_30_0 ++ (tb_30_1)
def tb_31_0 : List (Nat × En) := [(0, .aload_n 0, 1, 0, 0, 0, 0), (1, .getfield 48, 4, 1, 2, 0, 0), (4, .istore_n 3, 5, 3, 0, 0, 0), (5, .aload_n 0, 6, 0, 0, 0, 0), (6, .getfield 51, 9, 1, 3, 0, 0), (9, .istore 4, 11, 4, 0, 0, 0), (11, .iconst 0, 12, 0, 0, 0, 0), (12, .istore 5, 14, 5, 0, 0, 0), (14, .iload 5, 16, 5, 0, 0, 0), (16, .aload_n 0, 17, 0, 0, 0, 0), (17, .getfield 15, 20, 1, 0, 0, 0), (20, .if_icmp .ge 75, 23, 95, 0, 0, 0), (23, .aload_n 0, 24, 0, 0, 0, 0), (24, .aload_n 1, 25, 1, 0, 0, 0), (25, .iload_n 2, 26, 2, 0, 0, 0), (26, .iload_n 3, 27, 3, 0, 0, 0), (27, .iload 4, 29, 4, 0, 0, 0), (29, .invokestatic 54, 32, 32, 1, 5, 0), (32, .istore 6, 34, 6, 0, 0, 0), (34, .iload 6, 36, 6, 0, 0, 0), (36, .iconst (-1), 37, 0, 0, 0, (-1)), (37, .if_icmp .ne 6, 40, 43, 0, 0, 0), (40, .iload 5, 42, 5, 0, 0, 0), (42, .ireturn, 43, 0, 0, 0, 0), (43, .aload_n 1, 44, 1, 0, 0, 0), (44, .getfield 32, 47, 5, 6, 0, 0), (47, .iload 6, 49, 6, 0, 0, 0), (49, .iload_n 2, 50, 2, 0, 0, 0), (50, .iastore, 51, 0, 0, 0, 0), (51, .iload_n 3, 52, 3, 0, 0, 0), (52, .aload_n 0, 53, 0, 0, 0, 0), (53, .getfield 58, 56, 1, 4, 0, 0), (56, .iload 6, 58, 6, 0, 0, 0), (58, .baload, 59, 0, 0, 0, 0), (59, .ifCond .eq 7, 62, 66, 0, 0, 0), (62, .iconst 0, 63, 0, 0, 0, 0), (63, .goto 4, 66, 67, 0, 0, 0), (66, .iconst 1, 67, 0, 0, 0, 1), (67, .isub, 68, 0, 0, 0, 0), (68, .istore_n 3, 69, 3, 0, 0, 0), (69, .iload 4, 71, 4, 0, 0, 0), (71, .aload_n 0, 72, 0, 0, 0, 0), (72, .getfield 58, 75, 1, 4, 0, 0), (75, .iload 6, 77, 6, 0, 0, 0), (77, .baload, 78, 0, 0, 0, 0), (78, .ifCond .eq 7, 81, 85, 0, 0, 0), (81, .iconst 1, 82, 0, 0, 0, 1), (82, .goto 4, 85, 86, 0, 0, 0), (85, .iconst 0, 86, 0, 0, 0, 0), (86, .isub, 87, 0, 0, 0, 0)]
def tb_31_1 : List (Nat × En) := [(87, .istore 4, 89, 4, 0, 0, 0), (89, .iinc 5 1, 92, 5, 0, 0, 1), (92, .goto (-78), 95, 14, 0, 0, 0), (95, .aload_n 0, 96, 0, 0, 0, 0), (96, .getfield 15, 99, 1, 0, 0, 0), (99, .ireturn, 100, 0, 0, 0, 0)]
def tb_31 : List (Nat × En) := tb_31_0 ++ (tb_31_1)
def tb_32_0 : List (Nat × En) := [(0, .iconst (-1), 1, 0, 0, 0, (-1)), (1, .istore 5, 3, 5, 0, 0, 0), (3, .iconst 0, 4, 0, 0, 0, 0), (4, .istore 6, 6, 6, 0, 0, 0), (6, .iload 6, 8, 6, 0, 0, 0), (8, .aload_n 0, 9, 0, 0, 0, 0), (9, .getfield 15, 12, 1, 0, 0, 0), (12, .if_icmp .ge 89, 15, 101, 0, 0, 0), (15, .aload_n 0, 16, 0, 0, 0, 0), (16, .getfield 58, 19, 1, 4, 0, 0), (19, .iload 6, 21, 6, 0, 0, 0), (21, .baload, 22, 0, 0, 0, 0), (22, .ifCond .eq 8, 25, 30, 0, 0, 0), (25, .iload 4, 27, 4, 0, 0, 0), (27, .goto 4, 30, 31, 0, 0, 0), (30, .iload_n 3, 31, 3, 0, 0, 0), (31, .ifCond .le 7, 34, 38, 0, 0, 0), (34, .iconst 1, 35, 0, 0, 0, 1), (35, .goto 4, 38, 39, 0, 0, 0), (38, .iconst 0, 39, 0, 0, 0, 0), (39, .istore 7, 41, 7, 0, 0, 0), (41, .aload_n 1, 42, 1, 0, 0, 0), (42, .getfield 32, 45, 5, 6, 0, 0), (45, .iload 6, 47, 6, 0, 0, 0), (47, .iaload, 48, 0, 0, 0, 0), (48, .iconst (-1), 49, 0, 0, 0, (-1)), (49, .if_icmp .ne 46, 52, 95, 0, 0, 0), (52, .iload 7, 54, 7, 0, 0, 0), (54, .ifCond .eq 41, 57, 95, 0, 0, 0), (57, .aload_n 0, 58, 0, 0, 0, 0), (58, .aload_n 1, 59, 1, 0, 0, 0), (59, .iload 6, 61, 6, 0, 0, 0), (61, .iload_n 2, 62, 2, 0, 0, 0), (62, .invokestatic 62, 65, 33, 1, 4, 0), (65, .ifCond .eq 30, 68, 95, 0, 0, 0), (68, .iload 5, 70, 5, 0, 0, 0), (70, .iconst (-1), 71, 0, 0, 0, (-1)), (71, .if_icmp .eq 20, 74, 91, 0, 0, 0), (74, .aload_n 1, 75, 1, 0, 0, 0), (75, .getfield 19, 78, 5, 5, 0, 0), (78, .iload 6, 80, 6, 0, 0, 0), (80, .iaload, 81, 0, 0, 0, 0), (81, .aload_n 1, 82, 1, 0, 0, 0), (82, .getfield 19, 85, 5, 5, 0, 0), (85, .iload 5, 87, 5, 0, 0, 0), (87, .iaload, 88, 0, 0, 0, 0), (88, .if_icmp .le 7, 91, 95, 0, 0, 0), (91, .iload 6, 93, 6, 0, 0, 0), (93, .istore 5, 95, 5, 0, 0, 0), (95, .iinc 6 1, 98, 6, 0, 0, 1)]
def tb_32_1 : List (Nat × En) := [(98, .goto (-92), 101, 6, 0, 0, 0), (101, .iload 5, 103, 5, 0, 0, 0), (103, .ireturn, 104, 0, 0, 0, 0)]
def tb_32 : List (Nat × En) := tb_32_0 ++ (tb_32_1)
def tb_33 : List (Nat × En) := [(0, .iconst 0, 1, 0, 0, 0, 0), (1, .istore 4, 3, 4, 0, 0, 0), (3, .iload 4, 5, 4, 0, 0, 0), (5, .iload_n 2, 6, 2, 0, 0, 0), (6, .if_icmp .ge 56, 9, 62, 0, 0, 0), (9, .aload_n 0, 10, 0, 0, 0, 0), (10, .getfield 66, 13, 1, 8, 0, 0), (13, .iload 4, 15, 4, 0, 0, 0), (15, .iload_n 2, 16, 2, 0, 0, 0), (16, .invokestatic 69, 19, 15, 1, 2, 0), (19, .iaload, 20, 0, 0, 0, 0), (20, .istore 5, 22, 5, 0, 0, 0), (22, .iload 5, 24, 5, 0, 0, 0), (24, .ldc 73, 26, 73, 0, 0, (-1000000)), (26, .if_icmp .eq 30, 29, 56, 0, 0, 0), (29, .aload_n 1, 30, 1, 0, 0, 0), (30, .getfield 32, 33, 5, 6, 0, 0), (33, .iload 4, 35, 4, 0, 0, 0), (35, .iaload, 36, 0, 0, 0, 0), (36, .iconst (-1), 37, 0, 0, 0, (-1)), (37, .if_icmp .eq 17, 40, 54, 0, 0, 0), (40, .aload_n 1, 41, 1, 0, 0, 0), (41, .getfield 32, 44, 5, 6, 0, 0), (44, .iload 4, 46, 4, 0, 0, 0), (46, .iaload, 47, 0, 0, 0, 0), (47, .iload 5, 49, 5, 0, 0, 0), (49, .iadd, 50, 0, 0, 0, 0), (50, .iload_n 3, 51, 3, 0, 0, 0), (51, .if_icmp .le 5, 54, 56, 0, 0, 0), (54, .iconst 0, 55, 0, 0, 0, 0), (55, .ireturn, 56, 0, 0, 0, 0), (56, .iinc 4 1, 59, 4, 0, 0, 1), (59, .goto (-56), 62, 3, 0, 0, 0), (62, .iconst 1, 63, 0, 0, 0, 1), (63, .ireturn, 64, 0, 0, 0, 0)]
def tb_34 : List (Nat × En) := [(0, .aload_n 0, 1, 0, 0, 0, 0), (1, .invokespecial 3, 4, 0, 9, 0, 0), (4, .aload_n 0, 5, 0, 0, 0, 0), (5, .iconst 2, 6, 0, 0, 0, 2), (6, .putfield 9, 9, 2, 0, 0, 0), (9, .aload_n 0, 10, 0, 0, 0, 0), (10, .iconst 1, 11, 0, 0, 0, 1), (11, .putfield 15, 14, 2, 1, 0, 0), (14, .aload_n 0, 15, 0, 0, 0, 0), (15, .iconst 1, 16, 0, 0, 0, 1), (16, .putfield 18, 19, 2, 2, 0, 0), (19, .aload_n 0, 20, 0, 0, 0, 0), (20, .iconst 3, 21, 0, 0, 0, 3), (21, .putfield 21, 24, 2, 3, 0, 0), (24, .aload_n 0, 25, 0, 0, 0, 0), (25, .bipush 8, 27, 0, 0, 0, 8), (27, .putfield 24, 30, 2, 4, 0, 0), (30, .aload_n 0, 31, 0, 0, 0, 0), (31, .iconst 2, 32, 0, 0, 0, 2), (32, .putfield 27, 35, 2, 5, 0, 0), (35, .return_, 36, 0, 0, 0, 0)]
def tb_35 : List (Nat × En) := [(0, .iload_n 1, 1, 1, 0, 0, 0), (1, .tableswitch 56 4 9 #[39, 56, 44, 49, 54, 54], 40, 0, 0, 0, 0), (40, .aload_n 0, 41, 0, 0, 0, 0), (41, .getfield 21, 44, 2, 3, 0, 0), (44, .ireturn, 45, 0, 0, 0, 0), (45, .aload_n 0, 46, 0, 0, 0, 0), (46, .getfield 24, 49, 2, 4, 0, 0), (49, .ireturn, 50, 0, 0, 0, 0), (50, .aload_n 0, 51, 0, 0, 0, 0), (51, .getfield 27, 54, 2, 5, 0, 0), (54, .ireturn, 55, 0, 0, 0, 0), (55, .iconst 1, 56, 0, 0, 0, 1), (56, .ireturn, 57, 0, 0, 0, 0), (57, .aload_n 0, 58, 0, 0, 0, 0), (58, .getfield 18, 61, 2, 2, 0, 0), (61, .ireturn, 62, 0, 0, 0, 0)]
def tb_36 : List (Nat × En) := [(0, .aload_n 0, 1, 0, 0, 0, 0), (1, .invokespecial 3, 4, 0, 9, 0, 0), (4, .aload_n 0, 5, 0, 0, 0, 0), (5, .bipush 10, 7, 0, 0, 0, 10), (7, .newarray .int, 9, 20, 0, 0, 0), (9, .putfield 9, 12, 3, 0, 0, 0), (12, .aload_n 0, 13, 0, 0, 0, 0), (13, .bipush 10, 15, 0, 0, 0, 10), (15, .newarray .int, 17, 20, 0, 0, 0), (17, .putfield 15, 20, 3, 1, 0, 0), (20, .aload_n 0, 21, 0, 0, 0, 0), (21, .bipush 10, 23, 0, 0, 0, 10), (23, .newarray .int, 25, 20, 0, 0, 0), (25, .putfield 18, 28, 3, 2, 0, 0), (28, .return_, 29, 0, 0, 0, 0)]
def tb_37 : List (Nat × En) := [(0, .aload_n 2, 1, 2, 0, 0, 0), (1, .iconst 0, 2, 0, 0, 0, 0), (2, .putfield 21, 5, 5, 1, 0, 0), (5, .aload_n 1, 6, 1, 0, 0, 0), (6, .aload_n 2, 7, 2, 0, 0, 0), (7, .invokestatic 27, 10, 38, 1, 2, 0), (10, .aload_n 1, 11, 1, 0, 0, 0), (11, .getfield 31, 14, 1, 1, 0, 0), (14, .ifCond .eq 10, 17, 24, 0, 0, 0), (17, .aload_n 1, 18, 1, 0, 0, 0), (18, .getfield 37, 21, 1, 0, 0, 0), (21, .ifCond .ne 4, 24, 25, 0, 0, 0), (24, .return_, 25, 0, 0, 0, 0), (25, .aload_n 2, 26, 2, 0, 0, 0), (26, .aload_n 0, 27, 0, 0, 0, 0), (27, .aload_n 1, 28, 1, 0, 0, 0), (28, .invokevirtual 40, 31, 41, 0, 2, 0), (31, .putfield 21, 34, 5, 1, 0, 0), (34, .aload_n 2, 35, 2, 0, 0, 0), (35, .getfield 21, 38, 5, 1, 0, 0), (38, .istore_n 3, 39, 3, 0, 0, 0), (39, .iload_n 3, 40, 3, 0, 0, 0), (40, .aload_n 2, 41, 2, 0, 0, 0), (41, .getfield 43, 44, 5, 0, 0, 0), (44, .if_icmp .gt 26, 47, 70, 0, 0, 0), (47, .aload_n 0, 48, 0, 0, 0, 0), (48, .aload_n 1, 49, 1, 0, 0, 0), (49, .aload_n 2, 50, 2, 0, 0, 0), (50, .iload_n 3, 51, 3, 0, 0, 0), (51, .invokevirtual 46, 54, 43, 0, 4, 0), (54, .ifCond .eq 10, 57, 64, 0, 0, 0), (57, .aload_n 1, 58, 1, 0, 0, 0), (58, .aload_n 2, 59, 2, 0, 0, 0), (59, .iload_n 3, 60, 3, 0, 0, 0), (60, .invokestatic 50, 63, 39, 1, 3, 0), (63, .return_, 64, 0, 0, 0, 0), (64, .iinc 3 1, 67, 3, 0, 0, 1), (67, .goto (-28), 70, 39, 0, 0, 0), (70, .aload_n 1, 71, 1, 0, 0, 0), (71, .aload_n 2, 72, 2, 0, 0, 0), (72, .invokestatic 27, 75, 38, 1, 2, 0), (75, .return_, 76, 0, 0, 0, 0)]
def tb_38 : List (Nat × En) := [(0, .aload_n 1, 1, 1, 0, 0, 0), (1, .iconst 0, 2, 0, 0, 0, 0), (2, .putfield 54, 5, 5, 2, 0, 0), (5, .aload_n 1, 6, 1, 0, 0, 0), (6, .iconst 0, 7, 0, 0, 0, 0), (7, .putfield 57, 10, 5, 3, 0, 0), (10, .aload_n 1, 11, 1, 0, 0, 0), (11, .iconst 0, 12, 0, 0, 0, 0), (12, .putfield 60, 15, 5, 4, 0, 0), (15, .iconst 0, 16, 0, 0, 0, 0), (16, .istore_n 2, 17, 2, 0, 0, 0), (17, .iload_n 2, 18, 2, 0, 0, 0), (18, .aload_n 0, 19, 0, 0, 0, 0), (19, .getfield 37, 22, 1, 0, 0, 0), (22, .if_icmp .ge 16, 25, 38, 0, 0, 0), (25, .aload_n 1, 26, 1, 0, 0, 0), (26, .getfield 63, 29, 5, 7, 0, 0), (29, .iload_n 2, 30, 2, 0, 0, 0), (30, .iconst (-1), 31, 0, 0, 0, (-1)), (31, .iastore, 32, 0, 0, 0, 0), (32, .iinc 2 1, 35, 2, 0, 0, 1), (35, .goto (-18), 38, 17, 0, 0, 0), (38, .return_, 39, 0, 0, 0, 0)]
def tb_39 : List (Nat × En) := [(0, .aload_n 1, 1, 1, 0, 0, 0), (1, .iload_n 2, 2, 2, 0, 0, 0), (2, .putfield 54, 5, 5, 2, 0, 0), (5, .aload_n 1, 6, 1, 0, 0, 0), (6, .iconst 1, 7, 0, 0, 0, 1), (7, .aload_n 0, 8, 0, 0, 0, 0), (8, .aload_n 1, 9, 1, 0, 0, 0), (9, .iload_n 2, 10, 2, 0, 0, 0), (10, .invokestatic 66, 13, 40, 1, 3, 0), (13, .iadd, 14, 0, 0, 0, 0), (14, .putfield 57, 17, 5, 3, 0, 0), (17, .aload_n 1, 18, 1, 0, 0, 0), (18, .aload_n 0, 19, 0, 0, 0, 0), (19, .aload_n 1, 20, 1, 0, 0, 0), (20, .getfield 63, 23, 5, 7, 0, 0), (23, .invokevirtual 70, 26, 29, 0, 2, 0), (26, .putfield 60, 29, 5, 4, 0, 0), (29, .return_, 30, 0, 0, 0, 0)]
def tb_40 : List (Nat × En) := [(0, .iconst 0, 1, 0, 0, 0, 0), (1, .istore_n 3, 2, 3, 0, 0, 0), (2, .iconst 0, 3, 0, 0, 0, 0), (3, .istore 4, 5, 4, 0, 0, 0), (5, .iload 4, 7, 4, 0, 0, 0), (7, .aload_n 0, 8, 0, 0, 0, 0), (8, .getfield 37, 11, 1, 0, 0, 0), (11, .if_icmp .ge 25, 14, 36, 0, 0, 0), (14, .iload_n 3, 15, 3, 0, 0, 0), (15, .aload_n 1, 16, 1, 0, 0, 0), (16, .getfield 63, 19, 5, 7, 0, 0), (19, .iload 4, 21, 4, 0, 0, 0), (21, .iaload, 22, 0, 0, 0, 0), (22, .iload_n 2, 23, 2, 0, 0, 0), (23, .invokestatic 74, 26, 62, 1, 2, 0), (26, .invokestatic 78, 29, 164, 1, 2, 0), (29, .istore_n 3, 30, 3, 0, 0, 0), (30, .iinc 4 1, 33, 4, 0, 0, 1), (33, .goto (-28), 36, 5, 0, 0, 0), (36, .iload_n 3, 37, 3, 0, 0, 0), (37, .ireturn, 38, 0, 0, 0, 0)]
def tb_41 : List (Nat × En) := [(0, .aload_n 1, 1, 1, 0, 0, 0), (1, .iconst 0, 2, 0, 0, 0, 0), (2, .invokevirtual 83, 5, 17, 0, 2, 0), (5, .istore_n 2, 6, 2, 0, 0, 0), (6, .aload_n 1, 7, 1, 0, 0, 0), (7, .iconst 1, 8, 0, 0, 0, 1), (8, .invokevirtual 83, 11, 17, 0, 2, 0), (11, .istore_n 3, 12, 3, 0, 0, 0), (12, .iconst 1, 13, 0, 0, 0, 1), (13, .istore 4, 15, 4, 0, 0, 0), (15, .iload 4, 17, 4, 0, 0, 0), (17, .sipush 1000, 20, 0, 0, 0, 1000), (20, .if_icmp .ge 44, 23, 64, 0, 0, 0), (23, .iload_n 2, 24, 2, 0, 0, 0), (24, .iload 4, 26, 4, 0, 0, 0), (26, .aload_n 1, 27, 1, 0, 0, 0), (27, .getfield 87, 30, 1, 2, 0, 0), (30, .imul, 31, 0, 0, 0, 0), (31, .if_icmp .gt 27, 34, 58, 0, 0, 0), (34, .iload_n 3, 35, 3, 0, 0, 0), (35, .iload 4, 37, 4, 0, 0, 0), (37, .aload_n 1, 38, 1, 0, 0, 0), (38, .getfield 90, 41, 1, 3, 0, 0), (41, .imul, 42, 0, 0, 0, 0), (42, .if_icmp .gt 16, 45, 58, 0, 0, 0), (45, .aload_n 0, 46, 0, 0, 0, 0), (46, .aload_n 1, 47, 1, 0, 0, 0), (47, .iload 4, 49, 4, 0, 0, 0), (49, .invokevirtual 93, 52, 42, 0, 3, 0), (52, .ifCond .eq 6, 55, 58, 0, 0, 0), (55, .iload 4, 57, 4, 0, 0, 0), (57, .ireturn, 58, 0, 0, 0, 0), (58, .iinc 4 1, 61, 4, 0, 0, 1), (61, .goto (-46), 64, 15, 0, 0, 0), (64, .sipush 1000, 67, 0, 0, 0, 1000), (67, .ireturn, 68, 0, 0, 0, 0)]
def tb_42_0 : List (Nat × En) := [(0, .aload_n 1, 1, 1, 0, 0, 0), (1, .iload_n 2, 2, 2, 0, 0, 0), (2, .bipush 64, 4, 0, 0, 0, 64), (4, .invokevirtual 97, 7, 25, 0, 3, 0), (7, .iconst 0, 8, 0, 0, 0, 0), (8, .istore_n 3, 9, 3, 0, 0, 0), (9, .iload_n 3, 10, 3, 0, 0, 0), (10, .aload_n 1, 11, 1, 0, 0, 0), (11, .getfield 37, 14, 1, 0, 0, 0), (14, .if_icmp .ge 16, 17, 30, 0, 0, 0), (17, .aload_n 0, 18, 0, 0, 0, 0), (18, .getfield 9, 21, 3, 0, 0, 0), (21, .iload_n 3, 22, 3, 0, 0, 0), (22, .iconst 0, 23, 0, 0, 0, 0), (23, .iastore, 24, 0, 0, 0, 0), (24, .iinc 3 1, 27, 3, 0, 0, 1), (27, .goto (-18), 30, 9, 0, 0, 0), (30, .iconst 0, 31, 0, 0, 0, 0), (31, .istore_n 3, 32, 3, 0, 0, 0), (32, .iload_n 3, 33, 3, 0, 0, 0), (33, .aload_n 1, 34, 1, 0, 0, 0), (34, .getfield 37, 37, 1, 0, 0, 0), (37, .if_icmp .gt 94, 40, 131, 0, 0, 0), (40, .iconst 0, 41, 0, 0, 0, 0), (41, .istore 4, 43, 4, 0, 0, 0), (43, .aload_n 1, 44, 1, 0, 0, 0), (44, .getfield 37, 47, 1, 0, 0, 0), (47, .iconst 1, 48, 0, 0, 0, 1), (48, .isub, 49, 0, 0, 0, 0), (49, .istore 5, 51, 5, 0, 0, 0), (51, .iload 5, 53, 5, 0, 0, 0), (53, .ifCond .lt 65, 56, 118, 0, 0, 0), (56, .aload_n 1, 57, 1, 0, 0, 0), (57, .iload 5, 59, 5, 0, 0, 0), (59, .aload_n 0, 60, 0, 0, 0, 0), (60, .getfield 9, 63, 3, 0, 0, 0), (63, .iconst 0, 64, 0, 0, 0, 0), (64, .invokevirtual 101, 67, 27, 0, 4, 0), (67, .istore 6, 69, 6, 0, 0, 0), (69, .iload 4, 71, 4, 0, 0, 0), (71, .ifCond .ne 15, 74, 86, 0, 0, 0), (74, .iload 6, 76, 6, 0, 0, 0), (76, .aload_n 0, 77, 0, 0, 0, 0), (77, .getfield 9, 80, 3, 0, 0, 0), (80, .iload 5, 82, 5, 0, 0, 0), (82, .iaload, 83, 0, 0, 0, 0), (83, .if_icmp .le 7, 86, 90, 0, 0, 0), (86, .iconst 1, 87, 0, 0, 0, 1), (87, .goto 4, 90, 91, 0, 0, 0), (90, .iconst 0, 91, 0, 0, 0, 0)]
def tb_42_1 : List (Nat × En) := [(91, .istore 4, 93, 4, 0, 0, 0), (93, .aload_n 0, 94, 0, 0, 0, 0), (94, .getfield 9, 97, 3, 0, 0, 0), (97, .iload 5, 99, 5, 0, 0, 0), (99, .aload_n 0, 100, 0, 0, 0, 0), (100, .getfield 9, 103, 3, 0, 0, 0), (103, .iload 5, 105, 5, 0, 0, 0), (105, .iaload, 106, 0, 0, 0, 0), (106, .iload 6, 108, 6, 0, 0, 0), (108, .invokestatic 78, 111, 164, 1, 2, 0), (111, .iastore, 112, 0, 0, 0, 0), (112, .iinc 5 (-1), 115, 5, 0, 0, (-1)), (115, .goto (-64), 118, 51, 0, 0, 0), (118, .iload 4, 120, 4, 0, 0, 0), (120, .ifCond .ne 5, 123, 125, 0, 0, 0), (123, .iconst 1, 124, 0, 0, 0, 1), (124, .ireturn, 125, 0, 0, 0, 0), (125, .iinc 3 1, 128, 3, 0, 0, 1), (128, .goto (-96), 131, 32, 0, 0, 0), (131, .iconst 0, 132, 0, 0, 0, 0), (132, .ireturn, 133, 0, 0, 0, 0)]
def tb_42 : List (Nat × En) := tb_42_0 ++ (tb_42_1)
def tb_43_0 : List (Nat × En) := [(0, .aload_n 0, 1, 0, 0, 0, 0), (1, .aload_n 1, 2, 1, 0, 0, 0), (2, .iload_n 3, 3, 3, 0, 0, 0), (3, .invokevirtual 93, 6, 42, 0, 3, 0), (6, .ifCond .ne 5, 9, 11, 0, 0, 0), (9, .iconst 0, 10, 0, 0, 0, 0), (10, .ireturn, 11, 0, 0, 0, 0), (11, .iconst 0, 12, 0, 0, 0, 0), (12, .istore 4, 14, 4, 0, 0, 0), (14, .iload 4, 16, 4, 0, 0, 0), (16, .aload_n 1, 17, 1, 0, 0, 0), (17, .getfield 37, 20, 1, 0, 0, 0), (20, .if_icmp .ge 25, 23, 45, 0, 0, 0), (23, .aload_n 2, 24, 2, 0, 0, 0), (24, .getfield 63, 27, 5, 7, 0, 0), (27, .iload 4, 29, 4, 0, 0, 0), (29, .iconst (-1), 30, 0, 0, 0, (-1)), (30, .iastore, 31, 0, 0, 0, 0), (31, .aload_n 0, 32, 0, 0, 0, 0), (32, .getfield 15, 35, 3, 1, 0, 0), (35, .iload 4, 37, 4, 0, 0, 0), (37, .iconst (-1), 38, 0, 0, 0, (-1)), (38, .iastore, 39, 0, 0, 0, 0), (39, .iinc 4 1, 42, 4, 0, 0, 1), (42, .goto (-28), 45, 14, 0, 0, 0), (45, .iconst 0, 46, 0, 0, 0, 0), (46, .istore 4, 48, 4, 0, 0, 0), (48, .iload 4, 50, 4, 0, 0, 0), (50, .bipush 6, 52, 0, 0, 0, 6), (52, .aload_n 1, 53, 1, 0, 0, 0), (53, .getfield 37, 56, 1, 0, 0, 0), (56, .imul, 57, 0, 0, 0, 0), (57, .if_icmp .ge 35, 60, 92, 0, 0, 0), (60, .aload_n 0, 61, 0, 0, 0, 0), (61, .aload_n 1, 62, 1, 0, 0, 0), (62, .aload_n 2, 63, 2, 0, 0, 0), (63, .invokevirtual 105, 66, 44, 0, 3, 0), (66, .istore 5, 68, 5, 0, 0, 0), (68, .iload 5, 70, 5, 0, 0, 0), (70, .iconst (-1), 71, 0, 0, 0, (-1)), (71, .if_icmp .ne 6, 74, 77, 0, 0, 0), (74, .goto 18, 77, 92, 0, 0, 0), (77, .aload_n 0, 78, 0, 0, 0, 0), (78, .aload_n 1, 79, 1, 0, 0, 0), (79, .aload_n 2, 80, 2, 0, 0, 0), (80, .iload 5, 82, 5, 0, 0, 0), (82, .iload_n 3, 83, 3, 0, 0, 0), (83, .invokevirtual 109, 86, 45, 0, 5, 0), (86, .iinc 4 1, 89, 4, 0, 0, 1), (89, .goto (-41), 92, 48, 0, 0, 0)]
def tb_43_1 : List (Nat × En) := [(92, .aload_n 0, 93, 0, 0, 0, 0), (93, .aload_n 1, 94, 1, 0, 0, 0), (94, .aload_n 2, 95, 2, 0, 0, 0), (95, .invokevirtual 105, 98, 44, 0, 3, 0), (98, .iconst (-1), 99, 0, 0, 0, (-1)), (99, .if_icmp .ne 18, 102, 117, 0, 0, 0), (102, .aload_n 1, 103, 1, 0, 0, 0), (103, .aload_n 2, 104, 2, 0, 0, 0), (104, .iload_n 3, 105, 3, 0, 0, 0), (105, .invokestatic 66, 108, 40, 1, 3, 0), (108, .bipush 15, 110, 0, 0, 0, 15), (110, .if_icmp .gt 7, 113, 117, 0, 0, 0), (113, .iconst 1, 114, 0, 0, 0, 1), (114, .goto 4, 117, 118, 0, 0, 0), (117, .iconst 0, 118, 0, 0, 0, 0), (118, .ireturn, 119, 0, 0, 0, 0)]
def tb_43 : List (Nat × En) := tb_43_0 ++ (tb_43_1)
def tb_44 : List (Nat × En) := [(0, .iconst (-1), 1, 0, 0, 0, (-1)), (1, .istore_n 3, 2, 3, 0, 0, 0), (2, .iconst 0, 3, 0, 0, 0, 0), (3, .istore 4, 5, 4, 0, 0, 0), (5, .iload 4, 7, 4, 0, 0, 0), (7, .aload_n 1, 8, 1, 0, 0, 0), (8, .getfield 37, 11, 1, 0, 0, 0), (11, .if_icmp .ge 44, 14, 55, 0, 0, 0), (14, .aload_n 2, 15, 2, 0, 0, 0), (15, .getfield 63, 18, 5, 7, 0, 0), (18, .iload 4, 20, 4, 0, 0, 0), (20, .iaload, 21, 0, 0, 0, 0), (21, .iconst (-1), 22, 0, 0, 0, (-1)), (22, .if_icmp .ne 27, 25, 49, 0, 0, 0), (25, .iload_n 3, 26, 3, 0, 0, 0), (26, .iconst (-1), 27, 0, 0, 0, (-1)), (27, .if_icmp .eq 19, 30, 46, 0, 0, 0), (30, .aload_n 0, 31, 0, 0, 0, 0), (31, .getfield 9, 34, 3, 0, 0, 0), (34, .iload 4, 36, 4, 0, 0, 0), (36, .iaload, 37, 0, 0, 0, 0), (37, .aload_n 0, 38, 0, 0, 0, 0), (38, .getfield 9, 41, 3, 0, 0, 0), (41, .iload_n 3, 42, 3, 0, 0, 0), (42, .iaload, 43, 0, 0, 0, 0), (43, .if_icmp .le 6, 46, 49, 0, 0, 0), (46, .iload 4, 48, 4, 0, 0, 0), (48, .istore_n 3, 49, 3, 0, 0, 0), (49, .iinc 4 1, 52, 4, 0, 0, 1), (52, .goto (-47), 55, 5, 0, 0, 0), (55, .iload_n 3, 56, 3, 0, 0, 0), (56, .ireturn, 57, 0, 0, 0, 0)]
def tb_45_0 : List (Nat × En) := [(0, .aload_n 1, 1, 1, 0, 0, 0), (1, .iload_n 3, 2, 3, 0, 0, 0), (2, .aload_n 2, 3, 2, 0, 0, 0), (3, .getfield 63, 6, 5, 7, 0, 0), (6, .invokevirtual 113, 9, 28, 0, 3, 0), (9, .istore 5, 11, 5, 0, 0, 0), (11, .aload_n 0, 12, 0, 0, 0, 0), (12, .aload_n 1, 13, 1, 0, 0, 0), (13, .aload_n 2, 14, 2, 0, 0, 0), (14, .iload_n 3, 15, 3, 0, 0, 0), (15, .iload 5, 17, 5, 0, 0, 0), (17, .iload 4, 19, 4, 0, 0, 0), (19, .invokevirtual 117, 22, 46, 0, 6, 0), (22, .istore 6, 24, 6, 0, 0, 0), (24, .iload 6, 26, 6, 0, 0, 0), (26, .iconst (-1), 27, 0, 0, 0, (-1)), (27, .if_icmp .ne 53, 30, 80, 0, 0, 0), (30, .aload_n 0, 31, 0, 0, 0, 0), (31, .getfield 15, 34, 3, 1, 0, 0), (34, .iload_n 3, 35, 3, 0, 0, 0), (35, .iaload, 36, 0, 0, 0, 0), (36, .iconst (-1), 37, 0, 0, 0, (-1)), (37, .if_icmp .eq 14, 40, 51, 0, 0, 0), (40, .iload 5, 42, 5, 0, 0, 0), (42, .aload_n 0, 43, 0, 0, 0, 0), (43, .getfield 15, 46, 3, 1, 0, 0), (46, .iload_n 3, 47, 3, 0, 0, 0), (47, .iaload, 48, 0, 0, 0, 0), (48, .if_icmp .le 8, 51, 56, 0, 0, 0), (51, .iload 5, 53, 5, 0, 0, 0), (53, .goto 11, 56, 64, 0, 0, 0), (56, .aload_n 0, 57, 0, 0, 0, 0), (57, .getfield 15, 60, 3, 1, 0, 0), (60, .iload_n 3, 61, 3, 0, 0, 0), (61, .iaload, 62, 0, 0, 0, 0), (62, .iconst 1, 63, 0, 0, 0, 1), (63, .iadd, 64, 0, 0, 0, 0), (64, .istore 6, 66, 6, 0, 0, 0), (66, .aload_n 0, 67, 0, 0, 0, 0), (67, .aload_n 1, 68, 1, 0, 0, 0), (68, .aload_n 2, 69, 2, 0, 0, 0), (69, .iload_n 3, 70, 3, 0, 0, 0), (70, .iload 6, 72, 6, 0, 0, 0), (72, .iload 4, 74, 4, 0, 0, 0), (74, .invokestatic 121, 77, 63, 1, 2, 0), (77, .invokevirtual 124, 80, 47, 0, 5, 0), (80, .aload_n 2, 81, 2, 0, 0, 0), (81, .getfield 63, 84, 5, 7, 0, 0), (84, .iload_n 3, 85, 3, 0, 0, 0), (85, .iload 6, 87, 6, 0, 0, 0)]
def tb_45_1 : List (Nat × En) := [(87, .iastore, 88, 0, 0, 0, 0), (88, .aload_n 0, 89, 0, 0, 0, 0), (89, .getfield 15, 92, 3, 1, 0, 0), (92, .iload_n 3, 93, 3, 0, 0, 0), (93, .iload 6, 95, 6, 0, 0, 0), (95, .iastore, 96, 0, 0, 0, 0), (96, .aload_n 0, 97, 0, 0, 0, 0), (97, .getfield 18, 100, 3, 2, 0, 0), (100, .iload_n 3, 101, 3, 0, 0, 0), (101, .iload 6, 103, 6, 0, 0, 0), (103, .iload 4, 105, 4, 0, 0, 0), (105, .invokestatic 121, 108, 63, 1, 2, 0), (108, .iastore, 109, 0, 0, 0, 0), (109, .iconst 0, 110, 0, 0, 0, 0), (110, .istore 7, 112, 7, 0, 0, 0), (112, .iload 7, 114, 7, 0, 0, 0), (114, .aload_n 1, 115, 1, 0, 0, 0), (115, .getfield 37, 118, 1, 0, 0, 0), (118, .if_icmp .ge 69, 121, 187, 0, 0, 0), (121, .aload_n 1, 122, 1, 0, 0, 0), (122, .getfield 127, 125, 1, 8, 0, 0), (125, .iload_n 3, 126, 3, 0, 0, 0), (126, .iload 7, 128, 7, 0, 0, 0), (128, .invokestatic 130, 131, 15, 1, 2, 0), (131, .iaload, 132, 0, 0, 0, 0), (132, .istore 8, 134, 8, 0, 0, 0), (134, .iload 7, 136, 7, 0, 0, 0), (136, .iload_n 3, 137, 3, 0, 0, 0), (137, .if_icmp .eq 44, 140, 181, 0, 0, 0), (140, .iload 8, 142, 8, 0, 0, 0), (142, .ldc 133, 144, 133, 0, 0, (-1000000)), (144, .if_icmp .eq 37, 147, 181, 0, 0, 0), (147, .aload_n 2, 148, 2, 0, 0, 0), (148, .getfield 63, 151, 5, 7, 0, 0), (151, .iload 7, 153, 7, 0, 0, 0), (153, .iaload, 154, 0, 0, 0, 0), (154, .iconst (-1), 155, 0, 0, 0, (-1)), (155, .if_icmp .eq 26, 158, 181, 0, 0, 0), (158, .iload 6, 160, 6, 0, 0, 0), (160, .iload 8, 162, 8, 0, 0, 0), (162, .iadd, 163, 0, 0, 0, 0), (163, .aload_n 2, 164, 2, 0, 0, 0), (164, .getfield 63, 167, 5, 7, 0, 0), (167, .iload 7, 169, 7, 0, 0, 0), (169, .iaload, 170, 0, 0, 0, 0), (170, .if_icmp .le 11, 173, 181, 0, 0, 0), (173, .aload_n 2, 174, 2, 0, 0, 0), (174, .getfield 63, 177, 5, 7, 0, 0), (177, .iload 7, 179, 7, 0, 0, 0), (179, .iconst (-1), 180, 0, 0, 0, (-1))]
def tb_45_2 : List (Nat × En) := [(180, .iastore, 181, 0, 0, 0, 0), (181, .iinc 7 1, 184, 7, 0, 0, 1), (184, .goto (-72), 187, 112, 0, 0, 0), (187, .return_, 188, 0, 0, 0, 0)]
def tb_45 : List (Nat × En) := tb_45_0 ++ (tb_45_1 ++ (tb_45_2))
def tb_46 : List (Nat × En) := [(0, .iload 4, 2, 4, 0, 0, 0), (2, .istore 6, 4, 6, 0, 0, 0), (4, .iload 6, 6, 6, 0, 0, 0), (6, .iload 4, 8, 4, 0, 0, 0), (8, .iload 5, 10, 5, 0, 0, 0), (10, .iadd, 11, 0, 0, 0, 0), (11, .if_icmp .ge 76, 14, 87, 0, 0, 0), (14, .iload 6, 16, 6, 0, 0, 0), (16, .iload 5, 18, 5, 0, 0, 0), (18, .invokestatic 121, 21, 63, 1, 2, 0), (21, .istore 7, 23, 7, 0, 0, 0), (23, .iconst 0, 24, 0, 0, 0, 0), (24, .istore 8, 26, 8, 0, 0, 0), (26, .iconst 0, 27, 0, 0, 0, 0), (27, .istore 9, 29, 9, 0, 0, 0), (29, .iload 9, 31, 9, 0, 0, 0), (31, .aload_n 1, 32, 1, 0, 0, 0), (32, .getfield 37, 35, 1, 0, 0, 0), (35, .if_icmp .ge 33, 38, 68, 0, 0, 0), (38, .iload 8, 40, 8, 0, 0, 0), (40, .aload_n 0, 41, 0, 0, 0, 0), (41, .aload_n 1, 42, 1, 0, 0, 0), (42, .aload_n 2, 43, 2, 0, 0, 0), (43, .iload 9, 45, 9, 0, 0, 0), (45, .iload_n 3, 46, 3, 0, 0, 0), (46, .iload 7, 48, 7, 0, 0, 0), (48, .invokevirtual 134, 51, 48, 0, 6, 0), (51, .ifCond .eq 7, 54, 58, 0, 0, 0), (54, .iconst 1, 55, 0, 0, 0, 1), (55, .goto 4, 58, 59, 0, 0, 0), (58, .iconst 0, 59, 0, 0, 0, 0), (59, .iadd, 60, 0, 0, 0, 0), (60, .istore 8, 62, 8, 0, 0, 0), (62, .iinc 9 1, 65, 9, 0, 0, 1), (65, .goto (-36), 68, 29, 0, 0, 0), (68, .iload 8, 70, 8, 0, 0, 0), (70, .aload_n 1, 71, 1, 0, 0, 0), (71, .iload_n 3, 72, 3, 0, 0, 0), (72, .invokevirtual 138, 75, 16, 0, 2, 0), (75, .if_icmp .ge 6, 78, 81, 0, 0, 0), (78, .iload 6, 80, 6, 0, 0, 0), (80, .ireturn, 81, 0, 0, 0, 0), (81, .iinc 6 1, 84, 6, 0, 0, 1), (84, .goto (-80), 87, 4, 0, 0, 0), (87, .iconst (-1), 88, 0, 0, 0, (-1)), (88, .ireturn, 89, 0, 0, 0, 0)]
def tb_47 : List (Nat × En) := [(0, .iconst (-1), 1, 0, 0, 0, (-1)), (1, .istore 5, 3, 5, 0, 0, 0), (3, .iconst 0, 4, 0, 0, 0, 0), (4, .istore 6, 6, 6, 0, 0, 0), (6, .iload 6, 8, 6, 0, 0, 0), (8, .aload_n 1, 9, 1, 0, 0, 0), (9, .getfield 37, 12, 1, 0, 0, 0), (12, .if_icmp .ge 50, 15, 62, 0, 0, 0), (15, .aload_n 0, 16, 0, 0, 0, 0), (16, .aload_n 1, 17, 1, 0, 0, 0), (17, .aload_n 2, 18, 2, 0, 0, 0), (18, .iload 6, 20, 6, 0, 0, 0), (20, .iload_n 3, 21, 3, 0, 0, 0), (21, .iload 4, 23, 4, 0, 0, 0), (23, .invokevirtual 134, 26, 48, 0, 6, 0), (26, .ifCond .eq 30, 29, 56, 0, 0, 0), (29, .iload 5, 31, 5, 0, 0, 0), (31, .iconst (-1), 32, 0, 0, 0, (-1)), (32, .if_icmp .eq 20, 35, 52, 0, 0, 0), (35, .aload_n 0, 36, 0, 0, 0, 0), (36, .getfield 9, 39, 3, 0, 0, 0), (39, .iload 6, 41, 6, 0, 0, 0), (41, .iaload, 42, 0, 0, 0, 0), (42, .aload_n 0, 43, 0, 0, 0, 0), (43, .getfield 9, 46, 3, 0, 0, 0), (46, .iload 5, 48, 5, 0, 0, 0), (48, .iaload, 49, 0, 0, 0, 0), (49, .if_icmp .gt 7, 52, 56, 0, 0, 0), (52, .iload 6, 54, 6, 0, 0, 0), (54, .istore 5, 56, 5, 0, 0, 0), (56, .iinc 6 1, 59, 6, 0, 0, 1), (59, .goto (-53), 62, 6, 0, 0, 0), (62, .iload 5, 64, 5, 0, 0, 0), (64, .iconst (-1), 65, 0, 0, 0, (-1)), (65, .if_icmp .eq 11, 68, 76, 0, 0, 0), (68, .aload_n 2, 69, 2, 0, 0, 0), (69, .getfield 63, 72, 5, 7, 0, 0), (72, .iload 5, 74, 5, 0, 0, 0), (74, .iconst (-1), 75, 0, 0, 0, (-1)), (75, .iastore, 76, 0, 0, 0, 0), (76, .return_, 77, 0, 0, 0, 0)]
def tb_48 : List (Nat × En) := [(0, .aload_n 2, 1, 2, 0, 0, 0), (1, .getfield 63, 4, 5, 7, 0, 0), (4, .iload_n 3, 5, 3, 0, 0, 0), (5, .iaload, 6, 0, 0, 0, 0), (6, .iconst (-1), 7, 0, 0, 0, (-1)), (7, .if_icmp .eq 34, 10, 41, 0, 0, 0), (10, .aload_n 0, 11, 0, 0, 0, 0), (11, .getfield 18, 14, 3, 2, 0, 0), (14, .iload_n 3, 15, 3, 0, 0, 0), (15, .iaload, 16, 0, 0, 0, 0), (16, .iload 5, 18, 5, 0, 0, 0), (18, .if_icmp .ne 23, 21, 41, 0, 0, 0), (21, .aload_n 1, 22, 1, 0, 0, 0), (22, .getfield 142, 25, 1, 4, 0, 0), (25, .iload_n 3, 26, 3, 0, 0, 0), (26, .baload, 27, 0, 0, 0, 0), (27, .aload_n 1, 28, 1, 0, 0, 0), (28, .getfield 142, 31, 1, 4, 0, 0), (31, .iload 4, 33, 4, 0, 0, 0), (33, .baload, 34, 0, 0, 0, 0), (34, .if_icmp .ne 7, 37, 41, 0, 0, 0), (37, .iconst 1, 38, 0, 0, 0, 1), (38, .goto 4, 41, 42, 0, 0, 0), (41, .iconst 0, 42, 0, 0, 0, 0), (42, .ireturn, 43, 0, 0, 0, 0)]
def tb_49 : List (Nat × En) := [(0, .aload_n 0, 1, 0, 0, 0, 0), (1, .invokespecial 3, 4, 0, 9, 0, 0), (4, .aload_n 0, 5, 0, 0, 0, 0), (5, .iconst 0, 6, 0, 0, 0, 0), (6, .putfield 9, 9, 4, 0, 0, 0), (9, .aload_n 0, 10, 0, 0, 0, 0), (10, .iconst 0, 11, 0, 0, 0, 0), (11, .putfield 15, 14, 4, 1, 0, 0), (14, .aload_n 0, 15, 0, 0, 0, 0), (15, .iconst 0, 16, 0, 0, 0, 0), (16, .putfield 18, 19, 4, 2, 0, 0), (19, .aload_n 0, 20, 0, 0, 0, 0), (20, .bipush 64, 22, 0, 0, 0, 64), (22, .newarray .int, 24, 20, 0, 0, 0), (24, .putfield 22, 27, 4, 3, 0, 0), (27, .aload_n 0, 28, 0, 0, 0, 0), (28, .bipush 12, 30, 0, 0, 0, 12), (30, .newarray .int, 32, 20, 0, 0, 0), (32, .putfield 26, 35, 4, 4, 0, 0), (35, .aload_n 0, 36, 0, 0, 0, 0), (36, .bipush 64, 38, 0, 0, 0, 64), (38, .newarray .int, 40, 20, 0, 0, 0), (40, .putfield 29, 43, 4, 5, 0, 0), (43, .return_, 44, 0, 0, 0, 0)]
def tb_50 : List (Nat × En) := [(0, .aload_n 0, 1, 0, 0, 0, 0), (1, .iconst 0, 2, 0, 0, 0, 0), (2, .putfield 9, 5, 4, 0, 0, 0), (5, .aload_n 0, 6, 0, 0, 0, 0), (6, .iconst 0, 7, 0, 0, 0, 0), (7, .putfield 15, 10, 4, 1, 0, 0), (10, .aload_n 0, 11, 0, 0, 0, 0), (11, .iconst 0, 12, 0, 0, 0, 0), (12, .putfield 18, 15, 4, 2, 0, 0), (15, .iconst 0, 16, 0, 0, 0, 0), (16, .istore_n 2, 17, 2, 0, 0, 0), (17, .iload_n 2, 18, 2, 0, 0, 0), (18, .bipush 12, 20, 0, 0, 0, 12), (20, .if_icmp .ge 16, 23, 36, 0, 0, 0), (23, .aload_n 0, 24, 0, 0, 0, 0), (24, .getfield 26, 27, 4, 4, 0, 0), (27, .iload_n 2, 28, 2, 0, 0, 0), (28, .iconst 0, 29, 0, 0, 0, 0), (29, .iastore, 30, 0, 0, 0, 0), (30, .iinc 2 1, 33, 2, 0, 0, 1), (33, .goto (-16), 36, 17, 0, 0, 0), (36, .iconst 0, 37, 0, 0, 0, 0), (37, .istore_n 2, 38, 2, 0, 0, 0), (38, .iload_n 2, 39, 2, 0, 0, 0), (39, .bipush 64, 41, 0, 0, 0, 64), (41, .if_icmp .ge 24, 44, 65, 0, 0, 0), (44, .iload_n 2, 45, 2, 0, 0, 0), (45, .aload_n 1, 46, 1, 0, 0, 0), (46, .arraylength, 47, 0, 0, 0, 0), (47, .if_icmp .ge 18, 50, 65, 0, 0, 0), (50, .aload_n 0, 51, 0, 0, 0, 0), (51, .getfield 29, 54, 4, 5, 0, 0), (54, .iload_n 2, 55, 2, 0, 0, 0), (55, .aload_n 1, 56, 1, 0, 0, 0), (56, .iload_n 2, 57, 2, 0, 0, 0), (57, .iaload, 58, 0, 0, 0, 0), (58, .iastore, 59, 0, 0, 0, 0), (59, .iinc 2 1, 62, 2, 0, 0, 1), (62, .goto (-24), 65, 38, 0, 0, 0), (65, .return_, 66, 0, 0, 0, 0)]
def tb_51 : List (Nat × En) := [(0, .iload_n 1, 1, 1, 0, 0, 0), (1, .iconst 1, 2, 0, 0, 0, 1), (2, .invokestatic 32, 5, 164, 1, 2, 0), (5, .istore_n 2, 6, 2, 0, 0, 0), (6, .iload_n 2, 7, 2, 0, 0, 0), (7, .bipush 100, 9, 0, 0, 0, 100), (9, .aload_n 0, 10, 0, 0, 0, 0), (10, .getfield 15, 13, 4, 1, 0, 0), (13, .isub, 14, 0, 0, 0, 0), (14, .if_icmp .le 5, 17, 19, 0, 0, 0), (17, .iconst 0, 18, 0, 0, 0, 0), (18, .ireturn, 19, 0, 0, 0, 0), (19, .aload_n 0, 20, 0, 0, 0, 0), (20, .dup, 21, 0, 0, 0, 0), (21, .getfield 15, 24, 4, 1, 0, 0), (24, .iload_n 2, 25, 2, 0, 0, 0), (25, .iadd, 26, 0, 0, 0, 0), (26, .putfield 15, 29, 4, 1, 0, 0), (29, .iconst 1, 30, 0, 0, 0, 1), (30, .ireturn, 31, 0, 0, 0, 0)]
def tb_52_0 : List (Nat × En) := [(0, .aload_n 0, 1, 0, 0, 0, 0), (1, .aload_n 1, 2, 1, 0, 0, 0), (2, .getfield 38, 5, 0, 11, 0, 0), (5, .iload_n 2, 6, 2, 0, 0, 0), (6, .iaload, 7, 0, 0, 0, 0), (7, .invokevirtual 43, 10, 53, 0, 2, 0), (10, .ifCond .ne 4, 13, 14, 0, 0, 0), (13, .return_, 14, 0, 0, 0, 0), (14, .aload_n 0, 15, 0, 0, 0, 0), (15, .getfield 26, 18, 4, 4, 0, 0), (18, .aload_n 1, 19, 1, 0, 0, 0), (19, .getfield 47, 22, 0, 8, 0, 0), (22, .iload_n 2, 23, 2, 0, 0, 0), (23, .iaload, 24, 0, 0, 0, 0), (24, .iaload, 25, 0, 0, 0, 0), (25, .istore_n 3, 26, 3, 0, 0, 0), (26, .aload_n 0, 27, 0, 0, 0, 0), (27, .getfield 26, 30, 4, 4, 0, 0), (30, .aload_n 1, 31, 1, 0, 0, 0), (31, .getfield 50, 34, 0, 9, 0, 0), (34, .iload_n 2, 35, 2, 0, 0, 0), (35, .iaload, 36, 0, 0, 0, 0), (36, .iaload, 37, 0, 0, 0, 0), (37, .istore 4, 39, 4, 0, 0, 0), (39, .aload_n 1, 40, 1, 0, 0, 0), (40, .getfield 53, 43, 0, 10, 0, 0), (43, .iload_n 2, 44, 2, 0, 0, 0), (44, .iaload, 45, 0, 0, 0, 0), (45, .istore 5, 47, 5, 0, 0, 0), (47, .aload_n 1, 48, 1, 0, 0, 0), (48, .getfield 56, 51, 0, 6, 0, 0), (51, .iload_n 2, 52, 2, 0, 0, 0), (52, .iaload, 53, 0, 0, 0, 0), (53, .tableswitch 72 6 9 #[56, 72, 31, 48], 84, 0, 0, 0, 0), (84, .aload_n 0, 85, 0, 0, 0, 0), (85, .getfield 29, 88, 4, 5, 0, 0), (88, .iload_n 3, 89, 3, 0, 0, 0), (89, .iload 5, 91, 5, 0, 0, 0), (91, .iadd, 92, 0, 0, 0, 0), (92, .invokestatic 59, 95, 84, 5, 1, 0), (95, .iload 4, 97, 4, 0, 0, 0), (97, .iastore, 98, 0, 0, 0, 0), (98, .goto 53, 101, 151, 0, 0, 0), (101, .aload_n 0, 102, 0, 0, 0, 0), (102, .iload_n 3, 103, 3, 0, 0, 0), (103, .invokevirtual 63, 106, 54, 0, 2, 0), (106, .goto 45, 109, 151, 0, 0, 0), (109, .aload_n 0, 110, 0, 0, 0, 0), (110, .aload_n 1, 111, 1, 0, 0, 0), (111, .getfield 67, 114, 0, 7, 0, 0)]
def tb_52_1 : List (Nat × En) := [(114, .iload_n 2, 115, 2, 0, 0, 0), (115, .iaload, 116, 0, 0, 0, 0), (116, .iload_n 3, 117, 3, 0, 0, 0), (117, .iload 4, 119, 4, 0, 0, 0), (119, .invokevirtual 70, 122, 55, 0, 4, 0), (122, .goto 29, 125, 151, 0, 0, 0), (125, .aload_n 0, 126, 0, 0, 0, 0), (126, .getfield 26, 129, 4, 4, 0, 0), (129, .aload_n 1, 130, 1, 0, 0, 0), (130, .getfield 67, 133, 0, 7, 0, 0), (133, .iload_n 2, 134, 2, 0, 0, 0), (134, .iaload, 135, 0, 0, 0, 0), (135, .aload_n 0, 136, 0, 0, 0, 0), (136, .aload_n 1, 137, 1, 0, 0, 0), (137, .getfield 56, 140, 0, 6, 0, 0), (140, .iload_n 2, 141, 2, 0, 0, 0), (141, .iaload, 142, 0, 0, 0, 0), (142, .iload_n 3, 143, 3, 0, 0, 0), (143, .iload 4, 145, 4, 0, 0, 0), (145, .iload 5, 147, 5, 0, 0, 0), (147, .invokevirtual 74, 150, 56, 0, 5, 0), (150, .iastore, 151, 0, 0, 0, 0), (151, .return_, 152, 0, 0, 0, 0)]
def tb_52 : List (Nat × En) := tb_52_0 ++ (tb_52_1)
def tb_53 : List (Nat × En) := [(0, .iload_n 1, 1, 1, 0, 0, 0), (1, .ifCond .ne 5, 4, 6, 0, 0, 0), (4, .iconst 1, 5, 0, 0, 0, 1), (5, .ireturn, 6, 0, 0, 0, 0), (6, .iload_n 1, 7, 1, 0, 0, 0), (7, .ifCond .le 22, 10, 29, 0, 0, 0), (10, .aload_n 0, 11, 0, 0, 0, 0), (11, .getfield 26, 14, 4, 4, 0, 0), (14, .iload_n 1, 15, 1, 0, 0, 0), (15, .iconst 1, 16, 0, 0, 0, 1), (16, .isub, 17, 0, 0, 0, 0), (17, .iaload, 18, 0, 0, 0, 0), (18, .ifCond .eq 7, 21, 25, 0, 0, 0), (21, .iconst 1, 22, 0, 0, 0, 1), (22, .goto 23, 25, 45, 0, 0, 0), (25, .iconst 0, 26, 0, 0, 0, 0), (26, .goto 19, 29, 45, 0, 0, 0), (29, .aload_n 0, 30, 0, 0, 0, 0), (30, .getfield 26, 33, 4, 4, 0, 0), (33, .iconst (-1), 34, 0, 0, 0, (-1)), (34, .iload_n 1, 35, 1, 0, 0, 0), (35, .isub, 36, 0, 0, 0, 0), (36, .iaload, 37, 0, 0, 0, 0), (37, .ifCond .ne 7, 40, 44, 0, 0, 0), (40, .iconst 1, 41, 0, 0, 0, 1), (41, .goto 4, 44, 45, 0, 0, 0), (44, .iconst 0, 45, 0, 0, 0, 0), (45, .ireturn, 46, 0, 0, 0, 0)]
def tb_54 : List (Nat × En) := [(0, .aload_n 0, 1, 0, 0, 0, 0), (1, .getfield 9, 4, 4, 0, 0, 0), (4, .bipush 64, 6, 0, 0, 0, 64), (6, .if_icmp .ge 13, 9, 19, 0, 0, 0), (9, .aload_n 0, 10, 0, 0, 0, 0), (10, .getfield 22, 13, 4, 3, 0, 0), (13, .aload_n 0, 14, 0, 0, 0, 0), (14, .getfield 9, 17, 4, 0, 0, 0), (17, .iload_n 1, 18, 1, 0, 0, 0), (18, .iastore, 19, 0, 0, 0, 0), (19, .aload_n 0, 20, 0, 0, 0, 0), (20, .dup, 21, 0, 0, 0, 0), (21, .getfield 9, 24, 4, 0, 0, 0), (24, .iconst 1, 25, 0, 0, 0, 1), (25, .iadd, 26, 0, 0, 0, 0), (26, .putfield 9, 29, 4, 0, 0, 0), (29, .return_, 30, 0, 0, 0, 0)]
def tb_55 : List (Nat × En) := [(0, .iload_n 3, 1, 3, 0, 0, 0), (1, .ifCond .ne 11, 4, 12, 0, 0, 0), (4, .aload_n 0, 5, 0, 0, 0, 0), (5, .iconst 1, 6, 0, 0, 0, 1), (6, .putfield 18, 9, 4, 2, 0, 0), (9, .goto 12, 12, 21, 0, 0, 0), (12, .aload_n 0, 13, 0, 0, 0, 0), (13, .getfield 26, 16, 4, 4, 0, 0), (16, .iload_n 1, 17, 1, 0, 0, 0), (17, .iload_n 2, 18, 2, 0, 0, 0), (18, .iload_n 3, 19, 3, 0, 0, 0), (19, .idiv, 20, 0, 0, 0, 0), (20, .iastore, 21, 0, 0, 0, 0), (21, .return_, 22, 0, 0, 0, 0)]
def tb_56 : List (Nat × En) := [(0, .iload_n 1, 1, 1, 0, 0, 0), (1, .tableswitch 70 0 5 #[39, 42, 47, 51, 55, 59], 40, 0, 0, 0, 0), (40, .iload 4, 42, 4, 0, 0, 0), (42, .ireturn, 43, 0, 0, 0, 0), (43, .iload_n 2, 44, 2, 0, 0, 0), (44, .iload 4, 46, 4, 0, 0, 0), (46, .iadd, 47, 0, 0, 0, 0), (47, .ireturn, 48, 0, 0, 0, 0), (48, .iload_n 2, 49, 2, 0, 0, 0), (49, .iload_n 3, 50, 3, 0, 0, 0), (50, .iadd, 51, 0, 0, 0, 0), (51, .ireturn, 52, 0, 0, 0, 0), (52, .iload_n 2, 53, 2, 0, 0, 0), (53, .iload_n 3, 54, 3, 0, 0, 0), (54, .isub, 55, 0, 0, 0, 0), (55, .ireturn, 56, 0, 0, 0, 0), (56, .iload_n 2, 57, 2, 0, 0, 0), (57, .iload_n 3, 58, 3, 0, 0, 0), (58, .imul, 59, 0, 0, 0, 0), (59, .ireturn, 60, 0, 0, 0, 0), (60, .iload_n 2, 61, 2, 0, 0, 0), (61, .iload_n 3, 62, 3, 0, 0, 0), (62, .if_icmp .ge 7, 65, 69, 0, 0, 0), (65, .iconst 1, 66, 0, 0, 0, 1), (66, .goto 4, 69, 70, 0, 0, 0), (69, .iconst 0, 70, 0, 0, 0, 0), (70, .ireturn, 71, 0, 0, 0, 0), (71, .aload_n 0, 72, 0, 0, 0, 0), (72, .getfield 29, 75, 4, 5, 0, 0), (75, .iload_n 2, 76, 2, 0, 0, 0), (76, .iload 4, 78, 4, 0, 0, 0), (78, .iadd, 79, 0, 0, 0, 0), (79, .invokestatic 59, 82, 84, 5, 1, 0), (82, .iaload, 83, 0, 0, 0, 0), (83, .ireturn, 84, 0, 0, 0, 0)]
def tb_57 : List (Nat × En) := [(0, .aload_n 0, 1, 0, 0, 0, 0), (1, .invokespecial 3, 4, 0, 9, 0, 0), (4, .aload_n 0, 5, 0, 0, 0, 0), (5, .iconst 0, 6, 0, 0, 0, 0), (6, .putfield 9, 9, 5, 0, 0, 0), (9, .aload_n 0, 10, 0, 0, 0, 0), (10, .iconst 0, 11, 0, 0, 0, 0), (11, .putfield 15, 14, 5, 1, 0, 0), (14, .aload_n 0, 15, 0, 0, 0, 0), (15, .iconst 0, 16, 0, 0, 0, 0), (16, .putfield 18, 19, 5, 2, 0, 0), (19, .aload_n 0, 20, 0, 0, 0, 0), (20, .iconst 0, 21, 0, 0, 0, 0), (21, .putfield 21, 24, 5, 3, 0, 0), (24, .aload_n 0, 25, 0, 0, 0, 0), (25, .iconst 0, 26, 0, 0, 0, 0), (26, .putfield 24, 29, 5, 4, 0, 0), (29, .aload_n 0, 30, 0, 0, 0, 0), (30, .bipush 10, 32, 0, 0, 0, 10), (32, .newarray .int, 34, 20, 0, 0, 0), (34, .putfield 27, 37, 5, 5, 0, 0), (37, .aload_n 0, 38, 0, 0, 0, 0), (38, .bipush 10, 40, 0, 0, 0, 10), (40, .newarray .int, 42, 20, 0, 0, 0), (42, .putfield 31, 45, 5, 6, 0, 0), (45, .aload_n 0, 46, 0, 0, 0, 0), (46, .bipush 10, 48, 0, 0, 0, 10), (48, .newarray .int, 50, 20, 0, 0, 0), (50, .putfield 34, 53, 5, 7, 0, 0), (53, .return_, 54, 0, 0, 0, 0)]
def tb_58 : List (Nat × En) := [(0, .aload_n 0, 1, 0, 0, 0, 0), (1, .getfield 18, 4, 5, 2, 0, 0), (4, .ifCond .le 10, 7, 14, 0, 0, 0), (7, .aload_n 0, 8, 0, 0, 0, 0), (8, .getfield 18, 11, 5, 2, 0, 0), (11, .goto 7, 14, 18, 0, 0, 0), (14, .aload_n 0, 15, 0, 0, 0, 0), (15, .getfield 9, 18, 5, 0, 0, 0), (18, .ireturn, 19, 0, 0, 0, 0)]
def tb_59 : List (Nat × En) := [(0, .iload_n 1, 1, 1, 0, 0, 0), (1, .iconst 1, 2, 0, 0, 0, 1), (2, .if_icmp .ge 5, 5, 7, 0, 0, 0), (5, .iconst 1, 6, 0, 0, 0, 1), (6, .ireturn, 7, 0, 0, 0, 0), (7, .aload_n 0, 8, 0, 0, 0, 0), (8, .getfield 18, 11, 5, 2, 0, 0), (11, .iconst 1, 12, 0, 0, 0, 1), (12, .if_icmp .ge 12, 15, 24, 0, 0, 0), (15, .iload_n 1, 16, 1, 0, 0, 0), (16, .aload_n 0, 17, 0, 0, 0, 0), (17, .getfield 9, 20, 5, 0, 0, 0), (20, .imul, 21, 0, 0, 0, 0), (21, .iconst 1, 22, 0, 0, 0, 1), (22, .iadd, 23, 0, 0, 0, 0), (23, .ireturn, 24, 0, 0, 0, 0), (24, .iload_n 1, 25, 1, 0, 0, 0), (25, .aload_n 0, 26, 0, 0, 0, 0), (26, .getfield 21, 29, 5, 3, 0, 0), (29, .iadd, 30, 0, 0, 0, 0), (30, .iconst 1, 31, 0, 0, 0, 1), (31, .isub, 32, 0, 0, 0, 0), (32, .aload_n 0, 33, 0, 0, 0, 0), (33, .getfield 18, 36, 5, 2, 0, 0), (36, .imul, 37, 0, 0, 0, 0), (37, .iload_n 1, 38, 1, 0, 0, 0), (38, .iconst 1, 39, 0, 0, 0, 1), (39, .isub, 40, 0, 0, 0, 0), (40, .aload_n 0, 41, 0, 0, 0, 0), (41, .getfield 18, 44, 5, 2, 0, 0), (44, .imul, 45, 0, 0, 0, 0), (45, .aload_n 0, 46, 0, 0, 0, 0), (46, .getfield 24, 49, 5, 4, 0, 0), (49, .iadd, 50, 0, 0, 0, 0), (50, .invokestatic 37, 53, 164, 1, 2, 0), (53, .iconst 1, 54, 0, 0, 0, 1), (54, .iadd, 55, 0, 0, 0, 0), (55, .ireturn, 56, 0, 0, 0, 0)]
def tb_60 : List (Nat × En) := [(0, .iload_n 1, 1, 1, 0, 0, 0), (1, .aload_n 0, 2, 0, 0, 0, 0), (2, .invokevirtual 43, 5, 58, 0, 1, 0), (5, .imul, 6, 0, 0, 0, 0), (6, .aload_n 0, 7, 0, 0, 0, 0), (7, .getfield 18, 10, 5, 2, 0, 0), (10, .ifCond .le 12, 13, 22, 0, 0, 0), (13, .aload_n 0, 14, 0, 0, 0, 0), (14, .getfield 34, 17, 5, 7, 0, 0), (17, .iload_n 2, 18, 2, 0, 0, 0), (18, .iaload, 19, 0, 0, 0, 0), (19, .goto 9, 22, 28, 0, 0, 0), (22, .aload_n 0, 23, 0, 0, 0, 0), (23, .getfield 31, 26, 5, 6, 0, 0), (26, .iload_n 2, 27, 2, 0, 0, 0), (27, .iaload, 28, 0, 0, 0, 0), (28, .iadd, 29, 0, 0, 0, 0), (29, .iconst 1, 30, 0, 0, 0, 1), (30, .iadd, 31, 0, 0, 0, 0), (31, .ireturn, 32, 0, 0, 0, 0)]
def tb_61_0 : List (Nat × En) := [(0, .lconst 0, 1, 0, 0, 0, 0), (1, .lstore 5, 3, 5, 0, 0, 0), (3, .iconst 0, 4, 0, 0, 0, 0), (4, .istore 7, 6, 7, 0, 0, 0), (6, .iconst 4, 7, 0, 0, 0, 4), (7, .istore 8, 9, 8, 0, 0, 0), (9, .iconst 0, 10, 0, 0, 0, 0), (10, .istore 9, 12, 9, 0, 0, 0), (12, .iload 9, 14, 9, 0, 0, 0), (14, .aload_n 1, 15, 1, 0, 0, 0), (15, .getfield 47, 18, 0, 4, 0, 0), (18, .if_icmp .ge 82, 21, 100, 0, 0, 0), (21, .aload_n 2, 22, 2, 0, 0, 0), (22, .iload 9, 24, 9, 0, 0, 0), (24, .iaload, 25, 0, 0, 0, 0), (25, .iload_n 3, 26, 3, 0, 0, 0), (26, .invokestatic 52, 29, 63, 1, 2, 0), (29, .iload 4, 31, 4, 0, 0, 0), (31, .if_icmp .ne 63, 34, 94, 0, 0, 0), (34, .aload_n 2, 35, 2, 0, 0, 0), (35, .iload 9, 37, 9, 0, 0, 0), (37, .iaload, 38, 0, 0, 0, 0), (38, .iload_n 3, 39, 3, 0, 0, 0), (39, .invokestatic 55, 42, 62, 1, 2, 0), (42, .istore 10, 44, 10, 0, 0, 0), (44, .aload_n 1, 45, 1, 0, 0, 0), (45, .getfield 58, 48, 0, 6, 0, 0), (48, .iload 9, 50, 9, 0, 0, 0), (50, .iaload, 51, 0, 0, 0, 0), (51, .invokestatic 61, 54, 83, 5, 1, 0), (54, .ifCond .eq 11, 57, 65, 0, 0, 0), (57, .iload 8, 59, 8, 0, 0, 0), (59, .iinc 8 1, 62, 8, 0, 0, 1), (62, .goto 8, 65, 70, 0, 0, 0), (65, .iload 7, 67, 7, 0, 0, 0), (67, .iinc 7 1, 70, 7, 0, 0, 1), (70, .istore 11, 72, 11, 0, 0, 0), (72, .lload 5, 74, 5, 0, 0, 0), (74, .iload 9, 76, 9, 0, 0, 0), (76, .iconst 1, 77, 0, 0, 0, 1), (77, .iadd, 78, 0, 0, 0, 0), (78, .bipush 16, 80, 0, 0, 0, 16), (80, .iload 10, 82, 10, 0, 0, 0), (82, .imul, 83, 0, 0, 0, 0), (83, .iadd, 84, 0, 0, 0, 0), (84, .i2l, 85, 0, 0, 0, 0), (85, .bipush 8, 87, 0, 0, 0, 8), (87, .iload 11, 89, 11, 0, 0, 0), (89, .imul, 90, 0, 0, 0, 0), (90, .lshl, 91, 0, 0, 0, 0)]
def tb_61_1 : List (Nat × En) := [(91, .lor, 92, 0, 0, 0, 0), (92, .lstore 5, 94, 5, 0, 0, 0), (94, .iinc 9 1, 97, 9, 0, 0, 1), (97, .goto (-85), 100, 12, 0, 0, 0), (100, .lload 5, 102, 5, 0, 0, 0), (102, .lreturn, 103, 0, 0, 0, 0)]
def tb_61 : List (Nat × En) := tb_61_0 ++ (tb_61_1)
def tb_62 : List (Nat × En) := [(0, .iload_n 1, 1, 1, 0, 0, 0), (1, .ifCond .le 9, 4, 10, 0, 0, 0), (4, .iload_n 0, 5, 0, 0, 0, 0), (5, .iload_n 1, 6, 1, 0, 0, 0), (6, .idiv, 7, 0, 0, 0, 0), (7, .goto 4, 10, 11, 0, 0, 0), (10, .iconst 0, 11, 0, 0, 0, 0), (11, .ireturn, 12, 0, 0, 0, 0)]
def tb_63 : List (Nat × En) := [(0, .iload_n 1, 1, 1, 0, 0, 0), (1, .ifCond .le 9, 4, 10, 0, 0, 0), (4, .iload_n 0, 5, 0, 0, 0, 0), (5, .iload_n 1, 6, 1, 0, 0, 0), (6, .irem, 7, 0, 0, 0, 0), (7, .goto 4, 10, 11, 0, 0, 0), (10, .iconst 0, 11, 0, 0, 0, 0), (11, .ireturn, 12, 0, 0, 0, 0)]
def tb_64_0 : List (Nat × En) := [(0, .aload_n 0, 1, 0, 0, 0, 0), (1, .invokespecial 1, 4, 0, 9, 0, 0), (4, .aload_n 0, 5, 0, 0, 0, 0), (5, .new 7, 8, 2, 0, 0, 0), (8, .dup, 9, 0, 0, 0, 0), (9, .invokespecial 9, 12, 34, 4, 1, 0), (12, .putfield 10, 15, 6, 0, 0, 0), (15, .aload_n 0, 16, 0, 0, 0, 0), (16, .bipush 6, 18, 0, 0, 0, 6), (18, .anewarray 16, 21, 22, 0, 0, 0), (21, .putfield 18, 24, 6, 1, 0, 0), (24, .aload_n 0, 25, 0, 0, 0, 0), (25, .bipush 6, 27, 0, 0, 0, 6), (27, .anewarray 16, 30, 22, 0, 0, 0), (30, .putfield 22, 33, 6, 2, 0, 0), (33, .aload_n 0, 34, 0, 0, 0, 0), (34, .bipush 6, 36, 0, 0, 0, 6), (36, .anewarray 25, 39, 23, 0, 0, 0), (39, .putfield 27, 42, 6, 3, 0, 0), (42, .iconst 0, 43, 0, 0, 0, 0), (43, .istore_n 1, 44, 1, 0, 0, 0), (44, .iload_n 1, 45, 1, 0, 0, 0), (45, .bipush 6, 47, 0, 0, 0, 6), (47, .if_icmp .ge 48, 50, 95, 0, 0, 0), (50, .aload_n 0, 51, 0, 0, 0, 0), (51, .getfield 18, 54, 6, 1, 0, 0), (54, .iload_n 1, 55, 1, 0, 0, 0), (55, .new 16, 58, 0, 0, 0, 0), (58, .dup, 59, 0, 0, 0, 0), (59, .invokespecial 31, 62, 0, 4, 1, 0), (62, .aastore, 63, 0, 0, 0, 0), (63, .aload_n 0, 64, 0, 0, 0, 0), (64, .getfield 22, 67, 6, 2, 0, 0), (67, .iload_n 1, 68, 1, 0, 0, 0), (68, .new 16, 71, 0, 0, 0, 0), (71, .dup, 72, 0, 0, 0, 0), (72, .invokespecial 31, 75, 0, 4, 1, 0), (75, .aastore, 76, 0, 0, 0, 0), (76, .aload_n 0, 77, 0, 0, 0, 0), (77, .getfield 27, 80, 6, 3, 0, 0), (80, .iload_n 1, 81, 1, 0, 0, 0), (81, .new 25, 84, 5, 0, 0, 0), (84, .dup, 85, 0, 0, 0, 0), (85, .invokespecial 32, 88, 57, 4, 1, 0), (88, .aastore, 89, 0, 0, 0, 0), (89, .iinc 1 1, 92, 1, 0, 0, 1), (92, .goto (-48), 95, 44, 0, 0, 0), (95, .aload_n 0, 96, 0, 0, 0, 0), (96, .new 33, 99, 1, 0, 0, 0), (99, .dup, 100, 0, 0, 0, 0)]
def tb_64_1 : List (Nat × En) := [(100, .invokespecial 35, 103, 14, 4, 1, 0), (103, .putfield 36, 106, 6, 4, 0, 0), (106, .aload_n 0, 107, 0, 0, 0, 0), (107, .new 40, 110, 3, 0, 0, 0), (110, .dup, 111, 0, 0, 0, 0), (111, .invokespecial 42, 114, 36, 4, 1, 0), (114, .putfield 43, 117, 6, 5, 0, 0), (117, .aload_n 0, 118, 0, 0, 0, 0), (118, .iconst 0, 119, 0, 0, 0, 0), (119, .putfield 47, 122, 6, 6, 0, 0), (122, .aload_n 0, 123, 0, 0, 0, 0), (123, .iconst 0, 124, 0, 0, 0, 0), (124, .putfield 51, 127, 6, 7, 0, 0), (127, .aload_n 0, 128, 0, 0, 0, 0), (128, .new 55, 131, 4, 0, 0, 0), (131, .dup, 132, 0, 0, 0, 0), (132, .invokespecial 57, 135, 49, 4, 1, 0), (135, .putfield 58, 138, 6, 8, 0, 0), (138, .aload_n 0, 139, 0, 0, 0, 0), (139, .new 55, 142, 4, 0, 0, 0), (142, .dup, 143, 0, 0, 0, 0), (143, .invokespecial 57, 146, 49, 4, 1, 0), (146, .putfield 62, 149, 6, 9, 0, 0), (149, .return_, 150, 0, 0, 0, 0)]
def tb_64 : List (Nat × En) := tb_64_0 ++ (tb_64_1)
def tb_65_0 : List (Nat × En) := [(0, .iconst 1, 1, 0, 0, 0, 1), (1, .iload_n 1, 2, 1, 0, 0, 0), (2, .iconst 4, 3, 0, 0, 0, 4), (3, .invokestatic 65, 6, 81, 1, 3, 0), (6, .ifCond .eq 16, 9, 22, 0, 0, 0), (9, .iconst 1, 10, 0, 0, 0, 1), (10, .iload_n 2, 11, 2, 0, 0, 0), (11, .iconst 2, 12, 0, 0, 0, 2), (12, .invokestatic 65, 15, 81, 1, 3, 0), (15, .ifCond .eq 7, 18, 22, 0, 0, 0), (18, .iconst 1, 19, 0, 0, 0, 1), (19, .goto 4, 22, 23, 0, 0, 0), (22, .iconst 0, 23, 0, 0, 0, 0), (23, .istore 7, 25, 7, 0, 0, 0), (25, .iconst 1, 26, 0, 0, 0, 1), (26, .iload_n 3, 27, 3, 0, 0, 0), (27, .bipush 8, 29, 0, 0, 0, 8), (29, .invokestatic 65, 32, 81, 1, 3, 0), (32, .ifCond .eq 40, 35, 72, 0, 0, 0), (35, .iconst 1, 36, 0, 0, 0, 1), (36, .iload 4, 38, 4, 0, 0, 0), (38, .bipush 8, 40, 0, 0, 0, 8), (40, .invokestatic 65, 43, 81, 1, 3, 0), (43, .ifCond .eq 29, 46, 72, 0, 0, 0), (46, .iconst 1, 47, 0, 0, 0, 1), (47, .iload 5, 49, 5, 0, 0, 0), (49, .bipush 8, 51, 0, 0, 0, 8), (51, .invokestatic 65, 54, 81, 1, 3, 0), (54, .ifCond .eq 18, 57, 72, 0, 0, 0), (57, .iconst 1, 58, 0, 0, 0, 1), (58, .iload 6, 60, 6, 0, 0, 0), (60, .bipush 8, 62, 0, 0, 0, 8), (62, .invokestatic 65, 65, 81, 1, 3, 0), (65, .ifCond .eq 7, 68, 72, 0, 0, 0), (68, .iconst 1, 69, 0, 0, 0, 1), (69, .goto 4, 72, 73, 0, 0, 0), (72, .iconst 0, 73, 0, 0, 0, 0), (73, .istore 8, 75, 8, 0, 0, 0), (75, .iload 7, 77, 7, 0, 0, 0), (77, .ifCond .eq 8, 80, 85, 0, 0, 0), (80, .iload 8, 82, 8, 0, 0, 0), (82, .ifCond .ne 11, 85, 93, 0, 0, 0), (85, .new 69, 88, 0, 1, 0, 0), (88, .dup, 89, 0, 0, 0, 0), (89, .invokespecial 71, 92, 0, 8, 0, 0), (92, .athrow, 93, 0, 0, 0, 0), (93, .aload_n 0, 94, 0, 0, 0, 0), (94, .getfield 10, 97, 6, 0, 0, 0), (97, .iload_n 1, 98, 1, 0, 0, 0), (98, .putfield 72, 101, 2, 0, 0, 0)]
def tb_65_1 : List (Nat × En) := [(101, .aload_n 0, 102, 0, 0, 0, 0), (102, .getfield 10, 105, 6, 0, 0, 0), (105, .iload_n 2, 106, 2, 0, 0, 0), (106, .putfield 75, 109, 2, 1, 0, 0), (109, .aload_n 0, 110, 0, 0, 0, 0), (110, .getfield 10, 113, 6, 0, 0, 0), (113, .iload_n 3, 114, 3, 0, 0, 0), (114, .putfield 78, 117, 2, 2, 0, 0), (117, .aload_n 0, 118, 0, 0, 0, 0), (118, .getfield 10, 121, 6, 0, 0, 0), (121, .iload 4, 123, 4, 0, 0, 0), (123, .putfield 81, 126, 2, 3, 0, 0), (126, .aload_n 0, 127, 0, 0, 0, 0), (127, .getfield 10, 130, 6, 0, 0, 0), (130, .iload 5, 132, 5, 0, 0, 0), (132, .putfield 84, 135, 2, 4, 0, 0), (135, .aload_n 0, 136, 0, 0, 0, 0), (136, .getfield 10, 139, 6, 0, 0, 0), (139, .iload 6, 141, 6, 0, 0, 0), (141, .putfield 87, 144, 2, 5, 0, 0), (144, .aload_n 0, 145, 0, 0, 0, 0), (145, .iconst 0, 146, 0, 0, 0, 0), (146, .putfield 51, 149, 6, 7, 0, 0), (149, .return_, 150, 0, 0, 0, 0)]
def tb_65 : List (Nat × En) := tb_65_0 ++ (tb_65_1)
def tb_66_0 : List (Nat × En) := [(0, .iconst 0, 1, 0, 0, 0, 0), (1, .iload_n 1, 2, 1, 0, 0, 0), (2, .iconst 3, 3, 0, 0, 0, 3), (3, .invokestatic 65, 6, 81, 1, 3, 0), (6, .ifCond .eq 29, 9, 35, 0, 0, 0), (9, .iload_n 2, 10, 2, 0, 0, 0), (10, .invokestatic 90, 13, 82, 1, 1, 0), (13, .ifCond .eq 22, 16, 35, 0, 0, 0), (16, .iconst 0, 17, 0, 0, 0, 0), (17, .iload_n 3, 18, 3, 0, 0, 0), (18, .iconst 5, 19, 0, 0, 0, 5), (19, .invokestatic 65, 22, 81, 1, 3, 0), (22, .ifCond .eq 13, 25, 35, 0, 0, 0), (25, .iconst 0, 26, 0, 0, 0, 0), (26, .iload 4, 28, 4, 0, 0, 0), (28, .iconst 5, 29, 0, 0, 0, 5), (29, .invokestatic 65, 32, 81, 1, 3, 0), (32, .ifCond .ne 11, 35, 43, 0, 0, 0), (35, .new 69, 38, 0, 1, 0, 0), (38, .dup, 39, 0, 0, 0, 0), (39, .invokespecial 71, 42, 0, 8, 0, 0), (42, .athrow, 43, 0, 0, 0, 0), (43, .aload_n 0, 44, 0, 0, 0, 0), (44, .getfield 47, 47, 6, 6, 0, 0), (47, .bipush 6, 49, 0, 0, 0, 6), (49, .if_icmp .lt 11, 52, 60, 0, 0, 0), (52, .new 94, 55, 1, 1, 0, 0), (55, .dup, 56, 0, 0, 0, 0), (56, .invokespecial 96, 59, 0, 8, 0, 0), (59, .athrow, 60, 0, 0, 0, 0), (60, .aload_n 0, 61, 0, 0, 0, 0), (61, .getfield 18, 64, 6, 1, 0, 0), (64, .aload_n 0, 65, 0, 0, 0, 0), (65, .getfield 47, 68, 6, 6, 0, 0), (68, .aaload, 69, 0, 0, 0, 0), (69, .iload_n 1, 70, 1, 0, 0, 0), (70, .iload_n 2, 71, 2, 0, 0, 0), (71, .iload_n 3, 72, 3, 0, 0, 0), (72, .iload 4, 74, 4, 0, 0, 0), (74, .invokevirtual 97, 77, 1, 0, 5, 0), (77, .aload_n 0, 78, 0, 0, 0, 0), (78, .dup, 79, 0, 0, 0, 0), (79, .getfield 47, 82, 6, 6, 0, 0), (82, .iconst 1, 83, 0, 0, 0, 1), (83, .iadd, 84, 0, 0, 0, 0), (84, .putfield 47, 87, 6, 6, 0, 0), (87, .aload_n 0, 88, 0, 0, 0, 0), (88, .iconst 0, 89, 0, 0, 0, 0), (89, .putfield 51, 92, 6, 7, 0, 0), (92, .aload_n 0, 93, 0, 0, 0, 0)]
def tb_66_1 : List (Nat × En) := [(93, .getfield 47, 96, 6, 6, 0, 0), (96, .iconst 1, 97, 0, 0, 0, 1), (97, .isub, 98, 0, 0, 0, 0), (98, .ireturn, 99, 0, 0, 0, 0)]
def tb_66 : List (Nat × En) := tb_66_0 ++ (tb_66_1)
def tb_67_0 : List (Nat × En) := [(0, .iconst 0, 1, 0, 0, 0, 0), (1, .iload_n 1, 2, 1, 0, 0, 0), (2, .bipush 9, 4, 0, 0, 0, 9), (4, .invokestatic 65, 7, 81, 1, 3, 0), (7, .ifCond .eq 37, 10, 44, 0, 0, 0), (10, .iload_n 2, 11, 2, 0, 0, 0), (11, .invokestatic 90, 14, 82, 1, 1, 0), (14, .ifCond .eq 30, 17, 44, 0, 0, 0), (17, .iload_n 3, 18, 3, 0, 0, 0), (18, .invokestatic 90, 21, 82, 1, 1, 0), (21, .ifCond .eq 23, 24, 44, 0, 0, 0), (24, .iload 4, 26, 4, 0, 0, 0), (26, .invokestatic 90, 29, 82, 1, 1, 0), (29, .ifCond .eq 15, 32, 44, 0, 0, 0), (32, .bipush (-12), 34, 0, 0, 0, (-12)), (34, .iload 6, 36, 6, 0, 0, 0), (36, .bipush 12, 38, 0, 0, 0, 12), (38, .invokestatic 65, 41, 81, 1, 3, 0), (41, .ifCond .ne 11, 44, 52, 0, 0, 0), (44, .new 69, 47, 0, 1, 0, 0), (47, .dup, 48, 0, 0, 0, 0), (48, .invokespecial 71, 51, 0, 8, 0, 0), (51, .athrow, 52, 0, 0, 0, 0), (52, .aload_n 0, 53, 0, 0, 0, 0), (53, .getfield 47, 56, 6, 6, 0, 0), (56, .iconst 1, 57, 0, 0, 0, 1), (57, .if_icmp .lt 22, 60, 79, 0, 0, 0), (60, .aload_n 0, 61, 0, 0, 0, 0), (61, .getfield 18, 64, 6, 1, 0, 0), (64, .aload_n 0, 65, 0, 0, 0, 0), (65, .getfield 47, 68, 6, 6, 0, 0), (68, .iconst 1, 69, 0, 0, 0, 1), (69, .isub, 70, 0, 0, 0, 0), (70, .aaload, 71, 0, 0, 0, 0), (71, .getfield 101, 74, 0, 4, 0, 0), (74, .bipush 10, 76, 0, 0, 0, 10), (76, .if_icmp .lt 11, 79, 87, 0, 0, 0), (79, .new 94, 82, 1, 1, 0, 0), (82, .dup, 83, 0, 0, 0, 0), (83, .invokespecial 96, 86, 0, 8, 0, 0), (86, .athrow, 87, 0, 0, 0, 0), (87, .aload_n 0, 88, 0, 0, 0, 0), (88, .getfield 18, 91, 6, 1, 0, 0), (91, .aload_n 0, 92, 0, 0, 0, 0), (92, .getfield 47, 95, 6, 6, 0, 0), (95, .iconst 1, 96, 0, 0, 0, 1), (96, .isub, 97, 0, 0, 0, 0), (97, .aaload, 98, 0, 0, 0, 0), (98, .astore 7, 100, 7, 0, 0, 0), (100, .aload 7, 102, 7, 0, 0, 0)]
def tb_67_1 : List (Nat × En) := [(102, .iload_n 1, 103, 1, 0, 0, 0), (103, .iload_n 2, 104, 2, 0, 0, 0), (104, .iload_n 3, 105, 3, 0, 0, 0), (105, .iload 4, 107, 4, 0, 0, 0), (107, .iload 5, 109, 5, 0, 0, 0), (109, .iload 6, 111, 6, 0, 0, 0), (111, .invokevirtual 104, 114, 2, 0, 7, 0), (114, .aload_n 0, 115, 0, 0, 0, 0), (115, .iconst 0, 116, 0, 0, 0, 0), (116, .putfield 51, 119, 6, 7, 0, 0), (119, .aload 7, 121, 7, 0, 0, 0), (121, .getfield 101, 124, 0, 4, 0, 0), (124, .iconst 1, 125, 0, 0, 0, 1), (125, .isub, 126, 0, 0, 0, 0), (126, .ireturn, 127, 0, 0, 0, 0)]
def tb_67 : List (Nat × En) := tb_67_0 ++ (tb_67_1)
def tb_68 : List (Nat × En) := [(0, .aload_n 0, 1, 0, 0, 0, 0), (1, .iconst 0, 2, 0, 0, 0, 0), (2, .putfield 47, 5, 6, 6, 0, 0), (5, .aload_n 0, 6, 0, 0, 0, 0), (6, .iconst 0, 7, 0, 0, 0, 0), (7, .putfield 51, 10, 6, 7, 0, 0), (10, .return_, 11, 0, 0, 0, 0)]
def tb_69 : List (Nat × En) := [(0, .aload_n 0, 1, 0, 0, 0, 0), (1, .getfield 58, 4, 6, 8, 0, 0), (4, .getfield 108, 7, 4, 5, 0, 0), (7, .iload_n 1, 8, 1, 0, 0, 0), (8, .invokestatic 112, 11, 84, 1, 1, 0), (11, .iload_n 2, 12, 2, 0, 0, 0), (12, .iastore, 13, 0, 0, 0, 0), (13, .return_, 14, 0, 0, 0, 0)]
def tb_70 : List (Nat × En) := [(0, .aload_n 0, 1, 0, 0, 0, 0), (1, .getfield 58, 4, 6, 8, 0, 0), (4, .getfield 108, 7, 4, 5, 0, 0), (7, .iload_n 1, 8, 1, 0, 0, 0), (8, .invokestatic 112, 11, 84, 1, 1, 0), (11, .iaload, 12, 0, 0, 0, 0), (12, .ireturn, 13, 0, 0, 0, 0)]
def tb_71 : List (Nat × En) := [(0, .aload_n 0, 1, 0, 0, 0, 0), (1, .getfield 47, 4, 6, 6, 0, 0), (4, .iconst 1, 5, 0, 0, 0, 1), (5, .if_icmp .ge 11, 8, 16, 0, 0, 0), (8, .new 94, 11, 1, 1, 0, 0), (11, .dup, 12, 0, 0, 0, 0), (12, .invokespecial 96, 15, 0, 8, 0, 0), (15, .athrow, 16, 0, 0, 0, 0), (16, .aload_n 0, 17, 0, 0, 0, 0), (17, .invokevirtual 116, 20, 85, 0, 1, 0), (20, .ifCond .eq 11, 23, 31, 0, 0, 0), (23, .new 120, 26, 2, 1, 0, 0), (26, .dup, 27, 0, 0, 0, 0), (27, .invokespecial 122, 30, 0, 8, 0, 0), (30, .athrow, 31, 0, 0, 0, 0), (31, .aload_n 0, 32, 0, 0, 0, 0), (32, .invokevirtual 123, 35, 86, 0, 1, 0), (35, .ifCond .eq 11, 38, 46, 0, 0, 0), (38, .new 69, 41, 0, 1, 0, 0), (41, .dup, 42, 0, 0, 0, 0), (42, .invokespecial 71, 45, 0, 8, 0, 0), (45, .athrow, 46, 0, 0, 0, 0), (46, .iconst 0, 47, 0, 0, 0, 0), (47, .istore_n 1, 48, 1, 0, 0, 0), (48, .iload_n 1, 49, 1, 0, 0, 0), (49, .aload_n 0, 50, 0, 0, 0, 0), (50, .getfield 47, 53, 6, 6, 0, 0), (53, .if_icmp .ge 24, 56, 77, 0, 0, 0), (56, .aload_n 0, 57, 0, 0, 0, 0), (57, .getfield 22, 60, 6, 2, 0, 0), (60, .iload_n 1, 61, 1, 0, 0, 0), (61, .aaload, 62, 0, 0, 0, 0), (62, .aload_n 0, 63, 0, 0, 0, 0), (63, .getfield 18, 66, 6, 1, 0, 0), (66, .iload_n 1, 67, 1, 0, 0, 0), (67, .aaload, 68, 0, 0, 0, 0), (68, .invokevirtual 126, 71, 3, 0, 2, 0), (71, .iinc 1 1, 74, 1, 0, 0, 1), (74, .goto (-26), 77, 48, 0, 0, 0), (77, .aload_n 0, 78, 0, 0, 0, 0), (78, .getfield 22, 81, 6, 2, 0, 0), (81, .aload_n 0, 82, 0, 0, 0, 0), (82, .getfield 47, 85, 6, 6, 0, 0), (85, .invokestatic 130, 88, 87, 1, 2, 0), (88, .aload_n 0, 89, 0, 0, 0, 0), (89, .iconst 1, 90, 0, 0, 0, 1), (90, .putfield 51, 93, 6, 7, 0, 0), (93, .aload_n 0, 94, 0, 0, 0, 0), (94, .invokevirtual 134, 97, 90, 0, 1, 0), (97, .ireturn, 98, 0, 0, 0, 0)]
def tb_72 : List (Nat × En) := [(0, .aload_n 0, 1, 0, 0, 0, 0), (1, .getfield 51, 4, 6, 7, 0, 0), (4, .ifCond .ne 11, 7, 15, 0, 0, 0), (7, .new 94, 10, 1, 1, 0, 0), (10, .dup, 11, 0, 0, 0, 0), (11, .invokespecial 96, 14, 0, 8, 0, 0), (14, .athrow, 15, 0, 0, 0, 0), (15, .aload_n 0, 16, 0, 0, 0, 0), (16, .invokevirtual 138, 19, 91, 0, 1, 0), (19, .istore_n 1, 20, 1, 0, 0, 0), (20, .iload_n 1, 21, 1, 0, 0, 0), (21, .iconst (-1), 22, 0, 0, 0, (-1)), (22, .if_icmp .ne 11, 25, 33, 0, 0, 0), (25, .new 141, 28, 3, 1, 0, 0), (28, .dup, 29, 0, 0, 0, 0), (29, .invokespecial 143, 32, 0, 8, 0, 0), (32, .athrow, 33, 0, 0, 0, 0), (33, .aload_n 0, 34, 0, 0, 0, 0), (34, .getfield 62, 37, 6, 9, 0, 0), (37, .astore_n 2, 38, 2, 0, 0, 0), (38, .aload_n 0, 39, 0, 0, 0, 0), (39, .aload_n 0, 40, 0, 0, 0, 0), (40, .getfield 58, 43, 6, 8, 0, 0), (43, .putfield 62, 46, 6, 9, 0, 0), (46, .aload_n 0, 47, 0, 0, 0, 0), (47, .aload_n 2, 48, 2, 0, 0, 0), (48, .putfield 58, 51, 6, 8, 0, 0), (51, .iload_n 1, 52, 1, 0, 0, 0), (52, .ireturn, 53, 0, 0, 0, 0)]
def tb_73 : List (Nat × En) := [(0, .iload_n 1, 1, 1, 0, 0, 0), (1, .tableswitch 59 0 2 #[27, 35, 51], 28, 0, 0, 0, 0), (28, .aload_n 0, 29, 0, 0, 0, 0), (29, .getfield 58, 32, 6, 8, 0, 0), (32, .getfield 144, 35, 4, 0, 0, 0), (35, .ireturn, 36, 0, 0, 0, 0), (36, .aload_n 0, 37, 0, 0, 0, 0), (37, .getfield 58, 40, 6, 8, 0, 0), (40, .getfield 147, 43, 4, 2, 0, 0), (43, .ifCond .eq 7, 46, 50, 0, 0, 0), (46, .iconst 1, 47, 0, 0, 0, 1), (47, .goto 4, 50, 51, 0, 0, 0), (50, .iconst 0, 51, 0, 0, 0, 0), (51, .ireturn, 52, 0, 0, 0, 0), (52, .aload_n 0, 53, 0, 0, 0, 0), (53, .getfield 58, 56, 6, 8, 0, 0), (56, .getfield 150, 59, 4, 1, 0, 0), (59, .ireturn, 60, 0, 0, 0, 0), (60, .new 120, 63, 2, 1, 0, 0), (63, .dup, 64, 0, 0, 0, 0), (64, .invokespecial 122, 67, 0, 8, 0, 0), (67, .athrow, 68, 0, 0, 0, 0)]
def tb_74 : List (Nat × En) := [(0, .iload_n 1, 1, 1, 0, 0, 0), (1, .ifCond .lt 20, 4, 21, 0, 0, 0), (4, .iload_n 1, 5, 1, 0, 0, 0), (5, .aload_n 0, 6, 0, 0, 0, 0), (6, .getfield 58, 9, 6, 8, 0, 0), (9, .getfield 144, 12, 4, 0, 0, 0), (12, .if_icmp .ge 9, 15, 21, 0, 0, 0), (15, .iload_n 1, 16, 1, 0, 0, 0), (16, .bipush 64, 18, 0, 0, 0, 64), (18, .if_icmp .lt 11, 21, 29, 0, 0, 0), (21, .new 120, 24, 2, 1, 0, 0), (24, .dup, 25, 0, 0, 0, 0), (25, .invokespecial 122, 28, 0, 8, 0, 0), (28, .athrow, 29, 0, 0, 0, 0), (29, .aload_n 0, 30, 0, 0, 0, 0), (30, .getfield 58, 33, 6, 8, 0, 0), (33, .getfield 153, 36, 4, 3, 0, 0), (36, .iload_n 1, 37, 1, 0, 0, 0), (37, .iaload, 38, 0, 0, 0, 0), (38, .ireturn, 39, 0, 0, 0, 0)]
def tb_75 : List (Nat × En) := [(0, .iload_n 1, 1, 1, 0, 0, 0), (1, .invokestatic 90, 4, 82, 1, 1, 0), (4, .ifCond .ne 11, 7, 15, 0, 0, 0), (7, .new 120, 10, 2, 1, 0, 0), (10, .dup, 11, 0, 0, 0, 0), (11, .invokespecial 122, 14, 0, 8, 0, 0), (14, .athrow, 15, 0, 0, 0, 0), (15, .aload_n 0, 16, 0, 0, 0, 0), (16, .getfield 58, 19, 6, 8, 0, 0), (19, .getfield 147, 22, 4, 2, 0, 0), (22, .ifCond .eq 7, 25, 29, 0, 0, 0), (25, .iconst 0, 26, 0, 0, 0, 0), (26, .goto 12, 29, 38, 0, 0, 0), (29, .aload_n 0, 30, 0, 0, 0, 0), (30, .getfield 58, 33, 6, 8, 0, 0), (33, .getfield 156, 36, 4, 4, 0, 0), (36, .iload_n 1, 37, 1, 0, 0, 0), (37, .iaload, 38, 0, 0, 0, 0), (38, .ireturn, 39, 0, 0, 0, 0)]
def tb_76_0 : List (Nat × En) := [(0, .aload_n 0, 1, 0, 0, 0, 0), (1, .iload_n 1, 2, 1, 0, 0, 0), (2, .invokevirtual 159, 5, 80, 0, 2, 0), (5, .iload_n 2, 6, 2, 0, 0, 0), (6, .tableswitch 112 0 6 #[42, 52, 62, 72, 82, 92, 102], 48, 0, 0, 0, 0), (48, .aload_n 0, 49, 0, 0, 0, 0), (49, .getfield 22, 52, 6, 2, 0, 0), (52, .iload_n 1, 53, 1, 0, 0, 0), (53, .aaload, 54, 0, 0, 0, 0), (54, .getfield 101, 57, 0, 4, 0, 0), (57, .ireturn, 58, 0, 0, 0, 0), (58, .aload_n 0, 59, 0, 0, 0, 0), (59, .getfield 27, 62, 6, 3, 0, 0), (62, .iload_n 1, 63, 1, 0, 0, 0), (63, .aaload, 64, 0, 0, 0, 0), (64, .getfield 163, 67, 5, 0, 0, 0), (67, .ireturn, 68, 0, 0, 0, 0), (68, .aload_n 0, 69, 0, 0, 0, 0), (69, .getfield 27, 72, 6, 3, 0, 0), (72, .iload_n 1, 73, 1, 0, 0, 0), (73, .aaload, 74, 0, 0, 0, 0), (74, .getfield 166, 77, 5, 1, 0, 0), (77, .ireturn, 78, 0, 0, 0, 0), (78, .aload_n 0, 79, 0, 0, 0, 0), (79, .getfield 27, 82, 6, 3, 0, 0), (82, .iload_n 1, 83, 1, 0, 0, 0), (83, .aaload, 84, 0, 0, 0, 0), (84, .getfield 169, 87, 5, 2, 0, 0), (87, .ireturn, 88, 0, 0, 0, 0), (88, .aload_n 0, 89, 0, 0, 0, 0), (89, .getfield 27, 92, 6, 3, 0, 0), (92, .iload_n 1, 93, 1, 0, 0, 0), (93, .aaload, 94, 0, 0, 0, 0), (94, .getfield 172, 97, 5, 3, 0, 0), (97, .ireturn, 98, 0, 0, 0, 0), (98, .aload_n 0, 99, 0, 0, 0, 0), (99, .getfield 22, 102, 6, 2, 0, 0), (102, .iload_n 1, 103, 1, 0, 0, 0), (103, .aaload, 104, 0, 0, 0, 0), (104, .getfield 175, 107, 0, 0, 0, 0), (107, .ireturn, 108, 0, 0, 0, 0), (108, .aload_n 0, 109, 0, 0, 0, 0), (109, .getfield 22, 112, 6, 2, 0, 0), (112, .iload_n 1, 113, 1, 0, 0, 0), (113, .aaload, 114, 0, 0, 0, 0), (114, .getfield 178, 117, 0, 2, 0, 0), (117, .ireturn, 118, 0, 0, 0, 0), (118, .new 120, 121, 2, 1, 0, 0), (121, .dup, 122, 0, 0, 0, 0), (122, .invokespecial 122, 125, 0, 8, 0, 0)]
def tb_76_1 : List (Nat × En) := [(125, .athrow, 126, 0, 0, 0, 0)]
def tb_76 : List (Nat × En) := tb_76_0 ++ (tb_76_1)
def tb_77_0 : List (Nat × En) := [(0, .aload_n 0, 1, 0, 0, 0, 0), (1, .iload_n 1, 2, 1, 0, 0, 0), (2, .invokevirtual 159, 5, 80, 0, 2, 0), (5, .iload_n 2, 6, 2, 0, 0, 0), (6, .ifCond .lt 16, 9, 22, 0, 0, 0), (9, .iload_n 2, 10, 2, 0, 0, 0), (10, .aload_n 0, 11, 0, 0, 0, 0), (11, .getfield 22, 14, 6, 2, 0, 0), (14, .iload_n 1, 15, 1, 0, 0, 0), (15, .aaload, 16, 0, 0, 0, 0), (16, .getfield 101, 19, 0, 4, 0, 0), (19, .if_icmp .lt 11, 22, 30, 0, 0, 0), (22, .new 181, 25, 4, 1, 0, 0), (25, .dup, 26, 0, 0, 0, 0), (26, .invokespecial 183, 29, 0, 8, 0, 0), (29, .athrow, 30, 0, 0, 0, 0), (30, .iload_n 3, 31, 3, 0, 0, 0), (31, .tableswitch 93 0 4 #[33, 45, 57, 69, 81], 64, 0, 0, 0, 0), (64, .aload_n 0, 65, 0, 0, 0, 0), (65, .getfield 22, 68, 6, 2, 0, 0), (68, .iload_n 1, 69, 1, 0, 0, 0), (69, .aaload, 70, 0, 0, 0, 0), (70, .getfield 184, 73, 0, 6, 0, 0), (73, .iload_n 2, 74, 2, 0, 0, 0), (74, .iaload, 75, 0, 0, 0, 0), (75, .ireturn, 76, 0, 0, 0, 0), (76, .aload_n 0, 77, 0, 0, 0, 0), (77, .getfield 22, 80, 6, 2, 0, 0), (80, .iload_n 1, 81, 1, 0, 0, 0), (81, .aaload, 82, 0, 0, 0, 0), (82, .getfield 187, 85, 0, 11, 0, 0), (85, .iload_n 2, 86, 2, 0, 0, 0), (86, .iaload, 87, 0, 0, 0, 0), (87, .ireturn, 88, 0, 0, 0, 0), (88, .aload_n 0, 89, 0, 0, 0, 0), (89, .getfield 27, 92, 6, 3, 0, 0), (92, .iload_n 1, 93, 1, 0, 0, 0), (93, .aaload, 94, 0, 0, 0, 0), (94, .getfield 190, 97, 5, 5, 0, 0), (97, .iload_n 2, 98, 2, 0, 0, 0), (98, .iaload, 99, 0, 0, 0, 0), (99, .ireturn, 100, 0, 0, 0, 0), (100, .aload_n 0, 101, 0, 0, 0, 0), (101, .getfield 27, 104, 6, 3, 0, 0), (104, .iload_n 1, 105, 1, 0, 0, 0), (105, .aaload, 106, 0, 0, 0, 0), (106, .getfield 193, 109, 5, 6, 0, 0), (109, .iload_n 2, 110, 2, 0, 0, 0), (110, .iaload, 111, 0, 0, 0, 0), (111, .ireturn, 112, 0, 0, 0, 0)]
def tb_77_1 : List (Nat × En) := [(112, .aload_n 0, 113, 0, 0, 0, 0), (113, .getfield 27, 116, 6, 3, 0, 0), (116, .iload_n 1, 117, 1, 0, 0, 0), (117, .aaload, 118, 0, 0, 0, 0), (118, .getfield 196, 121, 5, 7, 0, 0), (121, .iload_n 2, 122, 2, 0, 0, 0), (122, .iaload, 123, 0, 0, 0, 0), (123, .ireturn, 124, 0, 0, 0, 0), (124, .new 120, 127, 2, 1, 0, 0), (127, .dup, 128, 0, 0, 0, 0), (128, .invokespecial 122, 131, 0, 8, 0, 0), (131, .athrow, 132, 0, 0, 0, 0)]
def tb_77 : List (Nat × En) := tb_77_0 ++ (tb_77_1)
def tb_78 : List (Nat × En) := [(0, .aload_n 0, 1, 0, 0, 0, 0), (1, .iload_n 1, 2, 1, 0, 0, 0), (2, .invokevirtual 159, 5, 80, 0, 2, 0), (5, .aload_n 0, 6, 0, 0, 0, 0), (6, .getfield 27, 9, 6, 3, 0, 0), (9, .iload_n 1, 10, 1, 0, 0, 0), (10, .aaload, 11, 0, 0, 0, 0), (11, .astore 4, 13, 4, 0, 0, 0), (13, .iload_n 2, 14, 2, 0, 0, 0), (14, .ifCond .lt 24, 17, 38, 0, 0, 0), (17, .iload_n 2, 18, 2, 0, 0, 0), (18, .iload_n 3, 19, 3, 0, 0, 0), (19, .ifCond .eq 11, 22, 30, 0, 0, 0), (22, .aload 4, 24, 4, 0, 0, 0), (24, .getfield 169, 27, 5, 2, 0, 0), (27, .goto 8, 30, 35, 0, 0, 0), (30, .aload 4, 32, 4, 0, 0, 0), (32, .getfield 163, 35, 5, 0, 0, 0), (35, .if_icmp .lt 11, 38, 46, 0, 0, 0), (38, .new 120, 41, 2, 1, 0, 0), (41, .dup, 42, 0, 0, 0, 0), (42, .invokespecial 122, 45, 0, 8, 0, 0), (45, .athrow, 46, 0, 0, 0, 0), (46, .iload_n 3, 47, 3, 0, 0, 0), (47, .ifCond .eq 28, 50, 75, 0, 0, 0), (50, .aload 4, 52, 4, 0, 0, 0), (52, .aload_n 0, 53, 0, 0, 0, 0), (53, .getfield 22, 56, 6, 2, 0, 0), (56, .iload_n 1, 57, 1, 0, 0, 0), (57, .aaload, 58, 0, 0, 0, 0), (58, .aload 4, 60, 4, 0, 0, 0), (60, .getfield 196, 63, 5, 7, 0, 0), (63, .aload 4, 65, 4, 0, 0, 0), (65, .getfield 169, 68, 5, 2, 0, 0), (68, .iload_n 2, 69, 2, 0, 0, 0), (69, .invokevirtual 199, 72, 61, 0, 5, 0), (72, .goto 25, 75, 97, 0, 0, 0), (75, .aload 4, 77, 4, 0, 0, 0), (77, .aload_n 0, 78, 0, 0, 0, 0), (78, .getfield 22, 81, 6, 2, 0, 0), (81, .iload_n 1, 82, 1, 0, 0, 0), (82, .aaload, 83, 0, 0, 0, 0), (83, .aload 4, 85, 4, 0, 0, 0), (85, .getfield 193, 88, 5, 6, 0, 0), (88, .aload 4, 90, 4, 0, 0, 0), (90, .getfield 163, 93, 5, 0, 0, 0), (93, .iload_n 2, 94, 2, 0, 0, 0), (94, .invokevirtual 199, 97, 61, 0, 5, 0), (97, .lreturn, 98, 0, 0, 0, 0)]
def tb_79 : List (Nat × En) := [(0, .aload_n 0, 1, 0, 0, 0, 0), (1, .iload_n 1, 2, 1, 0, 0, 0), (2, .invokevirtual 159, 5, 80, 0, 2, 0), (5, .aload_n 0, 6, 0, 0, 0, 0), (6, .getfield 27, 9, 6, 3, 0, 0), (9, .iload_n 1, 10, 1, 0, 0, 0), (10, .aaload, 11, 0, 0, 0, 0), (11, .invokevirtual 203, 14, 58, 0, 1, 0), (14, .aload_n 0, 15, 0, 0, 0, 0), (15, .getfield 10, 18, 6, 0, 0, 0), (18, .getfield 72, 21, 2, 0, 0, 0), (21, .aload_n 0, 22, 0, 0, 0, 0), (22, .getfield 10, 25, 6, 0, 0, 0), (25, .getfield 75, 28, 2, 1, 0, 0), (28, .iadd, 29, 0, 0, 0, 0), (29, .imul, 30, 0, 0, 0, 0), (30, .istore_n 2, 31, 2, 0, 0, 0), (31, .iload_n 2, 32, 2, 0, 0, 0), (32, .ifCond .le 19, 35, 51, 0, 0, 0), (35, .aload_n 0, 36, 0, 0, 0, 0), (36, .getfield 22, 39, 6, 2, 0, 0), (39, .iload_n 1, 40, 1, 0, 0, 0), (40, .aaload, 41, 0, 0, 0, 0), (41, .getfield 101, 44, 0, 4, 0, 0), (44, .i2d, 45, 0, 0, 0, 0), (45, .iload_n 2, 46, 2, 0, 0, 0), (46, .i2d, 47, 0, 0, 0, 0), (47, .ddiv, 48, 0, 0, 0, 0), (48, .goto 4, 51, 52, 0, 0, 0), (51, .dconst 0, 52, 0, 0, 0, 0), (52, .dreturn, 53, 0, 0, 0, 0)]
def tb_80 : List (Nat × En) := [(0, .aload_n 0, 1, 0, 0, 0, 0), (1, .getfield 51, 4, 6, 7, 0, 0), (4, .ifCond .ne 11, 7, 15, 0, 0, 0), (7, .new 94, 10, 1, 1, 0, 0), (10, .dup, 11, 0, 0, 0, 0), (11, .invokespecial 96, 14, 0, 8, 0, 0), (14, .athrow, 15, 0, 0, 0, 0), (15, .iload_n 1, 16, 1, 0, 0, 0), (16, .ifCond .lt 23, 19, 39, 0, 0, 0), (19, .iload_n 1, 20, 1, 0, 0, 0), (20, .aload_n 0, 21, 0, 0, 0, 0), (21, .getfield 47, 24, 6, 6, 0, 0), (24, .if_icmp .ge 15, 27, 39, 0, 0, 0), (27, .aload_n 0, 28, 0, 0, 0, 0), (28, .getfield 22, 31, 6, 2, 0, 0), (31, .iload_n 1, 32, 1, 0, 0, 0), (32, .aaload, 33, 0, 0, 0, 0), (33, .getfield 206, 36, 0, 5, 0, 0), (36, .ifCond .eq 11, 39, 47, 0, 0, 0), (39, .new 181, 42, 4, 1, 0, 0), (42, .dup, 43, 0, 0, 0, 0), (43, .invokespecial 183, 46, 0, 8, 0, 0), (46, .athrow, 47, 0, 0, 0, 0), (47, .return_, 48, 0, 0, 0, 0)]
def tb_81 : List (Nat × En) := [(0, .iload_n 1, 1, 1, 0, 0, 0), (1, .iload_n 0, 2, 0, 0, 0, 0), (2, .if_icmp .lt 12, 5, 14, 0, 0, 0), (5, .iload_n 1, 6, 1, 0, 0, 0), (6, .iload_n 2, 7, 2, 0, 0, 0), (7, .if_icmp .gt 7, 10, 14, 0, 0, 0), (10, .iconst 1, 11, 0, 0, 0, 1), (11, .goto 4, 14, 15, 0, 0, 0), (14, .iconst 0, 15, 0, 0, 0, 0), (15, .ireturn, 16, 0, 0, 0, 0)]
def tb_82 : List (Nat × En) := [(0, .iconst 0, 1, 0, 0, 0, 0), (1, .iload_n 0, 2, 0, 0, 0, 0), (2, .bipush 11, 4, 0, 0, 0, 11), (4, .invokestatic 65, 7, 81, 1, 3, 0), (7, .ireturn, 8, 0, 0, 0, 0)]
def tb_83 : List (Nat × En) := [(0, .iload_n 0, 1, 0, 0, 0, 0), (1, .bipush 7, 3, 0, 0, 0, 7), (3, .if_icmp .lt 7, 6, 10, 0, 0, 0), (6, .iconst 1, 7, 0, 0, 0, 1), (7, .goto 4, 10, 11, 0, 0, 0), (10, .iconst 0, 11, 0, 0, 0, 0), (11, .ireturn, 12, 0, 0, 0, 0)]
def tb_84 : List (Nat × En) := [(0, .iload_n 0, 1, 0, 0, 0, 0), (1, .bipush 63, 3, 0, 0, 0, 63), (3, .iand, 4, 0, 0, 0, 0), (4, .ireturn, 5, 0, 0, 0, 0)]
def tb_85 : List (Nat × En) := [(0, .iconst 0, 1, 0, 0, 0, 0), (1, .istore_n 1, 2, 1, 0, 0, 0), (2, .iload_n 1, 3, 1, 0, 0, 0), (3, .aload_n 0, 4, 0, 0, 0, 0), (4, .getfield 47, 7, 6, 6, 0, 0), (7, .if_icmp .ge 41, 10, 48, 0, 0, 0), (10, .aload_n 0, 11, 0, 0, 0, 0), (11, .getfield 47, 14, 6, 6, 0, 0), (14, .istore_n 2, 15, 2, 0, 0, 0), (15, .iload_n 2, 16, 2, 0, 0, 0), (16, .bipush 6, 18, 0, 0, 0, 6), (18, .if_icmp .ge 24, 21, 42, 0, 0, 0), (21, .aload_n 0, 22, 0, 0, 0, 0), (22, .getfield 18, 25, 6, 1, 0, 0), (25, .iload_n 1, 26, 1, 0, 0, 0), (26, .aaload, 27, 0, 0, 0, 0), (27, .iload_n 2, 28, 2, 0, 0, 0), (28, .invokevirtual 209, 31, 6, 0, 2, 0), (31, .ifCond .eq 5, 34, 36, 0, 0, 0), (34, .iconst 1, 35, 0, 0, 0, 1), (35, .ireturn, 36, 0, 0, 0, 0), (36, .iinc 2 1, 39, 2, 0, 0, 1), (39, .goto (-24), 42, 15, 0, 0, 0), (42, .iinc 1 1, 45, 1, 0, 0, 1), (45, .goto (-43), 48, 2, 0, 0, 0), (48, .iconst 0, 49, 0, 0, 0, 0), (49, .ireturn, 50, 0, 0, 0, 0)]
def tb_86 : List (Nat × En) := [(0, .iconst 0, 1, 0, 0, 0, 0), (1, .istore_n 1, 2, 1, 0, 0, 0), (2, .iload_n 1, 3, 1, 0, 0, 0), (3, .aload_n 0, 4, 0, 0, 0, 0), (4, .getfield 47, 7, 6, 6, 0, 0), (7, .if_icmp .ge 45, 10, 52, 0, 0, 0), (10, .aload_n 0, 11, 0, 0, 0, 0), (11, .getfield 18, 14, 6, 1, 0, 0), (14, .iload_n 1, 15, 1, 0, 0, 0), (15, .aaload, 16, 0, 0, 0, 0), (16, .getfield 175, 19, 0, 0, 0, 0), (19, .iconst 3, 20, 0, 0, 0, 3), (20, .if_icmp .ne 26, 23, 46, 0, 0, 0), (23, .aload_n 0, 24, 0, 0, 0, 0), (24, .getfield 18, 27, 6, 1, 0, 0), (27, .iload_n 1, 28, 1, 0, 0, 0), (28, .aaload, 29, 0, 0, 0, 0), (29, .aload_n 0, 30, 0, 0, 0, 0), (30, .getfield 18, 33, 6, 1, 0, 0), (33, .iload_n 1, 34, 1, 0, 0, 0), (34, .aaload, 35, 0, 0, 0, 0), (35, .getfield 212, 38, 0, 1, 0, 0), (38, .invokevirtual 215, 41, 8, 0, 2, 0), (41, .ifCond .eq 5, 44, 46, 0, 0, 0), (44, .iconst 1, 45, 0, 0, 0, 1), (45, .ireturn, 46, 0, 0, 0, 0), (46, .iinc 1 1, 49, 1, 0, 0, 1), (49, .goto (-47), 52, 2, 0, 0, 0), (52, .iconst 0, 53, 0, 0, 0, 0), (53, .ireturn, 54, 0, 0, 0, 0)]
def tb_87 : List (Nat × En) := [(0, .iconst 0, 1, 0, 0, 0, 0), (1, .istore_n 2, 2, 2, 0, 0, 0), (2, .iload_n 2, 3, 2, 0, 0, 0), (3, .iload_n 1, 4, 1, 0, 0, 0), (4, .if_icmp .ge 45, 7, 49, 0, 0, 0), (7, .aload_n 0, 8, 0, 0, 0, 0), (8, .iload_n 2, 9, 2, 0, 0, 0), (9, .aaload, 10, 0, 0, 0, 0), (10, .astore_n 3, 11, 3, 0, 0, 0), (11, .aload_n 3, 12, 3, 0, 0, 0), (12, .getfield 206, 15, 0, 5, 0, 0), (15, .ifCond .ne 28, 18, 43, 0, 0, 0), (18, .aload_n 3, 19, 3, 0, 0, 0), (19, .getfield 175, 22, 0, 0, 0, 0), (22, .iconst 2, 23, 0, 0, 0, 2), (23, .if_icmp .ne 20, 26, 43, 0, 0, 0), (26, .aload_n 3, 27, 3, 0, 0, 0), (27, .getfield 178, 30, 0, 2, 0, 0), (30, .aload_n 3, 31, 3, 0, 0, 0), (31, .getfield 218, 34, 0, 3, 0, 0), (34, .if_icmp .eq 9, 37, 43, 0, 0, 0), (37, .aload_n 0, 38, 0, 0, 0, 0), (38, .iload_n 1, 39, 1, 0, 0, 0), (39, .iload_n 2, 40, 2, 0, 0, 0), (40, .invokestatic 221, 43, 88, 1, 3, 0), (43, .iinc 2 1, 46, 2, 0, 0, 1), (46, .goto (-44), 49, 2, 0, 0, 0), (49, .return_, 50, 0, 0, 0, 0)]
def tb_88_0 : List (Nat × En) := [(0, .aload_n 0, 1, 0, 0, 0, 0), (1, .iload_n 2, 2, 2, 0, 0, 0), (2, .aaload, 3, 0, 0, 0, 0), (3, .astore_n 3, 4, 3, 0, 0, 0), (4, .aload_n 0, 5, 0, 0, 0, 0), (5, .aload_n 3, 6, 3, 0, 0, 0), (6, .getfield 178, 9, 0, 2, 0, 0), (9, .aaload, 10, 0, 0, 0, 0), (10, .astore 4, 12, 4, 0, 0, 0), (12, .aload_n 0, 13, 0, 0, 0, 0), (13, .aload_n 3, 14, 3, 0, 0, 0), (14, .getfield 218, 17, 0, 3, 0, 0), (17, .aaload, 18, 0, 0, 0, 0), (18, .astore 5, 20, 5, 0, 0, 0), (20, .aload 4, 22, 4, 0, 0, 0), (22, .getfield 175, 25, 0, 0, 0, 0), (25, .iconst 1, 26, 0, 0, 0, 1), (26, .if_icmp .ne 20, 29, 46, 0, 0, 0), (29, .aload_n 0, 30, 0, 0, 0, 0), (30, .iload_n 1, 31, 1, 0, 0, 0), (31, .iload_n 2, 32, 2, 0, 0, 0), (32, .aload_n 3, 33, 3, 0, 0, 0), (33, .getfield 178, 36, 0, 2, 0, 0), (36, .invokestatic 225, 39, 89, 1, 4, 0), (39, .ifCond .eq 7, 42, 46, 0, 0, 0), (42, .iconst 1, 43, 0, 0, 0, 1), (43, .goto 4, 46, 47, 0, 0, 0), (46, .iconst 0, 47, 0, 0, 0, 0), (47, .istore 6, 49, 6, 0, 0, 0), (49, .aload 5, 51, 5, 0, 0, 0), (51, .getfield 175, 54, 0, 0, 0, 0), (54, .iconst 1, 55, 0, 0, 0, 1), (55, .if_icmp .ne 20, 58, 75, 0, 0, 0), (58, .aload_n 0, 59, 0, 0, 0, 0), (59, .iload_n 1, 60, 1, 0, 0, 0), (60, .iload_n 2, 61, 2, 0, 0, 0), (61, .aload_n 3, 62, 3, 0, 0, 0), (62, .getfield 218, 65, 0, 3, 0, 0), (65, .invokestatic 225, 68, 89, 1, 4, 0), (68, .ifCond .eq 7, 71, 75, 0, 0, 0), (71, .iconst 1, 72, 0, 0, 0, 1), (72, .goto 4, 75, 76, 0, 0, 0), (75, .iconst 0, 76, 0, 0, 0, 0), (76, .istore 7, 78, 7, 0, 0, 0), (78, .iload 6, 80, 6, 0, 0, 0), (80, .ifCond .eq 82, 83, 162, 0, 0, 0), (83, .iload 7, 85, 7, 0, 0, 0), (85, .ifCond .eq 77, 88, 162, 0, 0, 0), (88, .aload 4, 90, 4, 0, 0, 0), (90, .getfield 178, 93, 0, 2, 0, 0)]
def tb_88_1 : List (Nat × En) := [(93, .aload 5, 95, 5, 0, 0, 0), (95, .getfield 178, 98, 0, 2, 0, 0), (98, .if_icmp .ne 64, 101, 162, 0, 0, 0), (101, .aload_n 3, 102, 3, 0, 0, 0), (102, .getfield 101, 105, 0, 4, 0, 0), (105, .aload 4, 107, 4, 0, 0, 0), (107, .getfield 101, 110, 0, 4, 0, 0), (110, .iadd, 111, 0, 0, 0, 0), (111, .aload 5, 113, 5, 0, 0, 0), (113, .getfield 101, 116, 0, 4, 0, 0), (116, .iadd, 117, 0, 0, 0, 0), (117, .bipush 10, 119, 0, 0, 0, 10), (119, .if_icmp .gt 43, 122, 162, 0, 0, 0), (122, .aload 4, 124, 4, 0, 0, 0), (124, .getfield 178, 127, 0, 2, 0, 0), (127, .istore 8, 129, 8, 0, 0, 0), (129, .aload_n 3, 130, 3, 0, 0, 0), (130, .aload 4, 132, 4, 0, 0, 0), (132, .iconst 1, 133, 0, 0, 0, 1), (133, .aload_n 3, 134, 3, 0, 0, 0), (134, .getfield 212, 137, 0, 1, 0, 0), (137, .iadd, 138, 0, 0, 0, 0), (138, .invokevirtual 229, 141, 4, 0, 3, 0), (141, .aload_n 3, 142, 3, 0, 0, 0), (142, .aload 5, 144, 5, 0, 0, 0), (144, .iconst (-1), 145, 0, 0, 0, (-1)), (145, .aload_n 3, 146, 3, 0, 0, 0), (146, .getfield 212, 149, 0, 1, 0, 0), (149, .isub, 150, 0, 0, 0, 0), (150, .invokevirtual 229, 153, 4, 0, 3, 0), (153, .aload_n 3, 154, 3, 0, 0, 0), (154, .iload 8, 156, 8, 0, 0, 0), (156, .invokevirtual 233, 159, 5, 0, 2, 0), (159, .goto 110, 162, 269, 0, 0, 0), (162, .iload 6, 164, 6, 0, 0, 0), (164, .ifCond .eq 53, 167, 217, 0, 0, 0), (167, .aload 4, 169, 4, 0, 0, 0), (169, .getfield 178, 172, 0, 2, 0, 0), (172, .aload_n 3, 173, 3, 0, 0, 0), (173, .getfield 218, 176, 0, 3, 0, 0), (176, .if_icmp .ne 41, 179, 217, 0, 0, 0), (179, .aload_n 3, 180, 3, 0, 0, 0), (180, .getfield 101, 183, 0, 4, 0, 0), (183, .aload 4, 185, 4, 0, 0, 0), (185, .getfield 101, 188, 0, 4, 0, 0), (188, .iadd, 189, 0, 0, 0, 0), (189, .bipush 10, 191, 0, 0, 0, 10), (191, .if_icmp .gt 26, 194, 217, 0, 0, 0), (194, .aload_n 3, 195, 3, 0, 0, 0), (195, .aload 4, 197, 4, 0, 0, 0)]
def tb_88_2 : List (Nat × En) := [(197, .iconst 1, 198, 0, 0, 0, 1), (198, .aload_n 3, 199, 3, 0, 0, 0), (199, .getfield 212, 202, 0, 1, 0, 0), (202, .iadd, 203, 0, 0, 0, 0), (203, .invokevirtual 229, 206, 4, 0, 3, 0), (206, .aload_n 3, 207, 3, 0, 0, 0), (207, .aload_n 3, 208, 3, 0, 0, 0), (208, .getfield 218, 211, 0, 3, 0, 0), (211, .invokevirtual 233, 214, 5, 0, 2, 0), (214, .goto 55, 217, 269, 0, 0, 0), (217, .iload 7, 219, 7, 0, 0, 0), (219, .ifCond .eq 50, 222, 269, 0, 0, 0), (222, .aload 5, 224, 5, 0, 0, 0), (224, .getfield 178, 227, 0, 2, 0, 0), (227, .aload_n 3, 228, 3, 0, 0, 0), (228, .getfield 178, 231, 0, 2, 0, 0), (231, .if_icmp .ne 38, 234, 269, 0, 0, 0), (234, .aload_n 3, 235, 3, 0, 0, 0), (235, .getfield 101, 238, 0, 4, 0, 0), (238, .aload 5, 240, 5, 0, 0, 0), (240, .getfield 101, 243, 0, 4, 0, 0), (243, .iadd, 244, 0, 0, 0, 0), (244, .bipush 10, 246, 0, 0, 0, 10), (246, .if_icmp .gt 23, 249, 269, 0, 0, 0), (249, .aload_n 3, 250, 3, 0, 0, 0), (250, .aload 5, 252, 5, 0, 0, 0), (252, .iconst (-1), 253, 0, 0, 0, (-1)), (253, .aload_n 3, 254, 3, 0, 0, 0), (254, .getfield 212, 257, 0, 1, 0, 0), (257, .isub, 258, 0, 0, 0, 0), (258, .invokevirtual 229, 261, 4, 0, 3, 0), (261, .aload_n 3, 262, 3, 0, 0, 0), (262, .aload_n 3, 263, 3, 0, 0, 0), (263, .getfield 178, 266, 0, 2, 0, 0), (266, .invokevirtual 233, 269, 5, 0, 2, 0), (269, .return_, 270, 0, 0, 0, 0)]
def tb_88 : List (Nat × En) := tb_88_0 ++ (tb_88_1 ++ (tb_88_2))
def tb_89 : List (Nat × En) := [(0, .iload_n 3, 1, 3, 0, 0, 0), (1, .ifCond .eq 32, 4, 33, 0, 0, 0), (4, .iload_n 3, 5, 3, 0, 0, 0), (5, .iload_n 2, 6, 2, 0, 0, 0), (6, .if_icmp .eq 27, 9, 33, 0, 0, 0), (9, .aload_n 0, 10, 0, 0, 0, 0), (10, .iload_n 3, 11, 3, 0, 0, 0), (11, .aaload, 12, 0, 0, 0, 0), (12, .invokevirtual 236, 15, 7, 0, 1, 0), (15, .ifCond .ne 18, 18, 33, 0, 0, 0), (18, .aload_n 0, 19, 0, 0, 0, 0), (19, .iload_n 3, 20, 3, 0, 0, 0), (20, .aaload, 21, 0, 0, 0, 0), (21, .aload_n 0, 22, 0, 0, 0, 0), (22, .iload_n 2, 23, 2, 0, 0, 0), (23, .aaload, 24, 0, 0, 0, 0), (24, .getfield 212, 27, 0, 1, 0, 0), (27, .invokevirtual 215, 30, 8, 0, 2, 0), (30, .ifCond .eq 5, 33, 35, 0, 0, 0), (33, .iconst 0, 34, 0, 0, 0, 0), (34, .ireturn, 35, 0, 0, 0, 0), (35, .iconst 0, 36, 0, 0, 0, 0), (36, .istore 4, 38, 4, 0, 0, 0), (38, .iload 4, 40, 4, 0, 0, 0), (40, .iload_n 1, 41, 1, 0, 0, 0), (41, .if_icmp .ge 38, 44, 79, 0, 0, 0), (44, .iload 4, 46, 4, 0, 0, 0), (46, .iload_n 2, 47, 2, 0, 0, 0), (47, .if_icmp .eq 26, 50, 73, 0, 0, 0), (50, .aload_n 0, 51, 0, 0, 0, 0), (51, .iload 4, 53, 4, 0, 0, 0), (53, .aaload, 54, 0, 0, 0, 0), (54, .getfield 206, 57, 0, 5, 0, 0), (57, .ifCond .ne 16, 60, 73, 0, 0, 0), (60, .aload_n 0, 61, 0, 0, 0, 0), (61, .iload 4, 63, 4, 0, 0, 0), (63, .aaload, 64, 0, 0, 0, 0), (64, .iload_n 3, 65, 3, 0, 0, 0), (65, .invokevirtual 209, 68, 6, 0, 2, 0), (68, .ifCond .eq 5, 71, 73, 0, 0, 0), (71, .iconst 0, 72, 0, 0, 0, 0), (72, .ireturn, 73, 0, 0, 0, 0), (73, .iinc 4 1, 76, 4, 0, 0, 1), (76, .goto (-38), 79, 38, 0, 0, 0), (79, .iconst 1, 80, 0, 0, 0, 1), (80, .ireturn, 81, 0, 0, 0, 0)]
def tb_90_0 : List (Nat × En) := [(0, .iconst 0, 1, 0, 0, 0, 0), (1, .istore_n 1, 2, 1, 0, 0, 0), (2, .iconst 0, 3, 0, 0, 0, 0), (3, .istore_n 2, 4, 2, 0, 0, 0), (4, .iload_n 2, 5, 2, 0, 0, 0), (5, .aload_n 0, 6, 0, 0, 0, 0), (6, .getfield 47, 9, 6, 6, 0, 0), (9, .if_icmp .ge 80, 12, 89, 0, 0, 0), (12, .aload_n 0, 13, 0, 0, 0, 0), (13, .getfield 22, 16, 6, 2, 0, 0), (16, .iload_n 2, 17, 2, 0, 0, 0), (17, .aaload, 18, 0, 0, 0, 0), (18, .getfield 206, 21, 0, 5, 0, 0), (21, .ifCond .ne 62, 24, 83, 0, 0, 0), (24, .aload_n 0, 25, 0, 0, 0, 0), (25, .getfield 36, 28, 6, 4, 0, 0), (28, .aload_n 0, 29, 0, 0, 0, 0), (29, .getfield 22, 32, 6, 2, 0, 0), (32, .iload_n 2, 33, 2, 0, 0, 0), (33, .aaload, 34, 0, 0, 0, 0), (34, .aload_n 0, 35, 0, 0, 0, 0), (35, .getfield 10, 38, 6, 0, 0, 0), (38, .invokevirtual 239, 41, 18, 0, 3, 0), (41, .aload_n 0, 42, 0, 0, 0, 0), (42, .getfield 36, 45, 6, 4, 0, 0), (45, .aload_n 0, 46, 0, 0, 0, 0), (46, .getfield 27, 49, 6, 3, 0, 0), (49, .iload_n 2, 50, 2, 0, 0, 0), (50, .aaload, 51, 0, 0, 0, 0), (51, .invokestatic 243, 54, 30, 1, 2, 0), (54, .aload_n 0, 55, 0, 0, 0, 0), (55, .getfield 43, 58, 6, 5, 0, 0), (58, .aload_n 0, 59, 0, 0, 0, 0), (59, .getfield 36, 62, 6, 4, 0, 0), (62, .aload_n 0, 63, 0, 0, 0, 0), (63, .getfield 27, 66, 6, 3, 0, 0), (66, .iload_n 2, 67, 2, 0, 0, 0), (67, .aaload, 68, 0, 0, 0, 0), (68, .invokevirtual 249, 71, 37, 0, 3, 0), (71, .iload_n 1, 72, 1, 0, 0, 0), (72, .aload_n 0, 73, 0, 0, 0, 0), (73, .getfield 27, 76, 6, 3, 0, 0), (76, .iload_n 2, 77, 2, 0, 0, 0), (77, .aaload, 78, 0, 0, 0, 0), (78, .invokevirtual 203, 81, 58, 0, 1, 0), (81, .iadd, 82, 0, 0, 0, 0), (82, .istore_n 1, 83, 1, 0, 0, 0), (83, .iinc 2 1, 86, 2, 0, 0, 1), (86, .goto (-82), 89, 4, 0, 0, 0), (89, .iload_n 1, 90, 1, 0, 0, 0)]
def tb_90_1 : List (Nat × En) := [(90, .ireturn, 91, 0, 0, 0, 0)]
def tb_90 : List (Nat × En) := tb_90_0 ++ (tb_90_1)
def tb_91_0 : List (Nat × En) := [(0, .aload_n 0, 1, 0, 0, 0, 0), (1, .getfield 62, 4, 6, 9, 0, 0), (4, .aload_n 0, 5, 0, 0, 0, 0), (5, .getfield 58, 8, 6, 8, 0, 0), (8, .getfield 108, 11, 4, 5, 0, 0), (11, .invokevirtual 250, 14, 50, 0, 2, 0), (14, .iconst 0, 15, 0, 0, 0, 0), (15, .istore_n 1, 16, 1, 0, 0, 0), (16, .iconst 0, 17, 0, 0, 0, 0), (17, .istore_n 2, 18, 2, 0, 0, 0), (18, .iconst 0, 19, 0, 0, 0, 0), (19, .istore_n 3, 20, 3, 0, 0, 0), (20, .iload_n 3, 21, 3, 0, 0, 0), (21, .bipush 100, 23, 0, 0, 0, 100), (23, .if_icmp .ge 139, 26, 162, 0, 0, 0), (26, .aload_n 0, 27, 0, 0, 0, 0), (27, .getfield 22, 30, 6, 2, 0, 0), (30, .iload_n 2, 31, 2, 0, 0, 0), (31, .aaload, 32, 0, 0, 0, 0), (32, .astore 4, 34, 4, 0, 0, 0), (34, .aload 4, 36, 4, 0, 0, 0), (36, .getfield 175, 39, 0, 0, 0, 0), (39, .iconst 3, 40, 0, 0, 0, 3), (40, .if_icmp .ne 23, 43, 63, 0, 0, 0), (43, .aload_n 0, 44, 0, 0, 0, 0), (44, .getfield 62, 47, 6, 9, 0, 0), (47, .getfield 156, 50, 4, 4, 0, 0), (50, .aload 4, 52, 4, 0, 0, 0), (52, .getfield 212, 55, 0, 1, 0, 0), (55, .iaload, 56, 0, 0, 0, 0), (56, .iconst 0, 57, 0, 0, 0, 0), (57, .invokestatic 253, 60, 164, 1, 2, 0), (60, .goto 4, 63, 64, 0, 0, 0), (63, .iconst 1, 64, 0, 0, 0, 1), (64, .istore 5, 66, 5, 0, 0, 0), (66, .aload_n 0, 67, 0, 0, 0, 0), (67, .getfield 62, 70, 6, 9, 0, 0), (70, .iload 5, 72, 5, 0, 0, 0), (72, .invokevirtual 259, 75, 51, 0, 2, 0), (75, .ifCond .ne 5, 78, 80, 0, 0, 0), (78, .iconst (-1), 79, 0, 0, 0, (-1)), (79, .ireturn, 80, 0, 0, 0, 0), (80, .iload_n 1, 81, 1, 0, 0, 0), (81, .aload_n 0, 82, 0, 0, 0, 0), (82, .aload 4, 84, 4, 0, 0, 0), (84, .aload_n 0, 85, 0, 0, 0, 0), (85, .getfield 27, 88, 6, 3, 0, 0), (88, .iload_n 2, 89, 2, 0, 0, 0), (89, .aaload, 90, 0, 0, 0, 0), (90, .iload 5, 92, 5, 0, 0, 0)]
def tb_91_1 : List (Nat × En) := [(92, .invokevirtual 262, 95, 92, 0, 4, 0), (95, .iadd, 96, 0, 0, 0, 0), (96, .istore_n 1, 97, 1, 0, 0, 0), (97, .aload_n 0, 98, 0, 0, 0, 0), (98, .getfield 62, 101, 6, 9, 0, 0), (101, .getfield 147, 104, 4, 2, 0, 0), (104, .ifCond .ne 11, 107, 115, 0, 0, 0), (107, .aload 4, 109, 4, 0, 0, 0), (109, .getfield 175, 112, 0, 0, 0, 0), (112, .ifCond .ne 5, 115, 117, 0, 0, 0), (115, .iload_n 1, 116, 1, 0, 0, 0), (116, .ireturn, 117, 0, 0, 0, 0), (117, .aload 4, 119, 4, 0, 0, 0), (119, .getfield 175, 122, 0, 0, 0, 0), (122, .iconst 2, 123, 0, 0, 0, 2), (123, .if_icmp .ne 27, 126, 150, 0, 0, 0), (126, .aload_n 0, 127, 0, 0, 0, 0), (127, .getfield 62, 130, 6, 9, 0, 0), (130, .getfield 156, 133, 4, 4, 0, 0), (133, .aload 4, 135, 4, 0, 0, 0), (135, .getfield 212, 138, 0, 1, 0, 0), (138, .iaload, 139, 0, 0, 0, 0), (139, .ifCond .ne 11, 142, 150, 0, 0, 0), (142, .aload 4, 144, 4, 0, 0, 0), (144, .getfield 218, 147, 0, 3, 0, 0), (147, .goto 8, 150, 155, 0, 0, 0), (150, .aload 4, 152, 4, 0, 0, 0), (152, .getfield 178, 155, 0, 2, 0, 0), (155, .istore_n 2, 156, 2, 0, 0, 0), (156, .iinc 3 1, 159, 3, 0, 0, 1), (159, .goto (-139), 162, 20, 0, 0, 0), (162, .iconst (-1), 163, 0, 0, 0, (-1)), (163, .ireturn, 164, 0, 0, 0, 0)]
def tb_91 : List (Nat × En) := tb_91_0 ++ (tb_91_1)
def tb_92 : List (Nat × En) := [(0, .iconst 0, 1, 0, 0, 0, 0), (1, .istore 4, 3, 4, 0, 0, 0), (3, .iload 4, 5, 4, 0, 0, 0), (5, .iload_n 3, 6, 3, 0, 0, 0), (6, .if_icmp .ge 56, 9, 62, 0, 0, 0), (9, .iconst 0, 10, 0, 0, 0, 0), (10, .istore 5, 12, 5, 0, 0, 0), (12, .iload 5, 14, 5, 0, 0, 0), (14, .aload_n 1, 15, 1, 0, 0, 0), (15, .getfield 101, 18, 0, 4, 0, 0), (18, .if_icmp .ge 38, 21, 56, 0, 0, 0), (21, .aload_n 0, 22, 0, 0, 0, 0), (22, .getfield 62, 25, 6, 9, 0, 0), (25, .aload_n 1, 26, 1, 0, 0, 0), (26, .iload 5, 28, 5, 0, 0, 0), (28, .invokevirtual 266, 31, 52, 0, 3, 0), (31, .aload_n 0, 32, 0, 0, 0, 0), (32, .getfield 62, 35, 6, 9, 0, 0), (35, .getfield 147, 38, 4, 2, 0, 0), (38, .ifCond .eq 12, 41, 50, 0, 0, 0), (41, .aload_n 2, 42, 2, 0, 0, 0), (42, .iload 4, 44, 4, 0, 0, 0), (44, .iload 5, 46, 5, 0, 0, 0), (46, .invokevirtual 269, 49, 60, 0, 3, 0), (49, .ireturn, 50, 0, 0, 0, 0), (50, .iinc 5 1, 53, 5, 0, 0, 1), (53, .goto (-41), 56, 12, 0, 0, 0), (56, .iinc 4 1, 59, 4, 0, 0, 1), (59, .goto (-56), 62, 3, 0, 0, 0), (62, .aload_n 2, 63, 2, 0, 0, 0), (63, .iload_n 3, 64, 3, 0, 0, 0), (64, .invokevirtual 272, 67, 59, 0, 2, 0), (67, .ireturn, 68, 0, 0, 0, 0)]
def tb_93_0 : List (Nat × En) := [(0, .aload_n 0, 1, 0, 0, 0, 0), (1, .invokespecial 1, 4, 0, 9, 0, 0), (4, .aload_n 0, 5, 0, 0, 0, 0), (5, .iconst 2, 6, 0, 0, 0, 2), (6, .putfield 7, 9, 7, 1, 0, 0), (9, .aload_n 0, 10, 0, 0, 0, 0), (10, .iconst 1, 11, 0, 0, 0, 1), (11, .putfield 13, 14, 7, 2, 0, 0), (14, .aload_n 0, 15, 0, 0, 0, 0), (15, .iconst 1, 16, 0, 0, 0, 1), (16, .putfield 16, 19, 7, 3, 0, 0), (19, .aload_n 0, 20, 0, 0, 0, 0), (20, .iconst 3, 21, 0, 0, 0, 3), (21, .putfield 19, 24, 7, 4, 0, 0), (24, .aload_n 0, 25, 0, 0, 0, 0), (25, .bipush 8, 27, 0, 0, 0, 8), (27, .putfield 22, 30, 7, 5, 0, 0), (30, .aload_n 0, 31, 0, 0, 0, 0), (31, .iconst 2, 32, 0, 0, 0, 2), (32, .putfield 25, 35, 7, 6, 0, 0), (35, .aload_n 0, 36, 0, 0, 0, 0), (36, .bipush 6, 38, 0, 0, 0, 6), (38, .newarray .int, 40, 20, 0, 0, 0), (40, .putfield 28, 43, 7, 8, 0, 0), (43, .aload_n 0, 44, 0, 0, 0, 0), (44, .bipush 6, 46, 0, 0, 0, 6), (46, .newarray .int, 48, 20, 0, 0, 0), (48, .putfield 32, 51, 7, 9, 0, 0), (51, .aload_n 0, 52, 0, 0, 0, 0), (52, .bipush 6, 54, 0, 0, 0, 6), (54, .newarray .int, 56, 20, 0, 0, 0), (56, .putfield 35, 59, 7, 10, 0, 0), (59, .aload_n 0, 60, 0, 0, 0, 0), (60, .bipush 6, 62, 0, 0, 0, 6), (62, .newarray .int, 64, 20, 0, 0, 0), (64, .putfield 38, 67, 7, 11, 0, 0), (67, .aload_n 0, 68, 0, 0, 0, 0), (68, .bipush 6, 70, 0, 0, 0, 6), (70, .newarray .int, 72, 20, 0, 0, 0), (72, .putfield 41, 75, 7, 12, 0, 0), (75, .aload_n 0, 76, 0, 0, 0, 0), (76, .bipush 60, 78, 0, 0, 0, 60), (78, .newarray .int, 80, 20, 0, 0, 0), (80, .putfield 44, 83, 7, 13, 0, 0), (83, .aload_n 0, 84, 0, 0, 0, 0), (84, .bipush 60, 86, 0, 0, 0, 60), (86, .newarray .int, 88, 20, 0, 0, 0), (88, .putfield 47, 91, 7, 14, 0, 0), (91, .aload_n 0, 92, 0, 0, 0, 0), (92, .bipush 60, 94, 0, 0, 0, 60)]
def tb_93_1 : List (Nat × En) := [(94, .newarray .int, 96, 20, 0, 0, 0), (96, .putfield 50, 99, 7, 15, 0, 0), (99, .aload_n 0, 100, 0, 0, 0, 0), (100, .bipush 60, 102, 0, 0, 0, 60), (102, .newarray .int, 104, 20, 0, 0, 0), (104, .putfield 53, 107, 7, 16, 0, 0), (107, .aload_n 0, 108, 0, 0, 0, 0), (108, .bipush 60, 110, 0, 0, 0, 60), (110, .newarray .int, 112, 20, 0, 0, 0), (112, .putfield 56, 115, 7, 17, 0, 0), (115, .aload_n 0, 116, 0, 0, 0, 0), (116, .bipush 60, 118, 0, 0, 0, 60), (118, .newarray .int, 120, 20, 0, 0, 0), (120, .putfield 59, 123, 7, 18, 0, 0), (123, .aload_n 0, 124, 0, 0, 0, 0), (124, .bipush 6, 126, 0, 0, 0, 6), (126, .newarray .boolean, 128, 21, 0, 0, 0), (128, .putfield 62, 131, 7, 21, 0, 0), (131, .aload_n 0, 132, 0, 0, 0, 0), (132, .bipush 6, 134, 0, 0, 0, 6), (134, .newarray .int, 136, 20, 0, 0, 0), (136, .putfield 66, 139, 7, 22, 0, 0), (139, .aload_n 0, 140, 0, 0, 0, 0), (140, .bipush 6, 142, 0, 0, 0, 6), (142, .newarray .int, 144, 20, 0, 0, 0), (144, .putfield 69, 147, 7, 23, 0, 0), (147, .aload_n 0, 148, 0, 0, 0, 0), (148, .bipush 6, 150, 0, 0, 0, 6), (150, .newarray .int, 152, 20, 0, 0, 0), (152, .putfield 72, 155, 7, 24, 0, 0), (155, .aload_n 0, 156, 0, 0, 0, 0), (156, .bipush 6, 158, 0, 0, 0, 6), (158, .newarray .int, 160, 20, 0, 0, 0), (160, .putfield 75, 163, 7, 25, 0, 0), (163, .aload_n 0, 164, 0, 0, 0, 0), (164, .bipush 6, 166, 0, 0, 0, 6), (166, .newarray .int, 168, 20, 0, 0, 0), (168, .putfield 78, 171, 7, 26, 0, 0), (171, .aload_n 0, 172, 0, 0, 0, 0), (172, .bipush 60, 174, 0, 0, 0, 60), (174, .newarray .int, 176, 20, 0, 0, 0), (176, .putfield 81, 179, 7, 27, 0, 0), (179, .aload_n 0, 180, 0, 0, 0, 0), (180, .bipush 60, 182, 0, 0, 0, 60), (182, .newarray .int, 184, 20, 0, 0, 0), (184, .putfield 84, 187, 7, 28, 0, 0), (187, .aload_n 0, 188, 0, 0, 0, 0), (188, .bipush 60, 190, 0, 0, 0, 60), (190, .newarray .int, 192, 20, 0, 0, 0), (192, .putfield 87, 195, 7, 29, 0, 0)]
def tb_93_2 : List (Nat × En) := [(195, .aload_n 0, 196, 0, 0, 0, 0), (196, .bipush 60, 198, 0, 0, 0, 60), (198, .newarray .int, 200, 20, 0, 0, 0), (200, .putfield 90, 203, 7, 30, 0, 0), (203, .aload_n 0, 204, 0, 0, 0, 0), (204, .bipush 60, 206, 0, 0, 0, 60), (206, .newarray .int, 208, 20, 0, 0, 0), (208, .putfield 93, 211, 7, 31, 0, 0), (211, .aload_n 0, 212, 0, 0, 0, 0), (212, .bipush 60, 214, 0, 0, 0, 60), (214, .newarray .int, 216, 20, 0, 0, 0), (216, .putfield 96, 219, 7, 32, 0, 0), (219, .aload_n 0, 220, 0, 0, 0, 0), (220, .bipush 60, 222, 0, 0, 0, 60), (222, .newarray .int, 224, 20, 0, 0, 0), (224, .putfield 99, 227, 7, 33, 0, 0), (227, .aload_n 0, 228, 0, 0, 0, 0), (228, .bipush 60, 230, 0, 0, 0, 60), (230, .newarray .int, 232, 20, 0, 0, 0), (232, .putfield 102, 235, 7, 34, 0, 0), (235, .aload_n 0, 236, 0, 0, 0, 0), (236, .bipush 60, 238, 0, 0, 0, 60), (238, .newarray .int, 240, 20, 0, 0, 0), (240, .putfield 105, 243, 7, 35, 0, 0), (243, .aload_n 0, 244, 0, 0, 0, 0), (244, .bipush 6, 246, 0, 0, 0, 6), (246, .newarray .int, 248, 20, 0, 0, 0), (248, .putfield 108, 251, 7, 36, 0, 0), (251, .aload_n 0, 252, 0, 0, 0, 0), (252, .bipush 6, 254, 0, 0, 0, 6), (254, .newarray .int, 256, 20, 0, 0, 0), (256, .putfield 111, 259, 7, 37, 0, 0), (259, .aload_n 0, 260, 0, 0, 0, 0), (260, .bipush 6, 262, 0, 0, 0, 6), (262, .newarray .int, 264, 20, 0, 0, 0), (264, .putfield 114, 267, 7, 38, 0, 0), (267, .aload_n 0, 268, 0, 0, 0, 0), (268, .bipush 6, 270, 0, 0, 0, 6), (270, .newarray .int, 272, 20, 0, 0, 0), (272, .putfield 117, 275, 7, 39, 0, 0), (275, .aload_n 0, 276, 0, 0, 0, 0), (276, .bipush 100, 278, 0, 0, 0, 100), (278, .newarray .int, 280, 20, 0, 0, 0), (280, .putfield 120, 283, 7, 40, 0, 0), (283, .aload_n 0, 284, 0, 0, 0, 0), (284, .bipush 100, 286, 0, 0, 0, 100), (286, .newarray .int, 288, 20, 0, 0, 0), (288, .putfield 123, 291, 7, 41, 0, 0), (291, .aload_n 0, 292, 0, 0, 0, 0), (292, .bipush 100, 294, 0, 0, 0, 100)]
def tb_93_3 : List (Nat × En) := [(294, .newarray .int, 296, 20, 0, 0, 0), (296, .putfield 126, 299, 7, 42, 0, 0), (299, .aload_n 0, 300, 0, 0, 0, 0), (300, .bipush 100, 302, 0, 0, 0, 100), (302, .newarray .int, 304, 20, 0, 0, 0), (304, .putfield 129, 307, 7, 43, 0, 0), (307, .aload_n 0, 308, 0, 0, 0, 0), (308, .bipush 10, 310, 0, 0, 0, 10), (310, .newarray .int, 312, 20, 0, 0, 0), (312, .putfield 132, 315, 7, 44, 0, 0), (315, .aload_n 0, 316, 0, 0, 0, 0), (316, .bipush 10, 318, 0, 0, 0, 10), (318, .newarray .int, 320, 20, 0, 0, 0), (320, .putfield 135, 323, 7, 45, 0, 0), (323, .aload_n 0, 324, 0, 0, 0, 0), (324, .bipush 10, 326, 0, 0, 0, 10), (326, .newarray .int, 328, 20, 0, 0, 0), (328, .putfield 138, 331, 7, 46, 0, 0), (331, .aload_n 0, 332, 0, 0, 0, 0), (332, .bipush 64, 334, 0, 0, 0, 64), (334, .newarray .int, 336, 20, 0, 0, 0), (336, .putfield 141, 339, 7, 47, 0, 0), (339, .aload_n 0, 340, 0, 0, 0, 0), (340, .bipush 64, 342, 0, 0, 0, 64), (342, .newarray .int, 344, 20, 0, 0, 0), (344, .putfield 144, 347, 7, 48, 0, 0), (347, .aload_n 0, 348, 0, 0, 0, 0), (348, .bipush 12, 350, 0, 0, 0, 12), (350, .newarray .int, 352, 20, 0, 0, 0), (352, .putfield 147, 355, 7, 49, 0, 0), (355, .aload_n 0, 356, 0, 0, 0, 0), (356, .bipush 12, 358, 0, 0, 0, 12), (358, .newarray .int, 360, 20, 0, 0, 0), (360, .putfield 150, 363, 7, 50, 0, 0), (363, .aload_n 0, 364, 0, 0, 0, 0), (364, .bipush 64, 366, 0, 0, 0, 64), (366, .newarray .int, 368, 20, 0, 0, 0), (368, .putfield 153, 371, 7, 51, 0, 0), (371, .aload_n 0, 372, 0, 0, 0, 0), (372, .bipush 64, 374, 0, 0, 0, 64), (374, .newarray .int, 376, 20, 0, 0, 0), (376, .putfield 156, 379, 7, 52, 0, 0), (379, .return_, 380, 0, 0, 0, 0)]
def tb_93 : List (Nat × En) := tb_93_0 ++ (tb_93_1 ++ (tb_93_2 ++ (tb_93_3)))
def tb_94 : List (Nat × En) := [(0, .aload_n 0, 1, 0, 0, 0, 0), (1, .getfield 159, 4, 7, 0, 0, 0), (4, .ireturn, 5, 0, 0, 0, 0)]
def tb_95 : List (Nat × En) := [(0, .iload_n 0, 1, 0, 0, 0, 0), (1, .iload_n 1, 2, 1, 0, 0, 0), (2, .if_icmp .lt 8, 5, 10, 0, 0, 0), (5, .iload_n 0, 6, 0, 0, 0, 0), (6, .iload_n 2, 7, 2, 0, 0, 0), (7, .if_icmp .le 7, 10, 14, 0, 0, 0), (10, .iconst 1, 11, 0, 0, 0, 1), (11, .goto 4, 14, 15, 0, 0, 0), (14, .iconst 0, 15, 0, 0, 0, 0), (15, .ireturn, 16, 0, 0, 0, 0)]
def tb_96 : List (Nat × En) := [(0, .iload_n 0, 1, 0, 0, 0, 0), (1, .iconst 1, 2, 0, 0, 0, 1), (2, .bipush 8, 4, 0, 0, 0, 8), (4, .invokestatic 162, 7, 95, 1, 3, 0), (7, .ifCond .ne 7, 10, 14, 0, 0, 0), (10, .iconst 1, 11, 0, 0, 0, 1), (11, .goto 4, 14, 15, 0, 0, 0), (14, .iconst 0, 15, 0, 0, 0, 0), (15, .ireturn, 16, 0, 0, 0, 0)]
def tb_97_0 : List (Nat × En) := [(0, .aload_n 0, 1, 0, 0, 0, 0), (1, .iload_n 1, 2, 1, 0, 0, 0), (2, .iconst 1, 3, 0, 0, 0, 1), (3, .iconst 4, 4, 0, 0, 0, 4), (4, .invokestatic 162, 7, 95, 1, 3, 0), (7, .ifCond .ne 43, 10, 50, 0, 0, 0), (10, .iload_n 2, 11, 2, 0, 0, 0), (11, .iconst 1, 12, 0, 0, 0, 1), (12, .iconst 2, 13, 0, 0, 0, 2), (13, .invokestatic 162, 16, 95, 1, 3, 0), (16, .ifCond .ne 34, 19, 50, 0, 0, 0), (19, .iload_n 3, 20, 3, 0, 0, 0), (20, .invokestatic 166, 23, 96, 1, 1, 0), (23, .ifCond .eq 27, 26, 50, 0, 0, 0), (26, .iload 4, 28, 4, 0, 0, 0), (28, .invokestatic 166, 31, 96, 1, 1, 0), (31, .ifCond .eq 19, 34, 50, 0, 0, 0), (34, .iload 5, 36, 5, 0, 0, 0), (36, .invokestatic 166, 39, 96, 1, 1, 0), (39, .ifCond .eq 11, 42, 50, 0, 0, 0), (42, .iload 6, 44, 6, 0, 0, 0), (44, .invokestatic 166, 47, 96, 1, 1, 0), (47, .ifCond .ne 7, 50, 54, 0, 0, 0), (50, .iconst 1, 51, 0, 0, 0, 1), (51, .goto 4, 54, 55, 0, 0, 0), (54, .iconst 0, 55, 0, 0, 0, 0), (55, .putfield 159, 58, 7, 0, 0, 0), (58, .aload_n 0, 59, 0, 0, 0, 0), (59, .getfield 159, 62, 7, 0, 0, 0), (62, .ifCond .le 4, 65, 66, 0, 0, 0), (65, .return_, 66, 0, 0, 0, 0), (66, .aload_n 0, 67, 0, 0, 0, 0), (67, .iload_n 1, 68, 1, 0, 0, 0), (68, .putfield 7, 71, 7, 1, 0, 0), (71, .aload_n 0, 72, 0, 0, 0, 0), (72, .iload_n 2, 73, 2, 0, 0, 0), (73, .putfield 13, 76, 7, 2, 0, 0), (76, .aload_n 0, 77, 0, 0, 0, 0), (77, .iload_n 3, 78, 3, 0, 0, 0), (78, .putfield 16, 81, 7, 3, 0, 0), (81, .aload_n 0, 82, 0, 0, 0, 0), (82, .iload 4, 84, 4, 0, 0, 0), (84, .putfield 19, 87, 7, 4, 0, 0), (87, .aload_n 0, 88, 0, 0, 0, 0), (88, .iload 5, 90, 5, 0, 0, 0), (90, .putfield 22, 93, 7, 5, 0, 0), (93, .aload_n 0, 94, 0, 0, 0, 0), (94, .iload 6, 96, 6, 0, 0, 0), (96, .putfield 25, 99, 7, 6, 0, 0), (99, .aload_n 0, 100, 0, 0, 0, 0)]
def tb_97_1 : List (Nat × En) := [(100, .iconst 0, 101, 0, 0, 0, 0), (101, .putfield 170, 104, 7, 19, 0, 0), (104, .return_, 105, 0, 0, 0, 0)]
def tb_97 : List (Nat × En) := tb_97_0 ++ (tb_97_1)
def tb_98_0 : List (Nat × En) := [(0, .iload_n 1, 1, 1, 0, 0, 0), (1, .iconst 0, 2, 0, 0, 0, 0), (2, .iconst 3, 3, 0, 0, 0, 3), (3, .invokestatic 162, 6, 95, 1, 3, 0), (6, .ifCond .ne 32, 9, 38, 0, 0, 0), (9, .iload_n 2, 10, 2, 0, 0, 0), (10, .iconst 0, 11, 0, 0, 0, 0), (11, .bipush 11, 13, 0, 0, 0, 11), (13, .invokestatic 162, 16, 95, 1, 3, 0), (16, .ifCond .ne 22, 19, 38, 0, 0, 0), (19, .iload_n 3, 20, 3, 0, 0, 0), (20, .iconst 0, 21, 0, 0, 0, 0), (21, .iconst 5, 22, 0, 0, 0, 5), (22, .invokestatic 162, 25, 95, 1, 3, 0), (25, .ifCond .ne 13, 28, 38, 0, 0, 0), (28, .iload 4, 30, 4, 0, 0, 0), (30, .iconst 0, 31, 0, 0, 0, 0), (31, .iconst 5, 32, 0, 0, 0, 5), (32, .invokestatic 162, 35, 95, 1, 3, 0), (35, .ifCond .eq 7, 38, 42, 0, 0, 0), (38, .iconst 1, 39, 0, 0, 0, 1), (39, .goto 4, 42, 43, 0, 0, 0), (42, .iconst 0, 43, 0, 0, 0, 0), (43, .istore 5, 45, 5, 0, 0, 0), (45, .aload_n 0, 46, 0, 0, 0, 0), (46, .iload 5, 48, 5, 0, 0, 0), (48, .ifCond .eq 7, 51, 55, 0, 0, 0), (51, .iconst 1, 52, 0, 0, 0, 1), (52, .goto 17, 55, 69, 0, 0, 0), (55, .aload_n 0, 56, 0, 0, 0, 0), (56, .getfield 174, 59, 7, 7, 0, 0), (59, .bipush 6, 61, 0, 0, 0, 6), (61, .if_icmp .ne 7, 64, 68, 0, 0, 0), (64, .iconst 2, 65, 0, 0, 0, 2), (65, .goto 4, 68, 69, 0, 0, 0), (68, .iconst 0, 69, 0, 0, 0, 0), (69, .putfield 159, 72, 7, 0, 0, 0), (72, .aload_n 0, 73, 0, 0, 0, 0), (73, .getfield 159, 76, 7, 0, 0, 0), (76, .ifCond .le 5, 79, 81, 0, 0, 0), (79, .iconst 0, 80, 0, 0, 0, 0), (80, .ireturn, 81, 0, 0, 0, 0), (81, .aload_n 0, 82, 0, 0, 0, 0), (82, .getfield 28, 85, 7, 8, 0, 0), (85, .aload_n 0, 86, 0, 0, 0, 0), (86, .getfield 174, 89, 7, 7, 0, 0), (89, .iload_n 1, 90, 1, 0, 0, 0), (90, .iastore, 91, 0, 0, 0, 0), (91, .aload_n 0, 92, 0, 0, 0, 0), (92, .getfield 32, 95, 7, 9, 0, 0)]
def tb_98_1 : List (Nat × En) := [(95, .aload_n 0, 96, 0, 0, 0, 0), (96, .getfield 174, 99, 7, 7, 0, 0), (99, .iload_n 2, 100, 2, 0, 0, 0), (100, .iastore, 101, 0, 0, 0, 0), (101, .aload_n 0, 102, 0, 0, 0, 0), (102, .getfield 35, 105, 7, 10, 0, 0), (105, .aload_n 0, 106, 0, 0, 0, 0), (106, .getfield 174, 109, 7, 7, 0, 0), (109, .iload_n 3, 110, 3, 0, 0, 0), (110, .iastore, 111, 0, 0, 0, 0), (111, .aload_n 0, 112, 0, 0, 0, 0), (112, .getfield 38, 115, 7, 11, 0, 0), (115, .aload_n 0, 116, 0, 0, 0, 0), (116, .getfield 174, 119, 7, 7, 0, 0), (119, .iload 4, 121, 4, 0, 0, 0), (121, .iastore, 122, 0, 0, 0, 0), (122, .aload_n 0, 123, 0, 0, 0, 0), (123, .getfield 41, 126, 7, 12, 0, 0), (126, .aload_n 0, 127, 0, 0, 0, 0), (127, .getfield 174, 130, 7, 7, 0, 0), (130, .iconst 0, 131, 0, 0, 0, 0), (131, .iastore, 132, 0, 0, 0, 0), (132, .aload_n 0, 133, 0, 0, 0, 0), (133, .dup, 134, 0, 0, 0, 0), (134, .getfield 174, 137, 7, 7, 0, 0), (137, .iconst 1, 138, 0, 0, 0, 1), (138, .iadd, 139, 0, 0, 0, 0), (139, .putfield 174, 142, 7, 7, 0, 0), (142, .aload_n 0, 143, 0, 0, 0, 0), (143, .iconst 0, 144, 0, 0, 0, 0), (144, .putfield 170, 147, 7, 19, 0, 0), (147, .aload_n 0, 148, 0, 0, 0, 0), (148, .getfield 174, 151, 7, 7, 0, 0), (151, .iconst 1, 152, 0, 0, 0, 1), (152, .isub, 153, 0, 0, 0, 0), (153, .ireturn, 154, 0, 0, 0, 0)]
def tb_98 : List (Nat × En) := tb_98_0 ++ (tb_98_1)
def tb_99_0 : List (Nat × En) := [(0, .iload_n 1, 1, 1, 0, 0, 0), (1, .iconst 0, 2, 0, 0, 0, 0), (2, .bipush 9, 4, 0, 0, 0, 9), (4, .invokestatic 162, 7, 95, 1, 3, 0), (7, .ifCond .ne 46, 10, 53, 0, 0, 0), (10, .iload_n 2, 11, 2, 0, 0, 0), (11, .iconst 0, 12, 0, 0, 0, 0), (12, .bipush 11, 14, 0, 0, 0, 11), (14, .invokestatic 162, 17, 95, 1, 3, 0), (17, .ifCond .ne 36, 20, 53, 0, 0, 0), (20, .iload_n 3, 21, 3, 0, 0, 0), (21, .iconst 0, 22, 0, 0, 0, 0), (22, .bipush 11, 24, 0, 0, 0, 11), (24, .invokestatic 162, 27, 95, 1, 3, 0), (27, .ifCond .ne 26, 30, 53, 0, 0, 0), (30, .iload 4, 32, 4, 0, 0, 0), (32, .iconst 0, 33, 0, 0, 0, 0), (33, .bipush 11, 35, 0, 0, 0, 11), (35, .invokestatic 162, 38, 95, 1, 3, 0), (38, .ifCond .ne 15, 41, 53, 0, 0, 0), (41, .iload 6, 43, 6, 0, 0, 0), (43, .bipush (-12), 45, 0, 0, 0, (-12)), (45, .bipush 12, 47, 0, 0, 0, 12), (47, .invokestatic 162, 50, 95, 1, 3, 0), (50, .ifCond .eq 7, 53, 57, 0, 0, 0), (53, .iconst 1, 54, 0, 0, 0, 1), (54, .goto 4, 57, 58, 0, 0, 0), (57, .iconst 0, 58, 0, 0, 0, 0), (58, .istore 7, 60, 7, 0, 0, 0), (60, .aload_n 0, 61, 0, 0, 0, 0), (61, .iload 7, 63, 7, 0, 0, 0), (63, .ifCond .eq 7, 66, 70, 0, 0, 0), (66, .iconst 1, 67, 0, 0, 0, 1), (67, .goto 31, 70, 98, 0, 0, 0), (70, .aload_n 0, 71, 0, 0, 0, 0), (71, .getfield 174, 74, 7, 7, 0, 0), (74, .ifCond .eq 19, 77, 93, 0, 0, 0), (77, .aload_n 0, 78, 0, 0, 0, 0), (78, .getfield 41, 81, 7, 12, 0, 0), (81, .aload_n 0, 82, 0, 0, 0, 0), (82, .getfield 174, 85, 7, 7, 0, 0), (85, .iconst 1, 86, 0, 0, 0, 1), (86, .isub, 87, 0, 0, 0, 0), (87, .iaload, 88, 0, 0, 0, 0), (88, .bipush 10, 90, 0, 0, 0, 10), (90, .if_icmp .ne 7, 93, 97, 0, 0, 0), (93, .iconst 2, 94, 0, 0, 0, 2), (94, .goto 4, 97, 98, 0, 0, 0), (97, .iconst 0, 98, 0, 0, 0, 0), (98, .putfield 159, 101, 7, 0, 0, 0)]
def tb_99_1 : List (Nat × En) := [(101, .aload_n 0, 102, 0, 0, 0, 0), (102, .getfield 159, 105, 7, 0, 0, 0), (105, .ifCond .le 5, 108, 110, 0, 0, 0), (108, .iconst 0, 109, 0, 0, 0, 0), (109, .ireturn, 110, 0, 0, 0, 0), (110, .bipush 10, 112, 0, 0, 0, 10), (112, .aload_n 0, 113, 0, 0, 0, 0), (113, .getfield 174, 116, 7, 7, 0, 0), (116, .iconst 1, 117, 0, 0, 0, 1), (117, .isub, 118, 0, 0, 0, 0), (118, .imul, 119, 0, 0, 0, 0), (119, .aload_n 0, 120, 0, 0, 0, 0), (120, .getfield 41, 123, 7, 12, 0, 0), (123, .aload_n 0, 124, 0, 0, 0, 0), (124, .getfield 174, 127, 7, 7, 0, 0), (127, .iconst 1, 128, 0, 0, 0, 1), (128, .isub, 129, 0, 0, 0, 0), (129, .iaload, 130, 0, 0, 0, 0), (130, .iadd, 131, 0, 0, 0, 0), (131, .istore 8, 133, 8, 0, 0, 0), (133, .aload_n 0, 134, 0, 0, 0, 0), (134, .getfield 44, 137, 7, 13, 0, 0), (137, .iload 8, 139, 8, 0, 0, 0), (139, .iload_n 1, 140, 1, 0, 0, 0), (140, .iastore, 141, 0, 0, 0, 0), (141, .aload_n 0, 142, 0, 0, 0, 0), (142, .getfield 47, 145, 7, 14, 0, 0), (145, .iload 8, 147, 8, 0, 0, 0), (147, .iload_n 2, 148, 2, 0, 0, 0), (148, .iastore, 149, 0, 0, 0, 0), (149, .aload_n 0, 150, 0, 0, 0, 0), (150, .getfield 50, 153, 7, 15, 0, 0), (153, .iload 8, 155, 8, 0, 0, 0), (155, .iload_n 3, 156, 3, 0, 0, 0), (156, .iastore, 157, 0, 0, 0, 0), (157, .aload_n 0, 158, 0, 0, 0, 0), (158, .getfield 53, 161, 7, 16, 0, 0), (161, .iload 8, 163, 8, 0, 0, 0), (163, .iload 4, 165, 4, 0, 0, 0), (165, .iastore, 166, 0, 0, 0, 0), (166, .aload_n 0, 167, 0, 0, 0, 0), (167, .getfield 56, 170, 7, 17, 0, 0), (170, .iload 8, 172, 8, 0, 0, 0), (172, .iload 5, 174, 5, 0, 0, 0), (174, .iastore, 175, 0, 0, 0, 0), (175, .aload_n 0, 176, 0, 0, 0, 0), (176, .getfield 59, 179, 7, 18, 0, 0), (179, .iload 8, 181, 8, 0, 0, 0), (181, .iload 6, 183, 6, 0, 0, 0), (183, .iastore, 184, 0, 0, 0, 0)]
def tb_99_2 : List (Nat × En) := [(184, .aload_n 0, 185, 0, 0, 0, 0), (185, .getfield 41, 188, 7, 12, 0, 0), (188, .aload_n 0, 189, 0, 0, 0, 0), (189, .getfield 174, 192, 7, 7, 0, 0), (192, .iconst 1, 193, 0, 0, 0, 1), (193, .isub, 194, 0, 0, 0, 0), (194, .dup2, 195, 0, 0, 0, 0), (195, .iaload, 196, 0, 0, 0, 0), (196, .iconst 1, 197, 0, 0, 0, 1), (197, .iadd, 198, 0, 0, 0, 0), (198, .iastore, 199, 0, 0, 0, 0), (199, .aload_n 0, 200, 0, 0, 0, 0), (200, .iconst 0, 201, 0, 0, 0, 0), (201, .putfield 170, 204, 7, 19, 0, 0), (204, .aload_n 0, 205, 0, 0, 0, 0), (205, .getfield 41, 208, 7, 12, 0, 0), (208, .aload_n 0, 209, 0, 0, 0, 0), (209, .getfield 174, 212, 7, 7, 0, 0), (212, .iconst 1, 213, 0, 0, 0, 1), (213, .isub, 214, 0, 0, 0, 0), (214, .iaload, 215, 0, 0, 0, 0), (215, .iconst 1, 216, 0, 0, 0, 1), (216, .isub, 217, 0, 0, 0, 0), (217, .ireturn, 218, 0, 0, 0, 0)]
def tb_99 : List (Nat × En) := tb_99_0 ++ (tb_99_1 ++ (tb_99_2))
def tb_100 : List (Nat × En) := [(0, .aload_n 0, 1, 0, 0, 0, 0), (1, .iconst 0, 2, 0, 0, 0, 0), (2, .putfield 159, 5, 7, 0, 0, 0), (5, .aload_n 0, 6, 0, 0, 0, 0), (6, .iconst 0, 7, 0, 0, 0, 0), (7, .putfield 174, 10, 7, 7, 0, 0), (10, .aload_n 0, 11, 0, 0, 0, 0), (11, .iconst 0, 12, 0, 0, 0, 0), (12, .putfield 170, 15, 7, 19, 0, 0), (15, .return_, 16, 0, 0, 0, 0)]
def tb_101 : List (Nat × En) := [(0, .aload_n 0, 1, 0, 0, 0, 0), (1, .iconst 0, 2, 0, 0, 0, 0), (2, .putfield 159, 5, 7, 0, 0, 0), (5, .aload_n 0, 6, 0, 0, 0, 0), (6, .getfield 141, 9, 7, 47, 0, 0), (9, .iload_n 1, 10, 1, 0, 0, 0), (10, .bipush 63, 12, 0, 0, 0, 63), (12, .iand, 13, 0, 0, 0, 0), (13, .iload_n 2, 14, 2, 0, 0, 0), (14, .iastore, 15, 0, 0, 0, 0), (15, .return_, 16, 0, 0, 0, 0)]
def tb_102 : List (Nat × En) := [(0, .aload_n 0, 1, 0, 0, 0, 0), (1, .iconst 0, 2, 0, 0, 0, 0), (2, .putfield 159, 5, 7, 0, 0, 0), (5, .aload_n 0, 6, 0, 0, 0, 0), (6, .getfield 141, 9, 7, 47, 0, 0), (9, .iload_n 1, 10, 1, 0, 0, 0), (10, .bipush 63, 12, 0, 0, 0, 63), (12, .iand, 13, 0, 0, 0, 0), (13, .iaload, 14, 0, 0, 0, 0), (14, .ireturn, 15, 0, 0, 0, 0)]
def tb_103 : List (Nat × En) := [(0, .iload_n 0, 1, 0, 0, 0, 0), (1, .ifCond .eq 7, 4, 8, 0, 0, 0), (4, .iconst 1, 5, 0, 0, 0, 1), (5, .goto 4, 8, 9, 0, 0, 0), (8, .iconst 0, 9, 0, 0, 0, 0), (9, .ireturn, 10, 0, 0, 0, 0)]
def tb_104 : List (Nat × En) := [(0, .iload_n 0, 1, 0, 0, 0, 0), (1, .iconst 2, 2, 0, 0, 0, 2), (2, .if_icmp .ne 7, 5, 9, 0, 0, 0), (5, .iconst 1, 6, 0, 0, 0, 1), (6, .goto 4, 9, 10, 0, 0, 0), (9, .iconst 0, 10, 0, 0, 0, 0), (10, .ireturn, 11, 0, 0, 0, 0)]
def tb_105 : List (Nat × En) := [(0, .iload_n 0, 1, 0, 0, 0, 0), (1, .bipush 7, 3, 0, 0, 0, 7), (3, .if_icmp .gt 7, 6, 10, 0, 0, 0), (6, .iconst 1, 7, 0, 0, 0, 1), (7, .goto 4, 10, 11, 0, 0, 0), (10, .iconst 0, 11, 0, 0, 0, 0), (11, .ireturn, 12, 0, 0, 0, 0)]
def tb_106 : List (Nat × En) := [(0, .iconst 0, 1, 0, 0, 0, 0), (1, .istore_n 1, 2, 1, 0, 0, 0), (2, .iconst 0, 3, 0, 0, 0, 0), (3, .istore_n 2, 4, 2, 0, 0, 0), (4, .iload_n 2, 5, 2, 0, 0, 0), (5, .aload_n 0, 6, 0, 0, 0, 0), (6, .getfield 174, 9, 7, 7, 0, 0), (9, .if_icmp .ge 69, 12, 78, 0, 0, 0), (12, .iload_n 1, 13, 1, 0, 0, 0), (13, .ifCond .ne 53, 16, 66, 0, 0, 0), (16, .aload_n 0, 17, 0, 0, 0, 0), (17, .getfield 28, 20, 7, 8, 0, 0), (20, .iload_n 2, 21, 2, 0, 0, 0), (21, .iaload, 22, 0, 0, 0, 0), (22, .invokestatic 177, 25, 103, 1, 1, 0), (25, .ifCond .eq 16, 28, 41, 0, 0, 0), (28, .aload_n 0, 29, 0, 0, 0, 0), (29, .getfield 35, 32, 7, 10, 0, 0), (32, .iload_n 2, 33, 2, 0, 0, 0), (33, .iaload, 34, 0, 0, 0, 0), (34, .aload_n 0, 35, 0, 0, 0, 0), (35, .getfield 174, 38, 7, 7, 0, 0), (38, .if_icmp .ge 28, 41, 66, 0, 0, 0), (41, .aload_n 0, 42, 0, 0, 0, 0), (42, .getfield 28, 45, 7, 8, 0, 0), (45, .iload_n 2, 46, 2, 0, 0, 0), (46, .iaload, 47, 0, 0, 0, 0), (47, .invokestatic 180, 50, 104, 1, 1, 0), (50, .ifCond .eq 20, 53, 70, 0, 0, 0), (53, .aload_n 0, 54, 0, 0, 0, 0), (54, .getfield 38, 57, 7, 11, 0, 0), (57, .iload_n 2, 58, 2, 0, 0, 0), (58, .iaload, 59, 0, 0, 0, 0), (59, .aload_n 0, 60, 0, 0, 0, 0), (60, .getfield 174, 63, 7, 7, 0, 0), (63, .if_icmp .lt 7, 66, 70, 0, 0, 0), (66, .iconst 1, 67, 0, 0, 0, 1), (67, .goto 4, 70, 71, 0, 0, 0), (70, .iconst 0, 71, 0, 0, 0, 0), (71, .istore_n 1, 72, 1, 0, 0, 0), (72, .iinc 2 1, 75, 2, 0, 0, 1), (75, .goto (-71), 78, 4, 0, 0, 0), (78, .iload_n 1, 79, 1, 0, 0, 0), (79, .ireturn, 80, 0, 0, 0, 0)]
def tb_107_0 : List (Nat × En) := [(0, .iconst 0, 1, 0, 0, 0, 0), (1, .istore_n 1, 2, 1, 0, 0, 0), (2, .iconst 0, 3, 0, 0, 0, 0), (3, .istore_n 2, 4, 2, 0, 0, 0), (4, .iload_n 2, 5, 2, 0, 0, 0), (5, .aload_n 0, 6, 0, 0, 0, 0), (6, .getfield 174, 9, 7, 7, 0, 0), (9, .if_icmp .ge 82, 12, 91, 0, 0, 0), (12, .bipush 10, 14, 0, 0, 0, 10), (14, .iload_n 2, 15, 2, 0, 0, 0), (15, .imul, 16, 0, 0, 0, 0), (16, .istore_n 3, 17, 3, 0, 0, 0), (17, .iload_n 3, 18, 3, 0, 0, 0), (18, .bipush 10, 20, 0, 0, 0, 10), (20, .iload_n 2, 21, 2, 0, 0, 0), (21, .imul, 22, 0, 0, 0, 0), (22, .aload_n 0, 23, 0, 0, 0, 0), (23, .getfield 41, 26, 7, 12, 0, 0), (26, .iload_n 2, 27, 2, 0, 0, 0), (27, .iaload, 28, 0, 0, 0, 0), (28, .iadd, 29, 0, 0, 0, 0), (29, .if_icmp .ge 56, 32, 85, 0, 0, 0), (32, .iload_n 1, 33, 1, 0, 0, 0), (33, .ifCond .ne 40, 36, 73, 0, 0, 0), (36, .aload_n 0, 37, 0, 0, 0, 0), (37, .getfield 28, 40, 7, 8, 0, 0), (40, .iload_n 2, 41, 2, 0, 0, 0), (41, .iaload, 42, 0, 0, 0, 0), (42, .iconst 3, 43, 0, 0, 0, 3), (43, .if_icmp .ne 34, 46, 77, 0, 0, 0), (46, .aload_n 0, 47, 0, 0, 0, 0), (47, .getfield 44, 50, 7, 13, 0, 0), (50, .iload_n 3, 51, 3, 0, 0, 0), (51, .iaload, 52, 0, 0, 0, 0), (52, .invokestatic 183, 55, 105, 1, 1, 0), (55, .ifCond .eq 22, 58, 77, 0, 0, 0), (58, .aload_n 0, 59, 0, 0, 0, 0), (59, .getfield 47, 62, 7, 14, 0, 0), (62, .iload_n 3, 63, 3, 0, 0, 0), (63, .iaload, 64, 0, 0, 0, 0), (64, .aload_n 0, 65, 0, 0, 0, 0), (65, .getfield 32, 68, 7, 9, 0, 0), (68, .iload_n 2, 69, 2, 0, 0, 0), (69, .iaload, 70, 0, 0, 0, 0), (70, .if_icmp .ne 7, 73, 77, 0, 0, 0), (73, .iconst 1, 74, 0, 0, 0, 1), (74, .goto 4, 77, 78, 0, 0, 0), (77, .iconst 0, 78, 0, 0, 0, 0), (78, .istore_n 1, 79, 1, 0, 0, 0), (79, .iinc 3 1, 82, 3, 0, 0, 1)]
def tb_107_1 : List (Nat × En) := [(82, .goto (-65), 85, 17, 0, 0, 0), (85, .iinc 2 1, 88, 2, 0, 0, 1), (88, .goto (-84), 91, 4, 0, 0, 0), (91, .iload_n 1, 92, 1, 0, 0, 0), (92, .ireturn, 93, 0, 0, 0, 0)]
def tb_107 : List (Nat × En) := tb_107_0 ++ (tb_107_1)
def tb_108_0 : List (Nat × En) := [(0, .aload_n 0, 1, 0, 0, 0, 0), (1, .aload_n 0, 2, 0, 0, 0, 0), (2, .getfield 174, 5, 7, 7, 0, 0), (5, .ifCond .ne 7, 8, 12, 0, 0, 0), (8, .iconst 1, 9, 0, 0, 0, 1), (9, .goto 26, 12, 35, 0, 0, 0), (12, .aload_n 0, 13, 0, 0, 0, 0), (13, .invokevirtual 186, 16, 106, 0, 1, 0), (16, .ifCond .eq 7, 19, 23, 0, 0, 0), (19, .iconst 2, 20, 0, 0, 0, 2), (20, .goto 15, 23, 35, 0, 0, 0), (23, .aload_n 0, 24, 0, 0, 0, 0), (24, .invokevirtual 190, 27, 107, 0, 1, 0), (27, .ifCond .eq 7, 30, 34, 0, 0, 0), (30, .iconst 3, 31, 0, 0, 0, 3), (31, .goto 4, 34, 35, 0, 0, 0), (34, .iconst 0, 35, 0, 0, 0, 0), (35, .putfield 159, 38, 7, 0, 0, 0), (38, .aload_n 0, 39, 0, 0, 0, 0), (39, .getfield 159, 42, 7, 0, 0, 0), (42, .ifCond .le 5, 45, 47, 0, 0, 0), (45, .iconst 0, 46, 0, 0, 0, 0), (46, .ireturn, 47, 0, 0, 0, 0), (47, .aload_n 0, 48, 0, 0, 0, 0), (48, .invokevirtual 193, 51, 109, 0, 1, 0), (51, .iconst 0, 52, 0, 0, 0, 0), (52, .istore_n 1, 53, 1, 0, 0, 0), (53, .iload_n 1, 54, 1, 0, 0, 0), (54, .aload_n 0, 55, 0, 0, 0, 0), (55, .getfield 196, 58, 7, 20, 0, 0), (58, .if_icmp .ge 14, 61, 72, 0, 0, 0), (61, .aload_n 0, 62, 0, 0, 0, 0), (62, .iload_n 1, 63, 1, 0, 0, 0), (63, .invokevirtual 199, 66, 112, 0, 2, 0), (66, .iinc 1 1, 69, 1, 0, 0, 1), (69, .goto (-16), 72, 53, 0, 0, 0), (72, .iconst 0, 73, 0, 0, 0, 0), (73, .istore_n 1, 74, 1, 0, 0, 0), (74, .iconst 0, 75, 0, 0, 0, 0), (75, .istore_n 2, 76, 2, 0, 0, 0), (76, .iload_n 2, 77, 2, 0, 0, 0), (77, .aload_n 0, 78, 0, 0, 0, 0), (78, .getfield 196, 81, 7, 20, 0, 0), (81, .if_icmp .ge 53, 84, 134, 0, 0, 0), (84, .aload_n 0, 85, 0, 0, 0, 0), (85, .getfield 62, 88, 7, 21, 0, 0), (88, .iload_n 2, 89, 2, 0, 0, 0), (89, .baload, 90, 0, 0, 0, 0), (90, .ifCond .eq 6, 93, 96, 0, 0, 0), (93, .goto 35, 96, 128, 0, 0, 0)]
def tb_108_1 : List (Nat × En) := [(96, .aload_n 0, 97, 0, 0, 0, 0), (97, .iload_n 2, 98, 2, 0, 0, 0), (98, .invokevirtual 203, 101, 131, 0, 2, 0), (101, .iload_n 1, 102, 1, 0, 0, 0), (102, .aload_n 0, 103, 0, 0, 0, 0), (103, .getfield 114, 106, 7, 38, 0, 0), (106, .iload_n 2, 107, 2, 0, 0, 0), (107, .iaload, 108, 0, 0, 0, 0), (108, .ifCond .le 12, 111, 120, 0, 0, 0), (111, .aload_n 0, 112, 0, 0, 0, 0), (112, .getfield 114, 115, 7, 38, 0, 0), (115, .iload_n 2, 116, 2, 0, 0, 0), (116, .iaload, 117, 0, 0, 0, 0), (117, .goto 9, 120, 126, 0, 0, 0), (120, .aload_n 0, 121, 0, 0, 0, 0), (121, .getfield 108, 124, 7, 36, 0, 0), (124, .iload_n 2, 125, 2, 0, 0, 0), (125, .iaload, 126, 0, 0, 0, 0), (126, .iadd, 127, 0, 0, 0, 0), (127, .istore_n 1, 128, 1, 0, 0, 0), (128, .iinc 2 1, 131, 2, 0, 0, 1), (131, .goto (-55), 134, 76, 0, 0, 0), (134, .aload_n 0, 135, 0, 0, 0, 0), (135, .iconst 1, 136, 0, 0, 0, 1), (136, .putfield 170, 139, 7, 19, 0, 0), (139, .iload_n 1, 140, 1, 0, 0, 0), (140, .ireturn, 141, 0, 0, 0, 0)]
def tb_108 : List (Nat × En) := tb_108_0 ++ (tb_108_1)
def tb_109_0 : List (Nat × En) := [(0, .aload_n 0, 1, 0, 0, 0, 0), (1, .aload_n 0, 2, 0, 0, 0, 0), (2, .getfield 174, 5, 7, 7, 0, 0), (5, .putfield 196, 8, 7, 20, 0, 0), (8, .iconst 0, 9, 0, 0, 0, 0), (9, .istore_n 1, 10, 1, 0, 0, 0), (10, .iload_n 1, 11, 1, 0, 0, 0), (11, .aload_n 0, 12, 0, 0, 0, 0), (12, .getfield 174, 15, 7, 7, 0, 0), (15, .if_icmp .ge 160, 18, 175, 0, 0, 0), (18, .aload_n 0, 19, 0, 0, 0, 0), (19, .getfield 62, 22, 7, 21, 0, 0), (22, .iload_n 1, 23, 1, 0, 0, 0), (23, .iconst 0, 24, 0, 0, 0, 0), (24, .bastore, 25, 0, 0, 0, 0), (25, .aload_n 0, 26, 0, 0, 0, 0), (26, .getfield 66, 29, 7, 22, 0, 0), (29, .iload_n 1, 30, 1, 0, 0, 0), (30, .aload_n 0, 31, 0, 0, 0, 0), (31, .getfield 28, 34, 7, 8, 0, 0), (34, .iload_n 1, 35, 1, 0, 0, 0), (35, .iaload, 36, 0, 0, 0, 0), (36, .iastore, 37, 0, 0, 0, 0), (37, .aload_n 0, 38, 0, 0, 0, 0), (38, .getfield 69, 41, 7, 23, 0, 0), (41, .iload_n 1, 42, 1, 0, 0, 0), (42, .aload_n 0, 43, 0, 0, 0, 0), (43, .getfield 32, 46, 7, 9, 0, 0), (46, .iload_n 1, 47, 1, 0, 0, 0), (47, .iaload, 48, 0, 0, 0, 0), (48, .iastore, 49, 0, 0, 0, 0), (49, .aload_n 0, 50, 0, 0, 0, 0), (50, .getfield 72, 53, 7, 24, 0, 0), (53, .iload_n 1, 54, 1, 0, 0, 0), (54, .aload_n 0, 55, 0, 0, 0, 0), (55, .getfield 35, 58, 7, 10, 0, 0), (58, .iload_n 1, 59, 1, 0, 0, 0), (59, .iaload, 60, 0, 0, 0, 0), (60, .iastore, 61, 0, 0, 0, 0), (61, .aload_n 0, 62, 0, 0, 0, 0), (62, .getfield 75, 65, 7, 25, 0, 0), (65, .iload_n 1, 66, 1, 0, 0, 0), (66, .aload_n 0, 67, 0, 0, 0, 0), (67, .getfield 38, 70, 7, 11, 0, 0), (70, .iload_n 1, 71, 1, 0, 0, 0), (71, .iaload, 72, 0, 0, 0, 0), (72, .iastore, 73, 0, 0, 0, 0), (73, .aload_n 0, 74, 0, 0, 0, 0), (74, .getfield 78, 77, 7, 26, 0, 0), (77, .iload_n 1, 78, 1, 0, 0, 0)]
def tb_109_1 : List (Nat × En) := [(78, .iconst 0, 79, 0, 0, 0, 0), (79, .iastore, 80, 0, 0, 0, 0), (80, .iconst 0, 81, 0, 0, 0, 0), (81, .istore_n 2, 82, 2, 0, 0, 0), (82, .iload_n 2, 83, 2, 0, 0, 0), (83, .aload_n 0, 84, 0, 0, 0, 0), (84, .getfield 41, 87, 7, 12, 0, 0), (87, .iload_n 1, 88, 1, 0, 0, 0), (88, .iaload, 89, 0, 0, 0, 0), (89, .if_icmp .ge 80, 92, 169, 0, 0, 0), (92, .aload_n 0, 93, 0, 0, 0, 0), (93, .iload_n 1, 94, 1, 0, 0, 0), (94, .aload_n 0, 95, 0, 0, 0, 0), (95, .getfield 44, 98, 7, 13, 0, 0), (98, .bipush 10, 100, 0, 0, 0, 10), (100, .iload_n 1, 101, 1, 0, 0, 0), (101, .imul, 102, 0, 0, 0, 0), (102, .iload_n 2, 103, 2, 0, 0, 0), (103, .iadd, 104, 0, 0, 0, 0), (104, .iaload, 105, 0, 0, 0, 0), (105, .aload_n 0, 106, 0, 0, 0, 0), (106, .getfield 47, 109, 7, 14, 0, 0), (109, .bipush 10, 111, 0, 0, 0, 10), (111, .iload_n 1, 112, 1, 0, 0, 0), (112, .imul, 113, 0, 0, 0, 0), (113, .iload_n 2, 114, 2, 0, 0, 0), (114, .iadd, 115, 0, 0, 0, 0), (115, .iaload, 116, 0, 0, 0, 0), (116, .aload_n 0, 117, 0, 0, 0, 0), (117, .getfield 50, 120, 7, 15, 0, 0), (120, .bipush 10, 122, 0, 0, 0, 10), (122, .iload_n 1, 123, 1, 0, 0, 0), (123, .imul, 124, 0, 0, 0, 0), (124, .iload_n 2, 125, 2, 0, 0, 0), (125, .iadd, 126, 0, 0, 0, 0), (126, .iaload, 127, 0, 0, 0, 0), (127, .aload_n 0, 128, 0, 0, 0, 0), (128, .getfield 53, 131, 7, 16, 0, 0), (131, .bipush 10, 133, 0, 0, 0, 10), (133, .iload_n 1, 134, 1, 0, 0, 0), (134, .imul, 135, 0, 0, 0, 0), (135, .iload_n 2, 136, 2, 0, 0, 0), (136, .iadd, 137, 0, 0, 0, 0), (137, .iaload, 138, 0, 0, 0, 0), (138, .aload_n 0, 139, 0, 0, 0, 0), (139, .getfield 56, 142, 7, 17, 0, 0), (142, .bipush 10, 144, 0, 0, 0, 10), (144, .iload_n 1, 145, 1, 0, 0, 0), (145, .imul, 146, 0, 0, 0, 0), (146, .iload_n 2, 147, 2, 0, 0, 0)]
def tb_109_2 : List (Nat × En) := [(147, .iadd, 148, 0, 0, 0, 0), (148, .iaload, 149, 0, 0, 0, 0), (149, .aload_n 0, 150, 0, 0, 0, 0), (150, .getfield 59, 153, 7, 18, 0, 0), (153, .bipush 10, 155, 0, 0, 0, 10), (155, .iload_n 1, 156, 1, 0, 0, 0), (156, .imul, 157, 0, 0, 0, 0), (157, .iload_n 2, 158, 2, 0, 0, 0), (158, .iadd, 159, 0, 0, 0, 0), (159, .iaload, 160, 0, 0, 0, 0), (160, .invokevirtual 206, 163, 110, 0, 8, 0), (163, .iinc 2 1, 166, 2, 0, 0, 1), (166, .goto (-84), 169, 82, 0, 0, 0), (169, .iinc 1 1, 172, 1, 0, 0, 1), (172, .goto (-162), 175, 10, 0, 0, 0), (175, .return_, 176, 0, 0, 0, 0)]
def tb_109 : List (Nat × En) := tb_109_0 ++ (tb_109_1 ++ (tb_109_2))
def tb_110 : List (Nat × En) := [(0, .bipush 10, 2, 0, 0, 0, 10), (2, .iload_n 1, 3, 1, 0, 0, 0), (3, .imul, 4, 0, 0, 0, 0), (4, .aload_n 0, 5, 0, 0, 0, 0), (5, .getfield 78, 8, 7, 26, 0, 0), (8, .iload_n 1, 9, 1, 0, 0, 0), (9, .iaload, 10, 0, 0, 0, 0), (10, .iadd, 11, 0, 0, 0, 0), (11, .istore 8, 13, 8, 0, 0, 0), (13, .aload_n 0, 14, 0, 0, 0, 0), (14, .getfield 81, 17, 7, 27, 0, 0), (17, .iload 8, 19, 8, 0, 0, 0), (19, .iload_n 2, 20, 2, 0, 0, 0), (20, .iastore, 21, 0, 0, 0, 0), (21, .aload_n 0, 22, 0, 0, 0, 0), (22, .getfield 84, 25, 7, 28, 0, 0), (25, .iload 8, 27, 8, 0, 0, 0), (27, .iload_n 3, 28, 3, 0, 0, 0), (28, .iastore, 29, 0, 0, 0, 0), (29, .aload_n 0, 30, 0, 0, 0, 0), (30, .getfield 87, 33, 7, 29, 0, 0), (33, .iload 8, 35, 8, 0, 0, 0), (35, .iload 4, 37, 4, 0, 0, 0), (37, .iastore, 38, 0, 0, 0, 0), (38, .aload_n 0, 39, 0, 0, 0, 0), (39, .getfield 90, 42, 7, 30, 0, 0), (42, .iload 8, 44, 8, 0, 0, 0), (44, .iload 5, 46, 5, 0, 0, 0), (46, .iastore, 47, 0, 0, 0, 0), (47, .aload_n 0, 48, 0, 0, 0, 0), (48, .getfield 93, 51, 7, 31, 0, 0), (51, .iload 8, 53, 8, 0, 0, 0), (53, .iload 6, 55, 6, 0, 0, 0), (55, .iastore, 56, 0, 0, 0, 0), (56, .aload_n 0, 57, 0, 0, 0, 0), (57, .getfield 96, 60, 7, 32, 0, 0), (60, .iload 8, 62, 8, 0, 0, 0), (62, .iload 7, 64, 7, 0, 0, 0), (64, .iastore, 65, 0, 0, 0, 0), (65, .aload_n 0, 66, 0, 0, 0, 0), (66, .getfield 78, 69, 7, 26, 0, 0), (69, .iload_n 1, 70, 1, 0, 0, 0), (70, .dup2, 71, 0, 0, 0, 0), (71, .iaload, 72, 0, 0, 0, 0), (72, .iconst 1, 73, 0, 0, 0, 1), (73, .iadd, 74, 0, 0, 0, 0), (74, .iastore, 75, 0, 0, 0, 0), (75, .return_, 76, 0, 0, 0, 0)]
def tb_111_0 : List (Nat × En) := [(0, .iload_n 1, 1, 1, 0, 0, 0), (1, .ifCond .eq 12, 4, 13, 0, 0, 0), (4, .iload_n 1, 5, 1, 0, 0, 0), (5, .iload_n 2, 6, 2, 0, 0, 0), (6, .if_icmp .eq 7, 9, 13, 0, 0, 0), (9, .iconst 1, 10, 0, 0, 0, 1), (10, .goto 4, 13, 14, 0, 0, 0), (13, .iconst 0, 14, 0, 0, 0, 0), (14, .istore_n 3, 15, 3, 0, 0, 0), (15, .iconst 0, 16, 0, 0, 0, 0), (16, .istore 4, 18, 4, 0, 0, 0), (18, .iload 4, 20, 4, 0, 0, 0), (20, .aload_n 0, 21, 0, 0, 0, 0), (21, .getfield 196, 24, 7, 20, 0, 0), (24, .if_icmp .ge 95, 27, 119, 0, 0, 0), (27, .aload_n 0, 28, 0, 0, 0, 0), (28, .getfield 66, 31, 7, 22, 0, 0), (31, .iload 4, 33, 4, 0, 0, 0), (33, .iaload, 34, 0, 0, 0, 0), (34, .invokestatic 177, 37, 103, 1, 1, 0), (37, .ifCond .eq 14, 40, 51, 0, 0, 0), (40, .aload_n 0, 41, 0, 0, 0, 0), (41, .getfield 72, 44, 7, 24, 0, 0), (44, .iload 4, 46, 4, 0, 0, 0), (46, .iaload, 47, 0, 0, 0, 0), (47, .iload_n 1, 48, 1, 0, 0, 0), (48, .if_icmp .eq 27, 51, 75, 0, 0, 0), (51, .aload_n 0, 52, 0, 0, 0, 0), (52, .getfield 66, 55, 7, 22, 0, 0), (55, .iload 4, 57, 4, 0, 0, 0), (57, .iaload, 58, 0, 0, 0, 0), (58, .invokestatic 180, 61, 104, 1, 1, 0), (61, .ifCond .eq 18, 64, 79, 0, 0, 0), (64, .aload_n 0, 65, 0, 0, 0, 0), (65, .getfield 75, 68, 7, 25, 0, 0), (68, .iload 4, 70, 4, 0, 0, 0), (70, .iaload, 71, 0, 0, 0, 0), (71, .iload_n 1, 72, 1, 0, 0, 0), (72, .if_icmp .ne 7, 75, 79, 0, 0, 0), (75, .iconst 1, 76, 0, 0, 0, 1), (76, .goto 4, 79, 80, 0, 0, 0), (79, .iconst 0, 80, 0, 0, 0, 0), (80, .istore 5, 82, 5, 0, 0, 0), (82, .iload_n 3, 83, 3, 0, 0, 0), (83, .ifCond .eq 28, 86, 111, 0, 0, 0), (86, .aload_n 0, 87, 0, 0, 0, 0), (87, .getfield 62, 90, 7, 21, 0, 0), (90, .iload 4, 92, 4, 0, 0, 0), (92, .baload, 93, 0, 0, 0, 0), (93, .ifCond .ne 14, 96, 107, 0, 0, 0)]
def tb_111_1 : List (Nat × En) := [(96, .iload 4, 98, 4, 0, 0, 0), (98, .iload_n 2, 99, 2, 0, 0, 0), (99, .if_icmp .eq 8, 102, 107, 0, 0, 0), (102, .iload 5, 104, 5, 0, 0, 0), (104, .ifCond .ne 7, 107, 111, 0, 0, 0), (107, .iconst 1, 108, 0, 0, 0, 1), (108, .goto 4, 111, 112, 0, 0, 0), (111, .iconst 0, 112, 0, 0, 0, 0), (112, .istore_n 3, 113, 3, 0, 0, 0), (113, .iinc 4 1, 116, 4, 0, 0, 1), (116, .goto (-98), 119, 18, 0, 0, 0), (119, .bipush 10, 121, 0, 0, 0, 10), (121, .iload_n 1, 122, 1, 0, 0, 0), (122, .imul, 123, 0, 0, 0, 0), (123, .istore 4, 125, 4, 0, 0, 0), (125, .iload 4, 127, 4, 0, 0, 0), (127, .bipush 10, 129, 0, 0, 0, 10), (129, .iload_n 1, 130, 1, 0, 0, 0), (130, .imul, 131, 0, 0, 0, 0), (131, .aload_n 0, 132, 0, 0, 0, 0), (132, .getfield 78, 135, 7, 26, 0, 0), (135, .iload_n 1, 136, 1, 0, 0, 0), (136, .iaload, 137, 0, 0, 0, 0), (137, .iadd, 138, 0, 0, 0, 0), (138, .if_icmp .ge 58, 141, 196, 0, 0, 0), (141, .iload_n 3, 142, 3, 0, 0, 0), (142, .ifCond .eq 46, 145, 188, 0, 0, 0), (145, .aload_n 0, 146, 0, 0, 0, 0), (146, .getfield 96, 149, 7, 32, 0, 0), (149, .iload 4, 151, 4, 0, 0, 0), (151, .iaload, 152, 0, 0, 0, 0), (152, .ifCond .ne 36, 155, 188, 0, 0, 0), (155, .aload_n 0, 156, 0, 0, 0, 0), (156, .getfield 81, 159, 7, 27, 0, 0), (159, .iload 4, 161, 4, 0, 0, 0), (161, .iaload, 162, 0, 0, 0, 0), (162, .invokestatic 183, 165, 105, 1, 1, 0), (165, .ifCond .eq 19, 168, 184, 0, 0, 0), (168, .aload_n 0, 169, 0, 0, 0, 0), (169, .getfield 84, 172, 7, 28, 0, 0), (172, .iload 4, 174, 4, 0, 0, 0), (174, .iaload, 175, 0, 0, 0, 0), (175, .aload_n 0, 176, 0, 0, 0, 0), (176, .getfield 69, 179, 7, 23, 0, 0), (179, .iload_n 2, 180, 2, 0, 0, 0), (180, .iaload, 181, 0, 0, 0, 0), (181, .if_icmp .eq 7, 184, 188, 0, 0, 0), (184, .iconst 1, 185, 0, 0, 0, 1), (185, .goto 4, 188, 189, 0, 0, 0), (188, .iconst 0, 189, 0, 0, 0, 0)]
def tb_111_2 : List (Nat × En) := [(189, .istore_n 3, 190, 3, 0, 0, 0), (190, .iinc 4 1, 193, 4, 0, 0, 1), (193, .goto (-68), 196, 125, 0, 0, 0), (196, .iload_n 3, 197, 3, 0, 0, 0), (197, .ireturn, 198, 0, 0, 0, 0)]
def tb_111 : List (Nat × En) := tb_111_0 ++ (tb_111_1 ++ (tb_111_2))
def tb_112_0 : List (Nat × En) := [(0, .aload_n 0, 1, 0, 0, 0, 0), (1, .getfield 62, 4, 7, 21, 0, 0), (4, .iload_n 1, 5, 1, 0, 0, 0), (5, .baload, 6, 0, 0, 0, 0), (6, .ifCond .ne 28, 9, 34, 0, 0, 0), (9, .aload_n 0, 10, 0, 0, 0, 0), (10, .getfield 66, 13, 7, 22, 0, 0), (13, .iload_n 1, 14, 1, 0, 0, 0), (14, .iaload, 15, 0, 0, 0, 0), (15, .iconst 2, 16, 0, 0, 0, 2), (16, .if_icmp .ne 18, 19, 34, 0, 0, 0), (19, .aload_n 0, 20, 0, 0, 0, 0), (20, .getfield 72, 23, 7, 24, 0, 0), (23, .iload_n 1, 24, 1, 0, 0, 0), (24, .iaload, 25, 0, 0, 0, 0), (25, .aload_n 0, 26, 0, 0, 0, 0), (26, .getfield 75, 29, 7, 25, 0, 0), (29, .iload_n 1, 30, 1, 0, 0, 0), (30, .iaload, 31, 0, 0, 0, 0), (31, .if_icmp .ne 4, 34, 35, 0, 0, 0), (34, .return_, 35, 0, 0, 0, 0), (35, .aload_n 0, 36, 0, 0, 0, 0), (36, .getfield 72, 39, 7, 24, 0, 0), (39, .iload_n 1, 40, 1, 0, 0, 0), (40, .iaload, 41, 0, 0, 0, 0), (41, .istore_n 2, 42, 2, 0, 0, 0), (42, .aload_n 0, 43, 0, 0, 0, 0), (43, .getfield 75, 46, 7, 25, 0, 0), (46, .iload_n 1, 47, 1, 0, 0, 0), (47, .iaload, 48, 0, 0, 0, 0), (48, .istore_n 3, 49, 3, 0, 0, 0), (49, .aload_n 0, 50, 0, 0, 0, 0), (50, .iload_n 2, 51, 2, 0, 0, 0), (51, .iload_n 1, 52, 1, 0, 0, 0), (52, .invokevirtual 210, 55, 111, 0, 3, 0), (55, .istore 4, 57, 4, 0, 0, 0), (57, .aload_n 0, 58, 0, 0, 0, 0), (58, .iload_n 3, 59, 3, 0, 0, 0), (59, .iload_n 1, 60, 1, 0, 0, 0), (60, .invokevirtual 210, 63, 111, 0, 3, 0), (63, .istore 5, 65, 5, 0, 0, 0), (65, .aload_n 0, 66, 0, 0, 0, 0), (66, .getfield 66, 69, 7, 22, 0, 0), (69, .iload_n 2, 70, 2, 0, 0, 0), (70, .iaload, 71, 0, 0, 0, 0), (71, .iconst 1, 72, 0, 0, 0, 1), (72, .if_icmp .ne 7, 75, 79, 0, 0, 0), (75, .iconst 1, 76, 0, 0, 0, 1), (76, .goto 4, 79, 80, 0, 0, 0), (79, .iconst 0, 80, 0, 0, 0, 0)]
def tb_112_1 : List (Nat × En) := [(80, .istore 6, 82, 6, 0, 0, 0), (82, .aload_n 0, 83, 0, 0, 0, 0), (83, .getfield 66, 86, 7, 22, 0, 0), (86, .iload_n 3, 87, 3, 0, 0, 0), (87, .iaload, 88, 0, 0, 0, 0), (88, .iconst 1, 89, 0, 0, 0, 1), (89, .if_icmp .ne 7, 92, 96, 0, 0, 0), (92, .iconst 1, 93, 0, 0, 0, 1), (93, .goto 4, 96, 97, 0, 0, 0), (96, .iconst 0, 97, 0, 0, 0, 0), (97, .istore 7, 99, 7, 0, 0, 0), (99, .iload 6, 101, 6, 0, 0, 0), (101, .ifCond .eq 100, 104, 201, 0, 0, 0), (104, .iload 7, 106, 7, 0, 0, 0), (106, .ifCond .eq 95, 109, 201, 0, 0, 0), (109, .aload_n 0, 110, 0, 0, 0, 0), (110, .getfield 72, 113, 7, 24, 0, 0), (113, .iload_n 2, 114, 2, 0, 0, 0), (114, .iaload, 115, 0, 0, 0, 0), (115, .aload_n 0, 116, 0, 0, 0, 0), (116, .getfield 72, 119, 7, 24, 0, 0), (119, .iload_n 3, 120, 3, 0, 0, 0), (120, .iaload, 121, 0, 0, 0, 0), (121, .if_icmp .ne 80, 124, 201, 0, 0, 0), (124, .iload 4, 126, 4, 0, 0, 0), (126, .ifCond .eq 75, 129, 201, 0, 0, 0), (129, .iload 5, 131, 5, 0, 0, 0), (131, .ifCond .eq 70, 134, 201, 0, 0, 0), (134, .aload_n 0, 135, 0, 0, 0, 0), (135, .getfield 78, 138, 7, 26, 0, 0), (138, .iload_n 1, 139, 1, 0, 0, 0), (139, .iaload, 140, 0, 0, 0, 0), (140, .aload_n 0, 141, 0, 0, 0, 0), (141, .getfield 78, 144, 7, 26, 0, 0), (144, .iload_n 2, 145, 2, 0, 0, 0), (145, .iaload, 146, 0, 0, 0, 0), (146, .iadd, 147, 0, 0, 0, 0), (147, .aload_n 0, 148, 0, 0, 0, 0), (148, .getfield 78, 151, 7, 26, 0, 0), (151, .iload_n 3, 152, 3, 0, 0, 0), (152, .iaload, 153, 0, 0, 0, 0), (153, .iadd, 154, 0, 0, 0, 0), (154, .bipush 10, 156, 0, 0, 0, 10), (156, .if_icmp .gt 45, 159, 201, 0, 0, 0), (159, .aload_n 0, 160, 0, 0, 0, 0), (160, .iload_n 1, 161, 1, 0, 0, 0), (161, .iload_n 2, 162, 2, 0, 0, 0), (162, .iconst 1, 163, 0, 0, 0, 1), (163, .aload_n 0, 164, 0, 0, 0, 0), (164, .getfield 69, 167, 7, 23, 0, 0)]
def tb_112_2 : List (Nat × En) := [(167, .iload_n 1, 168, 1, 0, 0, 0), (168, .iaload, 169, 0, 0, 0, 0), (169, .iadd, 170, 0, 0, 0, 0), (170, .invokevirtual 214, 173, 113, 0, 4, 0), (173, .aload_n 0, 174, 0, 0, 0, 0), (174, .iload_n 1, 175, 1, 0, 0, 0), (175, .iload_n 3, 176, 3, 0, 0, 0), (176, .iconst (-1), 177, 0, 0, 0, (-1)), (177, .aload_n 0, 178, 0, 0, 0, 0), (178, .getfield 69, 181, 7, 23, 0, 0), (181, .iload_n 1, 182, 1, 0, 0, 0), (182, .iaload, 183, 0, 0, 0, 0), (183, .isub, 184, 0, 0, 0, 0), (184, .invokevirtual 214, 187, 113, 0, 4, 0), (187, .aload_n 0, 188, 0, 0, 0, 0), (188, .iload_n 1, 189, 1, 0, 0, 0), (189, .aload_n 0, 190, 0, 0, 0, 0), (190, .getfield 72, 193, 7, 24, 0, 0), (193, .iload_n 2, 194, 2, 0, 0, 0), (194, .iaload, 195, 0, 0, 0, 0), (195, .invokevirtual 218, 198, 114, 0, 3, 0), (198, .goto 122, 201, 320, 0, 0, 0), (201, .iload 6, 203, 6, 0, 0, 0), (203, .ifCond .eq 59, 206, 262, 0, 0, 0), (206, .aload_n 0, 207, 0, 0, 0, 0), (207, .getfield 72, 210, 7, 24, 0, 0), (210, .iload_n 2, 211, 2, 0, 0, 0), (211, .iaload, 212, 0, 0, 0, 0), (212, .iload_n 3, 213, 3, 0, 0, 0), (213, .if_icmp .ne 49, 216, 262, 0, 0, 0), (216, .iload 4, 218, 4, 0, 0, 0), (218, .ifCond .eq 44, 221, 262, 0, 0, 0), (221, .aload_n 0, 222, 0, 0, 0, 0), (222, .getfield 78, 225, 7, 26, 0, 0), (225, .iload_n 1, 226, 1, 0, 0, 0), (226, .iaload, 227, 0, 0, 0, 0), (227, .aload_n 0, 228, 0, 0, 0, 0), (228, .getfield 78, 231, 7, 26, 0, 0), (231, .iload_n 2, 232, 2, 0, 0, 0), (232, .iaload, 233, 0, 0, 0, 0), (233, .iadd, 234, 0, 0, 0, 0), (234, .bipush 10, 236, 0, 0, 0, 10), (236, .if_icmp .gt 26, 239, 262, 0, 0, 0), (239, .aload_n 0, 240, 0, 0, 0, 0), (240, .iload_n 1, 241, 1, 0, 0, 0), (241, .iload_n 2, 242, 2, 0, 0, 0), (242, .iconst 1, 243, 0, 0, 0, 1), (243, .aload_n 0, 244, 0, 0, 0, 0), (244, .getfield 69, 247, 7, 23, 0, 0), (247, .iload_n 1, 248, 1, 0, 0, 0)]
def tb_112_3 : List (Nat × En) := [(248, .iaload, 249, 0, 0, 0, 0), (249, .iadd, 250, 0, 0, 0, 0), (250, .invokevirtual 214, 253, 113, 0, 4, 0), (253, .aload_n 0, 254, 0, 0, 0, 0), (254, .iload_n 1, 255, 1, 0, 0, 0), (255, .iload_n 3, 256, 3, 0, 0, 0), (256, .invokevirtual 218, 259, 114, 0, 3, 0), (259, .goto 61, 262, 320, 0, 0, 0), (262, .iload 7, 264, 7, 0, 0, 0), (264, .ifCond .eq 56, 267, 320, 0, 0, 0), (267, .aload_n 0, 268, 0, 0, 0, 0), (268, .getfield 72, 271, 7, 24, 0, 0), (271, .iload_n 3, 272, 3, 0, 0, 0), (272, .iaload, 273, 0, 0, 0, 0), (273, .iload_n 2, 274, 2, 0, 0, 0), (274, .if_icmp .ne 46, 277, 320, 0, 0, 0), (277, .iload 5, 279, 5, 0, 0, 0), (279, .ifCond .eq 41, 282, 320, 0, 0, 0), (282, .aload_n 0, 283, 0, 0, 0, 0), (283, .getfield 78, 286, 7, 26, 0, 0), (286, .iload_n 1, 287, 1, 0, 0, 0), (287, .iaload, 288, 0, 0, 0, 0), (288, .aload_n 0, 289, 0, 0, 0, 0), (289, .getfield 78, 292, 7, 26, 0, 0), (292, .iload_n 3, 293, 3, 0, 0, 0), (293, .iaload, 294, 0, 0, 0, 0), (294, .iadd, 295, 0, 0, 0, 0), (295, .bipush 10, 297, 0, 0, 0, 10), (297, .if_icmp .gt 23, 300, 320, 0, 0, 0), (300, .aload_n 0, 301, 0, 0, 0, 0), (301, .iload_n 1, 302, 1, 0, 0, 0), (302, .iload_n 3, 303, 3, 0, 0, 0), (303, .iconst (-1), 304, 0, 0, 0, (-1)), (304, .aload_n 0, 305, 0, 0, 0, 0), (305, .getfield 69, 308, 7, 23, 0, 0), (308, .iload_n 1, 309, 1, 0, 0, 0), (309, .iaload, 310, 0, 0, 0, 0), (310, .isub, 311, 0, 0, 0, 0), (311, .invokevirtual 214, 314, 113, 0, 4, 0), (314, .aload_n 0, 315, 0, 0, 0, 0), (315, .iload_n 1, 316, 1, 0, 0, 0), (316, .iload_n 2, 317, 2, 0, 0, 0), (317, .invokevirtual 218, 320, 114, 0, 3, 0), (320, .return_, 321, 0, 0, 0, 0)]
def tb_112 : List (Nat × En) := tb_112_0 ++ (tb_112_1 ++ (tb_112_2 ++ (tb_112_3)))
def tb_113 : List (Nat × En) := [(0, .bipush 10, 2, 0, 0, 0, 10), (2, .iload_n 2, 3, 2, 0, 0, 0), (3, .imul, 4, 0, 0, 0, 0), (4, .istore 4, 6, 4, 0, 0, 0), (6, .iload 4, 8, 4, 0, 0, 0), (8, .bipush 10, 10, 0, 0, 0, 10), (10, .iload_n 2, 11, 2, 0, 0, 0), (11, .imul, 12, 0, 0, 0, 0), (12, .aload_n 0, 13, 0, 0, 0, 0), (13, .getfield 78, 16, 7, 26, 0, 0), (16, .iload_n 2, 17, 2, 0, 0, 0), (17, .iaload, 18, 0, 0, 0, 0), (18, .iadd, 19, 0, 0, 0, 0), (19, .if_icmp .ge 50, 22, 69, 0, 0, 0), (22, .aload_n 0, 23, 0, 0, 0, 0), (23, .iload_n 1, 24, 1, 0, 0, 0), (24, .aload_n 0, 25, 0, 0, 0, 0), (25, .getfield 81, 28, 7, 27, 0, 0), (28, .iload 4, 30, 4, 0, 0, 0), (30, .iaload, 31, 0, 0, 0, 0), (31, .aload_n 0, 32, 0, 0, 0, 0), (32, .getfield 84, 35, 7, 28, 0, 0), (35, .iload 4, 37, 4, 0, 0, 0), (37, .iaload, 38, 0, 0, 0, 0), (38, .aload_n 0, 39, 0, 0, 0, 0), (39, .getfield 87, 42, 7, 29, 0, 0), (42, .iload 4, 44, 4, 0, 0, 0), (44, .iaload, 45, 0, 0, 0, 0), (45, .aload_n 0, 46, 0, 0, 0, 0), (46, .getfield 90, 49, 7, 30, 0, 0), (49, .iload 4, 51, 4, 0, 0, 0), (51, .iaload, 52, 0, 0, 0, 0), (52, .aload_n 0, 53, 0, 0, 0, 0), (53, .getfield 93, 56, 7, 31, 0, 0), (56, .iload 4, 58, 4, 0, 0, 0), (58, .iaload, 59, 0, 0, 0, 0), (59, .iload_n 3, 60, 3, 0, 0, 0), (60, .invokevirtual 206, 63, 110, 0, 8, 0), (63, .iinc 4 1, 66, 4, 0, 0, 1), (66, .goto (-60), 69, 6, 0, 0, 0), (69, .aload_n 0, 70, 0, 0, 0, 0), (70, .getfield 62, 73, 7, 21, 0, 0), (73, .iload_n 2, 74, 2, 0, 0, 0), (74, .iconst 1, 75, 0, 0, 0, 1), (75, .bastore, 76, 0, 0, 0, 0), (76, .return_, 77, 0, 0, 0, 0)]
def tb_114 : List (Nat × En) := [(0, .aload_n 0, 1, 0, 0, 0, 0), (1, .getfield 66, 4, 7, 22, 0, 0), (4, .iload_n 1, 5, 1, 0, 0, 0), (5, .iconst 1, 6, 0, 0, 0, 1), (6, .iastore, 7, 0, 0, 0, 0), (7, .aload_n 0, 8, 0, 0, 0, 0), (8, .getfield 72, 11, 7, 24, 0, 0), (11, .iload_n 1, 12, 1, 0, 0, 0), (12, .iload_n 2, 13, 2, 0, 0, 0), (13, .iastore, 14, 0, 0, 0, 0), (14, .return_, 15, 0, 0, 0, 0)]
def tb_115 : List (Nat × En) := [(0, .aload_n 0, 1, 0, 0, 0, 0), (1, .getfield 81, 4, 7, 27, 0, 0), (4, .iload_n 1, 5, 1, 0, 0, 0), (5, .iaload, 6, 0, 0, 0, 0), (6, .tableswitch 55 4 9 #[43, 55, 38, 48, 53, 53], 44, 0, 0, 0, 0), (44, .aload_n 0, 45, 0, 0, 0, 0), (45, .getfield 22, 48, 7, 5, 0, 0), (48, .ireturn, 49, 0, 0, 0, 0), (49, .aload_n 0, 50, 0, 0, 0, 0), (50, .getfield 19, 53, 7, 4, 0, 0), (53, .ireturn, 54, 0, 0, 0, 0), (54, .aload_n 0, 55, 0, 0, 0, 0), (55, .getfield 25, 58, 7, 6, 0, 0), (58, .ireturn, 59, 0, 0, 0, 0), (59, .iconst 1, 60, 0, 0, 0, 1), (60, .ireturn, 61, 0, 0, 0, 0), (61, .aload_n 0, 62, 0, 0, 0, 0), (62, .getfield 16, 65, 7, 3, 0, 0), (65, .ireturn, 66, 0, 0, 0, 0)]
def tb_116 : List (Nat × En) := [(0, .aload_n 0, 1, 0, 0, 0, 0), (1, .getfield 81, 4, 7, 27, 0, 0), (4, .iload_n 1, 5, 1, 0, 0, 0), (5, .iaload, 6, 0, 0, 0, 0), (6, .bipush 7, 8, 0, 0, 0, 7), (8, .if_icmp .lt 7, 11, 15, 0, 0, 0), (11, .iconst 1, 12, 0, 0, 0, 1), (12, .goto 4, 15, 16, 0, 0, 0), (15, .iconst 0, 16, 0, 0, 0, 0), (16, .ireturn, 17, 0, 0, 0, 0)]
def tb_117 : List (Nat × En) := [(0, .aload_n 0, 1, 0, 0, 0, 0), (1, .getfield 81, 4, 7, 27, 0, 0), (4, .iload_n 1, 5, 1, 0, 0, 0), (5, .iaload, 6, 0, 0, 0, 0), (6, .invokestatic 183, 9, 105, 1, 1, 0), (9, .ifCond .eq 17, 12, 26, 0, 0, 0), (12, .aload_n 0, 13, 0, 0, 0, 0), (13, .getfield 84, 16, 7, 28, 0, 0), (16, .iload_n 1, 17, 1, 0, 0, 0), (17, .iaload, 18, 0, 0, 0, 0), (18, .iload_n 2, 19, 2, 0, 0, 0), (19, .if_icmp .ne 7, 22, 26, 0, 0, 0), (22, .iconst 1, 23, 0, 0, 0, 1), (23, .goto 4, 26, 27, 0, 0, 0), (26, .iconst 0, 27, 0, 0, 0, 0), (27, .ireturn, 28, 0, 0, 0, 0)]
def tb_118_0 : List (Nat × En) := [(0, .aload_n 0, 1, 0, 0, 0, 0), (1, .getfield 81, 4, 7, 27, 0, 0), (4, .iload_n 1, 5, 1, 0, 0, 0), (5, .iaload, 6, 0, 0, 0, 0), (6, .istore_n 3, 7, 3, 0, 0, 0), (7, .iload_n 3, 8, 3, 0, 0, 0), (8, .ifCond .eq 17, 11, 25, 0, 0, 0), (11, .aload_n 0, 12, 0, 0, 0, 0), (12, .getfield 87, 15, 7, 29, 0, 0), (15, .iload_n 1, 16, 1, 0, 0, 0), (16, .iaload, 17, 0, 0, 0, 0), (17, .iload_n 2, 18, 2, 0, 0, 0), (18, .if_icmp .ne 7, 21, 25, 0, 0, 0), (21, .iconst 1, 22, 0, 0, 0, 1), (22, .goto 4, 25, 26, 0, 0, 0), (25, .iconst 0, 26, 0, 0, 0, 0), (26, .istore 4, 28, 4, 0, 0, 0), (28, .iload_n 3, 29, 3, 0, 0, 0), (29, .iconst 2, 30, 0, 0, 0, 2), (30, .if_icmp .eq 30, 33, 60, 0, 0, 0), (33, .iload_n 3, 34, 3, 0, 0, 0), (34, .iconst 3, 35, 0, 0, 0, 3), (35, .if_icmp .eq 25, 38, 60, 0, 0, 0), (38, .iload_n 3, 39, 3, 0, 0, 0), (39, .iconst 4, 40, 0, 0, 0, 4), (40, .if_icmp .eq 20, 43, 60, 0, 0, 0), (43, .iload_n 3, 44, 3, 0, 0, 0), (44, .iconst 5, 45, 0, 0, 0, 5), (45, .if_icmp .eq 15, 48, 60, 0, 0, 0), (48, .iload_n 3, 49, 3, 0, 0, 0), (49, .bipush 6, 51, 0, 0, 0, 6), (51, .if_icmp .eq 9, 54, 60, 0, 0, 0), (54, .iload_n 3, 55, 3, 0, 0, 0), (55, .bipush 8, 57, 0, 0, 0, 8), (57, .if_icmp .ne 17, 60, 74, 0, 0, 0), (60, .aload_n 0, 61, 0, 0, 0, 0), (61, .getfield 90, 64, 7, 30, 0, 0), (64, .iload_n 1, 65, 1, 0, 0, 0), (65, .iaload, 66, 0, 0, 0, 0), (66, .iload_n 2, 67, 2, 0, 0, 0), (67, .if_icmp .ne 7, 70, 74, 0, 0, 0), (70, .iconst 1, 71, 0, 0, 0, 1), (71, .goto 4, 74, 75, 0, 0, 0), (74, .iconst 0, 75, 0, 0, 0, 0), (75, .istore 5, 77, 5, 0, 0, 0), (77, .iload 4, 79, 4, 0, 0, 0), (79, .ifCond .ne 32, 82, 111, 0, 0, 0), (82, .iload 5, 84, 5, 0, 0, 0), (84, .ifCond .ne 27, 87, 111, 0, 0, 0), (87, .aload_n 0, 88, 0, 0, 0, 0)]
def tb_118_1 : List (Nat × En) := [(88, .getfield 96, 91, 7, 32, 0, 0), (91, .iload_n 1, 92, 1, 0, 0, 0), (92, .iaload, 93, 0, 0, 0, 0), (93, .iconst 1, 94, 0, 0, 0, 1), (94, .iload_n 2, 95, 2, 0, 0, 0), (95, .iadd, 96, 0, 0, 0, 0), (96, .if_icmp .eq 15, 99, 111, 0, 0, 0), (99, .aload_n 0, 100, 0, 0, 0, 0), (100, .getfield 96, 103, 7, 32, 0, 0), (103, .iload_n 1, 104, 1, 0, 0, 0), (104, .iaload, 105, 0, 0, 0, 0), (105, .iconst (-1), 106, 0, 0, 0, (-1)), (106, .iload_n 2, 107, 2, 0, 0, 0), (107, .isub, 108, 0, 0, 0, 0), (108, .if_icmp .ne 7, 111, 115, 0, 0, 0), (111, .iconst 1, 112, 0, 0, 0, 1), (112, .goto 4, 115, 116, 0, 0, 0), (115, .iconst 0, 116, 0, 0, 0, 0), (116, .ireturn, 117, 0, 0, 0, 0)]
def tb_118 : List (Nat × En) := tb_118_0 ++ (tb_118_1)
def tb_119 : List (Nat × En) := [(0, .aload_n 0, 1, 0, 0, 0, 0), (1, .getfield 81, 4, 7, 27, 0, 0), (4, .iload_n 1, 5, 1, 0, 0, 0), (5, .iaload, 6, 0, 0, 0, 0), (6, .bipush 7, 8, 0, 0, 0, 7), (8, .if_icmp .eq 14, 11, 22, 0, 0, 0), (11, .aload_n 0, 12, 0, 0, 0, 0), (12, .getfield 81, 15, 7, 27, 0, 0), (15, .iload_n 1, 16, 1, 0, 0, 0), (16, .iaload, 17, 0, 0, 0, 0), (17, .bipush 8, 19, 0, 0, 0, 8), (19, .if_icmp .ne 7, 22, 26, 0, 0, 0), (22, .iconst 1, 23, 0, 0, 0, 1), (23, .goto 4, 26, 27, 0, 0, 0), (26, .iconst 0, 27, 0, 0, 0, 0), (27, .ireturn, 28, 0, 0, 0, 0)]
def tb_120_0 : List (Nat × En) := [(0, .aload_n 0, 1, 0, 0, 0, 0), (1, .getfield 81, 4, 7, 27, 0, 0), (4, .iload_n 1, 5, 1, 0, 0, 0), (5, .iaload, 6, 0, 0, 0, 0), (6, .bipush 6, 8, 0, 0, 0, 6), (8, .if_icmp .ne 40, 11, 48, 0, 0, 0), (11, .aload_n 0, 12, 0, 0, 0, 0), (12, .getfield 81, 15, 7, 27, 0, 0), (15, .iload_n 2, 16, 2, 0, 0, 0), (16, .iaload, 17, 0, 0, 0, 0), (17, .bipush 6, 19, 0, 0, 0, 6), (19, .if_icmp .eq 25, 22, 44, 0, 0, 0), (22, .aload_n 0, 23, 0, 0, 0, 0), (23, .getfield 81, 26, 7, 27, 0, 0), (26, .iload_n 2, 27, 2, 0, 0, 0), (27, .iaload, 28, 0, 0, 0, 0), (28, .bipush 9, 30, 0, 0, 0, 9), (30, .if_icmp .eq 14, 33, 44, 0, 0, 0), (33, .aload_n 0, 34, 0, 0, 0, 0), (34, .getfield 81, 37, 7, 27, 0, 0), (37, .iload_n 2, 38, 2, 0, 0, 0), (38, .iaload, 39, 0, 0, 0, 0), (39, .bipush 8, 41, 0, 0, 0, 8), (41, .if_icmp .ne 7, 44, 48, 0, 0, 0), (44, .iconst 1, 45, 0, 0, 0, 1), (45, .goto 4, 48, 49, 0, 0, 0), (48, .iconst 0, 49, 0, 0, 0, 0), (49, .istore_n 3, 50, 3, 0, 0, 0), (50, .aload_n 0, 51, 0, 0, 0, 0), (51, .getfield 81, 54, 7, 27, 0, 0), (54, .iload_n 2, 55, 2, 0, 0, 0), (55, .iaload, 56, 0, 0, 0, 0), (56, .bipush 6, 58, 0, 0, 0, 6), (58, .if_icmp .ne 29, 61, 87, 0, 0, 0), (61, .aload_n 0, 62, 0, 0, 0, 0), (62, .getfield 81, 65, 7, 27, 0, 0), (65, .iload_n 1, 66, 1, 0, 0, 0), (66, .iaload, 67, 0, 0, 0, 0), (67, .bipush 9, 69, 0, 0, 0, 9), (69, .if_icmp .eq 14, 72, 83, 0, 0, 0), (72, .aload_n 0, 73, 0, 0, 0, 0), (73, .getfield 81, 76, 7, 27, 0, 0), (76, .iload_n 1, 77, 1, 0, 0, 0), (77, .iaload, 78, 0, 0, 0, 0), (78, .bipush 8, 80, 0, 0, 0, 8), (80, .if_icmp .ne 7, 83, 87, 0, 0, 0), (83, .iconst 1, 84, 0, 0, 0, 1), (84, .goto 4, 87, 88, 0, 0, 0), (87, .iconst 0, 88, 0, 0, 0, 0), (88, .istore 4, 90, 4, 0, 0, 0)]
def tb_120_1 : List (Nat × En) := [(90, .iload_n 3, 91, 3, 0, 0, 0), (91, .ifCond .ne 30, 94, 121, 0, 0, 0), (94, .iload 4, 96, 4, 0, 0, 0), (96, .ifCond .ne 25, 99, 121, 0, 0, 0), (99, .aload_n 0, 100, 0, 0, 0, 0), (100, .getfield 81, 103, 7, 27, 0, 0), (103, .iload_n 1, 104, 1, 0, 0, 0), (104, .iaload, 105, 0, 0, 0, 0), (105, .bipush 9, 107, 0, 0, 0, 9), (107, .if_icmp .ne 18, 110, 125, 0, 0, 0), (110, .aload_n 0, 111, 0, 0, 0, 0), (111, .getfield 81, 114, 7, 27, 0, 0), (114, .iload_n 2, 115, 2, 0, 0, 0), (115, .iaload, 116, 0, 0, 0, 0), (116, .bipush 9, 118, 0, 0, 0, 9), (118, .if_icmp .ne 7, 121, 125, 0, 0, 0), (121, .iconst 1, 122, 0, 0, 0, 1), (122, .goto 4, 125, 126, 0, 0, 0), (125, .iconst 0, 126, 0, 0, 0, 0), (126, .ireturn, 127, 0, 0, 0, 0)]
def tb_120 : List (Nat × En) := tb_120_0 ++ (tb_120_1)
def tb_121 : List (Nat × En) := [(0, .iload_n 1, 1, 1, 0, 0, 0), (1, .iload_n 2, 2, 2, 0, 0, 0), (2, .if_icmp .le 7, 5, 9, 0, 0, 0), (5, .iload_n 1, 6, 1, 0, 0, 0), (6, .goto 4, 9, 10, 0, 0, 0), (9, .iload_n 2, 10, 2, 0, 0, 0), (10, .ireturn, 11, 0, 0, 0, 0)]
def tb_122_0 : List (Nat × En) := [(0, .ldc 222, 2, 222, 0, 0, (-100000)), (2, .istore_n 3, 3, 3, 0, 0, 0), (3, .iconst 0, 4, 0, 0, 0, 0), (4, .istore 4, 6, 4, 0, 0, 0), (6, .iload 4, 8, 4, 0, 0, 0), (8, .bipush 12, 10, 0, 0, 0, 12), (10, .if_icmp .ge 112, 13, 122, 0, 0, 0), (13, .aload_n 0, 14, 0, 0, 0, 0), (14, .iload_n 1, 15, 1, 0, 0, 0), (15, .iload 4, 17, 4, 0, 0, 0), (17, .invokevirtual 223, 20, 117, 0, 3, 0), (20, .ifCond .eq 24, 23, 44, 0, 0, 0), (23, .aload_n 0, 24, 0, 0, 0, 0), (24, .iload_n 2, 25, 2, 0, 0, 0), (25, .iload 4, 27, 4, 0, 0, 0), (27, .invokevirtual 226, 30, 118, 0, 3, 0), (30, .ifCond .eq 14, 33, 44, 0, 0, 0), (33, .aload_n 0, 34, 0, 0, 0, 0), (34, .iload_n 3, 35, 3, 0, 0, 0), (35, .aload_n 0, 36, 0, 0, 0, 0), (36, .iload_n 1, 37, 1, 0, 0, 0), (37, .invokevirtual 229, 40, 115, 0, 2, 0), (40, .invokevirtual 233, 43, 121, 0, 3, 0), (43, .istore_n 3, 44, 3, 0, 0, 0), (44, .aload_n 0, 45, 0, 0, 0, 0), (45, .iload_n 1, 46, 1, 0, 0, 0), (46, .iload 4, 48, 4, 0, 0, 0), (48, .invokevirtual 226, 51, 118, 0, 3, 0), (51, .ifCond .eq 26, 54, 77, 0, 0, 0), (54, .aload_n 0, 55, 0, 0, 0, 0), (55, .iload_n 2, 56, 2, 0, 0, 0), (56, .iload 4, 58, 4, 0, 0, 0), (58, .invokevirtual 223, 61, 117, 0, 3, 0), (61, .ifCond .eq 16, 64, 77, 0, 0, 0), (64, .aload_n 0, 65, 0, 0, 0, 0), (65, .iload_n 3, 66, 3, 0, 0, 0), (66, .iconst 1, 67, 0, 0, 0, 1), (67, .aload_n 0, 68, 0, 0, 0, 0), (68, .iload_n 2, 69, 2, 0, 0, 0), (69, .invokevirtual 229, 72, 115, 0, 2, 0), (72, .isub, 73, 0, 0, 0, 0), (73, .invokevirtual 233, 76, 121, 0, 3, 0), (76, .istore_n 3, 77, 3, 0, 0, 0), (77, .aload_n 0, 78, 0, 0, 0, 0), (78, .iload_n 1, 79, 1, 0, 0, 0), (79, .iload 4, 81, 4, 0, 0, 0), (81, .invokevirtual 223, 84, 117, 0, 3, 0), (84, .ifCond .eq 32, 87, 116, 0, 0, 0), (87, .aload_n 0, 88, 0, 0, 0, 0), (88, .iload_n 2, 89, 2, 0, 0, 0)]
def tb_122_1 : List (Nat × En) := [(89, .iload 4, 91, 4, 0, 0, 0), (91, .invokevirtual 223, 94, 117, 0, 3, 0), (94, .ifCond .eq 22, 97, 116, 0, 0, 0), (97, .aload_n 0, 98, 0, 0, 0, 0), (98, .iload_n 3, 99, 3, 0, 0, 0), (99, .aload_n 0, 100, 0, 0, 0, 0), (100, .iload_n 1, 101, 1, 0, 0, 0), (101, .invokevirtual 229, 104, 115, 0, 2, 0), (104, .aload_n 0, 105, 0, 0, 0, 0), (105, .iload_n 2, 106, 2, 0, 0, 0), (106, .invokevirtual 229, 109, 115, 0, 2, 0), (109, .isub, 110, 0, 0, 0, 0), (110, .iconst 1, 111, 0, 0, 0, 1), (111, .iadd, 112, 0, 0, 0, 0), (112, .invokevirtual 233, 115, 121, 0, 3, 0), (115, .istore_n 3, 116, 3, 0, 0, 0), (116, .iinc 4 1, 119, 4, 0, 0, 1), (119, .goto (-113), 122, 6, 0, 0, 0), (122, .aload_n 0, 123, 0, 0, 0, 0), (123, .iload_n 1, 124, 1, 0, 0, 0), (124, .iload_n 2, 125, 2, 0, 0, 0), (125, .invokevirtual 237, 128, 120, 0, 3, 0), (128, .ifCond .eq 12, 131, 140, 0, 0, 0), (131, .aload_n 0, 132, 0, 0, 0, 0), (132, .iload_n 3, 133, 3, 0, 0, 0), (133, .iconst 1, 134, 0, 0, 0, 1), (134, .invokevirtual 233, 137, 121, 0, 3, 0), (137, .goto 4, 140, 141, 0, 0, 0), (140, .iload_n 3, 141, 3, 0, 0, 0), (141, .ireturn, 142, 0, 0, 0, 0)]
def tb_122 : List (Nat × En) := tb_122_0 ++ (tb_122_1)
def tb_123 : List (Nat × En) := [(0, .iconst (-1), 1, 0, 0, 0, (-1)), (1, .istore_n 3, 2, 3, 0, 0, 0), (2, .bipush 10, 4, 0, 0, 0, 10), (4, .iload_n 1, 5, 1, 0, 0, 0), (5, .imul, 6, 0, 0, 0, 0), (6, .istore 4, 8, 4, 0, 0, 0), (8, .iload 4, 10, 4, 0, 0, 0), (10, .bipush 10, 12, 0, 0, 0, 10), (12, .iload_n 1, 13, 1, 0, 0, 0), (13, .imul, 14, 0, 0, 0, 0), (14, .aload_n 0, 15, 0, 0, 0, 0), (15, .getfield 78, 18, 7, 26, 0, 0), (18, .iload_n 1, 19, 1, 0, 0, 0), (19, .iaload, 20, 0, 0, 0, 0), (20, .iadd, 21, 0, 0, 0, 0), (21, .if_icmp .ge 32, 24, 53, 0, 0, 0), (24, .aload_n 0, 25, 0, 0, 0, 0), (25, .iload 4, 27, 4, 0, 0, 0), (27, .iload_n 2, 28, 2, 0, 0, 0), (28, .invokevirtual 223, 31, 117, 0, 3, 0), (31, .ifCond .eq 16, 34, 47, 0, 0, 0), (34, .iload_n 3, 35, 3, 0, 0, 0), (35, .iconst (-1), 36, 0, 0, 0, (-1)), (36, .if_icmp .ne 8, 39, 44, 0, 0, 0), (39, .iload 4, 41, 4, 0, 0, 0), (41, .goto 5, 44, 46, 0, 0, 0), (44, .bipush (-2), 46, 0, 0, 0, (-2)), (46, .istore_n 3, 47, 3, 0, 0, 0), (47, .iinc 4 1, 50, 4, 0, 0, 1), (50, .goto (-42), 53, 8, 0, 0, 0), (53, .iload_n 3, 54, 3, 0, 0, 0), (54, .ireturn, 55, 0, 0, 0, 0)]
def tb_124 : List (Nat × En) := [(0, .iload_n 1, 1, 1, 0, 0, 0), (1, .iconst (-1), 2, 0, 0, 0, (-1)), (2, .if_icmp .eq 36, 5, 38, 0, 0, 0), (5, .iload_n 1, 6, 1, 0, 0, 0), (6, .ifCond .lt 36, 9, 42, 0, 0, 0), (9, .aload_n 0, 10, 0, 0, 0, 0), (10, .getfield 81, 13, 7, 27, 0, 0), (13, .iload_n 1, 14, 1, 0, 0, 0), (14, .iaload, 15, 0, 0, 0, 0), (15, .iconst 1, 16, 0, 0, 0, 1), (16, .if_icmp .ne 26, 19, 42, 0, 0, 0), (19, .aload_n 0, 20, 0, 0, 0, 0), (20, .getfield 87, 23, 7, 29, 0, 0), (23, .iload_n 1, 24, 1, 0, 0, 0), (24, .iaload, 25, 0, 0, 0, 0), (25, .iload_n 2, 26, 2, 0, 0, 0), (26, .if_icmp .ne 16, 29, 42, 0, 0, 0), (29, .aload_n 0, 30, 0, 0, 0, 0), (30, .getfield 96, 33, 7, 32, 0, 0), (33, .iload_n 1, 34, 1, 0, 0, 0), (34, .iaload, 35, 0, 0, 0, 0), (35, .ifCond .ne 7, 38, 42, 0, 0, 0), (38, .iconst 1, 39, 0, 0, 0, 1), (39, .goto 4, 42, 43, 0, 0, 0), (42, .iconst 0, 43, 0, 0, 0, 0), (43, .ireturn, 44, 0, 0, 0, 0)]
def tb_125_0 : List (Nat × En) := [(0, .iload_n 2, 1, 2, 0, 0, 0), (1, .iload_n 3, 2, 3, 0, 0, 0), (2, .if_icmp .ge 7, 5, 9, 0, 0, 0), (5, .iconst 0, 6, 0, 0, 0, 0), (6, .goto 4, 9, 10, 0, 0, 0), (9, .iconst 1, 10, 0, 0, 0, 1), (10, .istore 4, 12, 4, 0, 0, 0), (12, .aload_n 0, 13, 0, 0, 0, 0), (13, .getfield 87, 16, 7, 29, 0, 0), (16, .iload_n 2, 17, 2, 0, 0, 0), (17, .iaload, 18, 0, 0, 0, 0), (18, .istore 5, 20, 5, 0, 0, 0), (20, .aload_n 0, 21, 0, 0, 0, 0), (21, .iload_n 1, 22, 1, 0, 0, 0), (22, .iload 5, 24, 5, 0, 0, 0), (24, .invokevirtual 240, 27, 123, 0, 3, 0), (27, .istore 6, 29, 6, 0, 0, 0), (29, .aload_n 0, 30, 0, 0, 0, 0), (30, .getfield 87, 33, 7, 29, 0, 0), (33, .iload_n 3, 34, 3, 0, 0, 0), (34, .iaload, 35, 0, 0, 0, 0), (35, .iload 5, 37, 5, 0, 0, 0), (37, .if_icmp .ne 14, 40, 51, 0, 0, 0), (40, .aload_n 0, 41, 0, 0, 0, 0), (41, .iload 6, 43, 6, 0, 0, 0), (43, .iload 5, 45, 5, 0, 0, 0), (45, .invokevirtual 243, 48, 124, 0, 3, 0), (48, .ifCond .ne 6, 51, 54, 0, 0, 0), (51, .iload 4, 53, 4, 0, 0, 0), (53, .ireturn, 54, 0, 0, 0, 0), (54, .iload 6, 56, 6, 0, 0, 0), (56, .iconst (-1), 57, 0, 0, 0, (-1)), (57, .if_icmp .ne 7, 60, 64, 0, 0, 0), (60, .iconst 0, 61, 0, 0, 0, 0), (61, .goto 10, 64, 71, 0, 0, 0), (64, .aload_n 0, 65, 0, 0, 0, 0), (65, .getfield 93, 68, 7, 31, 0, 0), (68, .iload 6, 70, 6, 0, 0, 0), (70, .iaload, 71, 0, 0, 0, 0), (71, .istore 7, 73, 7, 0, 0, 0), (73, .aload_n 0, 74, 0, 0, 0, 0), (74, .getfield 93, 77, 7, 31, 0, 0), (77, .iload_n 2, 78, 2, 0, 0, 0), (78, .iaload, 79, 0, 0, 0, 0), (79, .iload 6, 81, 6, 0, 0, 0), (81, .iconst (-1), 82, 0, 0, 0, (-1)), (82, .if_icmp .eq 14, 85, 96, 0, 0, 0), (85, .iload_n 2, 86, 2, 0, 0, 0), (86, .iload 6, 88, 6, 0, 0, 0), (88, .if_icmp .le 8, 91, 96, 0, 0, 0)]
def tb_125_1 : List (Nat × En) := [(91, .iload 7, 93, 7, 0, 0, 0), (93, .goto 4, 96, 97, 0, 0, 0), (96, .iconst 0, 97, 0, 0, 0, 0), (97, .iadd, 98, 0, 0, 0, 0), (98, .istore 8, 100, 8, 0, 0, 0), (100, .aload_n 0, 101, 0, 0, 0, 0), (101, .getfield 93, 104, 7, 31, 0, 0), (104, .iload_n 3, 105, 3, 0, 0, 0), (105, .iaload, 106, 0, 0, 0, 0), (106, .iload 6, 108, 6, 0, 0, 0), (108, .iconst (-1), 109, 0, 0, 0, (-1)), (109, .if_icmp .eq 14, 112, 123, 0, 0, 0), (112, .iload_n 3, 113, 3, 0, 0, 0), (113, .iload 6, 115, 6, 0, 0, 0), (115, .if_icmp .le 8, 118, 123, 0, 0, 0), (118, .iload 7, 120, 7, 0, 0, 0), (120, .goto 4, 123, 124, 0, 0, 0), (123, .iconst 0, 124, 0, 0, 0, 0), (124, .iadd, 125, 0, 0, 0, 0), (125, .istore 9, 127, 9, 0, 0, 0), (127, .iload 4, 129, 4, 0, 0, 0), (129, .istore 10, 131, 10, 0, 0, 0), (131, .iload 10, 133, 10, 0, 0, 0), (133, .bipush 64, 135, 0, 0, 0, 64), (135, .if_icmp .gt 26, 138, 161, 0, 0, 0), (138, .iload 8, 140, 8, 0, 0, 0), (140, .iload 9, 142, 9, 0, 0, 0), (142, .isub, 143, 0, 0, 0, 0), (143, .iload 10, 145, 10, 0, 0, 0), (145, .iload 7, 147, 7, 0, 0, 0), (147, .imul, 148, 0, 0, 0, 0), (148, .isub, 149, 0, 0, 0, 0), (149, .bipush 63, 151, 0, 0, 0, 63), (151, .iand, 152, 0, 0, 0, 0), (152, .ifCond .eq 9, 155, 161, 0, 0, 0), (155, .iinc 10 1, 158, 10, 0, 0, 1), (158, .goto (-27), 161, 131, 0, 0, 0), (161, .iload 10, 163, 10, 0, 0, 0), (163, .bipush 64, 165, 0, 0, 0, 64), (165, .if_icmp .gt 18, 168, 183, 0, 0, 0), (168, .iload 10, 170, 10, 0, 0, 0), (170, .ifCond .le 18, 173, 188, 0, 0, 0), (173, .aload_n 0, 174, 0, 0, 0, 0), (174, .getfield 66, 177, 7, 22, 0, 0), (177, .iload_n 1, 178, 1, 0, 0, 0), (178, .iaload, 179, 0, 0, 0, 0), (179, .iconst 3, 180, 0, 0, 0, 3), (180, .if_icmp .eq 8, 183, 188, 0, 0, 0), (183, .ldc 222, 185, 222, 0, 0, (-100000)), (185, .goto 5, 188, 190, 0, 0, 0)]
def tb_125_2 : List (Nat × En) := [(188, .iload 10, 190, 10, 0, 0, 0), (190, .ireturn, 191, 0, 0, 0, 0)]
def tb_125 : List (Nat × En) := tb_125_0 ++ (tb_125_1 ++ (tb_125_2))
def tb_126_0 : List (Nat × En) := [(0, .iconst 0, 1, 0, 0, 0, 0), (1, .istore_n 2, 2, 2, 0, 0, 0), (2, .iload_n 2, 3, 2, 0, 0, 0), (3, .aload_n 0, 4, 0, 0, 0, 0), (4, .getfield 78, 7, 7, 26, 0, 0), (7, .iload_n 1, 8, 1, 0, 0, 0), (8, .iaload, 9, 0, 0, 0, 0), (9, .if_icmp .ge 222, 12, 231, 0, 0, 0), (12, .iconst 0, 13, 0, 0, 0, 0), (13, .istore_n 3, 14, 3, 0, 0, 0), (14, .iload_n 3, 15, 3, 0, 0, 0), (15, .aload_n 0, 16, 0, 0, 0, 0), (16, .getfield 78, 19, 7, 26, 0, 0), (19, .iload_n 1, 20, 1, 0, 0, 0), (20, .iaload, 21, 0, 0, 0, 0), (21, .if_icmp .ge 204, 24, 225, 0, 0, 0), (24, .bipush 10, 26, 0, 0, 0, 10), (26, .iload_n 1, 27, 1, 0, 0, 0), (27, .imul, 28, 0, 0, 0, 0), (28, .iload_n 2, 29, 2, 0, 0, 0), (29, .iadd, 30, 0, 0, 0, 0), (30, .istore 4, 32, 4, 0, 0, 0), (32, .bipush 10, 34, 0, 0, 0, 10), (34, .iload_n 1, 35, 1, 0, 0, 0), (35, .imul, 36, 0, 0, 0, 0), (36, .iload_n 3, 37, 3, 0, 0, 0), (37, .iadd, 38, 0, 0, 0, 0), (38, .istore 5, 40, 5, 0, 0, 0), (40, .iload_n 2, 41, 2, 0, 0, 0), (41, .iload_n 3, 42, 3, 0, 0, 0), (42, .if_icmp .lt 13, 45, 55, 0, 0, 0), (45, .aload_n 0, 46, 0, 0, 0, 0), (46, .getfield 66, 49, 7, 22, 0, 0), (49, .iload_n 1, 50, 1, 0, 0, 0), (50, .iaload, 51, 0, 0, 0, 0), (51, .iconst 3, 52, 0, 0, 0, 3), (52, .if_icmp .ne 7, 55, 59, 0, 0, 0), (55, .iconst 1, 56, 0, 0, 0, 1), (56, .goto 4, 59, 60, 0, 0, 0), (59, .iconst 0, 60, 0, 0, 0, 0), (60, .istore 6, 62, 6, 0, 0, 0), (62, .iload 6, 64, 6, 0, 0, 0), (64, .ifCond .eq 49, 67, 113, 0, 0, 0), (67, .aload_n 0, 68, 0, 0, 0, 0), (68, .iload 4, 70, 4, 0, 0, 0), (70, .invokevirtual 246, 73, 119, 0, 2, 0), (73, .ifCond .eq 40, 76, 113, 0, 0, 0), (76, .aload_n 0, 77, 0, 0, 0, 0), (77, .iload 5, 79, 5, 0, 0, 0), (79, .invokevirtual 246, 82, 119, 0, 2, 0)]
def tb_126_1 : List (Nat × En) := [(82, .ifCond .eq 31, 85, 113, 0, 0, 0), (85, .aload_n 0, 86, 0, 0, 0, 0), (86, .getfield 81, 89, 7, 27, 0, 0), (89, .iload 4, 91, 4, 0, 0, 0), (91, .iaload, 92, 0, 0, 0, 0), (92, .bipush 8, 94, 0, 0, 0, 8), (94, .if_icmp .eq 15, 97, 109, 0, 0, 0), (97, .aload_n 0, 98, 0, 0, 0, 0), (98, .getfield 81, 101, 7, 27, 0, 0), (101, .iload 5, 103, 5, 0, 0, 0), (103, .iaload, 104, 0, 0, 0, 0), (104, .bipush 8, 106, 0, 0, 0, 8), (106, .if_icmp .ne 7, 109, 113, 0, 0, 0), (109, .iconst 1, 110, 0, 0, 0, 1), (110, .goto 4, 113, 114, 0, 0, 0), (113, .iconst 0, 114, 0, 0, 0, 0), (114, .istore 7, 116, 7, 0, 0, 0), (116, .iload 7, 118, 7, 0, 0, 0), (118, .ifCond .eq 15, 121, 133, 0, 0, 0), (121, .aload_n 0, 122, 0, 0, 0, 0), (122, .iload_n 1, 123, 1, 0, 0, 0), (123, .iload 4, 125, 4, 0, 0, 0), (125, .iload 5, 127, 5, 0, 0, 0), (127, .invokevirtual 249, 130, 125, 0, 4, 0), (130, .goto 5, 133, 135, 0, 0, 0), (133, .ldc 222, 135, 222, 0, 0, (-100000)), (135, .istore 8, 137, 8, 0, 0, 0), (137, .aload_n 0, 138, 0, 0, 0, 0), (138, .getfield 120, 141, 7, 40, 0, 0), (141, .bipush 10, 143, 0, 0, 0, 10), (143, .iload_n 2, 144, 2, 0, 0, 0), (144, .imul, 145, 0, 0, 0, 0), (145, .iload_n 3, 146, 3, 0, 0, 0), (146, .iadd, 147, 0, 0, 0, 0), (147, .iload 6, 149, 6, 0, 0, 0), (149, .ifCond .eq 14, 152, 163, 0, 0, 0), (152, .aload_n 0, 153, 0, 0, 0, 0), (153, .iload 4, 155, 4, 0, 0, 0), (155, .iload 5, 157, 5, 0, 0, 0), (157, .invokevirtual 253, 160, 122, 0, 3, 0), (160, .goto 5, 163, 165, 0, 0, 0), (163, .ldc 222, 165, 222, 0, 0, (-100000)), (165, .iastore, 166, 0, 0, 0, 0), (166, .aload_n 0, 167, 0, 0, 0, 0), (167, .getfield 123, 170, 7, 41, 0, 0), (170, .bipush 10, 172, 0, 0, 0, 10), (172, .iload_n 2, 173, 2, 0, 0, 0), (173, .imul, 174, 0, 0, 0, 0), (174, .iload_n 3, 175, 3, 0, 0, 0), (175, .iadd, 176, 0, 0, 0, 0)]
def tb_126_2 : List (Nat × En) := [(176, .iload 8, 178, 8, 0, 0, 0), (178, .ldc 222, 180, 222, 0, 0, (-100000)), (180, .if_icmp .ne 8, 183, 188, 0, 0, 0), (183, .ldc 222, 185, 222, 0, 0, (-100000)), (185, .goto 20, 188, 205, 0, 0, 0), (188, .aload_n 0, 189, 0, 0, 0, 0), (189, .getfield 81, 192, 7, 27, 0, 0), (192, .iload 4, 194, 4, 0, 0, 0), (194, .iaload, 195, 0, 0, 0, 0), (195, .bipush 8, 197, 0, 0, 0, 8), (197, .if_icmp .ne 7, 200, 204, 0, 0, 0), (200, .iconst 1, 201, 0, 0, 0, 1), (201, .goto 4, 204, 205, 0, 0, 0), (204, .iconst 0, 205, 0, 0, 0, 0), (205, .iastore, 206, 0, 0, 0, 0), (206, .aload_n 0, 207, 0, 0, 0, 0), (207, .getfield 126, 210, 7, 42, 0, 0), (210, .bipush 10, 212, 0, 0, 0, 10), (212, .iload_n 2, 213, 2, 0, 0, 0), (213, .imul, 214, 0, 0, 0, 0), (214, .iload_n 3, 215, 3, 0, 0, 0), (215, .iadd, 216, 0, 0, 0, 0), (216, .iload 8, 218, 8, 0, 0, 0), (218, .iastore, 219, 0, 0, 0, 0), (219, .iinc 3 1, 222, 3, 0, 0, 1), (222, .goto (-208), 225, 14, 0, 0, 0), (225, .iinc 2 1, 228, 2, 0, 0, 1), (228, .goto (-226), 231, 2, 0, 0, 0), (231, .return_, 232, 0, 0, 0, 0)]
def tb_126 : List (Nat × En) := tb_126_0 ++ (tb_126_1 ++ (tb_126_2))
def tb_127_0 : List (Nat × En) := [(0, .bipush 10, 2, 0, 0, 0, 10), (2, .iload_n 1, 3, 1, 0, 0, 0), (3, .imul, 4, 0, 0, 0, 0), (4, .iload_n 2, 5, 2, 0, 0, 0), (5, .iadd, 6, 0, 0, 0, 0), (6, .istore 4, 8, 4, 0, 0, 0), (8, .aload_n 0, 9, 0, 0, 0, 0), (9, .getfield 120, 12, 7, 40, 0, 0), (12, .iload 4, 14, 4, 0, 0, 0), (14, .iaload, 15, 0, 0, 0, 0), (15, .ldc 222, 17, 222, 0, 0, (-100000)), (17, .if_icmp .ne 8, 20, 25, 0, 0, 0), (20, .ldc 222, 22, 222, 0, 0, (-100000)), (22, .goto 21, 25, 43, 0, 0, 0), (25, .aload_n 0, 26, 0, 0, 0, 0), (26, .getfield 120, 29, 7, 40, 0, 0), (29, .iload 4, 31, 4, 0, 0, 0), (31, .iaload, 32, 0, 0, 0, 0), (32, .iload_n 1, 33, 1, 0, 0, 0), (33, .iload_n 2, 34, 2, 0, 0, 0), (34, .if_icmp .ge 7, 37, 41, 0, 0, 0), (37, .iconst 0, 38, 0, 0, 0, 0), (38, .goto 4, 41, 42, 0, 0, 0), (41, .iload_n 3, 42, 3, 0, 0, 0), (42, .isub, 43, 0, 0, 0, 0), (43, .istore 5, 45, 5, 0, 0, 0), (45, .aload_n 0, 46, 0, 0, 0, 0), (46, .getfield 123, 49, 7, 41, 0, 0), (49, .iload 4, 51, 4, 0, 0, 0), (51, .iaload, 52, 0, 0, 0, 0), (52, .ldc 222, 54, 222, 0, 0, (-100000)), (54, .if_icmp .ne 8, 57, 62, 0, 0, 0), (57, .ldc 222, 59, 222, 0, 0, (-100000)), (59, .goto 20, 62, 79, 0, 0, 0), (62, .aload_n 0, 63, 0, 0, 0, 0), (63, .getfield 123, 66, 7, 41, 0, 0), (66, .iload 4, 68, 4, 0, 0, 0), (68, .iaload, 69, 0, 0, 0, 0), (69, .iload_n 3, 70, 3, 0, 0, 0), (70, .aload_n 0, 71, 0, 0, 0, 0), (71, .getfield 126, 74, 7, 42, 0, 0), (74, .iload 4, 76, 4, 0, 0, 0), (76, .iaload, 77, 0, 0, 0, 0), (77, .imul, 78, 0, 0, 0, 0), (78, .isub, 79, 0, 0, 0, 0), (79, .istore 6, 81, 6, 0, 0, 0), (81, .aload_n 0, 82, 0, 0, 0, 0), (82, .iload 5, 84, 5, 0, 0, 0), (84, .iload 6, 86, 6, 0, 0, 0), (86, .invokevirtual 233, 89, 121, 0, 3, 0)]
def tb_127_1 : List (Nat × En) := [(89, .ireturn, 90, 0, 0, 0, 0)]
def tb_127 : List (Nat × En) := tb_127_0 ++ (tb_127_1)
def tb_128 : List (Nat × En) := [(0, .bipush 10, 2, 0, 0, 0, 10), (2, .iload_n 1, 3, 1, 0, 0, 0), (3, .imul, 4, 0, 0, 0, 0), (4, .iload_n 2, 5, 2, 0, 0, 0), (5, .iadd, 6, 0, 0, 0, 0), (6, .istore_n 3, 7, 3, 0, 0, 0), (7, .iload_n 1, 8, 1, 0, 0, 0), (8, .iload_n 2, 9, 2, 0, 0, 0), (9, .if_icmp .ge 12, 12, 21, 0, 0, 0), (12, .aload_n 0, 13, 0, 0, 0, 0), (13, .getfield 120, 16, 7, 40, 0, 0), (16, .iload_n 3, 17, 3, 0, 0, 0), (17, .iaload, 18, 0, 0, 0, 0), (18, .goto 5, 21, 23, 0, 0, 0), (21, .ldc 222, 23, 222, 0, 0, (-100000)), (23, .istore 4, 25, 4, 0, 0, 0), (25, .aload_n 0, 26, 0, 0, 0, 0), (26, .getfield 123, 29, 7, 41, 0, 0), (29, .iload_n 3, 30, 3, 0, 0, 0), (30, .iaload, 31, 0, 0, 0, 0), (31, .ldc 222, 33, 222, 0, 0, (-100000)), (33, .if_icmp .eq 27, 36, 60, 0, 0, 0), (36, .aload_n 0, 37, 0, 0, 0, 0), (37, .getfield 126, 40, 7, 42, 0, 0), (40, .iload_n 3, 41, 3, 0, 0, 0), (41, .iaload, 42, 0, 0, 0, 0), (42, .ifCond .ne 18, 45, 60, 0, 0, 0), (45, .aload_n 0, 46, 0, 0, 0, 0), (46, .iload 4, 48, 4, 0, 0, 0), (48, .aload_n 0, 49, 0, 0, 0, 0), (49, .getfield 123, 52, 7, 41, 0, 0), (52, .iload_n 3, 53, 3, 0, 0, 0), (53, .iaload, 54, 0, 0, 0, 0), (54, .invokevirtual 233, 57, 121, 0, 3, 0), (57, .goto 5, 60, 62, 0, 0, 0), (60, .iload 4, 62, 4, 0, 0, 0), (62, .ireturn, 63, 0, 0, 0, 0)]
def tb_129_0 : List (Nat × En) := [(0, .iconst 0, 1, 0, 0, 0, 0), (1, .istore_n 3, 2, 3, 0, 0, 0), (2, .iload_n 3, 3, 3, 0, 0, 0), (3, .iload_n 1, 4, 1, 0, 0, 0), (4, .if_icmp .ge 44, 7, 48, 0, 0, 0), (7, .iconst 0, 8, 0, 0, 0, 0), (8, .istore 4, 10, 4, 0, 0, 0), (10, .iload 4, 12, 4, 0, 0, 0), (12, .iload_n 1, 13, 1, 0, 0, 0), (13, .if_icmp .ge 29, 16, 42, 0, 0, 0), (16, .aload_n 0, 17, 0, 0, 0, 0), (17, .getfield 129, 20, 7, 43, 0, 0), (20, .bipush 10, 22, 0, 0, 0, 10), (22, .iload_n 3, 23, 3, 0, 0, 0), (23, .imul, 24, 0, 0, 0, 0), (24, .iload 4, 26, 4, 0, 0, 0), (26, .iadd, 27, 0, 0, 0, 0), (27, .aload_n 0, 28, 0, 0, 0, 0), (28, .iload_n 3, 29, 3, 0, 0, 0), (29, .iload 4, 31, 4, 0, 0, 0), (31, .iload_n 2, 32, 2, 0, 0, 0), (32, .invokevirtual 256, 35, 127, 0, 4, 0), (35, .iastore, 36, 0, 0, 0, 0), (36, .iinc 4 1, 39, 4, 0, 0, 1), (39, .goto (-29), 42, 10, 0, 0, 0), (42, .iinc 3 1, 45, 3, 0, 0, 1), (45, .goto (-43), 48, 2, 0, 0, 0), (48, .iconst 0, 49, 0, 0, 0, 0), (49, .istore_n 3, 50, 3, 0, 0, 0), (50, .iload_n 3, 51, 3, 0, 0, 0), (51, .iload_n 1, 52, 1, 0, 0, 0), (52, .if_icmp .ge 140, 55, 192, 0, 0, 0), (55, .iconst 0, 56, 0, 0, 0, 0), (56, .istore 4, 58, 4, 0, 0, 0), (58, .iload 4, 60, 4, 0, 0, 0), (60, .iload_n 1, 61, 1, 0, 0, 0), (61, .if_icmp .ge 125, 64, 186, 0, 0, 0), (64, .iconst 0, 65, 0, 0, 0, 0), (65, .istore 5, 67, 5, 0, 0, 0), (67, .iload 5, 69, 5, 0, 0, 0), (69, .iload_n 1, 70, 1, 0, 0, 0), (70, .if_icmp .ge 110, 73, 180, 0, 0, 0), (73, .aload_n 0, 74, 0, 0, 0, 0), (74, .getfield 129, 77, 7, 43, 0, 0), (77, .bipush 10, 79, 0, 0, 0, 10), (79, .iload 4, 81, 4, 0, 0, 0), (81, .imul, 82, 0, 0, 0, 0), (82, .iload_n 3, 83, 3, 0, 0, 0), (83, .iadd, 84, 0, 0, 0, 0), (84, .iaload, 85, 0, 0, 0, 0)]
def tb_129_1 : List (Nat × En) := [(85, .ldc 222, 87, 222, 0, 0, (-100000)), (87, .if_icmp .le 24, 90, 111, 0, 0, 0), (90, .aload_n 0, 91, 0, 0, 0, 0), (91, .getfield 129, 94, 7, 43, 0, 0), (94, .bipush 10, 96, 0, 0, 0, 10), (96, .iload_n 3, 97, 3, 0, 0, 0), (97, .imul, 98, 0, 0, 0, 0), (98, .iload 5, 100, 5, 0, 0, 0), (100, .iadd, 101, 0, 0, 0, 0), (101, .iaload, 102, 0, 0, 0, 0), (102, .ldc 222, 104, 222, 0, 0, (-100000)), (104, .if_icmp .le 7, 107, 111, 0, 0, 0), (107, .iconst 1, 108, 0, 0, 0, 1), (108, .goto 4, 111, 112, 0, 0, 0), (111, .iconst 0, 112, 0, 0, 0, 0), (112, .istore 6, 114, 6, 0, 0, 0), (114, .iload 6, 116, 6, 0, 0, 0), (116, .ifCond .eq 58, 119, 174, 0, 0, 0), (119, .aload_n 0, 120, 0, 0, 0, 0), (120, .getfield 129, 123, 7, 43, 0, 0), (123, .bipush 10, 125, 0, 0, 0, 10), (125, .iload 4, 127, 4, 0, 0, 0), (127, .imul, 128, 0, 0, 0, 0), (128, .iload 5, 130, 5, 0, 0, 0), (130, .iadd, 131, 0, 0, 0, 0), (131, .aload_n 0, 132, 0, 0, 0, 0), (132, .aload_n 0, 133, 0, 0, 0, 0), (133, .getfield 129, 136, 7, 43, 0, 0), (136, .bipush 10, 138, 0, 0, 0, 10), (138, .iload 4, 140, 4, 0, 0, 0), (140, .imul, 141, 0, 0, 0, 0), (141, .iload 5, 143, 5, 0, 0, 0), (143, .iadd, 144, 0, 0, 0, 0), (144, .iaload, 145, 0, 0, 0, 0), (145, .aload_n 0, 146, 0, 0, 0, 0), (146, .getfield 129, 149, 7, 43, 0, 0), (149, .bipush 10, 151, 0, 0, 0, 10), (151, .iload 4, 153, 4, 0, 0, 0), (153, .imul, 154, 0, 0, 0, 0), (154, .iload_n 3, 155, 3, 0, 0, 0), (155, .iadd, 156, 0, 0, 0, 0), (156, .iaload, 157, 0, 0, 0, 0), (157, .aload_n 0, 158, 0, 0, 0, 0), (158, .getfield 129, 161, 7, 43, 0, 0), (161, .bipush 10, 163, 0, 0, 0, 10), (163, .iload_n 3, 164, 3, 0, 0, 0), (164, .imul, 165, 0, 0, 0, 0), (165, .iload 5, 167, 5, 0, 0, 0), (167, .iadd, 168, 0, 0, 0, 0), (168, .iaload, 169, 0, 0, 0, 0)]
def tb_129_2 : List (Nat × En) := [(169, .iadd, 170, 0, 0, 0, 0), (170, .invokevirtual 233, 173, 121, 0, 3, 0), (173, .iastore, 174, 0, 0, 0, 0), (174, .iinc 5 1, 177, 5, 0, 0, 1), (177, .goto (-110), 180, 67, 0, 0, 0), (180, .iinc 4 1, 183, 4, 0, 0, 1), (183, .goto (-125), 186, 58, 0, 0, 0), (186, .iinc 3 1, 189, 3, 0, 0, 1), (189, .goto (-139), 192, 50, 0, 0, 0), (192, .iconst 0, 193, 0, 0, 0, 0), (193, .istore_n 3, 194, 3, 0, 0, 0), (194, .iconst 0, 195, 0, 0, 0, 0), (195, .istore 4, 197, 4, 0, 0, 0), (197, .iload 4, 199, 4, 0, 0, 0), (199, .iload_n 1, 200, 1, 0, 0, 0), (200, .if_icmp .ge 32, 203, 232, 0, 0, 0), (203, .iload_n 3, 204, 3, 0, 0, 0), (204, .ifCond .ne 16, 207, 220, 0, 0, 0), (207, .aload_n 0, 208, 0, 0, 0, 0), (208, .getfield 129, 211, 7, 43, 0, 0), (211, .bipush 11, 213, 0, 0, 0, 11), (213, .iload 4, 215, 4, 0, 0, 0), (215, .imul, 216, 0, 0, 0, 0), (216, .iaload, 217, 0, 0, 0, 0), (217, .ifCond .le 7, 220, 224, 0, 0, 0), (220, .iconst 1, 221, 0, 0, 0, 1), (221, .goto 4, 224, 225, 0, 0, 0), (224, .iconst 0, 225, 0, 0, 0, 0), (225, .istore_n 3, 226, 3, 0, 0, 0), (226, .iinc 4 1, 229, 4, 0, 0, 1), (229, .goto (-32), 232, 197, 0, 0, 0), (232, .iload_n 3, 233, 3, 0, 0, 0), (233, .ireturn, 234, 0, 0, 0, 0)]
def tb_129 : List (Nat × En) := tb_129_0 ++ (tb_129_1 ++ (tb_129_2))
def tb_130 : List (Nat × En) := [(0, .aload_n 0, 1, 0, 0, 0, 0), (1, .iload_n 1, 2, 1, 0, 0, 0), (2, .invokevirtual 259, 5, 116, 0, 2, 0), (5, .ifCond .eq 10, 8, 15, 0, 0, 0), (8, .aload_n 0, 9, 0, 0, 0, 0), (9, .getfield 13, 12, 7, 2, 0, 0), (12, .goto 7, 15, 19, 0, 0, 0), (15, .aload_n 0, 16, 0, 0, 0, 0), (16, .getfield 7, 19, 7, 1, 0, 0), (19, .ireturn, 20, 0, 0, 0, 0)]
def tb_131_0 : List (Nat × En) := [(0, .aload_n 0, 1, 0, 0, 0, 0), (1, .iload_n 1, 2, 1, 0, 0, 0), (2, .invokevirtual 262, 5, 126, 0, 2, 0), (5, .aload_n 0, 6, 0, 0, 0, 0), (6, .iload_n 1, 7, 1, 0, 0, 0), (7, .invokevirtual 265, 10, 132, 0, 2, 0), (10, .aload_n 0, 11, 0, 0, 0, 0), (11, .getfield 111, 14, 7, 37, 0, 0), (14, .iload_n 1, 15, 1, 0, 0, 0), (15, .iconst 0, 16, 0, 0, 0, 0), (16, .iastore, 17, 0, 0, 0, 0), (17, .aload_n 0, 18, 0, 0, 0, 0), (18, .getfield 114, 21, 7, 38, 0, 0), (21, .iload_n 1, 22, 1, 0, 0, 0), (22, .iconst 0, 23, 0, 0, 0, 0), (23, .iastore, 24, 0, 0, 0, 0), (24, .aload_n 0, 25, 0, 0, 0, 0), (25, .getfield 117, 28, 7, 39, 0, 0), (28, .iload_n 1, 29, 1, 0, 0, 0), (29, .iconst 0, 30, 0, 0, 0, 0), (30, .iastore, 31, 0, 0, 0, 0), (31, .bipush 10, 33, 0, 0, 0, 10), (33, .iload_n 1, 34, 1, 0, 0, 0), (34, .imul, 35, 0, 0, 0, 0), (35, .istore_n 2, 36, 2, 0, 0, 0), (36, .iload_n 2, 37, 2, 0, 0, 0), (37, .bipush 10, 39, 0, 0, 0, 10), (39, .iload_n 1, 40, 1, 0, 0, 0), (40, .imul, 41, 0, 0, 0, 0), (41, .bipush 10, 43, 0, 0, 0, 10), (43, .iadd, 44, 0, 0, 0, 0), (44, .if_icmp .ge 16, 47, 60, 0, 0, 0), (47, .aload_n 0, 48, 0, 0, 0, 0), (48, .getfield 105, 51, 7, 35, 0, 0), (51, .iload_n 2, 52, 2, 0, 0, 0), (52, .iconst (-1), 53, 0, 0, 0, (-1)), (53, .iastore, 54, 0, 0, 0, 0), (54, .iinc 2 1, 57, 2, 0, 0, 1), (57, .goto (-21), 60, 36, 0, 0, 0), (60, .aload_n 0, 61, 0, 0, 0, 0), (61, .getfield 66, 64, 7, 22, 0, 0), (64, .iload_n 1, 65, 1, 0, 0, 0), (65, .iaload, 66, 0, 0, 0, 0), (66, .iconst 3, 67, 0, 0, 0, 3), (67, .if_icmp .ne 12, 70, 79, 0, 0, 0), (70, .aload_n 0, 71, 0, 0, 0, 0), (71, .getfield 78, 74, 7, 26, 0, 0), (74, .iload_n 1, 75, 1, 0, 0, 0), (75, .iaload, 76, 0, 0, 0, 0), (76, .ifCond .ne 4, 79, 80, 0, 0, 0)]
def tb_131_1 : List (Nat × En) := [(79, .return_, 80, 0, 0, 0, 0), (80, .iconst 0, 81, 0, 0, 0, 0), (81, .istore_n 2, 82, 2, 0, 0, 0), (82, .bipush 10, 84, 0, 0, 0, 10), (84, .iload_n 1, 85, 1, 0, 0, 0), (85, .imul, 86, 0, 0, 0, 0), (86, .istore_n 3, 87, 3, 0, 0, 0), (87, .iload_n 3, 88, 3, 0, 0, 0), (88, .bipush 10, 90, 0, 0, 0, 10), (90, .iload_n 1, 91, 1, 0, 0, 0), (91, .imul, 92, 0, 0, 0, 0), (92, .aload_n 0, 93, 0, 0, 0, 0), (93, .getfield 78, 96, 7, 26, 0, 0), (96, .iload_n 1, 97, 1, 0, 0, 0), (97, .iaload, 98, 0, 0, 0, 0), (98, .iadd, 99, 0, 0, 0, 0), (99, .if_icmp .ge 25, 102, 124, 0, 0, 0), (102, .iload_n 2, 103, 2, 0, 0, 0), (103, .aload_n 0, 104, 0, 0, 0, 0), (104, .iload_n 3, 105, 3, 0, 0, 0), (105, .invokevirtual 259, 108, 116, 0, 2, 0), (108, .ifCond .eq 7, 111, 115, 0, 0, 0), (111, .iconst 1, 112, 0, 0, 0, 1), (112, .goto 4, 115, 116, 0, 0, 0), (115, .iconst 0, 116, 0, 0, 0, 0), (116, .iadd, 117, 0, 0, 0, 0), (117, .istore_n 2, 118, 2, 0, 0, 0), (118, .iinc 3 1, 121, 3, 0, 0, 1), (121, .goto (-34), 124, 87, 0, 0, 0), (124, .aload_n 0, 125, 0, 0, 0, 0), (125, .iconst 1, 126, 0, 0, 0, 1), (126, .aload_n 0, 127, 0, 0, 0, 0), (127, .aload_n 0, 128, 0, 0, 0, 0), (128, .getfield 78, 131, 7, 26, 0, 0), (131, .iload_n 1, 132, 1, 0, 0, 0), (132, .iaload, 133, 0, 0, 0, 0), (133, .iload_n 2, 134, 2, 0, 0, 0), (134, .isub, 135, 0, 0, 0, 0), (135, .aload_n 0, 136, 0, 0, 0, 0), (136, .getfield 7, 139, 7, 1, 0, 0), (139, .iadd, 140, 0, 0, 0, 0), (140, .iconst 1, 141, 0, 0, 0, 1), (141, .isub, 142, 0, 0, 0, 0), (142, .aload_n 0, 143, 0, 0, 0, 0), (143, .getfield 7, 146, 7, 1, 0, 0), (146, .idiv, 147, 0, 0, 0, 0), (147, .iload_n 2, 148, 2, 0, 0, 0), (148, .aload_n 0, 149, 0, 0, 0, 0), (149, .getfield 13, 152, 7, 2, 0, 0), (152, .iadd, 153, 0, 0, 0, 0)]
def tb_131_2 : List (Nat × En) := [(153, .iconst 1, 154, 0, 0, 0, 1), (154, .isub, 155, 0, 0, 0, 0), (155, .aload_n 0, 156, 0, 0, 0, 0), (156, .getfield 13, 159, 7, 2, 0, 0), (159, .idiv, 160, 0, 0, 0, 0), (160, .invokevirtual 233, 163, 121, 0, 3, 0), (163, .invokevirtual 233, 166, 121, 0, 3, 0), (166, .istore_n 3, 167, 3, 0, 0, 0), (167, .aload_n 0, 168, 0, 0, 0, 0), (168, .aload_n 0, 169, 0, 0, 0, 0), (169, .getfield 78, 172, 7, 26, 0, 0), (172, .iload_n 1, 173, 1, 0, 0, 0), (173, .iaload, 174, 0, 0, 0, 0), (174, .iload_n 3, 175, 3, 0, 0, 0), (175, .invokevirtual 268, 178, 129, 0, 3, 0), (178, .ifCond .eq 9, 181, 187, 0, 0, 0), (181, .iinc 3 1, 184, 3, 0, 0, 1), (184, .goto (-17), 187, 167, 0, 0, 0), (187, .aload_n 0, 188, 0, 0, 0, 0), (188, .getfield 111, 191, 7, 37, 0, 0), (191, .iload_n 1, 192, 1, 0, 0, 0), (192, .iload_n 3, 193, 3, 0, 0, 0), (193, .iastore, 194, 0, 0, 0, 0), (194, .iload_n 3, 195, 3, 0, 0, 0), (195, .aload_n 0, 196, 0, 0, 0, 0), (196, .getfield 108, 199, 7, 36, 0, 0), (199, .iload_n 1, 200, 1, 0, 0, 0), (200, .iaload, 201, 0, 0, 0, 0), (201, .if_icmp .gt 18, 204, 219, 0, 0, 0), (204, .aload_n 0, 205, 0, 0, 0, 0), (205, .iload_n 1, 206, 1, 0, 0, 0), (206, .iload_n 3, 207, 3, 0, 0, 0), (207, .invokevirtual 271, 210, 136, 0, 3, 0), (210, .ifCond .ne 9, 213, 219, 0, 0, 0), (213, .iinc 3 1, 216, 3, 0, 0, 1), (216, .goto (-22), 219, 194, 0, 0, 0), (219, .iload_n 3, 220, 3, 0, 0, 0), (220, .aload_n 0, 221, 0, 0, 0, 0), (221, .getfield 108, 224, 7, 36, 0, 0), (224, .iload_n 1, 225, 1, 0, 0, 0), (225, .iaload, 226, 0, 0, 0, 0), (226, .if_icmp .le 4, 229, 230, 0, 0, 0), (229, .return_, 230, 0, 0, 0, 0), (230, .aload_n 0, 231, 0, 0, 0, 0), (231, .getfield 114, 234, 7, 38, 0, 0), (234, .iload_n 1, 235, 1, 0, 0, 0), (235, .iload_n 3, 236, 3, 0, 0, 0), (236, .iastore, 237, 0, 0, 0, 0), (237, .iconst 0, 238, 0, 0, 0, 0), (238, .istore 4, 240, 4, 0, 0, 0)]
def tb_131_3 : List (Nat × En) := [(240, .iload 4, 242, 4, 0, 0, 0), (242, .aload_n 0, 243, 0, 0, 0, 0), (243, .getfield 78, 246, 7, 26, 0, 0), (246, .iload_n 1, 247, 1, 0, 0, 0), (247, .iaload, 248, 0, 0, 0, 0), (248, .if_icmp .ge 55, 251, 303, 0, 0, 0), (251, .aload_n 0, 252, 0, 0, 0, 0), (252, .getfield 105, 255, 7, 35, 0, 0), (255, .bipush 10, 257, 0, 0, 0, 10), (257, .iload_n 1, 258, 1, 0, 0, 0), (258, .imul, 259, 0, 0, 0, 0), (259, .iload 4, 261, 4, 0, 0, 0), (261, .iadd, 262, 0, 0, 0, 0), (262, .aload_n 0, 263, 0, 0, 0, 0), (263, .getfield 135, 266, 7, 45, 0, 0), (266, .iload 4, 268, 4, 0, 0, 0), (268, .iaload, 269, 0, 0, 0, 0), (269, .iastore, 270, 0, 0, 0, 0), (270, .aload_n 0, 271, 0, 0, 0, 0), (271, .getfield 117, 274, 7, 39, 0, 0), (274, .iload_n 1, 275, 1, 0, 0, 0), (275, .aload_n 0, 276, 0, 0, 0, 0), (276, .aload_n 0, 277, 0, 0, 0, 0), (277, .getfield 117, 280, 7, 39, 0, 0), (280, .iload_n 1, 281, 1, 0, 0, 0), (281, .iaload, 282, 0, 0, 0, 0), (282, .aload_n 0, 283, 0, 0, 0, 0), (283, .getfield 135, 286, 7, 45, 0, 0), (286, .iload 4, 288, 4, 0, 0, 0), (288, .iaload, 289, 0, 0, 0, 0), (289, .iload_n 3, 290, 3, 0, 0, 0), (290, .idiv, 291, 0, 0, 0, 0), (291, .iconst 1, 292, 0, 0, 0, 1), (292, .iadd, 293, 0, 0, 0, 0), (293, .invokevirtual 233, 296, 121, 0, 3, 0), (296, .iastore, 297, 0, 0, 0, 0), (297, .iinc 4 1, 300, 4, 0, 0, 1), (300, .goto (-60), 303, 240, 0, 0, 0), (303, .return_, 304, 0, 0, 0, 0)]
def tb_131 : List (Nat × En) := tb_131_0 ++ (tb_131_1 ++ (tb_131_2 ++ (tb_131_3)))
def tb_132_0 : List (Nat × En) := [(0, .aload_n 0, 1, 0, 0, 0, 0), (1, .getfield 78, 4, 7, 26, 0, 0), (4, .iload_n 1, 5, 1, 0, 0, 0), (5, .iaload, 6, 0, 0, 0, 0), (6, .istore_n 2, 7, 2, 0, 0, 0), (7, .iload_n 2, 8, 2, 0, 0, 0), (8, .iconst 1, 9, 0, 0, 0, 1), (9, .isub, 10, 0, 0, 0, 0), (10, .istore_n 3, 11, 3, 0, 0, 0), (11, .iload_n 3, 12, 3, 0, 0, 0), (12, .ifCond .lt 103, 15, 115, 0, 0, 0), (15, .aload_n 0, 16, 0, 0, 0, 0), (16, .bipush 10, 18, 0, 0, 0, 10), (18, .iload_n 1, 19, 1, 0, 0, 0), (19, .imul, 20, 0, 0, 0, 0), (20, .iload_n 3, 21, 3, 0, 0, 0), (21, .iadd, 22, 0, 0, 0, 0), (22, .invokevirtual 229, 25, 115, 0, 2, 0), (25, .istore 4, 27, 4, 0, 0, 0), (27, .iload_n 3, 28, 3, 0, 0, 0), (28, .iconst 1, 29, 0, 0, 0, 1), (29, .iadd, 30, 0, 0, 0, 0), (30, .istore 5, 32, 5, 0, 0, 0), (32, .iload 5, 34, 5, 0, 0, 0), (34, .iload_n 2, 35, 2, 0, 0, 0), (35, .if_icmp .ge 49, 38, 84, 0, 0, 0), (38, .aload_n 0, 39, 0, 0, 0, 0), (39, .iload_n 3, 40, 3, 0, 0, 0), (40, .iload 5, 42, 5, 0, 0, 0), (42, .invokevirtual 274, 45, 128, 0, 3, 0), (45, .ldc 222, 47, 222, 0, 0, (-100000)), (47, .if_icmp .le 31, 50, 78, 0, 0, 0), (50, .aload_n 0, 51, 0, 0, 0, 0), (51, .iload 4, 53, 4, 0, 0, 0), (53, .aload_n 0, 54, 0, 0, 0, 0), (54, .iload_n 3, 55, 3, 0, 0, 0), (55, .iload 5, 57, 5, 0, 0, 0), (57, .invokevirtual 274, 60, 128, 0, 3, 0), (60, .aload_n 0, 61, 0, 0, 0, 0), (61, .getfield 99, 64, 7, 33, 0, 0), (64, .bipush 10, 66, 0, 0, 0, 10), (66, .iload_n 1, 67, 1, 0, 0, 0), (67, .imul, 68, 0, 0, 0, 0), (68, .iload 5, 70, 5, 0, 0, 0), (70, .iadd, 71, 0, 0, 0, 0), (71, .iaload, 72, 0, 0, 0, 0), (72, .iadd, 73, 0, 0, 0, 0), (73, .invokevirtual 233, 76, 121, 0, 3, 0), (76, .istore 4, 78, 4, 0, 0, 0), (78, .iinc 5 1, 81, 5, 0, 0, 1)]
def tb_132_1 : List (Nat × En) := [(81, .goto (-49), 84, 32, 0, 0, 0), (84, .aload_n 0, 85, 0, 0, 0, 0), (85, .getfield 99, 88, 7, 33, 0, 0), (88, .bipush 10, 90, 0, 0, 0, 10), (90, .iload_n 1, 91, 1, 0, 0, 0), (91, .imul, 92, 0, 0, 0, 0), (92, .iload_n 3, 93, 3, 0, 0, 0), (93, .iadd, 94, 0, 0, 0, 0), (94, .iload 4, 96, 4, 0, 0, 0), (96, .iastore, 97, 0, 0, 0, 0), (97, .aload_n 0, 98, 0, 0, 0, 0), (98, .getfield 102, 101, 7, 34, 0, 0), (101, .bipush 10, 103, 0, 0, 0, 10), (103, .iload_n 1, 104, 1, 0, 0, 0), (104, .imul, 105, 0, 0, 0, 0), (105, .iload_n 3, 106, 3, 0, 0, 0), (106, .iadd, 107, 0, 0, 0, 0), (107, .iconst (-1), 108, 0, 0, 0, (-1)), (108, .iastore, 109, 0, 0, 0, 0), (109, .iinc 3 (-1), 112, 3, 0, 0, (-1)), (112, .goto (-101), 115, 11, 0, 0, 0), (115, .iload_n 2, 116, 2, 0, 0, 0), (116, .istore_n 3, 117, 3, 0, 0, 0), (117, .aload_n 0, 118, 0, 0, 0, 0), (118, .getfield 108, 121, 7, 36, 0, 0), (121, .iload_n 1, 122, 1, 0, 0, 0), (122, .iconst 0, 123, 0, 0, 0, 0), (123, .iastore, 124, 0, 0, 0, 0), (124, .iconst 0, 125, 0, 0, 0, 0), (125, .istore 4, 127, 4, 0, 0, 0), (127, .iload_n 3, 128, 3, 0, 0, 0), (128, .ifCond .le 82, 131, 210, 0, 0, 0), (131, .aload_n 0, 132, 0, 0, 0, 0), (132, .iload_n 1, 133, 1, 0, 0, 0), (133, .iload 4, 135, 4, 0, 0, 0), (135, .invokevirtual 277, 138, 133, 0, 3, 0), (138, .istore 5, 140, 5, 0, 0, 0), (140, .iload 5, 142, 5, 0, 0, 0), (142, .ifCond .lt 62, 145, 204, 0, 0, 0), (145, .aload_n 0, 146, 0, 0, 0, 0), (146, .getfield 102, 149, 7, 34, 0, 0), (149, .bipush 10, 151, 0, 0, 0, 10), (151, .iload_n 1, 152, 1, 0, 0, 0), (152, .imul, 153, 0, 0, 0, 0), (153, .iload 5, 155, 5, 0, 0, 0), (155, .iadd, 156, 0, 0, 0, 0), (156, .iload 4, 158, 4, 0, 0, 0), (158, .iastore, 159, 0, 0, 0, 0), (159, .aload_n 0, 160, 0, 0, 0, 0), (160, .getfield 108, 163, 7, 36, 0, 0)]
def tb_132_2 : List (Nat × En) := [(163, .iload_n 1, 164, 1, 0, 0, 0), (164, .aload_n 0, 165, 0, 0, 0, 0), (165, .aload_n 0, 166, 0, 0, 0, 0), (166, .getfield 108, 169, 7, 36, 0, 0), (169, .iload_n 1, 170, 1, 0, 0, 0), (170, .iaload, 171, 0, 0, 0, 0), (171, .iload 4, 173, 4, 0, 0, 0), (173, .aload_n 0, 174, 0, 0, 0, 0), (174, .bipush 10, 176, 0, 0, 0, 10), (176, .iload_n 1, 177, 1, 0, 0, 0), (177, .imul, 178, 0, 0, 0, 0), (178, .iload 5, 180, 5, 0, 0, 0), (180, .iadd, 181, 0, 0, 0, 0), (181, .invokevirtual 229, 184, 115, 0, 2, 0), (184, .iadd, 185, 0, 0, 0, 0), (185, .invokevirtual 233, 188, 121, 0, 3, 0), (188, .iastore, 189, 0, 0, 0, 0), (189, .iinc 3 (-1), 192, 3, 0, 0, (-1)), (192, .aload_n 0, 193, 0, 0, 0, 0), (193, .iload_n 1, 194, 1, 0, 0, 0), (194, .iload 4, 196, 4, 0, 0, 0), (196, .invokevirtual 277, 199, 133, 0, 3, 0), (199, .istore 5, 201, 5, 0, 0, 0), (201, .goto (-61), 204, 140, 0, 0, 0), (204, .iinc 4 1, 207, 4, 0, 0, 1), (207, .goto (-80), 210, 127, 0, 0, 0), (210, .return_, 211, 0, 0, 0, 0)]
def tb_132 : List (Nat × En) := tb_132_0 ++ (tb_132_1 ++ (tb_132_2))
def tb_133_0 : List (Nat × En) := [(0, .iconst (-1), 1, 0, 0, 0, (-1)), (1, .istore_n 3, 2, 3, 0, 0, 0), (2, .iconst 0, 3, 0, 0, 0, 0), (3, .istore 4, 5, 4, 0, 0, 0), (5, .iload 4, 7, 4, 0, 0, 0), (7, .aload_n 0, 8, 0, 0, 0, 0), (8, .getfield 78, 11, 7, 26, 0, 0), (11, .iload_n 1, 12, 1, 0, 0, 0), (12, .iaload, 13, 0, 0, 0, 0), (13, .if_icmp .ge 228, 16, 241, 0, 0, 0), (16, .bipush 10, 18, 0, 0, 0, 10), (18, .iload_n 1, 19, 1, 0, 0, 0), (19, .imul, 20, 0, 0, 0, 0), (20, .iload 4, 22, 4, 0, 0, 0), (22, .iadd, 23, 0, 0, 0, 0), (23, .istore 5, 25, 5, 0, 0, 0), (25, .aload_n 0, 26, 0, 0, 0, 0), (26, .getfield 102, 29, 7, 34, 0, 0), (29, .iload 5, 31, 5, 0, 0, 0), (31, .iaload, 32, 0, 0, 0, 0), (32, .ifCond .lt 6, 35, 38, 0, 0, 0), (35, .goto 200, 38, 235, 0, 0, 0), (38, .iconst 1, 39, 0, 0, 0, 1), (39, .istore 6, 41, 6, 0, 0, 0), (41, .iconst 0, 42, 0, 0, 0, 0), (42, .istore 7, 44, 7, 0, 0, 0), (44, .iload 7, 46, 7, 0, 0, 0), (46, .iload 4, 48, 4, 0, 0, 0), (48, .if_icmp .ge 74, 51, 122, 0, 0, 0), (51, .iload 6, 53, 6, 0, 0, 0), (53, .ifCond .eq 60, 56, 113, 0, 0, 0), (56, .aload_n 0, 57, 0, 0, 0, 0), (57, .iload 7, 59, 7, 0, 0, 0), (59, .iload 4, 61, 4, 0, 0, 0), (61, .invokevirtual 274, 64, 128, 0, 3, 0), (64, .ldc 222, 66, 222, 0, 0, (-100000)), (66, .if_icmp .eq 43, 69, 109, 0, 0, 0), (69, .aload_n 0, 70, 0, 0, 0, 0), (70, .getfield 102, 73, 7, 34, 0, 0), (73, .bipush 10, 75, 0, 0, 0, 10), (75, .iload_n 1, 76, 1, 0, 0, 0), (76, .imul, 77, 0, 0, 0, 0), (77, .iload 7, 79, 7, 0, 0, 0), (79, .iadd, 80, 0, 0, 0, 0), (80, .iaload, 81, 0, 0, 0, 0), (81, .ifCond .lt 32, 84, 113, 0, 0, 0), (84, .aload_n 0, 85, 0, 0, 0, 0), (85, .getfield 102, 88, 7, 34, 0, 0), (88, .bipush 10, 90, 0, 0, 0, 10), (90, .iload_n 1, 91, 1, 0, 0, 0)]
def tb_133_1 : List (Nat × En) := [(91, .imul, 92, 0, 0, 0, 0), (92, .iload 7, 94, 7, 0, 0, 0), (94, .iadd, 95, 0, 0, 0, 0), (95, .iaload, 96, 0, 0, 0, 0), (96, .aload_n 0, 97, 0, 0, 0, 0), (97, .iload 7, 99, 7, 0, 0, 0), (99, .iload 4, 101, 4, 0, 0, 0), (101, .invokevirtual 274, 104, 128, 0, 3, 0), (104, .iadd, 105, 0, 0, 0, 0), (105, .iload_n 2, 106, 2, 0, 0, 0), (106, .if_icmp .gt 7, 109, 113, 0, 0, 0), (109, .iconst 1, 110, 0, 0, 0, 1), (110, .goto 4, 113, 114, 0, 0, 0), (113, .iconst 0, 114, 0, 0, 0, 0), (114, .istore 6, 116, 6, 0, 0, 0), (116, .iinc 7 1, 119, 7, 0, 0, 1), (119, .goto (-75), 122, 44, 0, 0, 0), (122, .iconst 0, 123, 0, 0, 0, 0), (123, .istore 7, 125, 7, 0, 0, 0), (125, .iconst 0, 126, 0, 0, 0, 0), (126, .istore 8, 128, 8, 0, 0, 0), (128, .iload 8, 130, 8, 0, 0, 0), (130, .aload_n 0, 131, 0, 0, 0, 0), (131, .getfield 78, 134, 7, 26, 0, 0), (134, .iload_n 1, 135, 1, 0, 0, 0), (135, .iaload, 136, 0, 0, 0, 0), (136, .if_icmp .ge 55, 139, 191, 0, 0, 0), (139, .iload 7, 141, 7, 0, 0, 0), (141, .aload_n 0, 142, 0, 0, 0, 0), (142, .getfield 102, 145, 7, 34, 0, 0), (145, .bipush 10, 147, 0, 0, 0, 10), (147, .iload_n 1, 148, 1, 0, 0, 0), (148, .imul, 149, 0, 0, 0, 0), (149, .iload 8, 151, 8, 0, 0, 0), (151, .iadd, 152, 0, 0, 0, 0), (152, .iaload, 153, 0, 0, 0, 0), (153, .iload_n 2, 154, 2, 0, 0, 0), (154, .if_icmp .ne 27, 157, 181, 0, 0, 0), (157, .aload_n 0, 158, 0, 0, 0, 0), (158, .bipush 10, 160, 0, 0, 0, 10), (160, .iload_n 1, 161, 1, 0, 0, 0), (161, .imul, 162, 0, 0, 0, 0), (162, .iload 8, 164, 8, 0, 0, 0), (164, .iadd, 165, 0, 0, 0, 0), (165, .invokevirtual 259, 168, 116, 0, 2, 0), (168, .aload_n 0, 169, 0, 0, 0, 0), (169, .iload 5, 171, 5, 0, 0, 0), (171, .invokevirtual 259, 174, 116, 0, 2, 0), (174, .if_icmp .ne 7, 177, 181, 0, 0, 0), (177, .iconst 1, 178, 0, 0, 0, 1)]
def tb_133_2 : List (Nat × En) := [(178, .goto 4, 181, 182, 0, 0, 0), (181, .iconst 0, 182, 0, 0, 0, 0), (182, .iadd, 183, 0, 0, 0, 0), (183, .istore 7, 185, 7, 0, 0, 0), (185, .iinc 8 1, 188, 8, 0, 0, 1), (188, .goto (-60), 191, 128, 0, 0, 0), (191, .iload 6, 193, 6, 0, 0, 0), (193, .ifCond .eq 42, 196, 235, 0, 0, 0), (196, .iload 7, 198, 7, 0, 0, 0), (198, .aload_n 0, 199, 0, 0, 0, 0), (199, .iload 5, 201, 5, 0, 0, 0), (201, .invokevirtual 280, 204, 130, 0, 2, 0), (204, .if_icmp .ge 31, 207, 235, 0, 0, 0), (207, .iload_n 3, 208, 3, 0, 0, 0), (208, .ifCond .lt 24, 211, 232, 0, 0, 0), (211, .aload_n 0, 212, 0, 0, 0, 0), (212, .getfield 99, 215, 7, 33, 0, 0), (215, .iload 5, 217, 5, 0, 0, 0), (217, .iaload, 218, 0, 0, 0, 0), (218, .aload_n 0, 219, 0, 0, 0, 0), (219, .getfield 99, 222, 7, 33, 0, 0), (222, .bipush 10, 224, 0, 0, 0, 10), (224, .iload_n 1, 225, 1, 0, 0, 0), (225, .imul, 226, 0, 0, 0, 0), (226, .iload_n 3, 227, 3, 0, 0, 0), (227, .iadd, 228, 0, 0, 0, 0), (228, .iaload, 229, 0, 0, 0, 0), (229, .if_icmp .le 6, 232, 235, 0, 0, 0), (232, .iload 4, 234, 4, 0, 0, 0), (234, .istore_n 3, 235, 3, 0, 0, 0), (235, .iinc 4 1, 238, 4, 0, 0, 1), (238, .goto (-233), 241, 5, 0, 0, 0), (241, .iload_n 3, 242, 3, 0, 0, 0), (242, .ireturn, 243, 0, 0, 0, 0)]
def tb_133 : List (Nat × En) := tb_133_0 ++ (tb_133_1 ++ (tb_133_2))
def tb_134 : List (Nat × En) := [(0, .iconst 0, 1, 0, 0, 0, 0), (1, .istore 5, 3, 5, 0, 0, 0), (3, .iconst 0, 4, 0, 0, 0, 0), (4, .istore 6, 6, 6, 0, 0, 0), (6, .iload 6, 8, 6, 0, 0, 0), (8, .aload_n 0, 9, 0, 0, 0, 0), (9, .getfield 78, 12, 7, 26, 0, 0), (12, .iload_n 1, 13, 1, 0, 0, 0), (13, .iaload, 14, 0, 0, 0, 0), (14, .if_icmp .ge 67, 17, 81, 0, 0, 0), (17, .iload 5, 19, 5, 0, 0, 0), (19, .aload_n 0, 20, 0, 0, 0, 0), (20, .getfield 135, 23, 7, 45, 0, 0), (23, .iload 6, 25, 6, 0, 0, 0), (25, .iaload, 26, 0, 0, 0, 0), (26, .ifCond .lt 45, 29, 71, 0, 0, 0), (29, .aload_n 0, 30, 0, 0, 0, 0), (30, .getfield 135, 33, 7, 45, 0, 0), (33, .iload 6, 35, 6, 0, 0, 0), (35, .iaload, 36, 0, 0, 0, 0), (36, .iload 4, 38, 4, 0, 0, 0), (38, .irem, 39, 0, 0, 0, 0), (39, .iload_n 3, 40, 3, 0, 0, 0), (40, .if_icmp .ne 31, 43, 71, 0, 0, 0), (43, .aload_n 0, 44, 0, 0, 0, 0), (44, .bipush 10, 46, 0, 0, 0, 10), (46, .iload_n 1, 47, 1, 0, 0, 0), (47, .imul, 48, 0, 0, 0, 0), (48, .iload 6, 50, 6, 0, 0, 0), (50, .iadd, 51, 0, 0, 0, 0), (51, .invokevirtual 259, 54, 116, 0, 2, 0), (54, .aload_n 0, 55, 0, 0, 0, 0), (55, .bipush 10, 57, 0, 0, 0, 10), (57, .iload_n 1, 58, 1, 0, 0, 0), (58, .imul, 59, 0, 0, 0, 0), (59, .iload_n 2, 60, 2, 0, 0, 0), (60, .iadd, 61, 0, 0, 0, 0), (61, .invokevirtual 259, 64, 116, 0, 2, 0), (64, .if_icmp .ne 7, 67, 71, 0, 0, 0), (67, .iconst 1, 68, 0, 0, 0, 1), (68, .goto 4, 71, 72, 0, 0, 0), (71, .iconst 0, 72, 0, 0, 0, 0), (72, .iadd, 73, 0, 0, 0, 0), (73, .istore 5, 75, 5, 0, 0, 0), (75, .iinc 6 1, 78, 6, 0, 0, 1), (78, .goto (-72), 81, 6, 0, 0, 0), (81, .iload 5, 83, 5, 0, 0, 0), (83, .ireturn, 84, 0, 0, 0, 0)]
def tb_135_0 : List (Nat × En) := [(0, .iconst (-1), 1, 0, 0, 0, (-1)), (1, .istore 5, 3, 5, 0, 0, 0), (3, .iconst 0, 4, 0, 0, 0, 0), (4, .istore 6, 6, 6, 0, 0, 0), (6, .iload 6, 8, 6, 0, 0, 0), (8, .aload_n 0, 9, 0, 0, 0, 0), (9, .getfield 78, 12, 7, 26, 0, 0), (12, .iload_n 1, 13, 1, 0, 0, 0), (13, .iaload, 14, 0, 0, 0, 0), (14, .if_icmp .ge 95, 17, 109, 0, 0, 0), (17, .aload_n 0, 18, 0, 0, 0, 0), (18, .getfield 135, 21, 7, 45, 0, 0), (21, .iload 6, 23, 6, 0, 0, 0), (23, .iaload, 24, 0, 0, 0, 0), (24, .ifCond .lt 45, 27, 69, 0, 0, 0), (27, .aload_n 0, 28, 0, 0, 0, 0), (28, .getfield 135, 31, 7, 45, 0, 0), (31, .iload 6, 33, 6, 0, 0, 0), (33, .iaload, 34, 0, 0, 0, 0), (34, .iload 4, 36, 4, 0, 0, 0), (36, .irem, 37, 0, 0, 0, 0), (37, .iload_n 3, 38, 3, 0, 0, 0), (38, .if_icmp .ne 31, 41, 69, 0, 0, 0), (41, .aload_n 0, 42, 0, 0, 0, 0), (42, .bipush 10, 44, 0, 0, 0, 10), (44, .iload_n 1, 45, 1, 0, 0, 0), (45, .imul, 46, 0, 0, 0, 0), (46, .iload 6, 48, 6, 0, 0, 0), (48, .iadd, 49, 0, 0, 0, 0), (49, .invokevirtual 259, 52, 116, 0, 2, 0), (52, .aload_n 0, 53, 0, 0, 0, 0), (53, .bipush 10, 55, 0, 0, 0, 10), (55, .iload_n 1, 56, 1, 0, 0, 0), (56, .imul, 57, 0, 0, 0, 0), (57, .iload_n 2, 58, 2, 0, 0, 0), (58, .iadd, 59, 0, 0, 0, 0), (59, .invokevirtual 259, 62, 116, 0, 2, 0), (62, .if_icmp .ne 7, 65, 69, 0, 0, 0), (65, .iconst 1, 66, 0, 0, 0, 1), (66, .goto 4, 69, 70, 0, 0, 0), (69, .iconst 0, 70, 0, 0, 0, 0), (70, .istore 7, 72, 7, 0, 0, 0), (72, .iload 7, 74, 7, 0, 0, 0), (74, .ifCond .eq 29, 77, 103, 0, 0, 0), (77, .iload 5, 79, 5, 0, 0, 0), (79, .ifCond .lt 20, 82, 99, 0, 0, 0), (82, .aload_n 0, 83, 0, 0, 0, 0), (83, .getfield 132, 86, 7, 44, 0, 0), (86, .iload 6, 88, 6, 0, 0, 0), (88, .iaload, 89, 0, 0, 0, 0)]
def tb_135_1 : List (Nat × En) := [(89, .aload_n 0, 90, 0, 0, 0, 0), (90, .getfield 132, 93, 7, 44, 0, 0), (93, .iload 5, 95, 5, 0, 0, 0), (95, .iaload, 96, 0, 0, 0, 0), (96, .if_icmp .gt 7, 99, 103, 0, 0, 0), (99, .iload 6, 101, 6, 0, 0, 0), (101, .istore 5, 103, 5, 0, 0, 0), (103, .iinc 6 1, 106, 6, 0, 0, 1), (106, .goto (-100), 109, 6, 0, 0, 0), (109, .iload 5, 111, 5, 0, 0, 0), (111, .ifCond .lt 11, 114, 122, 0, 0, 0), (114, .aload_n 0, 115, 0, 0, 0, 0), (115, .getfield 135, 118, 7, 45, 0, 0), (118, .iload 5, 120, 5, 0, 0, 0), (120, .iconst (-1), 121, 0, 0, 0, (-1)), (121, .iastore, 122, 0, 0, 0, 0), (122, .return_, 123, 0, 0, 0, 0)]
def tb_135 : List (Nat × En) := tb_135_0 ++ (tb_135_1)
def tb_136_0 : List (Nat × En) := [(0, .aload_n 0, 1, 0, 0, 0, 0), (1, .getfield 78, 4, 7, 26, 0, 0), (4, .iload_n 1, 5, 1, 0, 0, 0), (5, .iaload, 6, 0, 0, 0, 0), (6, .istore_n 3, 7, 3, 0, 0, 0), (7, .aload_n 0, 8, 0, 0, 0, 0), (8, .iload_n 3, 9, 3, 0, 0, 0), (9, .iload_n 2, 10, 2, 0, 0, 0), (10, .invokevirtual 268, 13, 129, 0, 3, 0), (13, .istore 4, 15, 4, 0, 0, 0), (15, .iconst 0, 16, 0, 0, 0, 0), (16, .istore 5, 18, 5, 0, 0, 0), (18, .iload 5, 20, 5, 0, 0, 0), (20, .iload_n 3, 21, 3, 0, 0, 0), (21, .if_icmp .ge 79, 24, 100, 0, 0, 0), (24, .aload_n 0, 25, 0, 0, 0, 0), (25, .getfield 132, 28, 7, 44, 0, 0), (28, .iload 5, 30, 5, 0, 0, 0), (30, .iconst 0, 31, 0, 0, 0, 0), (31, .iastore, 32, 0, 0, 0, 0), (32, .iconst 0, 33, 0, 0, 0, 0), (33, .istore 6, 35, 6, 0, 0, 0), (35, .iload 6, 37, 6, 0, 0, 0), (37, .iload_n 3, 38, 3, 0, 0, 0), (38, .if_icmp .ge 40, 41, 78, 0, 0, 0), (41, .aload_n 0, 42, 0, 0, 0, 0), (42, .getfield 132, 45, 7, 44, 0, 0), (45, .iload 5, 47, 5, 0, 0, 0), (47, .aload_n 0, 48, 0, 0, 0, 0), (48, .aload_n 0, 49, 0, 0, 0, 0), (49, .getfield 132, 52, 7, 44, 0, 0), (52, .iload 5, 54, 5, 0, 0, 0), (54, .iaload, 55, 0, 0, 0, 0), (55, .aload_n 0, 56, 0, 0, 0, 0), (56, .getfield 129, 59, 7, 43, 0, 0), (59, .bipush 10, 61, 0, 0, 0, 10), (61, .iload 5, 63, 5, 0, 0, 0), (63, .imul, 64, 0, 0, 0, 0), (64, .iload 6, 66, 6, 0, 0, 0), (66, .iadd, 67, 0, 0, 0, 0), (67, .iaload, 68, 0, 0, 0, 0), (68, .invokevirtual 233, 71, 121, 0, 3, 0), (71, .iastore, 72, 0, 0, 0, 0), (72, .iinc 6 1, 75, 6, 0, 0, 1), (75, .goto (-40), 78, 35, 0, 0, 0), (78, .aload_n 0, 79, 0, 0, 0, 0), (79, .getfield 135, 82, 7, 45, 0, 0), (82, .iload 5, 84, 5, 0, 0, 0), (84, .iconst (-1), 85, 0, 0, 0, (-1)), (85, .iastore, 86, 0, 0, 0, 0)]
def tb_136_1 : List (Nat × En) := [(86, .aload_n 0, 87, 0, 0, 0, 0), (87, .getfield 138, 90, 7, 46, 0, 0), (90, .iload 5, 92, 5, 0, 0, 0), (92, .iconst (-1), 93, 0, 0, 0, (-1)), (93, .iastore, 94, 0, 0, 0, 0), (94, .iinc 5 1, 97, 5, 0, 0, 1), (97, .goto (-79), 100, 18, 0, 0, 0), (100, .iconst 0, 101, 0, 0, 0, 0), (101, .istore 5, 103, 5, 0, 0, 0), (103, .iload 5, 105, 5, 0, 0, 0), (105, .bipush 6, 107, 0, 0, 0, 6), (107, .iload_n 3, 108, 3, 0, 0, 0), (108, .imul, 109, 0, 0, 0, 0), (109, .if_icmp .ge 76, 112, 185, 0, 0, 0), (112, .iconst (-1), 113, 0, 0, 0, (-1)), (113, .istore 6, 115, 6, 0, 0, 0), (115, .iconst 0, 116, 0, 0, 0, 0), (116, .istore 7, 118, 7, 0, 0, 0), (118, .iload 7, 120, 7, 0, 0, 0), (120, .iload_n 3, 121, 3, 0, 0, 0), (121, .if_icmp .ge 45, 124, 166, 0, 0, 0), (124, .aload_n 0, 125, 0, 0, 0, 0), (125, .getfield 135, 128, 7, 45, 0, 0), (128, .iload 7, 130, 7, 0, 0, 0), (130, .iaload, 131, 0, 0, 0, 0), (131, .ifCond .ge 29, 134, 160, 0, 0, 0), (134, .iload 6, 136, 6, 0, 0, 0), (136, .ifCond .lt 20, 139, 156, 0, 0, 0), (139, .aload_n 0, 140, 0, 0, 0, 0), (140, .getfield 132, 143, 7, 44, 0, 0), (143, .iload 7, 145, 7, 0, 0, 0), (145, .iaload, 146, 0, 0, 0, 0), (146, .aload_n 0, 147, 0, 0, 0, 0), (147, .getfield 132, 150, 7, 44, 0, 0), (150, .iload 6, 152, 6, 0, 0, 0), (152, .iaload, 153, 0, 0, 0, 0), (153, .if_icmp .le 7, 156, 160, 0, 0, 0), (156, .iload 7, 158, 7, 0, 0, 0), (158, .istore 6, 160, 6, 0, 0, 0), (160, .iinc 7 1, 163, 7, 0, 0, 1), (163, .goto (-45), 166, 118, 0, 0, 0), (166, .iload 6, 168, 6, 0, 0, 0), (168, .ifCond .lt 11, 171, 179, 0, 0, 0), (171, .aload_n 0, 172, 0, 0, 0, 0), (172, .iload_n 1, 173, 1, 0, 0, 0), (173, .iload 6, 175, 6, 0, 0, 0), (175, .iload_n 2, 176, 2, 0, 0, 0), (176, .invokevirtual 283, 179, 137, 0, 4, 0), (179, .iinc 5 1, 182, 5, 0, 0, 1), (182, .goto (-79), 185, 103, 0, 0, 0)]
def tb_136_2 : List (Nat × En) := [(185, .iload 4, 187, 4, 0, 0, 0), (187, .ifCond .ne 7, 190, 194, 0, 0, 0), (190, .iconst 1, 191, 0, 0, 0, 1), (191, .goto 4, 194, 195, 0, 0, 0), (194, .iconst 0, 195, 0, 0, 0, 0), (195, .istore 5, 197, 5, 0, 0, 0), (197, .iconst 0, 198, 0, 0, 0, 0), (198, .istore 6, 200, 6, 0, 0, 0), (200, .iload 6, 202, 6, 0, 0, 0), (202, .iload_n 3, 203, 3, 0, 0, 0), (203, .if_icmp .ge 45, 206, 248, 0, 0, 0), (206, .iload 5, 208, 5, 0, 0, 0), (208, .ifCond .eq 31, 211, 239, 0, 0, 0), (211, .aload_n 0, 212, 0, 0, 0, 0), (212, .getfield 135, 215, 7, 45, 0, 0), (215, .iload 6, 217, 6, 0, 0, 0), (217, .iaload, 218, 0, 0, 0, 0), (218, .ifCond .lt 21, 221, 239, 0, 0, 0), (221, .aload_n 0, 222, 0, 0, 0, 0), (222, .getfield 135, 225, 7, 45, 0, 0), (225, .iload 6, 227, 6, 0, 0, 0), (227, .iaload, 228, 0, 0, 0, 0), (228, .iload_n 2, 229, 2, 0, 0, 0), (229, .idiv, 230, 0, 0, 0, 0), (230, .bipush 15, 232, 0, 0, 0, 15), (232, .if_icmp .gt 7, 235, 239, 0, 0, 0), (235, .iconst 1, 236, 0, 0, 0, 1), (236, .goto 4, 239, 240, 0, 0, 0), (239, .iconst 0, 240, 0, 0, 0, 0), (240, .istore 5, 242, 5, 0, 0, 0), (242, .iinc 6 1, 245, 6, 0, 0, 1), (245, .goto (-45), 248, 200, 0, 0, 0), (248, .iload 5, 250, 5, 0, 0, 0), (250, .ireturn, 251, 0, 0, 0, 0)]
def tb_136 : List (Nat × En) := tb_136_0 ++ (tb_136_1 ++ (tb_136_2))
def tb_137_0 : List (Nat × En) := [(0, .iconst 0, 1, 0, 0, 0, 0), (1, .istore 4, 3, 4, 0, 0, 0), (3, .iconst 0, 4, 0, 0, 0, 0), (4, .istore 5, 6, 5, 0, 0, 0), (6, .iload 5, 8, 5, 0, 0, 0), (8, .aload_n 0, 9, 0, 0, 0, 0), (9, .getfield 78, 12, 7, 26, 0, 0), (12, .iload_n 1, 13, 1, 0, 0, 0), (13, .iaload, 14, 0, 0, 0, 0), (14, .if_icmp .ge 56, 17, 70, 0, 0, 0), (17, .aload_n 0, 18, 0, 0, 0, 0), (18, .getfield 135, 21, 7, 45, 0, 0), (21, .iload 5, 23, 5, 0, 0, 0), (23, .iaload, 24, 0, 0, 0, 0), (24, .ifCond .lt 40, 27, 64, 0, 0, 0), (27, .aload_n 0, 28, 0, 0, 0, 0), (28, .iload 5, 30, 5, 0, 0, 0), (30, .iload_n 2, 31, 2, 0, 0, 0), (31, .iload_n 3, 32, 3, 0, 0, 0), (32, .invokevirtual 256, 35, 127, 0, 4, 0), (35, .ldc 222, 37, 222, 0, 0, (-100000)), (37, .if_icmp .le 27, 40, 64, 0, 0, 0), (40, .aload_n 0, 41, 0, 0, 0, 0), (41, .iload 4, 43, 4, 0, 0, 0), (43, .aload_n 0, 44, 0, 0, 0, 0), (44, .getfield 135, 47, 7, 45, 0, 0), (47, .iload 5, 49, 5, 0, 0, 0), (49, .iaload, 50, 0, 0, 0, 0), (50, .aload_n 0, 51, 0, 0, 0, 0), (51, .iload 5, 53, 5, 0, 0, 0), (53, .iload_n 2, 54, 2, 0, 0, 0), (54, .iload_n 3, 55, 3, 0, 0, 0), (55, .invokevirtual 256, 58, 127, 0, 4, 0), (58, .iadd, 59, 0, 0, 0, 0), (59, .invokevirtual 233, 62, 121, 0, 3, 0), (62, .istore 4, 64, 4, 0, 0, 0), (64, .iinc 5 1, 67, 5, 0, 0, 1), (67, .goto (-61), 70, 6, 0, 0, 0), (70, .iload 4, 72, 4, 0, 0, 0), (72, .istore 5, 74, 5, 0, 0, 0), (74, .iload 5, 76, 5, 0, 0, 0), (76, .iload 4, 78, 4, 0, 0, 0), (78, .iload_n 3, 79, 3, 0, 0, 0), (79, .iadd, 80, 0, 0, 0, 0), (80, .if_icmp .ge 33, 83, 113, 0, 0, 0), (83, .aload_n 0, 84, 0, 0, 0, 0), (84, .iload_n 1, 85, 1, 0, 0, 0), (85, .iload_n 2, 86, 2, 0, 0, 0), (86, .iload 5, 88, 5, 0, 0, 0), (88, .iload_n 3, 89, 3, 0, 0, 0)]
def tb_137_1 : List (Nat × En) := [(89, .irem, 90, 0, 0, 0, 0), (90, .iload_n 3, 91, 3, 0, 0, 0), (91, .invokevirtual 286, 94, 134, 0, 5, 0), (94, .aload_n 0, 95, 0, 0, 0, 0), (95, .bipush 10, 97, 0, 0, 0, 10), (97, .iload_n 1, 98, 1, 0, 0, 0), (98, .imul, 99, 0, 0, 0, 0), (99, .iload_n 2, 100, 2, 0, 0, 0), (100, .iadd, 101, 0, 0, 0, 0), (101, .invokevirtual 280, 104, 130, 0, 2, 0), (104, .if_icmp .lt 9, 107, 113, 0, 0, 0), (107, .iinc 5 1, 110, 5, 0, 0, 1), (110, .goto (-36), 113, 74, 0, 0, 0), (113, .iload 5, 115, 5, 0, 0, 0), (115, .iload 4, 117, 4, 0, 0, 0), (117, .iload_n 3, 118, 3, 0, 0, 0), (118, .iadd, 119, 0, 0, 0, 0), (119, .if_icmp .ne 49, 122, 168, 0, 0, 0), (122, .aload_n 0, 123, 0, 0, 0, 0), (123, .getfield 138, 126, 7, 46, 0, 0), (126, .iload_n 2, 127, 2, 0, 0, 0), (127, .iaload, 128, 0, 0, 0, 0), (128, .ifCond .lt 14, 131, 142, 0, 0, 0), (131, .iload 4, 133, 4, 0, 0, 0), (133, .aload_n 0, 134, 0, 0, 0, 0), (134, .getfield 138, 137, 7, 46, 0, 0), (137, .iload_n 2, 138, 2, 0, 0, 0), (138, .iaload, 139, 0, 0, 0, 0), (139, .if_icmp .le 8, 142, 147, 0, 0, 0), (142, .iload 4, 144, 4, 0, 0, 0), (144, .goto 11, 147, 155, 0, 0, 0), (147, .aload_n 0, 148, 0, 0, 0, 0), (148, .getfield 138, 151, 7, 46, 0, 0), (151, .iload_n 2, 152, 2, 0, 0, 0), (152, .iaload, 153, 0, 0, 0, 0), (153, .iconst 1, 154, 0, 0, 0, 1), (154, .iadd, 155, 0, 0, 0, 0), (155, .istore 5, 157, 5, 0, 0, 0), (157, .aload_n 0, 158, 0, 0, 0, 0), (158, .iload_n 1, 159, 1, 0, 0, 0), (159, .iload_n 2, 160, 2, 0, 0, 0), (160, .iload 5, 162, 5, 0, 0, 0), (162, .iload_n 3, 163, 3, 0, 0, 0), (163, .irem, 164, 0, 0, 0, 0), (164, .iload_n 3, 165, 3, 0, 0, 0), (165, .invokevirtual 290, 168, 135, 0, 5, 0), (168, .aload_n 0, 169, 0, 0, 0, 0), (169, .getfield 135, 172, 7, 45, 0, 0), (172, .iload_n 2, 173, 2, 0, 0, 0), (173, .iload 5, 175, 5, 0, 0, 0)]
def tb_137_2 : List (Nat × En) := [(175, .iastore, 176, 0, 0, 0, 0), (176, .aload_n 0, 177, 0, 0, 0, 0), (177, .getfield 138, 180, 7, 46, 0, 0), (180, .iload_n 2, 181, 2, 0, 0, 0), (181, .iload 5, 183, 5, 0, 0, 0), (183, .iastore, 184, 0, 0, 0, 0), (184, .iconst 0, 185, 0, 0, 0, 0), (185, .istore 6, 187, 6, 0, 0, 0), (187, .iload 6, 189, 6, 0, 0, 0), (189, .aload_n 0, 190, 0, 0, 0, 0), (190, .getfield 78, 193, 7, 26, 0, 0), (193, .iload_n 1, 194, 1, 0, 0, 0), (194, .iaload, 195, 0, 0, 0, 0), (195, .if_icmp .ge 67, 198, 262, 0, 0, 0), (198, .iload 6, 200, 6, 0, 0, 0), (200, .iload_n 2, 201, 2, 0, 0, 0), (201, .if_icmp .eq 55, 204, 256, 0, 0, 0), (204, .aload_n 0, 205, 0, 0, 0, 0), (205, .getfield 135, 208, 7, 45, 0, 0), (208, .iload 6, 210, 6, 0, 0, 0), (210, .iaload, 211, 0, 0, 0, 0), (211, .ifCond .lt 45, 214, 256, 0, 0, 0), (214, .aload_n 0, 215, 0, 0, 0, 0), (215, .iload_n 2, 216, 2, 0, 0, 0), (216, .iload 6, 218, 6, 0, 0, 0), (218, .iload_n 3, 219, 3, 0, 0, 0), (219, .invokevirtual 256, 222, 127, 0, 4, 0), (222, .ldc 222, 224, 222, 0, 0, (-100000)), (224, .if_icmp .le 32, 227, 256, 0, 0, 0), (227, .iload 5, 229, 5, 0, 0, 0), (229, .aload_n 0, 230, 0, 0, 0, 0), (230, .iload_n 2, 231, 2, 0, 0, 0), (231, .iload 6, 233, 6, 0, 0, 0), (233, .iload_n 3, 234, 3, 0, 0, 0), (234, .invokevirtual 256, 237, 127, 0, 4, 0), (237, .iadd, 238, 0, 0, 0, 0), (238, .aload_n 0, 239, 0, 0, 0, 0), (239, .getfield 135, 242, 7, 45, 0, 0), (242, .iload 6, 244, 6, 0, 0, 0), (244, .iaload, 245, 0, 0, 0, 0), (245, .if_icmp .le 11, 248, 256, 0, 0, 0), (248, .aload_n 0, 249, 0, 0, 0, 0), (249, .getfield 135, 252, 7, 45, 0, 0), (252, .iload 6, 254, 6, 0, 0, 0), (254, .iconst (-1), 255, 0, 0, 0, (-1)), (255, .iastore, 256, 0, 0, 0, 0), (256, .iinc 6 1, 259, 6, 0, 0, 1), (259, .goto (-72), 262, 187, 0, 0, 0), (262, .return_, 263, 0, 0, 0, 0)]
def tb_137 : List (Nat × En) := tb_137_0 ++ (tb_137_1 ++ (tb_137_2))
def tb_138 : List (Nat × En) := [(0, .aload_n 0, 1, 0, 0, 0, 0), (1, .getfield 96, 4, 7, 32, 0, 0), (4, .iload_n 1, 5, 1, 0, 0, 0), (5, .iaload, 6, 0, 0, 0, 0), (6, .ifCond .eq 47, 9, 53, 0, 0, 0), (9, .aload_n 0, 10, 0, 0, 0, 0), (10, .getfield 96, 13, 7, 32, 0, 0), (13, .iload_n 1, 14, 1, 0, 0, 0), (14, .iaload, 15, 0, 0, 0, 0), (15, .ifCond .le 22, 18, 37, 0, 0, 0), (18, .aload_n 0, 19, 0, 0, 0, 0), (19, .getfield 147, 22, 7, 49, 0, 0), (22, .aload_n 0, 23, 0, 0, 0, 0), (23, .getfield 96, 26, 7, 32, 0, 0), (26, .iload_n 1, 27, 1, 0, 0, 0), (27, .iaload, 28, 0, 0, 0, 0), (28, .iconst 1, 29, 0, 0, 0, 1), (29, .isub, 30, 0, 0, 0, 0), (30, .iaload, 31, 0, 0, 0, 0), (31, .ifCond .eq 26, 34, 57, 0, 0, 0), (34, .goto 19, 37, 53, 0, 0, 0), (37, .aload_n 0, 38, 0, 0, 0, 0), (38, .getfield 147, 41, 7, 49, 0, 0), (41, .iconst (-1), 42, 0, 0, 0, (-1)), (42, .aload_n 0, 43, 0, 0, 0, 0), (43, .getfield 96, 46, 7, 32, 0, 0), (46, .iload_n 1, 47, 1, 0, 0, 0), (47, .iaload, 48, 0, 0, 0, 0), (48, .isub, 49, 0, 0, 0, 0), (49, .iaload, 50, 0, 0, 0, 0), (50, .ifCond .ne 7, 53, 57, 0, 0, 0), (53, .iconst 1, 54, 0, 0, 0, 1), (54, .goto 4, 57, 58, 0, 0, 0), (57, .iconst 0, 58, 0, 0, 0, 0), (58, .ireturn, 59, 0, 0, 0, 0)]
def tb_139_0 : List (Nat × En) := [(0, .aload_n 0, 1, 0, 0, 0, 0), (1, .iload_n 1, 2, 1, 0, 0, 0), (2, .invokevirtual 294, 5, 138, 0, 2, 0), (5, .ifCond .ne 5, 8, 10, 0, 0, 0), (8, .iconst 1, 9, 0, 0, 0, 1), (9, .ireturn, 10, 0, 0, 0, 0), (10, .aload_n 0, 11, 0, 0, 0, 0), (11, .getfield 147, 14, 7, 49, 0, 0), (14, .aload_n 0, 15, 0, 0, 0, 0), (15, .getfield 87, 18, 7, 29, 0, 0), (18, .iload_n 1, 19, 1, 0, 0, 0), (19, .iaload, 20, 0, 0, 0, 0), (20, .iaload, 21, 0, 0, 0, 0), (21, .istore_n 2, 22, 2, 0, 0, 0), (22, .aload_n 0, 23, 0, 0, 0, 0), (23, .getfield 147, 26, 7, 49, 0, 0), (26, .aload_n 0, 27, 0, 0, 0, 0), (27, .getfield 90, 30, 7, 30, 0, 0), (30, .iload_n 1, 31, 1, 0, 0, 0), (31, .iaload, 32, 0, 0, 0, 0), (32, .iaload, 33, 0, 0, 0, 0), (33, .istore_n 3, 34, 3, 0, 0, 0), (34, .iload_n 2, 35, 2, 0, 0, 0), (35, .aload_n 0, 36, 0, 0, 0, 0), (36, .getfield 93, 39, 7, 31, 0, 0), (39, .iload_n 1, 40, 1, 0, 0, 0), (40, .iaload, 41, 0, 0, 0, 0), (41, .iadd, 42, 0, 0, 0, 0), (42, .bipush 63, 44, 0, 0, 0, 63), (44, .iand, 45, 0, 0, 0, 0), (45, .istore 4, 47, 4, 0, 0, 0), (47, .aload_n 0, 48, 0, 0, 0, 0), (48, .getfield 81, 51, 7, 27, 0, 0), (51, .iload_n 1, 52, 1, 0, 0, 0), (52, .iaload, 53, 0, 0, 0, 0), (53, .tableswitch 223 0 8 #[51, 71, 93, 110, 127, 144, 168, 191, 212], 104, 0, 0, 0, 0), (104, .aload_n 0, 105, 0, 0, 0, 0), (105, .getfield 147, 108, 7, 49, 0, 0), (108, .aload_n 0, 109, 0, 0, 0, 0), (109, .getfield 84, 112, 7, 28, 0, 0), (112, .iload_n 1, 113, 1, 0, 0, 0), (113, .iaload, 114, 0, 0, 0, 0), (114, .aload_n 0, 115, 0, 0, 0, 0), (115, .getfield 93, 118, 7, 31, 0, 0), (118, .iload_n 1, 119, 1, 0, 0, 0), (119, .iaload, 120, 0, 0, 0, 0), (120, .iastore, 121, 0, 0, 0, 0), (121, .goto 187, 124, 308, 0, 0, 0), (124, .aload_n 0, 125, 0, 0, 0, 0), (125, .getfield 147, 128, 7, 49, 0, 0)]
def tb_139_1 : List (Nat × En) := [(128, .aload_n 0, 129, 0, 0, 0, 0), (129, .getfield 84, 132, 7, 28, 0, 0), (132, .iload_n 1, 133, 1, 0, 0, 0), (133, .iaload, 134, 0, 0, 0, 0), (134, .iload_n 2, 135, 2, 0, 0, 0), (135, .aload_n 0, 136, 0, 0, 0, 0), (136, .getfield 93, 139, 7, 31, 0, 0), (139, .iload_n 1, 140, 1, 0, 0, 0), (140, .iaload, 141, 0, 0, 0, 0), (141, .iadd, 142, 0, 0, 0, 0), (142, .iastore, 143, 0, 0, 0, 0), (143, .goto 165, 146, 308, 0, 0, 0), (146, .aload_n 0, 147, 0, 0, 0, 0), (147, .getfield 147, 150, 7, 49, 0, 0), (150, .aload_n 0, 151, 0, 0, 0, 0), (151, .getfield 84, 154, 7, 28, 0, 0), (154, .iload_n 1, 155, 1, 0, 0, 0), (155, .iaload, 156, 0, 0, 0, 0), (156, .iload_n 2, 157, 2, 0, 0, 0), (157, .iload_n 3, 158, 3, 0, 0, 0), (158, .iadd, 159, 0, 0, 0, 0), (159, .iastore, 160, 0, 0, 0, 0), (160, .goto 148, 163, 308, 0, 0, 0), (163, .aload_n 0, 164, 0, 0, 0, 0), (164, .getfield 147, 167, 7, 49, 0, 0), (167, .aload_n 0, 168, 0, 0, 0, 0), (168, .getfield 84, 171, 7, 28, 0, 0), (171, .iload_n 1, 172, 1, 0, 0, 0), (172, .iaload, 173, 0, 0, 0, 0), (173, .iload_n 2, 174, 2, 0, 0, 0), (174, .iload_n 3, 175, 3, 0, 0, 0), (175, .isub, 176, 0, 0, 0, 0), (176, .iastore, 177, 0, 0, 0, 0), (177, .goto 131, 180, 308, 0, 0, 0), (180, .aload_n 0, 181, 0, 0, 0, 0), (181, .getfield 147, 184, 7, 49, 0, 0), (184, .aload_n 0, 185, 0, 0, 0, 0), (185, .getfield 84, 188, 7, 28, 0, 0), (188, .iload_n 1, 189, 1, 0, 0, 0), (189, .iaload, 190, 0, 0, 0, 0), (190, .iload_n 2, 191, 2, 0, 0, 0), (191, .iload_n 3, 192, 3, 0, 0, 0), (192, .imul, 193, 0, 0, 0, 0), (193, .iastore, 194, 0, 0, 0, 0), (194, .goto 114, 197, 308, 0, 0, 0), (197, .aload_n 0, 198, 0, 0, 0, 0), (198, .getfield 147, 201, 7, 49, 0, 0), (201, .aload_n 0, 202, 0, 0, 0, 0), (202, .getfield 84, 205, 7, 28, 0, 0), (205, .iload_n 1, 206, 1, 0, 0, 0)]
def tb_139_2 : List (Nat × En) := [(206, .iaload, 207, 0, 0, 0, 0), (207, .iload_n 2, 208, 2, 0, 0, 0), (208, .iload_n 3, 209, 3, 0, 0, 0), (209, .if_icmp .ge 7, 212, 216, 0, 0, 0), (212, .iconst 1, 213, 0, 0, 0, 1), (213, .goto 4, 216, 217, 0, 0, 0), (216, .iconst 0, 217, 0, 0, 0, 0), (217, .iastore, 218, 0, 0, 0, 0), (218, .goto 90, 221, 308, 0, 0, 0), (221, .iload_n 3, 222, 3, 0, 0, 0), (222, .ifCond .ne 5, 225, 227, 0, 0, 0), (225, .iconst 0, 226, 0, 0, 0, 0), (226, .ireturn, 227, 0, 0, 0, 0), (227, .aload_n 0, 228, 0, 0, 0, 0), (228, .getfield 147, 231, 7, 49, 0, 0), (231, .aload_n 0, 232, 0, 0, 0, 0), (232, .getfield 84, 235, 7, 28, 0, 0), (235, .iload_n 1, 236, 1, 0, 0, 0), (236, .iaload, 237, 0, 0, 0, 0), (237, .iload_n 2, 238, 2, 0, 0, 0), (238, .iload_n 3, 239, 3, 0, 0, 0), (239, .idiv, 240, 0, 0, 0, 0), (240, .iastore, 241, 0, 0, 0, 0), (241, .goto 67, 244, 308, 0, 0, 0), (244, .aload_n 0, 245, 0, 0, 0, 0), (245, .getfield 147, 248, 7, 49, 0, 0), (248, .aload_n 0, 249, 0, 0, 0, 0), (249, .getfield 84, 252, 7, 28, 0, 0), (252, .iload_n 1, 253, 1, 0, 0, 0), (253, .iaload, 254, 0, 0, 0, 0), (254, .aload_n 0, 255, 0, 0, 0, 0), (255, .getfield 144, 258, 7, 48, 0, 0), (258, .iload 4, 260, 4, 0, 0, 0), (260, .iaload, 261, 0, 0, 0, 0), (261, .iastore, 262, 0, 0, 0, 0), (262, .goto 46, 265, 308, 0, 0, 0), (265, .aload_n 0, 266, 0, 0, 0, 0), (266, .getfield 144, 269, 7, 48, 0, 0), (269, .iload 4, 271, 4, 0, 0, 0), (271, .iload_n 3, 272, 3, 0, 0, 0), (272, .iastore, 273, 0, 0, 0, 0), (273, .goto 35, 276, 308, 0, 0, 0), (276, .aload_n 0, 277, 0, 0, 0, 0), (277, .getfield 156, 280, 7, 52, 0, 0), (280, .arraylength, 281, 0, 0, 0, 0), (281, .aload_n 0, 282, 0, 0, 0, 0), (282, .getfield 297, 285, 7, 54, 0, 0), (285, .if_icmp .le 13, 288, 298, 0, 0, 0), (288, .aload_n 0, 289, 0, 0, 0, 0), (289, .getfield 156, 292, 7, 52, 0, 0)]
def tb_139_3 : List (Nat × En) := [(292, .aload_n 0, 293, 0, 0, 0, 0), (293, .getfield 297, 296, 7, 54, 0, 0), (296, .iload_n 2, 297, 2, 0, 0, 0), (297, .iastore, 298, 0, 0, 0, 0), (298, .aload_n 0, 299, 0, 0, 0, 0), (299, .dup, 300, 0, 0, 0, 0), (300, .getfield 297, 303, 7, 54, 0, 0), (303, .iconst 1, 304, 0, 0, 0, 1), (304, .iadd, 305, 0, 0, 0, 0), (305, .putfield 297, 308, 7, 54, 0, 0), (308, .iconst 1, 309, 0, 0, 0, 1), (309, .ireturn, 310, 0, 0, 0, 0)]
def tb_139 : List (Nat × En) := tb_139_0 ++ (tb_139_1 ++ (tb_139_2 ++ (tb_139_3)))
def tb_140 : List (Nat × En) := [(0, .bipush 10, 2, 0, 0, 0, 10), (2, .iload_n 1, 3, 1, 0, 0, 0), (3, .imul, 4, 0, 0, 0, 0), (4, .istore_n 2, 5, 2, 0, 0, 0), (5, .iload_n 2, 6, 2, 0, 0, 0), (6, .bipush 10, 8, 0, 0, 0, 10), (8, .iload_n 1, 9, 1, 0, 0, 0), (9, .imul, 10, 0, 0, 0, 0), (10, .aload_n 0, 11, 0, 0, 0, 0), (11, .getfield 78, 14, 7, 26, 0, 0), (14, .iload_n 1, 15, 1, 0, 0, 0), (15, .iaload, 16, 0, 0, 0, 0), (16, .iadd, 17, 0, 0, 0, 0), (17, .if_icmp .ge 19, 20, 36, 0, 0, 0), (20, .aload_n 0, 21, 0, 0, 0, 0), (21, .iload_n 2, 22, 2, 0, 0, 0), (22, .invokevirtual 300, 25, 139, 0, 2, 0), (25, .ifCond .ne 5, 28, 30, 0, 0, 0), (28, .iload_n 2, 29, 2, 0, 0, 0), (29, .ireturn, 30, 0, 0, 0, 0), (30, .iinc 2 1, 33, 2, 0, 0, 1), (33, .goto (-28), 36, 5, 0, 0, 0), (36, .iconst (-1), 37, 0, 0, 0, (-1)), (37, .ireturn, 38, 0, 0, 0, 0)]
def tb_141_0 : List (Nat × En) := [(0, .aload_n 0, 1, 0, 0, 0, 0), (1, .getfield 66, 4, 7, 22, 0, 0), (4, .iload_n 1, 5, 1, 0, 0, 0), (5, .iaload, 6, 0, 0, 0, 0), (6, .iconst 3, 7, 0, 0, 0, 3), (7, .if_icmp .eq 10, 10, 17, 0, 0, 0), (10, .aload_n 0, 11, 0, 0, 0, 0), (11, .getfield 108, 14, 7, 36, 0, 0), (14, .iload_n 1, 15, 1, 0, 0, 0), (15, .iaload, 16, 0, 0, 0, 0), (16, .ireturn, 17, 0, 0, 0, 0), (17, .iload_n 2, 18, 2, 0, 0, 0), (18, .iconst 1, 19, 0, 0, 0, 1), (19, .if_icmp .ge 5, 22, 24, 0, 0, 0), (22, .iconst 0, 23, 0, 0, 0, 0), (23, .ireturn, 24, 0, 0, 0, 0), (24, .aload_n 0, 25, 0, 0, 0, 0), (25, .getfield 114, 28, 7, 38, 0, 0), (28, .iload_n 1, 29, 1, 0, 0, 0), (29, .iaload, 30, 0, 0, 0, 0), (30, .ifCond .ne 12, 33, 42, 0, 0, 0), (33, .iload_n 2, 34, 2, 0, 0, 0), (34, .aload_n 0, 35, 0, 0, 0, 0), (35, .getfield 108, 38, 7, 36, 0, 0), (38, .iload_n 1, 39, 1, 0, 0, 0), (39, .iaload, 40, 0, 0, 0, 0), (40, .imul, 41, 0, 0, 0, 0), (41, .ireturn, 42, 0, 0, 0, 0), (42, .iconst 0, 43, 0, 0, 0, 0), (43, .istore_n 3, 44, 3, 0, 0, 0), (44, .bipush 10, 46, 0, 0, 0, 10), (46, .iload_n 1, 47, 1, 0, 0, 0), (47, .imul, 48, 0, 0, 0, 0), (48, .istore 4, 50, 4, 0, 0, 0), (50, .iload 4, 52, 4, 0, 0, 0), (52, .bipush 10, 54, 0, 0, 0, 10), (54, .iload_n 1, 55, 1, 0, 0, 0), (55, .imul, 56, 0, 0, 0, 0), (56, .aload_n 0, 57, 0, 0, 0, 0), (57, .getfield 78, 60, 7, 26, 0, 0), (60, .iload_n 1, 61, 1, 0, 0, 0), (61, .iaload, 62, 0, 0, 0, 0), (62, .iadd, 63, 0, 0, 0, 0), (63, .if_icmp .ge 29, 66, 92, 0, 0, 0), (66, .aload_n 0, 67, 0, 0, 0, 0), (67, .iload_n 3, 68, 3, 0, 0, 0), (68, .aload_n 0, 69, 0, 0, 0, 0), (69, .getfield 105, 72, 7, 35, 0, 0), (72, .iload 4, 74, 4, 0, 0, 0), (74, .iaload, 75, 0, 0, 0, 0)]
def tb_141_1 : List (Nat × En) := [(75, .aload_n 0, 76, 0, 0, 0, 0), (76, .iload 4, 78, 4, 0, 0, 0), (78, .invokevirtual 229, 81, 115, 0, 2, 0), (81, .iadd, 82, 0, 0, 0, 0), (82, .invokevirtual 233, 85, 121, 0, 3, 0), (85, .istore_n 3, 86, 3, 0, 0, 0), (86, .iinc 4 1, 89, 4, 0, 0, 1), (89, .goto (-39), 92, 50, 0, 0, 0), (92, .aload_n 0, 93, 0, 0, 0, 0), (93, .iload_n 2, 94, 2, 0, 0, 0), (94, .aload_n 0, 95, 0, 0, 0, 0), (95, .getfield 117, 98, 7, 39, 0, 0), (98, .iload_n 1, 99, 1, 0, 0, 0), (99, .iaload, 100, 0, 0, 0, 0), (100, .iadd, 101, 0, 0, 0, 0), (101, .iconst 1, 102, 0, 0, 0, 1), (102, .isub, 103, 0, 0, 0, 0), (103, .aload_n 0, 104, 0, 0, 0, 0), (104, .getfield 114, 107, 7, 38, 0, 0), (107, .iload_n 1, 108, 1, 0, 0, 0), (108, .iaload, 109, 0, 0, 0, 0), (109, .imul, 110, 0, 0, 0, 0), (110, .iload_n 2, 111, 2, 0, 0, 0), (111, .iconst 1, 112, 0, 0, 0, 1), (112, .isub, 113, 0, 0, 0, 0), (113, .aload_n 0, 114, 0, 0, 0, 0), (114, .getfield 114, 117, 7, 38, 0, 0), (117, .iload_n 1, 118, 1, 0, 0, 0), (118, .iaload, 119, 0, 0, 0, 0), (119, .imul, 120, 0, 0, 0, 0), (120, .iload_n 3, 121, 3, 0, 0, 0), (121, .iadd, 122, 0, 0, 0, 0), (122, .invokevirtual 233, 125, 121, 0, 3, 0), (125, .ireturn, 126, 0, 0, 0, 0)]
def tb_141 : List (Nat × En) := tb_141_0 ++ (tb_141_1)
def tb_142_0 : List (Nat × En) := [(0, .aload_n 0, 1, 0, 0, 0, 0), (1, .aload_n 0, 2, 0, 0, 0, 0), (2, .getfield 170, 5, 7, 19, 0, 0), (5, .ifCond .eq 7, 8, 12, 0, 0, 0), (8, .iconst 0, 9, 0, 0, 0, 0), (9, .goto 4, 12, 13, 0, 0, 0), (12, .iconst 1, 13, 0, 0, 0, 1), (13, .putfield 159, 16, 7, 0, 0, 0), (16, .aload_n 0, 17, 0, 0, 0, 0), (17, .getfield 159, 20, 7, 0, 0, 0), (20, .ifCond .le 5, 23, 25, 0, 0, 0), (23, .iconst 0, 24, 0, 0, 0, 0), (24, .ireturn, 25, 0, 0, 0, 0), (25, .iconst 0, 26, 0, 0, 0, 0), (26, .istore_n 1, 27, 1, 0, 0, 0), (27, .iload_n 1, 28, 1, 0, 0, 0), (28, .bipush 64, 30, 0, 0, 0, 64), (30, .if_icmp .ge 21, 33, 51, 0, 0, 0), (33, .aload_n 0, 34, 0, 0, 0, 0), (34, .getfield 144, 37, 7, 48, 0, 0), (37, .iload_n 1, 38, 1, 0, 0, 0), (38, .aload_n 0, 39, 0, 0, 0, 0), (39, .getfield 141, 42, 7, 47, 0, 0), (42, .iload_n 1, 43, 1, 0, 0, 0), (43, .iaload, 44, 0, 0, 0, 0), (44, .iastore, 45, 0, 0, 0, 0), (45, .iinc 1 1, 48, 1, 0, 0, 1), (48, .goto (-21), 51, 27, 0, 0, 0), (51, .iconst 0, 52, 0, 0, 0, 0), (52, .istore_n 1, 53, 1, 0, 0, 0), (53, .iload_n 1, 54, 1, 0, 0, 0), (54, .bipush 12, 56, 0, 0, 0, 12), (56, .if_icmp .ge 16, 59, 72, 0, 0, 0), (59, .aload_n 0, 60, 0, 0, 0, 0), (60, .getfield 147, 63, 7, 49, 0, 0), (63, .iload_n 1, 64, 1, 0, 0, 0), (64, .iconst 0, 65, 0, 0, 0, 0), (65, .iastore, 66, 0, 0, 0, 0), (66, .iinc 1 1, 69, 1, 0, 0, 1), (69, .goto (-16), 72, 53, 0, 0, 0), (72, .aload_n 0, 73, 0, 0, 0, 0), (73, .iconst 0, 74, 0, 0, 0, 0), (74, .putfield 297, 77, 7, 54, 0, 0), (77, .iconst 0, 78, 0, 0, 0, 0), (78, .istore_n 1, 79, 1, 0, 0, 0), (79, .iconst 0, 80, 0, 0, 0, 0), (80, .istore_n 2, 81, 2, 0, 0, 0), (81, .iconst 0, 82, 0, 0, 0, 0), (82, .istore_n 3, 83, 3, 0, 0, 0), (83, .iconst (-1), 84, 0, 0, 0, (-1))]
def tb_142_1 : List (Nat × En) := [(84, .istore 4, 86, 4, 0, 0, 0), (86, .iload_n 3, 87, 3, 0, 0, 0), (87, .ifCond .lt 263, 90, 350, 0, 0, 0), (90, .iload 4, 92, 4, 0, 0, 0), (92, .ifCond .ge 258, 95, 350, 0, 0, 0), (95, .aload_n 0, 96, 0, 0, 0, 0), (96, .getfield 66, 99, 7, 22, 0, 0), (99, .iload_n 3, 100, 3, 0, 0, 0), (100, .iaload, 101, 0, 0, 0, 0), (101, .iconst 3, 102, 0, 0, 0, 3), (102, .if_icmp .ne 17, 105, 119, 0, 0, 0), (105, .aload_n 0, 106, 0, 0, 0, 0), (106, .getfield 147, 109, 7, 49, 0, 0), (109, .aload_n 0, 110, 0, 0, 0, 0), (110, .getfield 69, 113, 7, 23, 0, 0), (113, .iload_n 3, 114, 3, 0, 0, 0), (114, .iaload, 115, 0, 0, 0, 0), (115, .iaload, 116, 0, 0, 0, 0), (116, .goto 4, 119, 120, 0, 0, 0), (119, .iconst 1, 120, 0, 0, 0, 1), (120, .istore 5, 122, 5, 0, 0, 0), (122, .iload 5, 124, 5, 0, 0, 0), (124, .bipush 100, 126, 0, 0, 0, 100), (126, .if_icmp .gt 22, 129, 148, 0, 0, 0), (129, .iload_n 2, 130, 2, 0, 0, 0), (130, .iload 5, 132, 5, 0, 0, 0), (132, .iconst 1, 133, 0, 0, 0, 1), (133, .if_icmp .ge 7, 136, 140, 0, 0, 0), (136, .iconst 1, 137, 0, 0, 0, 1), (137, .goto 5, 140, 142, 0, 0, 0), (140, .iload 5, 142, 5, 0, 0, 0), (142, .iadd, 143, 0, 0, 0, 0), (143, .bipush 100, 145, 0, 0, 0, 100), (145, .if_icmp .le 10, 148, 155, 0, 0, 0), (148, .aload_n 0, 149, 0, 0, 0, 0), (149, .iconst 2, 150, 0, 0, 0, 2), (150, .putfield 159, 153, 7, 0, 0, 0), (153, .iconst 0, 154, 0, 0, 0, 0), (154, .ireturn, 155, 0, 0, 0, 0), (155, .iload_n 2, 156, 2, 0, 0, 0), (156, .iload 5, 158, 5, 0, 0, 0), (158, .iconst 1, 159, 0, 0, 0, 1), (159, .if_icmp .ge 7, 162, 166, 0, 0, 0), (162, .iconst 1, 163, 0, 0, 0, 1), (163, .goto 5, 166, 168, 0, 0, 0), (166, .iload 5, 168, 5, 0, 0, 0), (168, .iadd, 169, 0, 0, 0, 0), (169, .istore_n 2, 170, 2, 0, 0, 0), (170, .iconst 0, 171, 0, 0, 0, 0), (171, .istore 6, 173, 6, 0, 0, 0)]
def tb_142_2 : List (Nat × En) := [(173, .iload 6, 175, 6, 0, 0, 0), (175, .iload 5, 177, 5, 0, 0, 0), (177, .if_icmp .ge 33, 180, 210, 0, 0, 0), (180, .iload 4, 182, 4, 0, 0, 0), (182, .ifCond .ge 28, 185, 210, 0, 0, 0), (185, .aload_n 0, 186, 0, 0, 0, 0), (186, .iload_n 3, 187, 3, 0, 0, 0), (187, .invokevirtual 303, 190, 140, 0, 2, 0), (190, .istore 4, 192, 4, 0, 0, 0), (192, .iload 6, 194, 6, 0, 0, 0), (194, .iload 4, 196, 4, 0, 0, 0), (196, .ifCond .ge 7, 199, 203, 0, 0, 0), (199, .iconst 1, 200, 0, 0, 0, 1), (200, .goto 4, 203, 204, 0, 0, 0), (203, .iconst 0, 204, 0, 0, 0, 0), (204, .iadd, 205, 0, 0, 0, 0), (205, .istore 6, 207, 6, 0, 0, 0), (207, .goto (-34), 210, 173, 0, 0, 0), (210, .aload_n 0, 211, 0, 0, 0, 0), (211, .getfield 114, 214, 7, 38, 0, 0), (214, .iload_n 3, 215, 3, 0, 0, 0), (215, .iaload, 216, 0, 0, 0, 0), (216, .ifCond .le 7, 219, 223, 0, 0, 0), (219, .iconst 1, 220, 0, 0, 0, 1), (220, .goto 4, 223, 224, 0, 0, 0), (223, .iconst 0, 224, 0, 0, 0, 0), (224, .istore 7, 226, 7, 0, 0, 0), (226, .iload_n 1, 227, 1, 0, 0, 0), (227, .iconst 1, 228, 0, 0, 0, 1), (228, .iload 4, 230, 4, 0, 0, 0), (230, .ifCond .ge 13, 233, 243, 0, 0, 0), (233, .aload_n 0, 234, 0, 0, 0, 0), (234, .iload_n 3, 235, 3, 0, 0, 0), (235, .iload 5, 237, 5, 0, 0, 0), (237, .invokevirtual 306, 240, 141, 0, 3, 0), (240, .goto 49, 243, 289, 0, 0, 0), (243, .iload 6, 245, 6, 0, 0, 0), (245, .iload 7, 247, 7, 0, 0, 0), (247, .ifCond .eq 12, 250, 259, 0, 0, 0), (250, .aload_n 0, 251, 0, 0, 0, 0), (251, .getfield 114, 254, 7, 38, 0, 0), (254, .iload_n 3, 255, 3, 0, 0, 0), (255, .iaload, 256, 0, 0, 0, 0), (256, .goto 9, 259, 265, 0, 0, 0), (259, .aload_n 0, 260, 0, 0, 0, 0), (260, .getfield 108, 263, 7, 36, 0, 0), (263, .iload_n 3, 264, 3, 0, 0, 0), (264, .iaload, 265, 0, 0, 0, 0), (265, .imul, 266, 0, 0, 0, 0), (266, .iload 7, 268, 7, 0, 0, 0)]
def tb_142_3 : List (Nat × En) := [(268, .ifCond .eq 13, 271, 281, 0, 0, 0), (271, .aload_n 0, 272, 0, 0, 0, 0), (272, .getfield 105, 275, 7, 35, 0, 0), (275, .iload 4, 277, 4, 0, 0, 0), (277, .iaload, 278, 0, 0, 0, 0), (278, .goto 10, 281, 288, 0, 0, 0), (281, .aload_n 0, 282, 0, 0, 0, 0), (282, .getfield 102, 285, 7, 34, 0, 0), (285, .iload 4, 287, 4, 0, 0, 0), (287, .iaload, 288, 0, 0, 0, 0), (288, .iadd, 289, 0, 0, 0, 0), (289, .iadd, 290, 0, 0, 0, 0), (290, .iadd, 291, 0, 0, 0, 0), (291, .istore_n 1, 292, 1, 0, 0, 0), (292, .aload_n 0, 293, 0, 0, 0, 0), (293, .getfield 66, 296, 7, 22, 0, 0), (296, .iload_n 3, 297, 3, 0, 0, 0), (297, .iaload, 298, 0, 0, 0, 0), (298, .ifCond .ne 7, 301, 305, 0, 0, 0), (301, .iconst (-1), 302, 0, 0, 0, (-1)), (302, .goto 44, 305, 346, 0, 0, 0), (305, .aload_n 0, 306, 0, 0, 0, 0), (306, .getfield 66, 309, 7, 22, 0, 0), (309, .iload_n 3, 310, 3, 0, 0, 0), (310, .iaload, 311, 0, 0, 0, 0), (311, .invokestatic 180, 314, 104, 1, 1, 0), (314, .ifCond .eq 26, 317, 340, 0, 0, 0), (317, .aload_n 0, 318, 0, 0, 0, 0), (318, .getfield 147, 321, 7, 49, 0, 0), (321, .aload_n 0, 322, 0, 0, 0, 0), (322, .getfield 69, 325, 7, 23, 0, 0), (325, .iload_n 3, 326, 3, 0, 0, 0), (326, .iaload, 327, 0, 0, 0, 0), (327, .iaload, 328, 0, 0, 0, 0), (328, .ifCond .ne 12, 331, 340, 0, 0, 0), (331, .aload_n 0, 332, 0, 0, 0, 0), (332, .getfield 75, 335, 7, 25, 0, 0), (335, .iload_n 3, 336, 3, 0, 0, 0), (336, .iaload, 337, 0, 0, 0, 0), (337, .goto 9, 340, 346, 0, 0, 0), (340, .aload_n 0, 341, 0, 0, 0, 0), (341, .getfield 72, 344, 7, 24, 0, 0), (344, .iload_n 3, 345, 3, 0, 0, 0), (345, .iaload, 346, 0, 0, 0, 0), (346, .istore_n 3, 347, 3, 0, 0, 0), (347, .goto (-261), 350, 86, 0, 0, 0), (350, .aload_n 0, 351, 0, 0, 0, 0), (351, .iload_n 2, 352, 2, 0, 0, 0), (352, .iload 4, 354, 4, 0, 0, 0), (354, .ifCond .lt 7, 357, 361, 0, 0, 0)]
def tb_142_4 : List (Nat × En) := [(357, .iconst 1, 358, 0, 0, 0, 1), (358, .goto 4, 361, 362, 0, 0, 0), (361, .iconst 0, 362, 0, 0, 0, 0), (362, .invokevirtual 309, 365, 143, 0, 3, 0), (365, .iload_n 1, 366, 1, 0, 0, 0), (366, .ireturn, 367, 0, 0, 0, 0)]
def tb_142 : List (Nat × En) := tb_142_0 ++ (tb_142_1 ++ (tb_142_2 ++ (tb_142_3 ++ (tb_142_4))))
def tb_143_0 : List (Nat × En) := [(0, .aload_n 0, 1, 0, 0, 0, 0), (1, .iload_n 1, 2, 1, 0, 0, 0), (2, .putfield 313, 5, 7, 55, 0, 0), (5, .aload_n 0, 6, 0, 0, 0, 0), (6, .iload_n 2, 7, 2, 0, 0, 0), (7, .ifCond .eq 7, 10, 14, 0, 0, 0), (10, .iconst 1, 11, 0, 0, 0, 1), (11, .goto 4, 14, 15, 0, 0, 0), (14, .iconst 0, 15, 0, 0, 0, 0), (15, .putfield 316, 18, 7, 56, 0, 0), (18, .aload_n 0, 19, 0, 0, 0, 0), (19, .aload_n 0, 20, 0, 0, 0, 0), (20, .getfield 297, 23, 7, 54, 0, 0), (23, .putfield 319, 26, 7, 53, 0, 0), (26, .iconst 0, 27, 0, 0, 0, 0), (27, .istore_n 3, 28, 3, 0, 0, 0), (28, .iload_n 3, 29, 3, 0, 0, 0), (29, .bipush 64, 31, 0, 0, 0, 64), (31, .if_icmp .ge 33, 34, 64, 0, 0, 0), (34, .aload_n 0, 35, 0, 0, 0, 0), (35, .getfield 141, 38, 7, 47, 0, 0), (38, .iload_n 3, 39, 3, 0, 0, 0), (39, .aload_n 0, 40, 0, 0, 0, 0), (40, .getfield 144, 43, 7, 48, 0, 0), (43, .iload_n 3, 44, 3, 0, 0, 0), (44, .iaload, 45, 0, 0, 0, 0), (45, .iastore, 46, 0, 0, 0, 0), (46, .aload_n 0, 47, 0, 0, 0, 0), (47, .getfield 153, 50, 7, 51, 0, 0), (50, .iload_n 3, 51, 3, 0, 0, 0), (51, .aload_n 0, 52, 0, 0, 0, 0), (52, .getfield 156, 55, 7, 52, 0, 0), (55, .iload_n 3, 56, 3, 0, 0, 0), (56, .iaload, 57, 0, 0, 0, 0), (57, .iastore, 58, 0, 0, 0, 0), (58, .iinc 3 1, 61, 3, 0, 0, 1), (61, .goto (-33), 64, 28, 0, 0, 0), (64, .iconst 0, 65, 0, 0, 0, 0), (65, .istore_n 3, 66, 3, 0, 0, 0), (66, .iload_n 3, 67, 3, 0, 0, 0), (67, .bipush 12, 69, 0, 0, 0, 12), (69, .if_icmp .ge 29, 72, 98, 0, 0, 0), (72, .aload_n 0, 73, 0, 0, 0, 0), (73, .getfield 150, 76, 7, 50, 0, 0), (76, .iload_n 3, 77, 3, 0, 0, 0), (77, .iload_n 2, 78, 2, 0, 0, 0), (78, .ifCond .eq 7, 81, 85, 0, 0, 0), (81, .iconst 0, 82, 0, 0, 0, 0), (82, .goto 9, 85, 91, 0, 0, 0), (85, .aload_n 0, 86, 0, 0, 0, 0)]
def tb_143_1 : List (Nat × En) := [(86, .getfield 147, 89, 7, 49, 0, 0), (89, .iload_n 3, 90, 3, 0, 0, 0), (90, .iaload, 91, 0, 0, 0, 0), (91, .iastore, 92, 0, 0, 0, 0), (92, .iinc 3 1, 95, 3, 0, 0, 1), (95, .goto (-29), 98, 66, 0, 0, 0), (98, .return_, 99, 0, 0, 0, 0)]
def tb_143 : List (Nat × En) := tb_143_0 ++ (tb_143_1)
def tb_144 : List (Nat × En) := [(0, .aload_n 0, 1, 0, 0, 0, 0), (1, .iload_n 1, 2, 1, 0, 0, 0), (2, .iconst 0, 3, 0, 0, 0, 0), (3, .iconst 2, 4, 0, 0, 0, 2), (4, .invokestatic 162, 7, 95, 1, 3, 0), (7, .ifCond .eq 7, 10, 14, 0, 0, 0), (10, .iconst 1, 11, 0, 0, 0, 1), (11, .goto 4, 14, 15, 0, 0, 0), (14, .iconst 0, 15, 0, 0, 0, 0), (15, .putfield 159, 18, 7, 0, 0, 0), (18, .aload_n 0, 19, 0, 0, 0, 0), (19, .getfield 159, 22, 7, 0, 0, 0), (22, .ifCond .le 7, 25, 29, 0, 0, 0), (25, .iconst 0, 26, 0, 0, 0, 0), (26, .goto 30, 29, 56, 0, 0, 0), (29, .iload_n 1, 30, 1, 0, 0, 0), (30, .ifCond .ne 10, 33, 40, 0, 0, 0), (33, .aload_n 0, 34, 0, 0, 0, 0), (34, .getfield 319, 37, 7, 53, 0, 0), (37, .goto 19, 40, 56, 0, 0, 0), (40, .iload_n 1, 41, 1, 0, 0, 0), (41, .iconst 1, 42, 0, 0, 0, 1), (42, .if_icmp .ne 10, 45, 52, 0, 0, 0), (45, .aload_n 0, 46, 0, 0, 0, 0), (46, .getfield 316, 49, 7, 56, 0, 0), (49, .goto 7, 52, 56, 0, 0, 0), (52, .aload_n 0, 53, 0, 0, 0, 0), (53, .getfield 313, 56, 7, 55, 0, 0), (56, .ireturn, 57, 0, 0, 0, 0)]
def tb_145 : List (Nat × En) := [(0, .aload_n 0, 1, 0, 0, 0, 0), (1, .iload_n 1, 2, 1, 0, 0, 0), (2, .iconst 0, 3, 0, 0, 0, 0), (3, .bipush 63, 5, 0, 0, 0, 63), (5, .invokestatic 162, 8, 95, 1, 3, 0), (8, .ifCond .ne 11, 11, 19, 0, 0, 0), (11, .iload_n 1, 12, 1, 0, 0, 0), (12, .aload_n 0, 13, 0, 0, 0, 0), (13, .getfield 319, 16, 7, 53, 0, 0), (16, .if_icmp .lt 7, 19, 23, 0, 0, 0), (19, .iconst 1, 20, 0, 0, 0, 1), (20, .goto 4, 23, 24, 0, 0, 0), (23, .iconst 0, 24, 0, 0, 0, 0), (24, .putfield 159, 27, 7, 0, 0, 0), (27, .aload_n 0, 28, 0, 0, 0, 0), (28, .getfield 159, 31, 7, 0, 0, 0), (31, .ifCond .le 7, 34, 38, 0, 0, 0), (34, .iconst 0, 35, 0, 0, 0, 0), (35, .goto 9, 38, 44, 0, 0, 0), (38, .aload_n 0, 39, 0, 0, 0, 0), (39, .getfield 153, 42, 7, 51, 0, 0), (42, .iload_n 1, 43, 1, 0, 0, 0), (43, .iaload, 44, 0, 0, 0, 0), (44, .ireturn, 45, 0, 0, 0, 0)]
def tb_146 : List (Nat × En) := [(0, .aload_n 0, 1, 0, 0, 0, 0), (1, .iload_n 1, 2, 1, 0, 0, 0), (2, .iconst 0, 3, 0, 0, 0, 0), (3, .bipush 11, 5, 0, 0, 0, 11), (5, .invokestatic 162, 8, 95, 1, 3, 0), (8, .ifCond .eq 7, 11, 15, 0, 0, 0), (11, .iconst 1, 12, 0, 0, 0, 1), (12, .goto 4, 15, 16, 0, 0, 0), (15, .iconst 0, 16, 0, 0, 0, 0), (16, .putfield 159, 19, 7, 0, 0, 0), (19, .aload_n 0, 20, 0, 0, 0, 0), (20, .getfield 159, 23, 7, 0, 0, 0), (23, .ifCond .le 7, 26, 30, 0, 0, 0), (26, .iconst 0, 27, 0, 0, 0, 0), (27, .goto 9, 30, 36, 0, 0, 0), (30, .aload_n 0, 31, 0, 0, 0, 0), (31, .getfield 150, 34, 7, 50, 0, 0), (34, .iload_n 1, 35, 1, 0, 0, 0), (35, .iaload, 36, 0, 0, 0, 0), (36, .ireturn, 37, 0, 0, 0, 0)]
def tb_147 : List (Nat × En) := [(0, .aload_n 0, 1, 0, 0, 0, 0), (1, .getfield 170, 4, 7, 19, 0, 0), (4, .ifCond .ne 7, 7, 11, 0, 0, 0), (7, .iconst 1, 8, 0, 0, 0, 1), (8, .goto 61, 11, 69, 0, 0, 0), (11, .iload_n 1, 12, 1, 0, 0, 0), (12, .iconst 0, 13, 0, 0, 0, 0), (13, .aload_n 0, 14, 0, 0, 0, 0), (14, .getfield 196, 17, 7, 20, 0, 0), (17, .iconst 1, 18, 0, 0, 0, 1), (18, .isub, 19, 0, 0, 0, 0), (19, .invokestatic 162, 22, 95, 1, 3, 0), (22, .ifCond .ne 34, 25, 56, 0, 0, 0), (25, .aload_n 0, 26, 0, 0, 0, 0), (26, .getfield 62, 29, 7, 21, 0, 0), (29, .iload_n 1, 30, 1, 0, 0, 0), (30, .iconst 0, 31, 0, 0, 0, 0), (31, .aload_n 0, 32, 0, 0, 0, 0), (32, .getfield 196, 35, 7, 20, 0, 0), (35, .iconst 1, 36, 0, 0, 0, 1), (36, .isub, 37, 0, 0, 0, 0), (37, .invokestatic 162, 40, 95, 1, 3, 0), (40, .ifCond .eq 7, 43, 47, 0, 0, 0), (43, .iconst 0, 44, 0, 0, 0, 0), (44, .goto 4, 47, 48, 0, 0, 0), (47, .iload_n 1, 48, 1, 0, 0, 0), (48, .baload, 49, 0, 0, 0, 0), (49, .ifCond .ne 7, 52, 56, 0, 0, 0), (52, .iload_n 2, 53, 2, 0, 0, 0), (53, .ifCond .ne 7, 56, 60, 0, 0, 0), (56, .iconst 2, 57, 0, 0, 0, 2), (57, .goto 12, 60, 69, 0, 0, 0), (60, .iload_n 3, 61, 3, 0, 0, 0), (61, .ifCond .eq 7, 64, 68, 0, 0, 0), (64, .iconst 0, 65, 0, 0, 0, 0), (65, .goto 4, 68, 69, 0, 0, 0), (68, .iconst 3, 69, 0, 0, 0, 3), (69, .ireturn, 70, 0, 0, 0, 0)]
def tb_148_0 : List (Nat × En) := [(0, .aload_n 0, 1, 0, 0, 0, 0), (1, .aload_n 0, 2, 0, 0, 0, 0), (2, .iload_n 1, 3, 1, 0, 0, 0), (3, .iconst 1, 4, 0, 0, 0, 1), (4, .iload_n 2, 5, 2, 0, 0, 0), (5, .iconst 0, 6, 0, 0, 0, 0), (6, .bipush 6, 8, 0, 0, 0, 6), (8, .invokestatic 162, 11, 95, 1, 3, 0), (11, .ifCond .ne 7, 14, 18, 0, 0, 0), (14, .iconst 1, 15, 0, 0, 0, 1), (15, .goto 4, 18, 19, 0, 0, 0), (18, .iconst 0, 19, 0, 0, 0, 0), (19, .invokevirtual 322, 22, 147, 0, 4, 0), (22, .putfield 159, 25, 7, 0, 0, 0), (25, .aload_n 0, 26, 0, 0, 0, 0), (26, .getfield 159, 29, 7, 0, 0, 0), (29, .ifCond .le 5, 32, 34, 0, 0, 0), (32, .iconst 0, 33, 0, 0, 0, 0), (33, .ireturn, 34, 0, 0, 0, 0), (34, .iload_n 2, 35, 2, 0, 0, 0), (35, .tableswitch 79 0 5 #[37, 44, 51, 58, 65, 72], 72, 0, 0, 0, 0), (72, .aload_n 0, 73, 0, 0, 0, 0), (73, .getfield 78, 76, 7, 26, 0, 0), (76, .iload_n 1, 77, 1, 0, 0, 0), (77, .iaload, 78, 0, 0, 0, 0), (78, .ireturn, 79, 0, 0, 0, 0), (79, .aload_n 0, 80, 0, 0, 0, 0), (80, .getfield 108, 83, 7, 36, 0, 0), (83, .iload_n 1, 84, 1, 0, 0, 0), (84, .iaload, 85, 0, 0, 0, 0), (85, .ireturn, 86, 0, 0, 0, 0), (86, .aload_n 0, 87, 0, 0, 0, 0), (87, .getfield 111, 90, 7, 37, 0, 0), (90, .iload_n 1, 91, 1, 0, 0, 0), (91, .iaload, 92, 0, 0, 0, 0), (92, .ireturn, 93, 0, 0, 0, 0), (93, .aload_n 0, 94, 0, 0, 0, 0), (94, .getfield 114, 97, 7, 38, 0, 0), (97, .iload_n 1, 98, 1, 0, 0, 0), (98, .iaload, 99, 0, 0, 0, 0), (99, .ireturn, 100, 0, 0, 0, 0), (100, .aload_n 0, 101, 0, 0, 0, 0), (101, .getfield 117, 104, 7, 39, 0, 0), (104, .iload_n 1, 105, 1, 0, 0, 0), (105, .iaload, 106, 0, 0, 0, 0), (106, .ireturn, 107, 0, 0, 0, 0), (107, .aload_n 0, 108, 0, 0, 0, 0), (108, .getfield 66, 111, 7, 22, 0, 0), (111, .iload_n 1, 112, 1, 0, 0, 0), (112, .iaload, 113, 0, 0, 0, 0)]
def tb_148_1 : List (Nat × En) := [(113, .ireturn, 114, 0, 0, 0, 0), (114, .aload_n 0, 115, 0, 0, 0, 0), (115, .getfield 72, 118, 7, 24, 0, 0), (118, .iload_n 1, 119, 1, 0, 0, 0), (119, .iaload, 120, 0, 0, 0, 0), (120, .ireturn, 121, 0, 0, 0, 0)]
def tb_148 : List (Nat × En) := tb_148_0 ++ (tb_148_1)
def tb_149_0 : List (Nat × En) := [(0, .iload_n 1, 1, 1, 0, 0, 0), (1, .iconst 0, 2, 0, 0, 0, 0), (2, .iconst 5, 3, 0, 0, 0, 5), (3, .invokestatic 162, 6, 95, 1, 3, 0), (6, .ifCond .ne 36, 9, 42, 0, 0, 0), (9, .iload_n 2, 10, 2, 0, 0, 0), (10, .iconst 0, 11, 0, 0, 0, 0), (11, .aload_n 0, 12, 0, 0, 0, 0), (12, .getfield 78, 15, 7, 26, 0, 0), (15, .iload_n 1, 16, 1, 0, 0, 0), (16, .iconst 0, 17, 0, 0, 0, 0), (17, .iconst 5, 18, 0, 0, 0, 5), (18, .invokestatic 162, 21, 95, 1, 3, 0), (21, .ifCond .eq 7, 24, 28, 0, 0, 0), (24, .iconst 0, 25, 0, 0, 0, 0), (25, .goto 4, 28, 29, 0, 0, 0), (28, .iload_n 1, 29, 1, 0, 0, 0), (29, .iaload, 30, 0, 0, 0, 0), (30, .iconst 1, 31, 0, 0, 0, 1), (31, .isub, 32, 0, 0, 0, 0), (32, .invokestatic 162, 35, 95, 1, 3, 0), (35, .ifCond .ne 7, 38, 42, 0, 0, 0), (38, .iconst 1, 39, 0, 0, 0, 1), (39, .goto 4, 42, 43, 0, 0, 0), (42, .iconst 0, 43, 0, 0, 0, 0), (43, .istore 4, 45, 4, 0, 0, 0), (45, .aload_n 0, 46, 0, 0, 0, 0), (46, .aload_n 0, 47, 0, 0, 0, 0), (47, .iload_n 1, 48, 1, 0, 0, 0), (48, .iload 4, 50, 4, 0, 0, 0), (50, .iload_n 3, 51, 3, 0, 0, 0), (51, .iconst 0, 52, 0, 0, 0, 0), (52, .iconst 4, 53, 0, 0, 0, 4), (53, .invokestatic 162, 56, 95, 1, 3, 0), (56, .ifCond .ne 7, 59, 63, 0, 0, 0), (59, .iconst 1, 60, 0, 0, 0, 1), (60, .goto 4, 63, 64, 0, 0, 0), (63, .iconst 0, 64, 0, 0, 0, 0), (64, .invokevirtual 322, 67, 147, 0, 4, 0), (67, .putfield 159, 70, 7, 0, 0, 0), (70, .aload_n 0, 71, 0, 0, 0, 0), (71, .getfield 159, 74, 7, 0, 0, 0), (74, .ifCond .le 5, 77, 79, 0, 0, 0), (77, .iconst 0, 78, 0, 0, 0, 0), (78, .ireturn, 79, 0, 0, 0, 0), (79, .bipush 10, 81, 0, 0, 0, 10), (81, .iload_n 1, 82, 1, 0, 0, 0), (82, .imul, 83, 0, 0, 0, 0), (83, .iload_n 2, 84, 2, 0, 0, 0), (84, .iadd, 85, 0, 0, 0, 0)]
def tb_149_1 : List (Nat × En) := [(85, .istore 5, 87, 5, 0, 0, 0), (87, .iload_n 3, 88, 3, 0, 0, 0), (88, .tableswitch 64 0 3 #[32, 40, 48, 56], 120, 0, 0, 0, 0), (120, .aload_n 0, 121, 0, 0, 0, 0), (121, .getfield 81, 124, 7, 27, 0, 0), (124, .iload 5, 126, 5, 0, 0, 0), (126, .iaload, 127, 0, 0, 0, 0), (127, .ireturn, 128, 0, 0, 0, 0), (128, .aload_n 0, 129, 0, 0, 0, 0), (129, .getfield 96, 132, 7, 32, 0, 0), (132, .iload 5, 134, 5, 0, 0, 0), (134, .iaload, 135, 0, 0, 0, 0), (135, .ireturn, 136, 0, 0, 0, 0), (136, .aload_n 0, 137, 0, 0, 0, 0), (137, .getfield 99, 140, 7, 33, 0, 0), (140, .iload 5, 142, 5, 0, 0, 0), (142, .iaload, 143, 0, 0, 0, 0), (143, .ireturn, 144, 0, 0, 0, 0), (144, .aload_n 0, 145, 0, 0, 0, 0), (145, .getfield 102, 148, 7, 34, 0, 0), (148, .iload 5, 150, 5, 0, 0, 0), (150, .iaload, 151, 0, 0, 0, 0), (151, .ireturn, 152, 0, 0, 0, 0), (152, .aload_n 0, 153, 0, 0, 0, 0), (153, .getfield 105, 156, 7, 35, 0, 0), (156, .iload 5, 158, 5, 0, 0, 0), (158, .iaload, 159, 0, 0, 0, 0), (159, .ireturn, 160, 0, 0, 0, 0)]
def tb_149 : List (Nat × En) := tb_149_0 ++ (tb_149_1)
def tb_150_0 : List (Nat × En) := [(0, .iload_n 1, 1, 1, 0, 0, 0), (1, .iconst 0, 2, 0, 0, 0, 0), (2, .iconst 5, 3, 0, 0, 0, 5), (3, .invokestatic 162, 6, 95, 1, 3, 0), (6, .ifCond .eq 7, 9, 13, 0, 0, 0), (9, .iconst 0, 10, 0, 0, 0, 0), (10, .goto 22, 13, 32, 0, 0, 0), (13, .iload_n 3, 14, 3, 0, 0, 0), (14, .ifCond .eq 12, 17, 26, 0, 0, 0), (17, .aload_n 0, 18, 0, 0, 0, 0), (18, .getfield 114, 21, 7, 38, 0, 0), (21, .iload_n 1, 22, 1, 0, 0, 0), (22, .iaload, 23, 0, 0, 0, 0), (23, .goto 9, 26, 32, 0, 0, 0), (26, .aload_n 0, 27, 0, 0, 0, 0), (27, .getfield 108, 30, 7, 36, 0, 0), (30, .iload_n 1, 31, 1, 0, 0, 0), (31, .iaload, 32, 0, 0, 0, 0), (32, .istore 4, 34, 4, 0, 0, 0), (34, .aload_n 0, 35, 0, 0, 0, 0), (35, .aload_n 0, 36, 0, 0, 0, 0), (36, .iload_n 1, 37, 1, 0, 0, 0), (37, .iconst 1, 38, 0, 0, 0, 1), (38, .iload_n 2, 39, 2, 0, 0, 0), (39, .iconst 0, 40, 0, 0, 0, 0), (40, .iload 4, 42, 4, 0, 0, 0), (42, .iconst 1, 43, 0, 0, 0, 1), (43, .isub, 44, 0, 0, 0, 0), (44, .invokestatic 162, 47, 95, 1, 3, 0), (47, .ifCond .ne 7, 50, 54, 0, 0, 0), (50, .iconst 1, 51, 0, 0, 0, 1), (51, .goto 4, 54, 55, 0, 0, 0), (54, .iconst 0, 55, 0, 0, 0, 0), (55, .invokevirtual 322, 58, 147, 0, 4, 0), (58, .putfield 159, 61, 7, 0, 0, 0), (61, .aload_n 0, 62, 0, 0, 0, 0), (62, .getfield 159, 65, 7, 0, 0, 0), (65, .ifCond .le 5, 68, 70, 0, 0, 0), (68, .lconst 0, 69, 0, 0, 0, 0), (69, .lreturn, 70, 0, 0, 0, 0), (70, .lconst 0, 71, 0, 0, 0, 0), (71, .lstore 5, 73, 5, 0, 0, 0), (73, .iconst 0, 74, 0, 0, 0, 0), (74, .istore 7, 76, 7, 0, 0, 0), (76, .iconst 4, 77, 0, 0, 0, 4), (77, .istore 8, 79, 8, 0, 0, 0), (79, .iconst 0, 80, 0, 0, 0, 0), (80, .istore 9, 82, 9, 0, 0, 0), (82, .iload 9, 84, 9, 0, 0, 0), (84, .aload_n 0, 85, 0, 0, 0, 0)]
def tb_150_1 : List (Nat × En) := [(85, .getfield 78, 88, 7, 26, 0, 0), (88, .iload_n 1, 89, 1, 0, 0, 0), (89, .iaload, 90, 0, 0, 0, 0), (90, .if_icmp .ge 152, 93, 242, 0, 0, 0), (93, .bipush 10, 95, 0, 0, 0, 10), (95, .iload_n 1, 96, 1, 0, 0, 0), (96, .imul, 97, 0, 0, 0, 0), (97, .iload 9, 99, 9, 0, 0, 0), (99, .iadd, 100, 0, 0, 0, 0), (100, .istore 10, 102, 10, 0, 0, 0), (102, .iload_n 3, 103, 3, 0, 0, 0), (103, .ifCond .eq 13, 106, 116, 0, 0, 0), (106, .aload_n 0, 107, 0, 0, 0, 0), (107, .getfield 105, 110, 7, 35, 0, 0), (110, .iload 10, 112, 10, 0, 0, 0), (112, .iaload, 113, 0, 0, 0, 0), (113, .goto 10, 116, 123, 0, 0, 0), (116, .aload_n 0, 117, 0, 0, 0, 0), (117, .getfield 102, 120, 7, 34, 0, 0), (120, .iload 10, 122, 10, 0, 0, 0), (122, .iaload, 123, 0, 0, 0, 0), (123, .istore 11, 125, 11, 0, 0, 0), (125, .iload_n 3, 126, 3, 0, 0, 0), (126, .ifCond .eq 20, 129, 146, 0, 0, 0), (129, .iload 11, 131, 11, 0, 0, 0), (131, .iload 4, 133, 4, 0, 0, 0), (133, .irem, 134, 0, 0, 0, 0), (134, .iload_n 2, 135, 2, 0, 0, 0), (135, .if_icmp .ne 7, 138, 142, 0, 0, 0), (138, .iconst 1, 139, 0, 0, 0, 1), (139, .goto 18, 142, 157, 0, 0, 0), (142, .iconst 0, 143, 0, 0, 0, 0), (143, .goto 14, 146, 157, 0, 0, 0), (146, .iload 11, 148, 11, 0, 0, 0), (148, .iload_n 2, 149, 2, 0, 0, 0), (149, .if_icmp .ne 7, 152, 156, 0, 0, 0), (152, .iconst 1, 153, 0, 0, 0, 1), (153, .goto 4, 156, 157, 0, 0, 0), (156, .iconst 0, 157, 0, 0, 0, 0), (157, .istore 12, 159, 12, 0, 0, 0), (159, .iload 12, 161, 12, 0, 0, 0), (161, .ifCond .ne 6, 164, 167, 0, 0, 0), (164, .goto 72, 167, 236, 0, 0, 0), (167, .aload_n 0, 168, 0, 0, 0, 0), (168, .iload 10, 170, 10, 0, 0, 0), (170, .invokevirtual 259, 173, 116, 0, 2, 0), (173, .ifCond .eq 8, 176, 181, 0, 0, 0), (176, .iload 8, 178, 8, 0, 0, 0), (178, .goto 5, 181, 183, 0, 0, 0), (181, .iload 7, 183, 7, 0, 0, 0)]
def tb_150_2 : List (Nat × En) := [(183, .istore 13, 185, 13, 0, 0, 0), (185, .lload 5, 187, 5, 0, 0, 0), (187, .iload 9, 189, 9, 0, 0, 0), (189, .iconst 1, 190, 0, 0, 0, 1), (190, .iadd, 191, 0, 0, 0, 0), (191, .iload_n 3, 192, 3, 0, 0, 0), (192, .ifCond .eq 14, 195, 206, 0, 0, 0), (195, .bipush 16, 197, 0, 0, 0, 16), (197, .iload 11, 199, 11, 0, 0, 0), (199, .iload 4, 201, 4, 0, 0, 0), (201, .idiv, 202, 0, 0, 0, 0), (202, .imul, 203, 0, 0, 0, 0), (203, .goto 4, 206, 207, 0, 0, 0), (206, .iconst 0, 207, 0, 0, 0, 0), (207, .iadd, 208, 0, 0, 0, 0), (208, .i2l, 209, 0, 0, 0, 0), (209, .bipush 8, 211, 0, 0, 0, 8), (211, .iload 13, 213, 13, 0, 0, 0), (213, .imul, 214, 0, 0, 0, 0), (214, .lshl, 215, 0, 0, 0, 0), (215, .lor, 216, 0, 0, 0, 0), (216, .lstore 5, 218, 5, 0, 0, 0), (218, .aload_n 0, 219, 0, 0, 0, 0), (219, .iload 10, 221, 10, 0, 0, 0), (221, .invokevirtual 259, 224, 116, 0, 2, 0), (224, .ifCond .eq 9, 227, 233, 0, 0, 0), (227, .iinc 8 1, 230, 8, 0, 0, 1), (230, .goto 6, 233, 236, 0, 0, 0), (233, .iinc 7 1, 236, 7, 0, 0, 1), (236, .iinc 9 1, 239, 9, 0, 0, 1), (239, .goto (-157), 242, 82, 0, 0, 0), (242, .lload 5, 244, 5, 0, 0, 0), (244, .lreturn, 245, 0, 0, 0, 0)]
def tb_150 : List (Nat × En) := tb_150_0 ++ (tb_150_1 ++ (tb_150_2))
def tb_151_0 : List (Nat × En) := [(0, .aload_n 0, 1, 0, 0, 0, 0), (1, .aload_n 0, 2, 0, 0, 0, 0), (2, .iload_n 1, 3, 1, 0, 0, 0), (3, .iconst 1, 4, 0, 0, 0, 1), (4, .iconst 1, 5, 0, 0, 0, 1), (5, .invokevirtual 322, 8, 147, 0, 4, 0), (8, .putfield 159, 11, 7, 0, 0, 0), (11, .aload_n 0, 12, 0, 0, 0, 0), (12, .getfield 159, 15, 7, 0, 0, 0), (15, .ifCond .gt 12, 18, 27, 0, 0, 0), (18, .aload_n 0, 19, 0, 0, 0, 0), (19, .getfield 78, 22, 7, 26, 0, 0), (22, .iload_n 1, 23, 1, 0, 0, 0), (23, .iaload, 24, 0, 0, 0, 0), (24, .ifCond .ne 5, 27, 29, 0, 0, 0), (27, .dconst 0, 28, 0, 0, 0, 0), (28, .dreturn, 29, 0, 0, 0, 0), (29, .aload_n 0, 30, 0, 0, 0, 0), (30, .getfield 114, 33, 7, 38, 0, 0), (33, .iload_n 1, 34, 1, 0, 0, 0), (34, .iaload, 35, 0, 0, 0, 0), (35, .ifCond .le 13, 38, 48, 0, 0, 0), (38, .aload_n 0, 39, 0, 0, 0, 0), (39, .getfield 114, 42, 7, 38, 0, 0), (42, .iload_n 1, 43, 1, 0, 0, 0), (43, .iaload, 44, 0, 0, 0, 0), (44, .i2d, 45, 0, 0, 0, 0), (45, .goto 10, 48, 55, 0, 0, 0), (48, .aload_n 0, 49, 0, 0, 0, 0), (49, .getfield 108, 52, 7, 36, 0, 0), (52, .iload_n 1, 53, 1, 0, 0, 0), (53, .iaload, 54, 0, 0, 0, 0), (54, .i2d, 55, 0, 0, 0, 0), (55, .dstore_n 2, 56, 2, 0, 0, 0), (56, .aload_n 0, 57, 0, 0, 0, 0), (57, .getfield 7, 60, 7, 1, 0, 0), (60, .aload_n 0, 61, 0, 0, 0, 0), (61, .getfield 13, 64, 7, 2, 0, 0), (64, .iadd, 65, 0, 0, 0, 0), (65, .i2d, 66, 0, 0, 0, 0), (66, .dstore 4, 68, 4, 0, 0, 0), (68, .aload_n 0, 69, 0, 0, 0, 0), (69, .getfield 78, 72, 7, 26, 0, 0), (72, .iload_n 1, 73, 1, 0, 0, 0), (73, .iaload, 74, 0, 0, 0, 0), (74, .i2d, 75, 0, 0, 0, 0), (75, .dload_n 2, 76, 2, 0, 0, 0), (76, .dload 4, 78, 4, 0, 0, 0), (78, .dmul, 79, 0, 0, 0, 0), (79, .ddiv, 80, 0, 0, 0, 0)]
def tb_151_1 : List (Nat × En) := [(80, .dreturn, 81, 0, 0, 0, 0)]
def tb_151 : List (Nat × En) := tb_151_0 ++ (tb_151_1)
def tb_152 : List (Nat × En) := [(0, .aload_n 0, 1, 0, 0, 0, 0), (1, .iload_n 1, 2, 1, 0, 0, 0), (2, .iload_n 2, 3, 2, 0, 0, 0), (3, .iload_n 3, 4, 3, 0, 0, 0), (4, .iload 4, 6, 4, 0, 0, 0), (6, .iload 5, 8, 5, 0, 0, 0), (8, .iload 6, 10, 6, 0, 0, 0), (10, .invokevirtual 7, 13, 65, 0, 7, 0), (13, .goto 7, 16, 20, 0, 0, 0), (16, .astore 7, 18, 7, 0, 0, 0), (18, .iconst 1, 19, 0, 0, 0, 1), (19, .ireturn, 20, 0, 0, 0, 0), (20, .iconst 0, 21, 0, 0, 0, 0), (21, .ireturn, 22, 0, 0, 0, 0)]
def tb_153 : List (Nat × En) := [(0, .aload 5, 2, 5, 0, 0, 0), (2, .iconst 0, 3, 0, 0, 0, 0), (3, .aload_n 0, 4, 0, 0, 0, 0), (4, .iload_n 1, 5, 1, 0, 0, 0), (5, .iload_n 2, 6, 2, 0, 0, 0), (6, .iload_n 3, 7, 3, 0, 0, 0), (7, .iload 4, 9, 4, 0, 0, 0), (9, .invokevirtual 15, 12, 66, 0, 5, 0), (12, .i2l, 13, 0, 0, 0, 0), (13, .lastore, 14, 0, 0, 0, 0), (14, .goto 11, 17, 25, 0, 0, 0), (17, .astore 6, 19, 6, 0, 0, 0), (19, .iconst 1, 20, 0, 0, 0, 1), (20, .ireturn, 21, 0, 0, 0, 0), (21, .astore 6, 23, 6, 0, 0, 0), (23, .iconst 2, 24, 0, 0, 0, 2), (24, .ireturn, 25, 0, 0, 0, 0), (25, .iconst 0, 26, 0, 0, 0, 0), (26, .ireturn, 27, 0, 0, 0, 0)]
def tb_154 : List (Nat × En) := [(0, .aload 7, 2, 7, 0, 0, 0), (2, .iconst 0, 3, 0, 0, 0, 0), (3, .aload_n 0, 4, 0, 0, 0, 0), (4, .iload_n 1, 5, 1, 0, 0, 0), (5, .iload_n 2, 6, 2, 0, 0, 0), (6, .iload_n 3, 7, 3, 0, 0, 0), (7, .iload 4, 9, 4, 0, 0, 0), (9, .iload 5, 11, 5, 0, 0, 0), (11, .iload 6, 13, 6, 0, 0, 0), (13, .invokevirtual 21, 16, 67, 0, 7, 0), (16, .i2l, 17, 0, 0, 0, 0), (17, .lastore, 18, 0, 0, 0, 0), (18, .goto 11, 21, 29, 0, 0, 0), (21, .astore 8, 23, 8, 0, 0, 0), (23, .iconst 1, 24, 0, 0, 0, 1), (24, .ireturn, 25, 0, 0, 0, 0), (25, .astore 8, 27, 8, 0, 0, 0), (27, .iconst 2, 28, 0, 0, 0, 2), (28, .ireturn, 29, 0, 0, 0, 0), (29, .iconst 0, 30, 0, 0, 0, 0), (30, .ireturn, 31, 0, 0, 0, 0)]
def tb_155 : List (Nat × En) := [(0, .aload_n 1, 1, 1, 0, 0, 0), (1, .iconst 0, 2, 0, 0, 0, 0), (2, .aload_n 0, 3, 0, 0, 0, 0), (3, .invokevirtual 25, 6, 71, 0, 1, 0), (6, .i2l, 7, 0, 0, 0, 0), (7, .lastore, 8, 0, 0, 0, 0), (8, .goto 12, 11, 20, 0, 0, 0), (11, .astore_n 2, 12, 2, 0, 0, 0), (12, .iconst 1, 13, 0, 0, 0, 1), (13, .ireturn, 14, 0, 0, 0, 0), (14, .astore_n 2, 15, 2, 0, 0, 0), (15, .iconst 2, 16, 0, 0, 0, 2), (16, .ireturn, 17, 0, 0, 0, 0), (17, .astore_n 2, 18, 2, 0, 0, 0), (18, .iconst 3, 19, 0, 0, 0, 3), (19, .ireturn, 20, 0, 0, 0, 0), (20, .iconst 0, 21, 0, 0, 0, 0), (21, .ireturn, 22, 0, 0, 0, 0)]
def tb_156 : List (Nat × En) := [(0, .aload_n 1, 1, 1, 0, 0, 0), (1, .iconst 0, 2, 0, 0, 0, 0), (2, .aload_n 0, 3, 0, 0, 0, 0), (3, .invokevirtual 31, 6, 72, 0, 1, 0), (6, .i2l, 7, 0, 0, 0, 0), (7, .lastore, 8, 0, 0, 0, 0), (8, .goto 9, 11, 17, 0, 0, 0), (11, .astore_n 2, 12, 2, 0, 0, 0), (12, .iconst 1, 13, 0, 0, 0, 1), (13, .ireturn, 14, 0, 0, 0, 0), (14, .astore_n 2, 15, 2, 0, 0, 0), (15, .iconst 2, 16, 0, 0, 0, 2), (16, .ireturn, 17, 0, 0, 0, 0), (17, .iconst 0, 18, 0, 0, 0, 0), (18, .ireturn, 19, 0, 0, 0, 0)]
def tb_157 : List (Nat × En) := [(0, .aload_n 2, 1, 2, 0, 0, 0), (1, .iconst 0, 2, 0, 0, 0, 0), (2, .aload_n 0, 3, 0, 0, 0, 0), (3, .iload_n 1, 4, 1, 0, 0, 0), (4, .invokevirtual 36, 7, 73, 0, 2, 0), (7, .i2l, 8, 0, 0, 0, 0), (8, .lastore, 9, 0, 0, 0, 0), (9, .goto 6, 12, 15, 0, 0, 0), (12, .astore_n 3, 13, 3, 0, 0, 0), (13, .iconst 1, 14, 0, 0, 0, 1), (14, .ireturn, 15, 0, 0, 0, 0), (15, .iconst 0, 16, 0, 0, 0, 0), (16, .ireturn, 17, 0, 0, 0, 0)]
def tb_158 : List (Nat × En) := [(0, .aload_n 2, 1, 2, 0, 0, 0), (1, .iconst 0, 2, 0, 0, 0, 0), (2, .aload_n 0, 3, 0, 0, 0, 0), (3, .iload_n 1, 4, 1, 0, 0, 0), (4, .invokevirtual 40, 7, 74, 0, 2, 0), (7, .i2l, 8, 0, 0, 0, 0), (8, .lastore, 9, 0, 0, 0, 0), (9, .goto 6, 12, 15, 0, 0, 0), (12, .astore_n 3, 13, 3, 0, 0, 0), (13, .iconst 1, 14, 0, 0, 0, 1), (14, .ireturn, 15, 0, 0, 0, 0), (15, .iconst 0, 16, 0, 0, 0, 0), (16, .ireturn, 17, 0, 0, 0, 0)]
def tb_159 : List (Nat × En) := [(0, .aload_n 2, 1, 2, 0, 0, 0), (1, .iconst 0, 2, 0, 0, 0, 0), (2, .aload_n 0, 3, 0, 0, 0, 0), (3, .iload_n 1, 4, 1, 0, 0, 0), (4, .invokevirtual 43, 7, 75, 0, 2, 0), (7, .i2l, 8, 0, 0, 0, 0), (8, .lastore, 9, 0, 0, 0, 0), (9, .goto 6, 12, 15, 0, 0, 0), (12, .astore_n 3, 13, 3, 0, 0, 0), (13, .iconst 1, 14, 0, 0, 0, 1), (14, .ireturn, 15, 0, 0, 0, 0), (15, .iconst 0, 16, 0, 0, 0, 0), (16, .ireturn, 17, 0, 0, 0, 0)]
def tb_160 : List (Nat × En) := [(0, .aload_n 3, 1, 3, 0, 0, 0), (1, .iconst 0, 2, 0, 0, 0, 0), (2, .aload_n 0, 3, 0, 0, 0, 0), (3, .iload_n 1, 4, 1, 0, 0, 0), (4, .iload_n 2, 5, 2, 0, 0, 0), (5, .invokevirtual 46, 8, 76, 0, 3, 0), (8, .i2l, 9, 0, 0, 0, 0), (9, .lastore, 10, 0, 0, 0, 0), (10, .goto 15, 13, 25, 0, 0, 0), (13, .astore 4, 15, 4, 0, 0, 0), (15, .iconst 1, 16, 0, 0, 0, 1), (16, .ireturn, 17, 0, 0, 0, 0), (17, .astore 4, 19, 4, 0, 0, 0), (19, .iconst 2, 20, 0, 0, 0, 2), (20, .ireturn, 21, 0, 0, 0, 0), (21, .astore 4, 23, 4, 0, 0, 0), (23, .iconst 3, 24, 0, 0, 0, 3), (24, .ireturn, 25, 0, 0, 0, 0), (25, .iconst 0, 26, 0, 0, 0, 0), (26, .ireturn, 27, 0, 0, 0, 0)]
def tb_161 : List (Nat × En) := [(0, .aload 4, 2, 4, 0, 0, 0), (2, .iconst 0, 3, 0, 0, 0, 0), (3, .aload_n 0, 4, 0, 0, 0, 0), (4, .iload_n 1, 5, 1, 0, 0, 0), (5, .iload_n 2, 6, 2, 0, 0, 0), (6, .iload_n 3, 7, 3, 0, 0, 0), (7, .invokevirtual 52, 10, 77, 0, 4, 0), (10, .i2l, 11, 0, 0, 0, 0), (11, .lastore, 12, 0, 0, 0, 0), (12, .goto 15, 15, 27, 0, 0, 0), (15, .astore 5, 17, 5, 0, 0, 0), (17, .iconst 1, 18, 0, 0, 0, 1), (18, .ireturn, 19, 0, 0, 0, 0), (19, .astore 5, 21, 5, 0, 0, 0), (21, .iconst 2, 22, 0, 0, 0, 2), (22, .ireturn, 23, 0, 0, 0, 0), (23, .astore 5, 25, 5, 0, 0, 0), (25, .iconst 3, 26, 0, 0, 0, 3), (26, .ireturn, 27, 0, 0, 0, 0), (27, .iconst 0, 28, 0, 0, 0, 0), (28, .ireturn, 29, 0, 0, 0, 0)]
def tb_162 : List (Nat × En) := [(0, .aload 4, 2, 4, 0, 0, 0), (2, .iconst 0, 3, 0, 0, 0, 0), (3, .aload_n 0, 4, 0, 0, 0, 0), (4, .iload_n 1, 5, 1, 0, 0, 0), (5, .iload_n 2, 6, 2, 0, 0, 0), (6, .iload_n 3, 7, 3, 0, 0, 0), (7, .invokevirtual 56, 10, 78, 0, 4, 0), (10, .lastore, 11, 0, 0, 0, 0), (11, .goto 15, 14, 26, 0, 0, 0), (14, .astore 5, 16, 5, 0, 0, 0), (16, .iconst 1, 17, 0, 0, 0, 1), (17, .ireturn, 18, 0, 0, 0, 0), (18, .astore 5, 20, 5, 0, 0, 0), (20, .iconst 2, 21, 0, 0, 0, 2), (21, .ireturn, 22, 0, 0, 0, 0), (22, .astore 5, 24, 5, 0, 0, 0), (24, .iconst 3, 25, 0, 0, 0, 3), (25, .ireturn, 26, 0, 0, 0, 0), (26, .iconst 0, 27, 0, 0, 0, 0), (27, .ireturn, 28, 0, 0, 0, 0)]
def tb_163 : List (Nat × En) := [(0, .aload_n 2, 1, 2, 0, 0, 0), (1, .iconst 0, 2, 0, 0, 0, 0), (2, .aload_n 0, 3, 0, 0, 0, 0), (3, .iload_n 1, 4, 1, 0, 0, 0), (4, .invokevirtual 60, 7, 79, 0, 2, 0), (7, .dastore, 8, 0, 0, 0, 0), (8, .goto 9, 11, 17, 0, 0, 0), (11, .astore_n 3, 12, 3, 0, 0, 0), (12, .iconst 1, 13, 0, 0, 0, 1), (13, .ireturn, 14, 0, 0, 0, 0), (14, .astore_n 3, 15, 3, 0, 0, 0), (15, .iconst 2, 16, 0, 0, 0, 2), (16, .ireturn, 17, 0, 0, 0, 0), (17, .iconst 0, 18, 0, 0, 0, 0), (18, .ireturn, 19, 0, 0, 0, 0)]
def tb_164 : List (Nat × En) := [(0, .iload_n 0, 1, 0, 0, 0, 0), (1, .iload_n 1, 2, 1, 0, 0, 0), (2, .if_icmp .lt 7, 5, 9, 0, 0, 0), (5, .iload_n 0, 6, 0, 0, 0, 0), (6, .goto 4, 9, 10, 0, 0, 0), (9, .iload_n 1, 10, 1, 0, 0, 0), (10, .ireturn, 11, 0, 0, 0, 0)]
def tb_165 : List (Nat × En) := [(0, .iload_n 0, 1, 0, 0, 0, 0), (1, .ifCond .ge 8, 4, 9, 0, 0, 0), (4, .iload_n 0, 5, 0, 0, 0, 0), (5, .ineg, 6, 0, 0, 0, 0), (6, .goto 4, 9, 10, 0, 0, 0), (9, .iload_n 0, 10, 0, 0, 0, 0), (10, .ireturn, 11, 0, 0, 0, 0)]
def tb_166_0 : List (Nat × En) := [(0, .new 8, 3, 6, 0, 0, 0), (3, .dup, 4, 0, 0, 0, 0), (4, .invokespecial 64, 7, 64, 3, 1, 0), (7, .astore_n 1, 8, 1, 0, 0, 0), (8, .new 65, 11, 7, 0, 0, 0), (11, .dup, 12, 0, 0, 0, 0), (12, .invokespecial 67, 15, 93, 3, 1, 0), (15, .astore_n 2, 16, 2, 0, 0, 0), (16, .iconst 1, 17, 0, 0, 0, 1), (17, .newarray .long, 19, 24, 0, 0, 0), (19, .astore_n 3, 20, 3, 0, 0, 0), (20, .iconst 1, 21, 0, 0, 0, 1), (21, .newarray .double, 23, 25, 0, 0, 0), (23, .astore 4, 25, 4, 0, 0, 0), (25, .iconst 0, 26, 0, 0, 0, 0), (26, .istore 5, 28, 5, 0, 0, 0), (28, .iload 5, 30, 5, 0, 0, 0), (30, .aload_n 0, 31, 0, 0, 0, 0), (31, .arraylength, 32, 0, 0, 0, 0), (32, .bipush 7, 34, 0, 0, 0, 7), (34, .isub, 35, 0, 0, 0, 0), (35, .if_icmp .gt 1046, 38, 1081, 0, 0, 0), (38, .aload_n 0, 39, 0, 0, 0, 0), (39, .iload 5, 41, 5, 0, 0, 0), (41, .iaload, 42, 0, 0, 0, 0), (42, .bipush 15, 44, 0, 0, 0, 15), (44, .iand, 45, 0, 0, 0, 0), (45, .tableswitch 1030 0 14 #[75, 173, 265, 383, 394, 429, 454, 498, 542, 598, 654, 710, 778, 858, 953], 120, 0, 0, 0, 0), (120, .aload_n 1, 121, 1, 0, 0, 0), (121, .aload_n 0, 122, 0, 0, 0, 0), (122, .iload 5, 124, 5, 0, 0, 0), (124, .iconst 1, 125, 0, 0, 0, 1), (125, .iadd, 126, 0, 0, 0, 0), (126, .iaload, 127, 0, 0, 0, 0), (127, .aload_n 0, 128, 0, 0, 0, 0), (128, .iload 5, 130, 5, 0, 0, 0), (130, .iconst 2, 131, 0, 0, 0, 2), (131, .iadd, 132, 0, 0, 0, 0), (132, .iaload, 133, 0, 0, 0, 0), (133, .aload_n 0, 134, 0, 0, 0, 0), (134, .iload 5, 136, 5, 0, 0, 0), (136, .iconst 3, 137, 0, 0, 0, 3), (137, .iadd, 138, 0, 0, 0, 0), (138, .iaload, 139, 0, 0, 0, 0), (139, .aload_n 0, 140, 0, 0, 0, 0), (140, .iload 5, 142, 5, 0, 0, 0), (142, .iconst 4, 143, 0, 0, 0, 4), (143, .iadd, 144, 0, 0, 0, 0), (144, .iaload, 145, 0, 0, 0, 0), (145, .aload_n 0, 146, 0, 0, 0, 0)]
def tb_166_1 : List (Nat × En) := [(146, .iload 5, 148, 5, 0, 0, 0), (148, .iconst 5, 149, 0, 0, 0, 5), (149, .iadd, 150, 0, 0, 0, 0), (150, .iaload, 151, 0, 0, 0, 0), (151, .aload_n 0, 152, 0, 0, 0, 0), (152, .iload 5, 154, 5, 0, 0, 0), (154, .bipush 6, 156, 0, 0, 0, 6), (156, .iadd, 157, 0, 0, 0, 0), (157, .iaload, 158, 0, 0, 0, 0), (158, .invokestatic 68, 161, 152, 2, 7, 0), (161, .istore 6, 163, 6, 0, 0, 0), (163, .aload_n 2, 164, 2, 0, 0, 0), (164, .aload_n 0, 165, 0, 0, 0, 0), (165, .iload 5, 167, 5, 0, 0, 0), (167, .iconst 1, 168, 0, 0, 0, 1), (168, .iadd, 169, 0, 0, 0, 0), (169, .iaload, 170, 0, 0, 0, 0), (170, .aload_n 0, 171, 0, 0, 0, 0), (171, .iload 5, 173, 5, 0, 0, 0), (173, .iconst 2, 174, 0, 0, 0, 2), (174, .iadd, 175, 0, 0, 0, 0), (175, .iaload, 176, 0, 0, 0, 0), (176, .aload_n 0, 177, 0, 0, 0, 0), (177, .iload 5, 179, 5, 0, 0, 0), (179, .iconst 3, 180, 0, 0, 0, 3), (180, .iadd, 181, 0, 0, 0, 0), (181, .iaload, 182, 0, 0, 0, 0), (182, .aload_n 0, 183, 0, 0, 0, 0), (183, .iload 5, 185, 5, 0, 0, 0), (185, .iconst 4, 186, 0, 0, 0, 4), (186, .iadd, 187, 0, 0, 0, 0), (187, .iaload, 188, 0, 0, 0, 0), (188, .aload_n 0, 189, 0, 0, 0, 0), (189, .iload 5, 191, 5, 0, 0, 0), (191, .iconst 5, 192, 0, 0, 0, 5), (192, .iadd, 193, 0, 0, 0, 0), (193, .iaload, 194, 0, 0, 0, 0), (194, .aload_n 0, 195, 0, 0, 0, 0), (195, .iload 5, 197, 5, 0, 0, 0), (197, .bipush 6, 199, 0, 0, 0, 6), (199, .iadd, 200, 0, 0, 0, 0), (200, .iaload, 201, 0, 0, 0, 0), (201, .invokevirtual 73, 204, 97, 0, 7, 0), (204, .aload_n 2, 205, 2, 0, 0, 0), (205, .invokevirtual 74, 208, 94, 0, 1, 0), (208, .iload 6, 210, 6, 0, 0, 0), (210, .if_icmp .eq 5, 213, 215, 0, 0, 0), (213, .iconst 0, 214, 0, 0, 0, 0), (214, .ireturn, 215, 0, 0, 0, 0), (215, .goto 860, 218, 1075, 0, 0, 0)]
def tb_166_2 : List (Nat × En) := [(218, .aload_n 1, 219, 1, 0, 0, 0), (219, .aload_n 0, 220, 0, 0, 0, 0), (220, .iload 5, 222, 5, 0, 0, 0), (222, .iconst 1, 223, 0, 0, 0, 1), (223, .iadd, 224, 0, 0, 0, 0), (224, .iaload, 225, 0, 0, 0, 0), (225, .aload_n 0, 226, 0, 0, 0, 0), (226, .iload 5, 228, 5, 0, 0, 0), (228, .iconst 2, 229, 0, 0, 0, 2), (229, .iadd, 230, 0, 0, 0, 0), (230, .iaload, 231, 0, 0, 0, 0), (231, .aload_n 0, 232, 0, 0, 0, 0), (232, .iload 5, 234, 5, 0, 0, 0), (234, .iconst 3, 235, 0, 0, 0, 3), (235, .iadd, 236, 0, 0, 0, 0), (236, .iaload, 237, 0, 0, 0, 0), (237, .aload_n 0, 238, 0, 0, 0, 0), (238, .iload 5, 240, 5, 0, 0, 0), (240, .iconst 4, 241, 0, 0, 0, 4), (241, .iadd, 242, 0, 0, 0, 0), (242, .iaload, 243, 0, 0, 0, 0), (243, .aload_n 3, 244, 3, 0, 0, 0), (244, .invokestatic 77, 247, 153, 2, 6, 0), (247, .istore 6, 249, 6, 0, 0, 0), (249, .aload_n 2, 250, 2, 0, 0, 0), (250, .aload_n 0, 251, 0, 0, 0, 0), (251, .iload 5, 253, 5, 0, 0, 0), (253, .iconst 1, 254, 0, 0, 0, 1), (254, .iadd, 255, 0, 0, 0, 0), (255, .iaload, 256, 0, 0, 0, 0), (256, .aload_n 0, 257, 0, 0, 0, 0), (257, .iload 5, 259, 5, 0, 0, 0), (259, .iconst 2, 260, 0, 0, 0, 2), (260, .iadd, 261, 0, 0, 0, 0), (261, .iaload, 262, 0, 0, 0, 0), (262, .aload_n 0, 263, 0, 0, 0, 0), (263, .iload 5, 265, 5, 0, 0, 0), (265, .iconst 3, 266, 0, 0, 0, 3), (266, .iadd, 267, 0, 0, 0, 0), (267, .iaload, 268, 0, 0, 0, 0), (268, .aload_n 0, 269, 0, 0, 0, 0), (269, .iload 5, 271, 5, 0, 0, 0), (271, .iconst 4, 272, 0, 0, 0, 4), (272, .iadd, 273, 0, 0, 0, 0), (273, .iaload, 274, 0, 0, 0, 0), (274, .invokevirtual 80, 277, 98, 0, 5, 0), (277, .istore 7, 279, 7, 0, 0, 0), (279, .aload_n 2, 280, 2, 0, 0, 0), (280, .invokevirtual 74, 283, 94, 0, 1, 0), (283, .iload 6, 285, 6, 0, 0, 0)]
def tb_166_3 : List (Nat × En) := [(285, .if_icmp .eq 5, 288, 290, 0, 0, 0), (288, .iconst 0, 289, 0, 0, 0, 0), (289, .ireturn, 290, 0, 0, 0, 0), (290, .iload 6, 292, 6, 0, 0, 0), (292, .ifCond .ne 15, 295, 307, 0, 0, 0), (295, .aload_n 3, 296, 3, 0, 0, 0), (296, .iconst 0, 297, 0, 0, 0, 0), (297, .laload, 298, 0, 0, 0, 0), (298, .iload 7, 300, 7, 0, 0, 0), (300, .i2l, 301, 0, 0, 0, 0), (301, .lcmp, 302, 0, 0, 0, 0), (302, .ifCond .eq 5, 305, 307, 0, 0, 0), (305, .iconst 0, 306, 0, 0, 0, 0), (306, .ireturn, 307, 0, 0, 0, 0), (307, .goto 768, 310, 1075, 0, 0, 0), (310, .aload_n 1, 311, 1, 0, 0, 0), (311, .aload_n 0, 312, 0, 0, 0, 0), (312, .iload 5, 314, 5, 0, 0, 0), (314, .iconst 1, 315, 0, 0, 0, 1), (315, .iadd, 316, 0, 0, 0, 0), (316, .iaload, 317, 0, 0, 0, 0), (317, .aload_n 0, 318, 0, 0, 0, 0), (318, .iload 5, 320, 5, 0, 0, 0), (320, .iconst 2, 321, 0, 0, 0, 2), (321, .iadd, 322, 0, 0, 0, 0), (322, .iaload, 323, 0, 0, 0, 0), (323, .aload_n 0, 324, 0, 0, 0, 0), (324, .iload 5, 326, 5, 0, 0, 0), (326, .iconst 3, 327, 0, 0, 0, 3), (327, .iadd, 328, 0, 0, 0, 0), (328, .iaload, 329, 0, 0, 0, 0), (329, .aload_n 0, 330, 0, 0, 0, 0), (330, .iload 5, 332, 5, 0, 0, 0), (332, .iconst 4, 333, 0, 0, 0, 4), (333, .iadd, 334, 0, 0, 0, 0), (334, .iaload, 335, 0, 0, 0, 0), (335, .aload_n 0, 336, 0, 0, 0, 0), (336, .iload 5, 338, 5, 0, 0, 0), (338, .iconst 5, 339, 0, 0, 0, 5), (339, .iadd, 340, 0, 0, 0, 0), (340, .iaload, 341, 0, 0, 0, 0), (341, .aload_n 0, 342, 0, 0, 0, 0), (342, .iload 5, 344, 5, 0, 0, 0), (344, .bipush 6, 346, 0, 0, 0, 6), (346, .iadd, 347, 0, 0, 0, 0), (347, .iaload, 348, 0, 0, 0, 0), (348, .aload_n 3, 349, 3, 0, 0, 0), (349, .invokestatic 81, 352, 154, 2, 8, 0), (352, .istore 6, 354, 6, 0, 0, 0), (354, .aload_n 2, 355, 2, 0, 0, 0)]
def tb_166_4 : List (Nat × En) := [(355, .aload_n 0, 356, 0, 0, 0, 0), (356, .iload 5, 358, 5, 0, 0, 0), (358, .iconst 1, 359, 0, 0, 0, 1), (359, .iadd, 360, 0, 0, 0, 0), (360, .iaload, 361, 0, 0, 0, 0), (361, .aload_n 0, 362, 0, 0, 0, 0), (362, .iload 5, 364, 5, 0, 0, 0), (364, .iconst 2, 365, 0, 0, 0, 2), (365, .iadd, 366, 0, 0, 0, 0), (366, .iaload, 367, 0, 0, 0, 0), (367, .aload_n 0, 368, 0, 0, 0, 0), (368, .iload 5, 370, 5, 0, 0, 0), (370, .iconst 3, 371, 0, 0, 0, 3), (371, .iadd, 372, 0, 0, 0, 0), (372, .iaload, 373, 0, 0, 0, 0), (373, .aload_n 0, 374, 0, 0, 0, 0), (374, .iload 5, 376, 5, 0, 0, 0), (376, .iconst 4, 377, 0, 0, 0, 4), (377, .iadd, 378, 0, 0, 0, 0), (378, .iaload, 379, 0, 0, 0, 0), (379, .aload_n 0, 380, 0, 0, 0, 0), (380, .iload 5, 382, 5, 0, 0, 0), (382, .iconst 5, 383, 0, 0, 0, 5), (383, .iadd, 384, 0, 0, 0, 0), (384, .iaload, 385, 0, 0, 0, 0), (385, .aload_n 0, 386, 0, 0, 0, 0), (386, .iload 5, 388, 5, 0, 0, 0), (388, .bipush 6, 390, 0, 0, 0, 6), (390, .iadd, 391, 0, 0, 0, 0), (391, .iaload, 392, 0, 0, 0, 0), (392, .invokevirtual 84, 395, 99, 0, 7, 0), (395, .istore 7, 397, 7, 0, 0, 0), (397, .aload_n 2, 398, 2, 0, 0, 0), (398, .invokevirtual 74, 401, 94, 0, 1, 0), (401, .iload 6, 403, 6, 0, 0, 0), (403, .if_icmp .eq 5, 406, 408, 0, 0, 0), (406, .iconst 0, 407, 0, 0, 0, 0), (407, .ireturn, 408, 0, 0, 0, 0), (408, .iload 6, 410, 6, 0, 0, 0), (410, .ifCond .ne 15, 413, 425, 0, 0, 0), (413, .aload_n 3, 414, 3, 0, 0, 0), (414, .iconst 0, 415, 0, 0, 0, 0), (415, .laload, 416, 0, 0, 0, 0), (416, .iload 7, 418, 7, 0, 0, 0), (418, .i2l, 419, 0, 0, 0, 0), (419, .lcmp, 420, 0, 0, 0, 0), (420, .ifCond .eq 5, 423, 425, 0, 0, 0), (423, .iconst 0, 424, 0, 0, 0, 0), (424, .ireturn, 425, 0, 0, 0, 0), (425, .goto 650, 428, 1075, 0, 0, 0)]
def tb_166_5 : List (Nat × En) := [(428, .aload_n 1, 429, 1, 0, 0, 0), (429, .invokevirtual 85, 432, 68, 0, 1, 0), (432, .aload_n 2, 433, 2, 0, 0, 0), (433, .invokevirtual 88, 436, 100, 0, 1, 0), (436, .goto 639, 439, 1075, 0, 0, 0), (439, .aload_n 1, 440, 1, 0, 0, 0), (440, .aload_n 0, 441, 0, 0, 0, 0), (441, .iload 5, 443, 5, 0, 0, 0), (443, .iconst 1, 444, 0, 0, 0, 1), (444, .iadd, 445, 0, 0, 0, 0), (445, .iaload, 446, 0, 0, 0, 0), (446, .aload_n 0, 447, 0, 0, 0, 0), (447, .iload 5, 449, 5, 0, 0, 0), (449, .iconst 2, 450, 0, 0, 0, 2), (450, .iadd, 451, 0, 0, 0, 0), (451, .iaload, 452, 0, 0, 0, 0), (452, .invokevirtual 89, 455, 69, 0, 3, 0), (455, .aload_n 2, 456, 2, 0, 0, 0), (456, .aload_n 0, 457, 0, 0, 0, 0), (457, .iload 5, 459, 5, 0, 0, 0), (459, .iconst 1, 460, 0, 0, 0, 1), (460, .iadd, 461, 0, 0, 0, 0), (461, .iaload, 462, 0, 0, 0, 0), (462, .aload_n 0, 463, 0, 0, 0, 0), (463, .iload 5, 465, 5, 0, 0, 0), (465, .iconst 2, 466, 0, 0, 0, 2), (466, .iadd, 467, 0, 0, 0, 0), (467, .iaload, 468, 0, 0, 0, 0), (468, .invokevirtual 93, 471, 101, 0, 3, 0), (471, .goto 604, 474, 1075, 0, 0, 0), (474, .aload_n 1, 475, 1, 0, 0, 0), (475, .aload_n 0, 476, 0, 0, 0, 0), (476, .iload 5, 478, 5, 0, 0, 0), (478, .iconst 1, 479, 0, 0, 0, 1), (479, .iadd, 480, 0, 0, 0, 0), (480, .iaload, 481, 0, 0, 0, 0), (481, .invokevirtual 94, 484, 70, 0, 2, 0), (484, .aload_n 2, 485, 2, 0, 0, 0), (485, .aload_n 0, 486, 0, 0, 0, 0), (486, .iload 5, 488, 5, 0, 0, 0), (488, .iconst 1, 489, 0, 0, 0, 1), (489, .iadd, 490, 0, 0, 0, 0), (490, .iaload, 491, 0, 0, 0, 0), (491, .invokevirtual 97, 494, 102, 0, 2, 0), (494, .if_icmp .eq 581, 497, 1075, 0, 0, 0), (497, .iconst 0, 498, 0, 0, 0, 0), (498, .ireturn, 499, 0, 0, 0, 0), (499, .aload_n 1, 500, 1, 0, 0, 0), (500, .aload_n 3, 501, 3, 0, 0, 0), (501, .invokestatic 98, 504, 155, 2, 2, 0)]
def tb_166_6 : List (Nat × En) := [(504, .istore 6, 506, 6, 0, 0, 0), (506, .aload_n 2, 507, 2, 0, 0, 0), (507, .invokevirtual 101, 510, 108, 0, 1, 0), (510, .istore 7, 512, 7, 0, 0, 0), (512, .aload_n 2, 513, 2, 0, 0, 0), (513, .invokevirtual 74, 516, 94, 0, 1, 0), (516, .iload 6, 518, 6, 0, 0, 0), (518, .if_icmp .eq 5, 521, 523, 0, 0, 0), (521, .iconst 0, 522, 0, 0, 0, 0), (522, .ireturn, 523, 0, 0, 0, 0), (523, .iload 6, 525, 6, 0, 0, 0), (525, .ifCond .ne 15, 528, 540, 0, 0, 0), (528, .aload_n 3, 529, 3, 0, 0, 0), (529, .iconst 0, 530, 0, 0, 0, 0), (530, .laload, 531, 0, 0, 0, 0), (531, .iload 7, 533, 7, 0, 0, 0), (533, .i2l, 534, 0, 0, 0, 0), (534, .lcmp, 535, 0, 0, 0, 0), (535, .ifCond .eq 5, 538, 540, 0, 0, 0), (538, .iconst 0, 539, 0, 0, 0, 0), (539, .ireturn, 540, 0, 0, 0, 0), (540, .goto 535, 543, 1075, 0, 0, 0), (543, .aload_n 1, 544, 1, 0, 0, 0), (544, .aload_n 3, 545, 3, 0, 0, 0), (545, .invokestatic 102, 548, 156, 2, 2, 0), (548, .istore 6, 550, 6, 0, 0, 0), (550, .aload_n 2, 551, 2, 0, 0, 0), (551, .invokevirtual 104, 554, 142, 0, 1, 0), (554, .istore 7, 556, 7, 0, 0, 0), (556, .aload_n 2, 557, 2, 0, 0, 0), (557, .invokevirtual 74, 560, 94, 0, 1, 0), (560, .iload 6, 562, 6, 0, 0, 0), (562, .if_icmp .eq 5, 565, 567, 0, 0, 0), (565, .iconst 0, 566, 0, 0, 0, 0), (566, .ireturn, 567, 0, 0, 0, 0), (567, .iload 6, 569, 6, 0, 0, 0), (569, .ifCond .ne 15, 572, 584, 0, 0, 0), (572, .aload_n 3, 573, 3, 0, 0, 0), (573, .iconst 0, 574, 0, 0, 0, 0), (574, .laload, 575, 0, 0, 0, 0), (575, .iload 7, 577, 7, 0, 0, 0), (577, .i2l, 578, 0, 0, 0, 0), (578, .lcmp, 579, 0, 0, 0, 0), (579, .ifCond .eq 5, 582, 584, 0, 0, 0), (582, .iconst 0, 583, 0, 0, 0, 0), (583, .ireturn, 584, 0, 0, 0, 0), (584, .goto 491, 587, 1075, 0, 0, 0), (587, .aload_n 1, 588, 1, 0, 0, 0), (588, .aload_n 0, 589, 0, 0, 0, 0), (589, .iload 5, 591, 5, 0, 0, 0)]
def tb_166_7 : List (Nat × En) := [(591, .iconst 1, 592, 0, 0, 0, 1), (592, .iadd, 593, 0, 0, 0, 0), (593, .iaload, 594, 0, 0, 0, 0), (594, .aload_n 3, 595, 3, 0, 0, 0), (595, .invokestatic 105, 598, 157, 2, 3, 0), (598, .istore 6, 600, 6, 0, 0, 0), (600, .aload_n 2, 601, 2, 0, 0, 0), (601, .aload_n 0, 602, 0, 0, 0, 0), (602, .iload 5, 604, 5, 0, 0, 0), (604, .iconst 1, 605, 0, 0, 0, 1), (605, .iadd, 606, 0, 0, 0, 0), (606, .iaload, 607, 0, 0, 0, 0), (607, .invokevirtual 108, 610, 144, 0, 2, 0), (610, .istore 7, 612, 7, 0, 0, 0), (612, .aload_n 2, 613, 2, 0, 0, 0), (613, .invokevirtual 74, 616, 94, 0, 1, 0), (616, .iload 6, 618, 6, 0, 0, 0), (618, .if_icmp .eq 5, 621, 623, 0, 0, 0), (621, .iconst 0, 622, 0, 0, 0, 0), (622, .ireturn, 623, 0, 0, 0, 0), (623, .iload 6, 625, 6, 0, 0, 0), (625, .ifCond .ne 15, 628, 640, 0, 0, 0), (628, .aload_n 3, 629, 3, 0, 0, 0), (629, .iconst 0, 630, 0, 0, 0, 0), (630, .laload, 631, 0, 0, 0, 0), (631, .iload 7, 633, 7, 0, 0, 0), (633, .i2l, 634, 0, 0, 0, 0), (634, .lcmp, 635, 0, 0, 0, 0), (635, .ifCond .eq 5, 638, 640, 0, 0, 0), (638, .iconst 0, 639, 0, 0, 0, 0), (639, .ireturn, 640, 0, 0, 0, 0), (640, .goto 435, 643, 1075, 0, 0, 0), (643, .aload_n 1, 644, 1, 0, 0, 0), (644, .aload_n 0, 645, 0, 0, 0, 0), (645, .iload 5, 647, 5, 0, 0, 0), (647, .iconst 1, 648, 0, 0, 0, 1), (648, .iadd, 649, 0, 0, 0, 0), (649, .iaload, 650, 0, 0, 0, 0), (650, .aload_n 3, 651, 3, 0, 0, 0), (651, .invokestatic 109, 654, 158, 2, 3, 0), (654, .istore 6, 656, 6, 0, 0, 0), (656, .aload_n 2, 657, 2, 0, 0, 0), (657, .aload_n 0, 658, 0, 0, 0, 0), (658, .iload 5, 660, 5, 0, 0, 0), (660, .iconst 1, 661, 0, 0, 0, 1), (661, .iadd, 662, 0, 0, 0, 0), (662, .iaload, 663, 0, 0, 0, 0), (663, .invokevirtual 111, 666, 145, 0, 2, 0), (666, .istore 7, 668, 7, 0, 0, 0), (668, .aload_n 2, 669, 2, 0, 0, 0)]
def tb_166_8 : List (Nat × En) := [(669, .invokevirtual 74, 672, 94, 0, 1, 0), (672, .iload 6, 674, 6, 0, 0, 0), (674, .if_icmp .eq 5, 677, 679, 0, 0, 0), (677, .iconst 0, 678, 0, 0, 0, 0), (678, .ireturn, 679, 0, 0, 0, 0), (679, .iload 6, 681, 6, 0, 0, 0), (681, .ifCond .ne 15, 684, 696, 0, 0, 0), (684, .aload_n 3, 685, 3, 0, 0, 0), (685, .iconst 0, 686, 0, 0, 0, 0), (686, .laload, 687, 0, 0, 0, 0), (687, .iload 7, 689, 7, 0, 0, 0), (689, .i2l, 690, 0, 0, 0, 0), (690, .lcmp, 691, 0, 0, 0, 0), (691, .ifCond .eq 5, 694, 696, 0, 0, 0), (694, .iconst 0, 695, 0, 0, 0, 0), (695, .ireturn, 696, 0, 0, 0, 0), (696, .goto 379, 699, 1075, 0, 0, 0), (699, .aload_n 1, 700, 1, 0, 0, 0), (700, .aload_n 0, 701, 0, 0, 0, 0), (701, .iload 5, 703, 5, 0, 0, 0), (703, .iconst 1, 704, 0, 0, 0, 1), (704, .iadd, 705, 0, 0, 0, 0), (705, .iaload, 706, 0, 0, 0, 0), (706, .aload_n 3, 707, 3, 0, 0, 0), (707, .invokestatic 112, 710, 159, 2, 3, 0), (710, .istore 6, 712, 6, 0, 0, 0), (712, .aload_n 2, 713, 2, 0, 0, 0), (713, .aload_n 0, 714, 0, 0, 0, 0), (714, .iload 5, 716, 5, 0, 0, 0), (716, .iconst 1, 717, 0, 0, 0, 1), (717, .iadd, 718, 0, 0, 0, 0), (718, .iaload, 719, 0, 0, 0, 0), (719, .invokevirtual 114, 722, 146, 0, 2, 0), (722, .istore 7, 724, 7, 0, 0, 0), (724, .aload_n 2, 725, 2, 0, 0, 0), (725, .invokevirtual 74, 728, 94, 0, 1, 0), (728, .iload 6, 730, 6, 0, 0, 0), (730, .if_icmp .eq 5, 733, 735, 0, 0, 0), (733, .iconst 0, 734, 0, 0, 0, 0), (734, .ireturn, 735, 0, 0, 0, 0), (735, .iload 6, 737, 6, 0, 0, 0), (737, .ifCond .ne 15, 740, 752, 0, 0, 0), (740, .aload_n 3, 741, 3, 0, 0, 0), (741, .iconst 0, 742, 0, 0, 0, 0), (742, .laload, 743, 0, 0, 0, 0), (743, .iload 7, 745, 7, 0, 0, 0), (745, .i2l, 746, 0, 0, 0, 0), (746, .lcmp, 747, 0, 0, 0, 0), (747, .ifCond .eq 5, 750, 752, 0, 0, 0), (750, .iconst 0, 751, 0, 0, 0, 0)]
def tb_166_9 : List (Nat × En) := [(751, .ireturn, 752, 0, 0, 0, 0), (752, .goto 323, 755, 1075, 0, 0, 0), (755, .aload_n 1, 756, 1, 0, 0, 0), (756, .aload_n 0, 757, 0, 0, 0, 0), (757, .iload 5, 759, 5, 0, 0, 0), (759, .iconst 1, 760, 0, 0, 0, 1), (760, .iadd, 761, 0, 0, 0, 0), (761, .iaload, 762, 0, 0, 0, 0), (762, .aload_n 0, 763, 0, 0, 0, 0), (763, .iload 5, 765, 5, 0, 0, 0), (765, .iconst 2, 766, 0, 0, 0, 2), (766, .iadd, 767, 0, 0, 0, 0), (767, .iaload, 768, 0, 0, 0, 0), (768, .aload_n 3, 769, 3, 0, 0, 0), (769, .invokestatic 115, 772, 160, 2, 4, 0), (772, .istore 6, 774, 6, 0, 0, 0), (774, .aload_n 2, 775, 2, 0, 0, 0), (775, .aload_n 0, 776, 0, 0, 0, 0), (776, .iload 5, 778, 5, 0, 0, 0), (778, .iconst 1, 779, 0, 0, 0, 1), (779, .iadd, 780, 0, 0, 0, 0), (780, .iaload, 781, 0, 0, 0, 0), (781, .aload_n 0, 782, 0, 0, 0, 0), (782, .iload 5, 784, 5, 0, 0, 0), (784, .iconst 2, 785, 0, 0, 0, 2), (785, .iadd, 786, 0, 0, 0, 0), (786, .iaload, 787, 0, 0, 0, 0), (787, .invokevirtual 118, 790, 148, 0, 3, 0), (790, .istore 7, 792, 7, 0, 0, 0), (792, .aload_n 2, 793, 2, 0, 0, 0), (793, .invokevirtual 74, 796, 94, 0, 1, 0), (796, .iload 6, 798, 6, 0, 0, 0), (798, .if_icmp .eq 5, 801, 803, 0, 0, 0), (801, .iconst 0, 802, 0, 0, 0, 0), (802, .ireturn, 803, 0, 0, 0, 0), (803, .iload 6, 805, 6, 0, 0, 0), (805, .ifCond .ne 15, 808, 820, 0, 0, 0), (808, .aload_n 3, 809, 3, 0, 0, 0), (809, .iconst 0, 810, 0, 0, 0, 0), (810, .laload, 811, 0, 0, 0, 0), (811, .iload 7, 813, 7, 0, 0, 0), (813, .i2l, 814, 0, 0, 0, 0), (814, .lcmp, 815, 0, 0, 0, 0), (815, .ifCond .eq 5, 818, 820, 0, 0, 0), (818, .iconst 0, 819, 0, 0, 0, 0), (819, .ireturn, 820, 0, 0, 0, 0), (820, .goto 255, 823, 1075, 0, 0, 0), (823, .aload_n 1, 824, 1, 0, 0, 0), (824, .aload_n 0, 825, 0, 0, 0, 0), (825, .iload 5, 827, 5, 0, 0, 0)]
def tb_166_10 : List (Nat × En) := [(827, .iconst 1, 828, 0, 0, 0, 1), (828, .iadd, 829, 0, 0, 0, 0), (829, .iaload, 830, 0, 0, 0, 0), (830, .aload_n 0, 831, 0, 0, 0, 0), (831, .iload 5, 833, 5, 0, 0, 0), (833, .iconst 2, 834, 0, 0, 0, 2), (834, .iadd, 835, 0, 0, 0, 0), (835, .iaload, 836, 0, 0, 0, 0), (836, .aload_n 0, 837, 0, 0, 0, 0), (837, .iload 5, 839, 5, 0, 0, 0), (839, .iconst 3, 840, 0, 0, 0, 3), (840, .iadd, 841, 0, 0, 0, 0), (841, .iaload, 842, 0, 0, 0, 0), (842, .aload_n 3, 843, 3, 0, 0, 0), (843, .invokestatic 119, 846, 161, 2, 5, 0), (846, .istore 6, 848, 6, 0, 0, 0), (848, .aload_n 2, 849, 2, 0, 0, 0), (849, .aload_n 0, 850, 0, 0, 0, 0), (850, .iload 5, 852, 5, 0, 0, 0), (852, .iconst 1, 853, 0, 0, 0, 1), (853, .iadd, 854, 0, 0, 0, 0), (854, .iaload, 855, 0, 0, 0, 0), (855, .aload_n 0, 856, 0, 0, 0, 0), (856, .iload 5, 858, 5, 0, 0, 0), (858, .iconst 2, 859, 0, 0, 0, 2), (859, .iadd, 860, 0, 0, 0, 0), (860, .iaload, 861, 0, 0, 0, 0), (861, .aload_n 0, 862, 0, 0, 0, 0), (862, .iload 5, 864, 5, 0, 0, 0), (864, .iconst 3, 865, 0, 0, 0, 3), (865, .iadd, 866, 0, 0, 0, 0), (866, .iaload, 867, 0, 0, 0, 0), (867, .invokevirtual 122, 870, 149, 0, 4, 0), (870, .istore 7, 872, 7, 0, 0, 0), (872, .aload_n 2, 873, 2, 0, 0, 0), (873, .invokevirtual 74, 876, 94, 0, 1, 0), (876, .iload 6, 878, 6, 0, 0, 0), (878, .if_icmp .eq 5, 881, 883, 0, 0, 0), (881, .iconst 0, 882, 0, 0, 0, 0), (882, .ireturn, 883, 0, 0, 0, 0), (883, .iload 6, 885, 6, 0, 0, 0), (885, .ifCond .ne 15, 888, 900, 0, 0, 0), (888, .aload_n 3, 889, 3, 0, 0, 0), (889, .iconst 0, 890, 0, 0, 0, 0), (890, .laload, 891, 0, 0, 0, 0), (891, .iload 7, 893, 7, 0, 0, 0), (893, .i2l, 894, 0, 0, 0, 0), (894, .lcmp, 895, 0, 0, 0, 0), (895, .ifCond .eq 5, 898, 900, 0, 0, 0), (898, .iconst 0, 899, 0, 0, 0, 0)]
def tb_166_11 : List (Nat × En) := [(899, .ireturn, 900, 0, 0, 0, 0), (900, .goto 175, 903, 1075, 0, 0, 0), (903, .aload_n 1, 904, 1, 0, 0, 0), (904, .aload_n 0, 905, 0, 0, 0, 0), (905, .iload 5, 907, 5, 0, 0, 0), (907, .iconst 1, 908, 0, 0, 0, 1), (908, .iadd, 909, 0, 0, 0, 0), (909, .iaload, 910, 0, 0, 0, 0), (910, .aload_n 0, 911, 0, 0, 0, 0), (911, .iload 5, 913, 5, 0, 0, 0), (913, .iconst 2, 914, 0, 0, 0, 2), (914, .iadd, 915, 0, 0, 0, 0), (915, .iaload, 916, 0, 0, 0, 0), (916, .aload_n 0, 917, 0, 0, 0, 0), (917, .iload 5, 919, 5, 0, 0, 0), (919, .iconst 3, 920, 0, 0, 0, 3), (920, .iadd, 921, 0, 0, 0, 0), (921, .iaload, 922, 0, 0, 0, 0), (922, .ifCond .eq 7, 925, 929, 0, 0, 0), (925, .iconst 1, 926, 0, 0, 0, 1), (926, .goto 4, 929, 930, 0, 0, 0), (929, .iconst 0, 930, 0, 0, 0, 0), (930, .aload_n 3, 931, 3, 0, 0, 0), (931, .invokestatic 123, 934, 162, 2, 5, 0), (934, .istore 6, 936, 6, 0, 0, 0), (936, .aload_n 2, 937, 2, 0, 0, 0), (937, .aload_n 0, 938, 0, 0, 0, 0), (938, .iload 5, 940, 5, 0, 0, 0), (940, .iconst 1, 941, 0, 0, 0, 1), (941, .iadd, 942, 0, 0, 0, 0), (942, .iaload, 943, 0, 0, 0, 0), (943, .aload_n 0, 944, 0, 0, 0, 0), (944, .iload 5, 946, 5, 0, 0, 0), (946, .iconst 2, 947, 0, 0, 0, 2), (947, .iadd, 948, 0, 0, 0, 0), (948, .iaload, 949, 0, 0, 0, 0), (949, .aload_n 0, 950, 0, 0, 0, 0), (950, .iload 5, 952, 5, 0, 0, 0), (952, .iconst 3, 953, 0, 0, 0, 3), (953, .iadd, 954, 0, 0, 0, 0), (954, .iaload, 955, 0, 0, 0, 0), (955, .ifCond .eq 7, 958, 962, 0, 0, 0), (958, .iconst 1, 959, 0, 0, 0, 1), (959, .goto 4, 962, 963, 0, 0, 0), (962, .iconst 0, 963, 0, 0, 0, 0), (963, .invokevirtual 126, 966, 150, 0, 4, 0), (966, .lstore 7, 968, 7, 0, 0, 0), (968, .aload_n 2, 969, 2, 0, 0, 0), (969, .invokevirtual 74, 972, 94, 0, 1, 0), (972, .iload 6, 974, 6, 0, 0, 0)]
def tb_166_12 : List (Nat × En) := [(974, .if_icmp .eq 5, 977, 979, 0, 0, 0), (977, .iconst 0, 978, 0, 0, 0, 0), (978, .ireturn, 979, 0, 0, 0, 0), (979, .iload 6, 981, 6, 0, 0, 0), (981, .ifCond .ne 14, 984, 995, 0, 0, 0), (984, .aload_n 3, 985, 3, 0, 0, 0), (985, .iconst 0, 986, 0, 0, 0, 0), (986, .laload, 987, 0, 0, 0, 0), (987, .lload 7, 989, 7, 0, 0, 0), (989, .lcmp, 990, 0, 0, 0, 0), (990, .ifCond .eq 5, 993, 995, 0, 0, 0), (993, .iconst 0, 994, 0, 0, 0, 0), (994, .ireturn, 995, 0, 0, 0, 0), (995, .goto 80, 998, 1075, 0, 0, 0), (998, .aload_n 1, 999, 1, 0, 0, 0), (999, .aload_n 0, 1000, 0, 0, 0, 0), (1000, .iload 5, 1002, 5, 0, 0, 0), (1002, .iconst 1, 1003, 0, 0, 0, 1), (1003, .iadd, 1004, 0, 0, 0, 0), (1004, .iaload, 1005, 0, 0, 0, 0), (1005, .aload 4, 1007, 4, 0, 0, 0), (1007, .invokestatic 127, 1010, 163, 2, 3, 0), (1010, .istore 6, 1012, 6, 0, 0, 0), (1012, .aload_n 2, 1013, 2, 0, 0, 0), (1013, .aload_n 0, 1014, 0, 0, 0, 0), (1014, .iload 5, 1016, 5, 0, 0, 0), (1016, .iconst 1, 1017, 0, 0, 0, 1), (1017, .iadd, 1018, 0, 0, 0, 0), (1018, .iaload, 1019, 0, 0, 0, 0), (1019, .invokevirtual 130, 1022, 151, 0, 2, 0), (1022, .dstore 7, 1024, 7, 0, 0, 0), (1024, .aload_n 2, 1025, 2, 0, 0, 0), (1025, .invokevirtual 74, 1028, 94, 0, 1, 0), (1028, .iload 6, 1030, 6, 0, 0, 0), (1030, .if_icmp .eq 5, 1033, 1035, 0, 0, 0), (1033, .iconst 0, 1034, 0, 0, 0, 0), (1034, .ireturn, 1035, 0, 0, 0, 0), (1035, .iload 6, 1037, 6, 0, 0, 0), (1037, .ifCond .ne 35, 1040, 1072, 0, 0, 0), (1040, .aload 4, 1042, 4, 0, 0, 0), (1042, .iconst 0, 1043, 0, 0, 0, 0), (1043, .daload, 1044, 0, 0, 0, 0), (1044, .dload 7, 1046, 7, 0, 0, 0), (1046, .dcmp .l, 1047, 0, 0, 0, 0), (1047, .ifCond .eq 25, 1050, 1072, 0, 0, 0), (1050, .aload 4, 1052, 4, 0, 0, 0), (1052, .iconst 0, 1053, 0, 0, 0, 0), (1053, .daload, 1054, 0, 0, 0, 0), (1054, .aload 4, 1056, 4, 0, 0, 0), (1056, .iconst 0, 1057, 0, 0, 0, 0)]
def tb_166_13 : List (Nat × En) := [(1057, .daload, 1058, 0, 0, 0, 0), (1058, .dcmp .l, 1059, 0, 0, 0, 0), (1059, .ifCond .eq 11, 1062, 1070, 0, 0, 0), (1062, .dload 7, 1064, 7, 0, 0, 0), (1064, .dload 7, 1066, 7, 0, 0, 0), (1066, .dcmp .l, 1067, 0, 0, 0, 0), (1067, .ifCond .ne 5, 1070, 1072, 0, 0, 0), (1070, .iconst 0, 1071, 0, 0, 0, 0), (1071, .ireturn, 1072, 0, 0, 0, 0), (1072, .goto 3, 1075, 1075, 0, 0, 0), (1075, .iinc 5 7, 1078, 5, 0, 0, 7), (1078, .goto (-1050), 1081, 28, 0, 0, 0), (1081, .iconst 1, 1082, 0, 0, 0, 1), (1082, .ireturn, 1083, 0, 0, 0, 0)]
def tb_166 : List (Nat × En) := tb_166_0 ++ (tb_166_1 ++ (tb_166_2 ++ (tb_166_3 ++ (tb_166_4 ++ (tb_166_5 ++ (tb_166_6 ++ (tb_166_7 ++ (tb_166_8 ++ (tb_166_9 ++ (tb_166_10 ++ (tb_166_11 ++ (tb_166_12 ++ (tb_166_13)))))))))))))
def tbL : List (List (Nat × En)) := [tb_0, tb_1, tb_2, tb_3, tb_4, tb_5, tb_6, tb_7, tb_8, tb_9, tb_10, tb_11, tb_12, tb_13, tb_14, tb_15, tb_16, tb_17, tb_18, tb_19, tb_20, tb_21, tb_22, tb_23, tb_24, tb_25, tb_26, tb_27, tb_28, tb_29, tb_30, tb_31, tb_32, tb_33, tb_34, tb_35, tb_36, tb_37, tb_38, tb_39, tb_40, tb_41, tb_42, tb_43, tb_44, tb_45, tb_46, tb_47, tb_48, tb_49, tb_50, tb_51, tb_52, tb_53, tb_54, tb_55, tb_56, tb_57, tb_58, tb_59, tb_60, tb_61, tb_62, tb_63, tb_64, tb_65, tb_66, tb_67, tb_68, tb_69, tb_70, tb_71, tb_72, tb_73, tb_74, tb_75, tb_76, tb_77, tb_78, tb_79, tb_80, tb_81, tb_82, tb_83, tb_84, tb_85, tb_86, tb_87, tb_88, tb_89, tb_90, tb_91, tb_92, tb_93, tb_94, tb_95, tb_96, tb_97, tb_98, tb_99, tb_100, tb_101, tb_102, tb_103, tb_104, tb_105, tb_106, tb_107, tb_108, tb_109, tb_110, tb_111, tb_112, tb_113, tb_114, tb_115, tb_116, tb_117, tb_118, tb_119, tb_120, tb_121, tb_122, tb_123, tb_124, tb_125, tb_126, tb_127, tb_128, tb_129, tb_130, tb_131, tb_132, tb_133, tb_134, tb_135, tb_136, tb_137, tb_138, tb_139, tb_140, tb_141, tb_142, tb_143, tb_144, tb_145, tb_146, tb_147, tb_148, tb_149, tb_150, tb_151, tb_152, tb_153, tb_154, tb_155, tb_156, tb_157, tb_158, tb_159, tb_160, tb_161, tb_162, tb_163, tb_164, tb_165, tb_166]
def tb (z : Nat) : List (Nat × En) := tbL.getD z []
def ins (z pc : Nat) : Option En := (tb z).lookup pc
def frL : List (Nat × Nat × Nat × Nat) := [(0, 9, 0, 0), (0, 15, 0, 1), (0, 18, 0, 2), (0, 21, 0, 3), (0, 24, 0, 4), (0, 27, 0, 5), (0, 31, 0, 6), (0, 35, 0, 7), (0, 38, 0, 8), (0, 41, 0, 9), (0, 44, 0, 10), (0, 47, 0, 11), (1, 9, 1, 0), (1, 15, 1, 1), (1, 19, 1, 2), (1, 22, 1, 3), (1, 25, 1, 4), (1, 29, 1, 5), (1, 33, 1, 6), (1, 36, 1, 7), (1, 39, 1, 8), (1, 42, 1, 9), (1, 45, 1, 10), (1, 48, 1, 11), (1, 51, 0, 4), (1, 54, 0, 0), (1, 57, 2, 0), (1, 60, 2, 1), (1, 61, 0, 6), (1, 111, 0, 8), (1, 117, 0, 10), (8, 15, 1, 0), (8, 19, 5, 5), (8, 25, 1, 5), (8, 32, 5, 6), (8, 45, 5, 0), (8, 48, 1, 2), (8, 51, 1, 3), (8, 58, 1, 4), (8, 66, 1, 8), (2, 9, 2, 0), (2, 15, 2, 1), (2, 18, 2, 2), (2, 21, 2, 3), (2, 24, 2, 4), (2, 27, 2, 5), (3, 9, 3, 0), (3, 15, 3, 1), (3, 18, 3, 2), (3, 21, 5, 1), (3, 31, 1, 1), (3, 37, 1, 0), (3, 43, 5, 0), (3, 54, 5, 2), (3, 57, 5, 3), (3, 60, 5, 4), (3, 63, 5, 7), (3, 87, 1, 2), (3, 90, 1, 3), (3, 127, 1, 8), (3, 142, 1, 4), (4, 9, 4, 0), (4, 15, 4, 1), (4, 18, 4, 2), (4, 22, 4, 3), (4, 26, 4, 4), (4, 29, 4, 5), (4, 38, 0, 11), (4, 47, 0, 8), (4, 50, 0, 9), (4, 53, 0, 10), (4, 56, 0, 6), (4, 67, 0, 7), (5, 9, 5, 0), (5, 15, 5, 1), (5, 18, 5, 2), (5, 21, 5, 3), (5, 24, 5, 4), (5, 27, 5, 5), (5, 31, 5, 6), (5, 34, 5, 7), (5, 47, 0, 4), (5, 58, 0, 6), (6, 10, 6, 0), (6, 18, 6, 1), (6, 22, 6, 2), (6, 27, 6, 3), (6, 36, 6, 4), (6, 43, 6, 5), (6, 47, 6, 6), (6, 51, 6, 7), (6, 58, 6, 8), (6, 62, 6, 9), (6, 72, 2, 0), (6, 75, 2, 1), (6, 78, 2, 2), (6, 81, 2, 3), (6, 84, 2, 4), (6, 87, 2, 5), (6, 101, 0, 4), (6, 108, 4, 5), (6, 144, 4, 0), (6, 147, 4, 2), (6, 150, 4, 1), (6, 153, 4, 3), (6, 156, 4, 4), (6, 163, 5, 0), (6, 166, 5, 1), (6, 169, 5, 2), (6, 172, 5, 3), (6, 175, 0, 0), (6, 178, 0, 2), (6, 184, 0, 6), (6, 187, 0, 11), (6, 190, 5, 5), (6, 193, 5, 6), (6, 196, 5, 7), (6, 206, 0, 5), (6, 212, 0, 1), (6, 218, 0, 3), (7, 7, 7, 1), (7, 13, 7, 2), (7, 16, 7, 3), (7, 19, 7, 4), (7, 22, 7, 5), (7, 25, 7, 6), (7, 28, 7, 8), (7, 32, 7, 9), (7, 35, 7, 10), (7, 38, 7, 11), (7, 41, 7, 12), (7, 44, 7, 13), (7, 47, 7, 14), (7, 50, 7, 15), (7, 53, 7, 16), (7, 56, 7, 17), (7, 59, 7, 18), (7, 62, 7, 21), (7, 66, 7, 22), (7, 69, 7, 23), (7, 72, 7, 24), (7, 75, 7, 25), (7, 78, 7, 26), (7, 81, 7, 27), (7, 84, 7, 28), (7, 87, 7, 29), (7, 90, 7, 30), (7, 93, 7, 31), (7, 96, 7, 32), (7, 99, 7, 33), (7, 102, 7, 34), (7, 105, 7, 35), (7, 108, 7, 36), (7, 111, 7, 37), (7, 114, 7, 38), (7, 117, 7, 39), (7, 120, 7, 40), (7, 123, 7, 41), (7, 126, 7, 42), (7, 129, 7, 43), (7, 132, 7, 44), (7, 135, 7, 45), (7, 138, 7, 46), (7, 141, 7, 47), (7, 144, 7, 48), (7, 147, 7, 49), (7, 150, 7, 50), (7, 153, 7, 51), (7, 156, 7, 52), (7, 159, 7, 0), (7, 170, 7, 19), (7, 174, 7, 7), (7, 196, 7, 20), (7, 297, 7, 54), (7, 313, 7, 55), (7, 316, 7, 56), (7, 319, 7, 53)]
def mrL : List (Nat × Nat × Nat × Nat) := [(0, 50, 1, 0), (0, 54, 2, 0), (0, 58, 9, 0), (0, 62, 165, 1), (0, 67, 10, 0), (1, 64, 83, 5), (1, 67, 35, 0), (1, 70, 24, 0), (1, 74, 15, 1), (1, 78, 19, 0), (1, 82, 22, 0), (1, 86, 9, 0), (1, 89, 11, 0), (1, 93, 164, 1), (1, 98, 20, 1), (1, 101, 21, 1), (1, 104, 12, 0), (1, 107, 23, 0), (1, 114, 84, 5), (1, 120, 13, 0), (1, 123, 26, 0), (8, 9, 25, 0), (8, 28, 27, 0), (8, 35, 31, 1), (8, 41, 29, 0), (8, 54, 32, 1), (8, 62, 33, 1), (8, 69, 15, 1), (3, 27, 38, 1), (3, 40, 41, 0), (3, 46, 43, 0), (3, 50, 39, 1), (3, 66, 40, 1), (3, 70, 29, 0), (3, 74, 62, 1), (3, 78, 164, 1), (3, 83, 17, 0), (3, 93, 42, 0), (3, 97, 25, 0), (3, 101, 27, 0), (3, 105, 44, 0), (3, 109, 45, 0), (3, 113, 28, 0), (3, 117, 46, 0), (3, 121, 63, 1), (3, 124, 47, 0), (3, 130, 15, 1), (3, 134, 48, 0), (3, 138, 16, 0), (4, 32, 164, 1), (4, 43, 53, 0), (4, 59, 84, 5), (4, 63, 54, 0), (4, 70, 55, 0), (4, 74, 56, 0), (5, 37, 164, 1), (5, 43, 58, 0), (5, 52, 63, 1), (5, 55, 62, 1), (5, 61, 83, 5), (6, 9, 34, 4), (6, 31, 0, 4), (6, 32, 57, 4), (6, 35, 14, 4), (6, 42, 36, 4), (6, 57, 49, 4), (6, 65, 81, 1), (6, 90, 82, 1), (6, 97, 1, 0), (6, 104, 2, 0), (6, 112, 84, 1), (6, 116, 85, 0), (6, 123, 86, 0), (6, 126, 3, 0), (6, 130, 87, 1), (6, 134, 90, 0), (6, 138, 91, 0), (6, 159, 80, 0), (6, 199, 61, 0), (6, 203, 58, 0), (6, 209, 6, 0), (6, 215, 8, 0), (6, 221, 88, 1), (6, 225, 89, 1), (6, 229, 4, 0), (6, 233, 5, 0), (6, 236, 7, 0), (6, 239, 18, 0), (6, 243, 30, 1), (6, 249, 37, 0), (6, 250, 50, 0), (6, 253, 164, 1), (6, 259, 51, 0), (6, 262, 92, 0), (6, 266, 52, 0), (6, 269, 60, 0), (6, 272, 59, 0), (7, 162, 95, 1), (7, 166, 96, 1), (7, 177, 103, 1), (7, 180, 104, 1), (7, 183, 105, 1), (7, 186, 106, 0), (7, 190, 107, 0), (7, 193, 109, 0), (7, 199, 112, 0), (7, 203, 131, 0), (7, 206, 110, 0), (7, 210, 111, 0), (7, 214, 113, 0), (7, 218, 114, 0), (7, 223, 117, 0), (7, 226, 118, 0), (7, 229, 115, 0), (7, 233, 121, 0), (7, 237, 120, 0), (7, 240, 123, 0), (7, 243, 124, 0), (7, 246, 119, 0), (7, 249, 125, 0), (7, 253, 122, 0), (7, 256, 127, 0), (7, 259, 116, 0), (7, 262, 126, 0), (7, 265, 132, 0), (7, 268, 129, 0), (7, 271, 136, 0), (7, 274, 128, 0), (7, 277, 133, 0), (7, 280, 130, 0), (7, 283, 137, 0), (7, 286, 134, 0), (7, 290, 135, 0), (7, 294, 138, 0), (7, 300, 139, 0), (7, 303, 140, 0), (7, 306, 141, 0), (7, 309, 143, 0), (7, 322, 147, 0), (9, 7, 65, 0), (9, 15, 66, 0), (9, 21, 67, 0), (9, 25, 71, 0), (9, 31, 72, 0), (9, 36, 73, 0), (9, 40, 74, 0), (9, 43, 75, 0), (9, 46, 76, 0), (9, 52, 77, 0), (9, 56, 78, 0), (9, 60, 79, 0), (9, 64, 64, 3), (9, 67, 93, 3), (9, 68, 152, 2), (9, 73, 97, 0), (9, 74, 94, 0), (9, 77, 153, 2), (9, 80, 98, 0), (9, 81, 154, 2), (9, 84, 99, 0), (9, 85, 68, 0), (9, 88, 100, 0), (9, 89, 69, 0), (9, 93, 101, 0), (9, 94, 70, 0), (9, 97, 102, 0), (9, 98, 155, 2), (9, 101, 108, 0), (9, 102, 156, 2), (9, 104, 142, 0), (9, 105, 157, 2), (9, 108, 144, 0), (9, 109, 158, 2), (9, 111, 145, 0), (9, 112, 159, 2), (9, 114, 146, 0), (9, 115, 160, 2), (9, 118, 148, 0), (9, 119, 161, 2), (9, 122, 149, 0), (9, 123, 162, 2), (9, 126, 150, 0), (9, 127, 163, 2), (9, 130, 151, 0)]
def crL : List (Nat × Nat × Int32) := [(1, 85, -1000000), (8, 73, -1000000), (3, 133, -1000000), (7, 222, -100000)]
def clrL : List (Nat × Nat × Nat) := [(6, 7, 2), (6, 16, 0), (6, 25, 5), (6, 33, 1), (6, 40, 3), (6, 55, 4), (9, 8, 6), (9, 65, 7)]
def thL : List (Nat × Nat × Nat × Nat) := [(6, 69, 71, 0), (6, 94, 96, 1), (6, 120, 122, 2), (6, 141, 143, 3), (6, 181, 183, 4)]
end
section
theorem all_ap {α : Type} {p : α → Bool} {a b : List α} (h1 : a.all p = true) (h2 : b.all p = true) : (a ++ b).all p = true := by rw [List.all_append, h1, h2]; rfl
def oinL : List (Nat × Nat) := [(0, 3), (1, 3), (2, 3), (3, 3), (4, 3), (5, 3), (6, 1), (7, 1)]
def isLd : Instr → Option Nat
  | .iload_n k => some k.val
  | .iload k => some k
  | .aload_n k => some k.val
  | .aload k => some k
  | .lload_n k => some k.val
  | .lload k => some k
  | .dload_n k => some k.val
  | .dload k => some k
  | .istore_n k => some k.val
  | .istore k => some k
  | .astore_n k => some k.val
  | .astore k => some k
  | .lstore_n k => some k.val
  | .lstore k => some k
  | .dstore_n k => some k.val
  | .dstore k => some k
  | _ => none
def ik : Instr → Nat
  | .invokevirtual _ => 0
  | .invokestatic _ => 1
  | .invokespecial _ => 2
  | _ => 3
def ia : Instr → Nat
  | .invokevirtual a => a
  | .invokestatic a => a
  | .invokespecial a => a
  | _ => 0
def kOf (q : Nat) : Nat := if q = 0 then 0 else if q = 1 ∨ q = 2 ∨ q = 5 then 1 else 2
def vld1 (z pc : Nat) (e : En) : Bool := match e with
  | (.iconst n, _, _, _, _, x) => Int32.ofInt n == x
  | (.bipush n, _, _, _, _, x) => (Int8.ofInt n).toInt32 == x
  | (.sipush n, _, _, _, _, x) => (Int16.ofInt n).toInt32 == x
  | (.ldc a, _, _, _, _, x) => crL.contains (oc z, a, x)
  | (.iinc a b, _, p, _, _, x) => a == p && Int32.ofInt b == x
  | (.ifCond _ o, _, p, _, _, _) => decide ((pc : Int) + o = (p : Int))
  | (.if_icmp _ o, _, p, _, _, _) => decide ((pc : Int) + o = (p : Int))
  | (.goto o, _, p, _, _, _) => decide ((pc : Int) + o = (p : Int))
  | (.getfield a, _, p, q, _, _) => frL.contains (oc z, a, p, q) && decide (q < nf p)
  | (.putfield a, _, p, q, _, _) => frL.contains (oc z, a, p, q) && decide (q < nf p)
  | (.new a, _, p, q, _, _) => if q = 0 then clrL.contains (oc z, a, p) else q == 1 && thL.any (fun t => t.1 == oc z && t.2.1 == a && t.2.2.2 == p && decide (decode (cc z) (pc + 4) = .ok (.invokespecial t.2.2.1, 3))) && decide (decode (cc z) (pc + 3) = .ok (.dup, 1)) && decide (decode (cc z) (pc + 7) = .ok (.athrow, 1)) && decide (6 ≤ rf z) && decide (89 ≤ rl z)
  | (.newarray t, _, p, _, _, _) => p == (match t with | .int => 20 | .boolean => 21 | .long => 24 | .double => 25 | _ => 0)
  | (.anewarray a, _, p, _, _, _) => clrL.contains (oc z, a, if p = 22 then 0 else 5)
  | (i, _, p, q, r, _) => match isLd i with
    | some k => k == p
    | none => if ik i = 3 then true else if q = 9 then ik i == 2 && oinL.contains (oc z, ia i) && decide (1 ≤ rf z) && decide (20 ≤ rl z) else if q = 8 then true else mrL.contains (oc z, ia i, p, q) && decide (q < 6) && decide (p < 166) && ik i == kOf q && r == ag p + (if kOf q = 1 then 0 else 1) && decide (rf p + 1 ≤ rf z) && decide (8 + (mL p + 11) + rl p ≤ rl z)
def vld (z pc : Nat) (e : En) : Bool := decide (decode (cc z) pc = .ok (e.1, e.2.1 - pc)) && decide (pc < e.2.1) && vld1 z pc e
set_option maxRecDepth 100000 in
theorem vk_0 : (tb 0).all (fun q => vld 0 q.1 q.2) = true := by decide +kernel
set_option maxRecDepth 100000 in
theorem vk_1 : (tb 1).all (fun q => vld 1 q.1 q.2) = true := by decide +kernel
set_option maxRecDepth 100000 in
theorem vk_2 : (tb 2).all (fun q => vld 2 q.1 q.2) = true := by decide +kernel
set_option maxRecDepth 100000 in
theorem vk_3 : (tb 3).all (fun q => vld 3 q.1 q.2) = true := by decide +kernel
set_option maxRecDepth 100000 in
theorem vk_4 : (tb 4).all (fun q => vld 4 q.1 q.2) = true := by decide +kernel
set_option maxRecDepth 100000 in
theorem vk_5 : (tb 5).all (fun q => vld 5 q.1 q.2) = true := by decide +kernel
set_option maxRecDepth 100000 in
theorem vk_6 : (tb 6).all (fun q => vld 6 q.1 q.2) = true := by decide +kernel
set_option maxRecDepth 100000 in
theorem vk_7 : (tb 7).all (fun q => vld 7 q.1 q.2) = true := by decide +kernel
set_option maxRecDepth 100000 in
theorem vk_8 : (tb 8).all (fun q => vld 8 q.1 q.2) = true := by decide +kernel
set_option maxRecDepth 100000 in
theorem vk_9 : (tb 9).all (fun q => vld 9 q.1 q.2) = true := by decide +kernel
set_option maxRecDepth 100000 in
theorem vk_10 : (tb 10).all (fun q => vld 10 q.1 q.2) = true := by decide +kernel
set_option maxRecDepth 100000 in
theorem vk_11_0 : tb_11_0.all (fun q => vld 11 q.1 q.2) = true := by decide +kernel
set_option maxRecDepth 100000 in
theorem vk_11_1 : tb_11_1.all (fun q => vld 11 q.1 q.2) = true := by decide +kernel
theorem vk_11 : (tb 11).all (fun q => vld 11 q.1 q.2) = true := (all_ap vk_11_0 vk_11_1 : tb_11.all (fun q => vld 11 q.1 q.2) = true)
set_option maxRecDepth 100000 in
theorem vk_12 : (tb 12).all (fun q => vld 12 q.1 q.2) = true := by decide +kernel
set_option maxRecDepth 100000 in
theorem vk_13 : (tb 13).all (fun q => vld 13 q.1 q.2) = true := by decide +kernel
set_option maxRecDepth 100000 in
theorem vk_14 : (tb 14).all (fun q => vld 14 q.1 q.2) = true := by decide +kernel
set_option maxRecDepth 100000 in
theorem vk_15 : (tb 15).all (fun q => vld 15 q.1 q.2) = true := by decide +kernel
set_option maxRecDepth 100000 in
theorem vk_16 : (tb 16).all (fun q => vld 16 q.1 q.2) = true := by decide +kernel
set_option maxRecDepth 100000 in
theorem vk_17 : (tb 17).all (fun q => vld 17 q.1 q.2) = true := by decide +kernel
set_option maxRecDepth 100000 in
theorem vk_18_0 : tb_18_0.all (fun q => vld 18 q.1 q.2) = true := by decide +kernel
set_option maxRecDepth 100000 in
theorem vk_18_1 : tb_18_1.all (fun q => vld 18 q.1 q.2) = true := by decide +kernel
set_option maxRecDepth 100000 in
theorem vk_18_2 : tb_18_2.all (fun q => vld 18 q.1 q.2) = true := by decide +kernel
theorem vk_18 : (tb 18).all (fun q => vld 18 q.1 q.2) = true := (all_ap vk_18_0 (all_ap vk_18_1 vk_18_2) : tb_18.all (fun q => vld 18 q.1 q.2) = true)
set_option maxRecDepth 100000 in
theorem vk_19_0 : tb_19_0.all (fun q => vld 19 q.1 q.2) = true := by decide +kernel
set_option maxRecDepth 100000 in
theorem vk_19_1 : tb_19_1.all (fun q => vld 19 q.1 q.2) = true := by decide +kernel
theorem vk_19 : (tb 19).all (fun q => vld 19 q.1 q.2) = true := (all_ap vk_19_0 vk_19_1 : tb_19.all (fun q => vld 19 q.1 q.2) = true)
set_option maxRecDepth 100000 in
theorem vk_20 : (tb 20).all (fun q => vld 20 q.1 q.2) = true := by decide +kernel
set_option maxRecDepth 100000 in
theorem vk_21 : (tb 21).all (fun q => vld 21 q.1 q.2) = true := by decide +kernel
set_option maxRecDepth 100000 in
theorem vk_22_0 : tb_22_0.all (fun q => vld 22 q.1 q.2) = true := by decide +kernel
set_option maxRecDepth 100000 in
theorem vk_22_1 : tb_22_1.all (fun q => vld 22 q.1 q.2) = true := by decide +kernel
theorem vk_22 : (tb 22).all (fun q => vld 22 q.1 q.2) = true := (all_ap vk_22_0 vk_22_1 : tb_22.all (fun q => vld 22 q.1 q.2) = true)
set_option maxRecDepth 100000 in
theorem vk_23_0 : tb_23_0.all (fun q => vld 23 q.1 q.2) = true := by decide +kernel
set_option maxRecDepth 100000 in
theorem vk_23_1 : tb_23_1.all (fun q => vld 23 q.1 q.2) = true := by decide +kernel
theorem vk_23 : (tb 23).all (fun q => vld 23 q.1 q.2) = true := (all_ap vk_23_0 vk_23_1 : tb_23.all (fun q => vld 23 q.1 q.2) = true)
set_option maxRecDepth 100000 in
theorem vk_24_0 : tb_24_0.all (fun q => vld 24 q.1 q.2) = true := by decide +kernel
set_option maxRecDepth 100000 in
theorem vk_24_1 : tb_24_1.all (fun q => vld 24 q.1 q.2) = true := by decide +kernel
theorem vk_24 : (tb 24).all (fun q => vld 24 q.1 q.2) = true := (all_ap vk_24_0 vk_24_1 : tb_24.all (fun q => vld 24 q.1 q.2) = true)
set_option maxRecDepth 100000 in
theorem vk_25 : (tb 25).all (fun q => vld 25 q.1 q.2) = true := by decide +kernel
set_option maxRecDepth 100000 in
theorem vk_26 : (tb 26).all (fun q => vld 26 q.1 q.2) = true := by decide +kernel
set_option maxRecDepth 100000 in
theorem vk_27 : (tb 27).all (fun q => vld 27 q.1 q.2) = true := by decide +kernel
set_option maxRecDepth 100000 in
theorem vk_28 : (tb 28).all (fun q => vld 28 q.1 q.2) = true := by decide +kernel
set_option maxRecDepth 100000 in
theorem vk_29 : (tb 29).all (fun q => vld 29 q.1 q.2) = true := by decide +kernel
set_option maxRecDepth 100000 in
theorem vk_30_0 : tb_30_0.all (fun q => vld 30 q.1 q.2) = true := by decide +kernel
set_option maxRecDepth 100000 in
theorem vk_30_1 : tb_30_1.all (fun q => vld 30 q.1 q.2) = true := by decide +kernel
theorem vk_30 : (tb 30).all (fun q => vld 30 q.1 q.2) = true := (all_ap vk_30_0 vk_30_1 : tb_30.all (fun q => vld 30 q.1 q.2) = true)
set_option maxRecDepth 100000 in
theorem vk_31_0 : tb_31_0.all (fun q => vld 31 q.1 q.2) = true := by decide +kernel
set_option maxRecDepth 100000 in
theorem vk_31_1 : tb_31_1.all (fun q => vld 31 q.1 q.2) = true := by decide +kernel
theorem vk_31 : (tb 31).all (fun q => vld 31 q.1 q.2) = true := (all_ap vk_31_0 vk_31_1 : tb_31.all (fun q => vld 31 q.1 q.2) = true)
set_option maxRecDepth 100000 in
theorem vk_32_0 : tb_32_0.all (fun q => vld 32 q.1 q.2) = true := by decide +kernel
set_option maxRecDepth 100000 in
theorem vk_32_1 : tb_32_1.all (fun q => vld 32 q.1 q.2) = true := by decide +kernel
theorem vk_32 : (tb 32).all (fun q => vld 32 q.1 q.2) = true := (all_ap vk_32_0 vk_32_1 : tb_32.all (fun q => vld 32 q.1 q.2) = true)
set_option maxRecDepth 100000 in
theorem vk_33 : (tb 33).all (fun q => vld 33 q.1 q.2) = true := by decide +kernel
set_option maxRecDepth 100000 in
theorem vk_34 : (tb 34).all (fun q => vld 34 q.1 q.2) = true := by decide +kernel
set_option maxRecDepth 100000 in
theorem vk_35 : (tb 35).all (fun q => vld 35 q.1 q.2) = true := by decide +kernel
set_option maxRecDepth 100000 in
theorem vk_36 : (tb 36).all (fun q => vld 36 q.1 q.2) = true := by decide +kernel
set_option maxRecDepth 100000 in
theorem vk_37 : (tb 37).all (fun q => vld 37 q.1 q.2) = true := by decide +kernel
set_option maxRecDepth 100000 in
theorem vk_38 : (tb 38).all (fun q => vld 38 q.1 q.2) = true := by decide +kernel
set_option maxRecDepth 100000 in
theorem vk_39 : (tb 39).all (fun q => vld 39 q.1 q.2) = true := by decide +kernel
set_option maxRecDepth 100000 in
theorem vk_40 : (tb 40).all (fun q => vld 40 q.1 q.2) = true := by decide +kernel
set_option maxRecDepth 100000 in
theorem vk_41 : (tb 41).all (fun q => vld 41 q.1 q.2) = true := by decide +kernel
set_option maxRecDepth 100000 in
theorem vk_42_0 : tb_42_0.all (fun q => vld 42 q.1 q.2) = true := by decide +kernel
set_option maxRecDepth 100000 in
theorem vk_42_1 : tb_42_1.all (fun q => vld 42 q.1 q.2) = true := by decide +kernel
theorem vk_42 : (tb 42).all (fun q => vld 42 q.1 q.2) = true := (all_ap vk_42_0 vk_42_1 : tb_42.all (fun q => vld 42 q.1 q.2) = true)
set_option maxRecDepth 100000 in
theorem vk_43_0 : tb_43_0.all (fun q => vld 43 q.1 q.2) = true := by decide +kernel
set_option maxRecDepth 100000 in
theorem vk_43_1 : tb_43_1.all (fun q => vld 43 q.1 q.2) = true := by decide +kernel
theorem vk_43 : (tb 43).all (fun q => vld 43 q.1 q.2) = true := (all_ap vk_43_0 vk_43_1 : tb_43.all (fun q => vld 43 q.1 q.2) = true)
set_option maxRecDepth 100000 in
theorem vk_44 : (tb 44).all (fun q => vld 44 q.1 q.2) = true := by decide +kernel
set_option maxRecDepth 100000 in
theorem vk_45_0 : tb_45_0.all (fun q => vld 45 q.1 q.2) = true := by decide +kernel
set_option maxRecDepth 100000 in
theorem vk_45_1 : tb_45_1.all (fun q => vld 45 q.1 q.2) = true := by decide +kernel
set_option maxRecDepth 100000 in
theorem vk_45_2 : tb_45_2.all (fun q => vld 45 q.1 q.2) = true := by decide +kernel
theorem vk_45 : (tb 45).all (fun q => vld 45 q.1 q.2) = true := (all_ap vk_45_0 (all_ap vk_45_1 vk_45_2) : tb_45.all (fun q => vld 45 q.1 q.2) = true)
set_option maxRecDepth 100000 in
theorem vk_46 : (tb 46).all (fun q => vld 46 q.1 q.2) = true := by decide +kernel
set_option maxRecDepth 100000 in
theorem vk_47 : (tb 47).all (fun q => vld 47 q.1 q.2) = true := by decide +kernel
set_option maxRecDepth 100000 in
theorem vk_48 : (tb 48).all (fun q => vld 48 q.1 q.2) = true := by decide +kernel
set_option maxRecDepth 100000 in
theorem vk_49 : (tb 49).all (fun q => vld 49 q.1 q.2) = true := by decide +kernel
set_option maxRecDepth 100000 in
theorem vk_50 : (tb 50).all (fun q => vld 50 q.1 q.2) = true := by decide +kernel
set_option maxRecDepth 100000 in
theorem vk_51 : (tb 51).all (fun q => vld 51 q.1 q.2) = true := by decide +kernel
set_option maxRecDepth 100000 in
theorem vk_52_0 : tb_52_0.all (fun q => vld 52 q.1 q.2) = true := by decide +kernel
set_option maxRecDepth 100000 in
theorem vk_52_1 : tb_52_1.all (fun q => vld 52 q.1 q.2) = true := by decide +kernel
theorem vk_52 : (tb 52).all (fun q => vld 52 q.1 q.2) = true := (all_ap vk_52_0 vk_52_1 : tb_52.all (fun q => vld 52 q.1 q.2) = true)
set_option maxRecDepth 100000 in
theorem vk_53 : (tb 53).all (fun q => vld 53 q.1 q.2) = true := by decide +kernel
set_option maxRecDepth 100000 in
theorem vk_54 : (tb 54).all (fun q => vld 54 q.1 q.2) = true := by decide +kernel
set_option maxRecDepth 100000 in
theorem vk_55 : (tb 55).all (fun q => vld 55 q.1 q.2) = true := by decide +kernel
set_option maxRecDepth 100000 in
theorem vk_56 : (tb 56).all (fun q => vld 56 q.1 q.2) = true := by decide +kernel
set_option maxRecDepth 100000 in
theorem vk_57 : (tb 57).all (fun q => vld 57 q.1 q.2) = true := by decide +kernel
set_option maxRecDepth 100000 in
theorem vk_58 : (tb 58).all (fun q => vld 58 q.1 q.2) = true := by decide +kernel
set_option maxRecDepth 100000 in
theorem vk_59 : (tb 59).all (fun q => vld 59 q.1 q.2) = true := by decide +kernel
set_option maxRecDepth 100000 in
theorem vk_60 : (tb 60).all (fun q => vld 60 q.1 q.2) = true := by decide +kernel
set_option maxRecDepth 100000 in
theorem vk_61_0 : tb_61_0.all (fun q => vld 61 q.1 q.2) = true := by decide +kernel
set_option maxRecDepth 100000 in
theorem vk_61_1 : tb_61_1.all (fun q => vld 61 q.1 q.2) = true := by decide +kernel
theorem vk_61 : (tb 61).all (fun q => vld 61 q.1 q.2) = true := (all_ap vk_61_0 vk_61_1 : tb_61.all (fun q => vld 61 q.1 q.2) = true)
set_option maxRecDepth 100000 in
theorem vk_62 : (tb 62).all (fun q => vld 62 q.1 q.2) = true := by decide +kernel
set_option maxRecDepth 100000 in
theorem vk_63 : (tb 63).all (fun q => vld 63 q.1 q.2) = true := by decide +kernel
set_option maxRecDepth 100000 in
theorem vk_64_0 : tb_64_0.all (fun q => vld 64 q.1 q.2) = true := by decide +kernel
set_option maxRecDepth 100000 in
theorem vk_64_1 : tb_64_1.all (fun q => vld 64 q.1 q.2) = true := by decide +kernel
theorem vk_64 : (tb 64).all (fun q => vld 64 q.1 q.2) = true := (all_ap vk_64_0 vk_64_1 : tb_64.all (fun q => vld 64 q.1 q.2) = true)
set_option maxRecDepth 100000 in
theorem vk_65_0 : tb_65_0.all (fun q => vld 65 q.1 q.2) = true := by decide +kernel
set_option maxRecDepth 100000 in
theorem vk_65_1 : tb_65_1.all (fun q => vld 65 q.1 q.2) = true := by decide +kernel
theorem vk_65 : (tb 65).all (fun q => vld 65 q.1 q.2) = true := (all_ap vk_65_0 vk_65_1 : tb_65.all (fun q => vld 65 q.1 q.2) = true)
set_option maxRecDepth 100000 in
theorem vk_66_0 : tb_66_0.all (fun q => vld 66 q.1 q.2) = true := by decide +kernel
set_option maxRecDepth 100000 in
theorem vk_66_1 : tb_66_1.all (fun q => vld 66 q.1 q.2) = true := by decide +kernel
theorem vk_66 : (tb 66).all (fun q => vld 66 q.1 q.2) = true := (all_ap vk_66_0 vk_66_1 : tb_66.all (fun q => vld 66 q.1 q.2) = true)
set_option maxRecDepth 100000 in
theorem vk_67_0 : tb_67_0.all (fun q => vld 67 q.1 q.2) = true := by decide +kernel
set_option maxRecDepth 100000 in
theorem vk_67_1 : tb_67_1.all (fun q => vld 67 q.1 q.2) = true := by decide +kernel
theorem vk_67 : (tb 67).all (fun q => vld 67 q.1 q.2) = true := (all_ap vk_67_0 vk_67_1 : tb_67.all (fun q => vld 67 q.1 q.2) = true)
set_option maxRecDepth 100000 in
theorem vk_68 : (tb 68).all (fun q => vld 68 q.1 q.2) = true := by decide +kernel
set_option maxRecDepth 100000 in
theorem vk_69 : (tb 69).all (fun q => vld 69 q.1 q.2) = true := by decide +kernel
set_option maxRecDepth 100000 in
theorem vk_70 : (tb 70).all (fun q => vld 70 q.1 q.2) = true := by decide +kernel
set_option maxRecDepth 100000 in
theorem vk_71 : (tb 71).all (fun q => vld 71 q.1 q.2) = true := by decide +kernel
set_option maxRecDepth 100000 in
theorem vk_72 : (tb 72).all (fun q => vld 72 q.1 q.2) = true := by decide +kernel
set_option maxRecDepth 100000 in
theorem vk_73 : (tb 73).all (fun q => vld 73 q.1 q.2) = true := by decide +kernel
set_option maxRecDepth 100000 in
theorem vk_74 : (tb 74).all (fun q => vld 74 q.1 q.2) = true := by decide +kernel
set_option maxRecDepth 100000 in
theorem vk_75 : (tb 75).all (fun q => vld 75 q.1 q.2) = true := by decide +kernel
set_option maxRecDepth 100000 in
theorem vk_76_0 : tb_76_0.all (fun q => vld 76 q.1 q.2) = true := by decide +kernel
set_option maxRecDepth 100000 in
theorem vk_76_1 : tb_76_1.all (fun q => vld 76 q.1 q.2) = true := by decide +kernel
theorem vk_76 : (tb 76).all (fun q => vld 76 q.1 q.2) = true := (all_ap vk_76_0 vk_76_1 : tb_76.all (fun q => vld 76 q.1 q.2) = true)
set_option maxRecDepth 100000 in
theorem vk_77_0 : tb_77_0.all (fun q => vld 77 q.1 q.2) = true := by decide +kernel
set_option maxRecDepth 100000 in
theorem vk_77_1 : tb_77_1.all (fun q => vld 77 q.1 q.2) = true := by decide +kernel
theorem vk_77 : (tb 77).all (fun q => vld 77 q.1 q.2) = true := (all_ap vk_77_0 vk_77_1 : tb_77.all (fun q => vld 77 q.1 q.2) = true)
set_option maxRecDepth 100000 in
theorem vk_78 : (tb 78).all (fun q => vld 78 q.1 q.2) = true := by decide +kernel
set_option maxRecDepth 100000 in
theorem vk_79 : (tb 79).all (fun q => vld 79 q.1 q.2) = true := by decide +kernel
set_option maxRecDepth 100000 in
theorem vk_80 : (tb 80).all (fun q => vld 80 q.1 q.2) = true := by decide +kernel
set_option maxRecDepth 100000 in
theorem vk_81 : (tb 81).all (fun q => vld 81 q.1 q.2) = true := by decide +kernel
set_option maxRecDepth 100000 in
theorem vk_82 : (tb 82).all (fun q => vld 82 q.1 q.2) = true := by decide +kernel
set_option maxRecDepth 100000 in
theorem vk_83 : (tb 83).all (fun q => vld 83 q.1 q.2) = true := by decide +kernel
set_option maxRecDepth 100000 in
theorem vk_84 : (tb 84).all (fun q => vld 84 q.1 q.2) = true := by decide +kernel
set_option maxRecDepth 100000 in
theorem vk_85 : (tb 85).all (fun q => vld 85 q.1 q.2) = true := by decide +kernel
set_option maxRecDepth 100000 in
theorem vk_86 : (tb 86).all (fun q => vld 86 q.1 q.2) = true := by decide +kernel
set_option maxRecDepth 100000 in
theorem vk_87 : (tb 87).all (fun q => vld 87 q.1 q.2) = true := by decide +kernel
set_option maxRecDepth 100000 in
theorem vk_88_0 : tb_88_0.all (fun q => vld 88 q.1 q.2) = true := by decide +kernel
set_option maxRecDepth 100000 in
theorem vk_88_1 : tb_88_1.all (fun q => vld 88 q.1 q.2) = true := by decide +kernel
set_option maxRecDepth 100000 in
theorem vk_88_2 : tb_88_2.all (fun q => vld 88 q.1 q.2) = true := by decide +kernel
theorem vk_88 : (tb 88).all (fun q => vld 88 q.1 q.2) = true := (all_ap vk_88_0 (all_ap vk_88_1 vk_88_2) : tb_88.all (fun q => vld 88 q.1 q.2) = true)
set_option maxRecDepth 100000 in
theorem vk_89 : (tb 89).all (fun q => vld 89 q.1 q.2) = true := by decide +kernel
set_option maxRecDepth 100000 in
theorem vk_90_0 : tb_90_0.all (fun q => vld 90 q.1 q.2) = true := by decide +kernel
set_option maxRecDepth 100000 in
theorem vk_90_1 : tb_90_1.all (fun q => vld 90 q.1 q.2) = true := by decide +kernel
theorem vk_90 : (tb 90).all (fun q => vld 90 q.1 q.2) = true := (all_ap vk_90_0 vk_90_1 : tb_90.all (fun q => vld 90 q.1 q.2) = true)
set_option maxRecDepth 100000 in
theorem vk_91_0 : tb_91_0.all (fun q => vld 91 q.1 q.2) = true := by decide +kernel
set_option maxRecDepth 100000 in
theorem vk_91_1 : tb_91_1.all (fun q => vld 91 q.1 q.2) = true := by decide +kernel
theorem vk_91 : (tb 91).all (fun q => vld 91 q.1 q.2) = true := (all_ap vk_91_0 vk_91_1 : tb_91.all (fun q => vld 91 q.1 q.2) = true)
set_option maxRecDepth 100000 in
theorem vk_92 : (tb 92).all (fun q => vld 92 q.1 q.2) = true := by decide +kernel
set_option maxRecDepth 100000 in
theorem vk_93_0 : tb_93_0.all (fun q => vld 93 q.1 q.2) = true := by decide +kernel
set_option maxRecDepth 100000 in
theorem vk_93_1 : tb_93_1.all (fun q => vld 93 q.1 q.2) = true := by decide +kernel
set_option maxRecDepth 100000 in
theorem vk_93_2 : tb_93_2.all (fun q => vld 93 q.1 q.2) = true := by decide +kernel
set_option maxRecDepth 100000 in
theorem vk_93_3 : tb_93_3.all (fun q => vld 93 q.1 q.2) = true := by decide +kernel
theorem vk_93 : (tb 93).all (fun q => vld 93 q.1 q.2) = true := (all_ap vk_93_0 (all_ap vk_93_1 (all_ap vk_93_2 vk_93_3)) : tb_93.all (fun q => vld 93 q.1 q.2) = true)
set_option maxRecDepth 100000 in
theorem vk_94 : (tb 94).all (fun q => vld 94 q.1 q.2) = true := by decide +kernel
set_option maxRecDepth 100000 in
theorem vk_95 : (tb 95).all (fun q => vld 95 q.1 q.2) = true := by decide +kernel
set_option maxRecDepth 100000 in
theorem vk_96 : (tb 96).all (fun q => vld 96 q.1 q.2) = true := by decide +kernel
set_option maxRecDepth 100000 in
theorem vk_97_0 : tb_97_0.all (fun q => vld 97 q.1 q.2) = true := by decide +kernel
set_option maxRecDepth 100000 in
theorem vk_97_1 : tb_97_1.all (fun q => vld 97 q.1 q.2) = true := by decide +kernel
theorem vk_97 : (tb 97).all (fun q => vld 97 q.1 q.2) = true := (all_ap vk_97_0 vk_97_1 : tb_97.all (fun q => vld 97 q.1 q.2) = true)
set_option maxRecDepth 100000 in
theorem vk_98_0 : tb_98_0.all (fun q => vld 98 q.1 q.2) = true := by decide +kernel
set_option maxRecDepth 100000 in
theorem vk_98_1 : tb_98_1.all (fun q => vld 98 q.1 q.2) = true := by decide +kernel
theorem vk_98 : (tb 98).all (fun q => vld 98 q.1 q.2) = true := (all_ap vk_98_0 vk_98_1 : tb_98.all (fun q => vld 98 q.1 q.2) = true)
set_option maxRecDepth 100000 in
theorem vk_99_0 : tb_99_0.all (fun q => vld 99 q.1 q.2) = true := by decide +kernel
set_option maxRecDepth 100000 in
theorem vk_99_1 : tb_99_1.all (fun q => vld 99 q.1 q.2) = true := by decide +kernel
set_option maxRecDepth 100000 in
theorem vk_99_2 : tb_99_2.all (fun q => vld 99 q.1 q.2) = true := by decide +kernel
theorem vk_99 : (tb 99).all (fun q => vld 99 q.1 q.2) = true := (all_ap vk_99_0 (all_ap vk_99_1 vk_99_2) : tb_99.all (fun q => vld 99 q.1 q.2) = true)
set_option maxRecDepth 100000 in
theorem vk_100 : (tb 100).all (fun q => vld 100 q.1 q.2) = true := by decide +kernel
set_option maxRecDepth 100000 in
theorem vk_101 : (tb 101).all (fun q => vld 101 q.1 q.2) = true := by decide +kernel
set_option maxRecDepth 100000 in
theorem vk_102 : (tb 102).all (fun q => vld 102 q.1 q.2) = true := by decide +kernel
set_option maxRecDepth 100000 in
theorem vk_103 : (tb 103).all (fun q => vld 103 q.1 q.2) = true := by decide +kernel
set_option maxRecDepth 100000 in
theorem vk_104 : (tb 104).all (fun q => vld 104 q.1 q.2) = true := by decide +kernel
set_option maxRecDepth 100000 in
theorem vk_105 : (tb 105).all (fun q => vld 105 q.1 q.2) = true := by decide +kernel
set_option maxRecDepth 100000 in
theorem vk_106 : (tb 106).all (fun q => vld 106 q.1 q.2) = true := by decide +kernel
set_option maxRecDepth 100000 in
theorem vk_107_0 : tb_107_0.all (fun q => vld 107 q.1 q.2) = true := by decide +kernel
set_option maxRecDepth 100000 in
theorem vk_107_1 : tb_107_1.all (fun q => vld 107 q.1 q.2) = true := by decide +kernel
theorem vk_107 : (tb 107).all (fun q => vld 107 q.1 q.2) = true := (all_ap vk_107_0 vk_107_1 : tb_107.all (fun q => vld 107 q.1 q.2) = true)
set_option maxRecDepth 100000 in
theorem vk_108_0 : tb_108_0.all (fun q => vld 108 q.1 q.2) = true := by decide +kernel
set_option maxRecDepth 100000 in
theorem vk_108_1 : tb_108_1.all (fun q => vld 108 q.1 q.2) = true := by decide +kernel
theorem vk_108 : (tb 108).all (fun q => vld 108 q.1 q.2) = true := (all_ap vk_108_0 vk_108_1 : tb_108.all (fun q => vld 108 q.1 q.2) = true)
set_option maxRecDepth 100000 in
theorem vk_109_0 : tb_109_0.all (fun q => vld 109 q.1 q.2) = true := by decide +kernel
set_option maxRecDepth 100000 in
theorem vk_109_1 : tb_109_1.all (fun q => vld 109 q.1 q.2) = true := by decide +kernel
set_option maxRecDepth 100000 in
theorem vk_109_2 : tb_109_2.all (fun q => vld 109 q.1 q.2) = true := by decide +kernel
theorem vk_109 : (tb 109).all (fun q => vld 109 q.1 q.2) = true := (all_ap vk_109_0 (all_ap vk_109_1 vk_109_2) : tb_109.all (fun q => vld 109 q.1 q.2) = true)
set_option maxRecDepth 100000 in
theorem vk_110 : (tb 110).all (fun q => vld 110 q.1 q.2) = true := by decide +kernel
set_option maxRecDepth 100000 in
theorem vk_111_0 : tb_111_0.all (fun q => vld 111 q.1 q.2) = true := by decide +kernel
set_option maxRecDepth 100000 in
theorem vk_111_1 : tb_111_1.all (fun q => vld 111 q.1 q.2) = true := by decide +kernel
set_option maxRecDepth 100000 in
theorem vk_111_2 : tb_111_2.all (fun q => vld 111 q.1 q.2) = true := by decide +kernel
theorem vk_111 : (tb 111).all (fun q => vld 111 q.1 q.2) = true := (all_ap vk_111_0 (all_ap vk_111_1 vk_111_2) : tb_111.all (fun q => vld 111 q.1 q.2) = true)
set_option maxRecDepth 100000 in
theorem vk_112_0 : tb_112_0.all (fun q => vld 112 q.1 q.2) = true := by decide +kernel
set_option maxRecDepth 100000 in
theorem vk_112_1 : tb_112_1.all (fun q => vld 112 q.1 q.2) = true := by decide +kernel
set_option maxRecDepth 100000 in
theorem vk_112_2 : tb_112_2.all (fun q => vld 112 q.1 q.2) = true := by decide +kernel
set_option maxRecDepth 100000 in
theorem vk_112_3 : tb_112_3.all (fun q => vld 112 q.1 q.2) = true := by decide +kernel
theorem vk_112 : (tb 112).all (fun q => vld 112 q.1 q.2) = true := (all_ap vk_112_0 (all_ap vk_112_1 (all_ap vk_112_2 vk_112_3)) : tb_112.all (fun q => vld 112 q.1 q.2) = true)
set_option maxRecDepth 100000 in
theorem vk_113 : (tb 113).all (fun q => vld 113 q.1 q.2) = true := by decide +kernel
set_option maxRecDepth 100000 in
theorem vk_114 : (tb 114).all (fun q => vld 114 q.1 q.2) = true := by decide +kernel
set_option maxRecDepth 100000 in
theorem vk_115 : (tb 115).all (fun q => vld 115 q.1 q.2) = true := by decide +kernel
set_option maxRecDepth 100000 in
theorem vk_116 : (tb 116).all (fun q => vld 116 q.1 q.2) = true := by decide +kernel
set_option maxRecDepth 100000 in
theorem vk_117 : (tb 117).all (fun q => vld 117 q.1 q.2) = true := by decide +kernel
set_option maxRecDepth 100000 in
theorem vk_118_0 : tb_118_0.all (fun q => vld 118 q.1 q.2) = true := by decide +kernel
set_option maxRecDepth 100000 in
theorem vk_118_1 : tb_118_1.all (fun q => vld 118 q.1 q.2) = true := by decide +kernel
theorem vk_118 : (tb 118).all (fun q => vld 118 q.1 q.2) = true := (all_ap vk_118_0 vk_118_1 : tb_118.all (fun q => vld 118 q.1 q.2) = true)
set_option maxRecDepth 100000 in
theorem vk_119 : (tb 119).all (fun q => vld 119 q.1 q.2) = true := by decide +kernel
set_option maxRecDepth 100000 in
theorem vk_120_0 : tb_120_0.all (fun q => vld 120 q.1 q.2) = true := by decide +kernel
set_option maxRecDepth 100000 in
theorem vk_120_1 : tb_120_1.all (fun q => vld 120 q.1 q.2) = true := by decide +kernel
theorem vk_120 : (tb 120).all (fun q => vld 120 q.1 q.2) = true := (all_ap vk_120_0 vk_120_1 : tb_120.all (fun q => vld 120 q.1 q.2) = true)
set_option maxRecDepth 100000 in
theorem vk_121 : (tb 121).all (fun q => vld 121 q.1 q.2) = true := by decide +kernel
set_option maxRecDepth 100000 in
theorem vk_122_0 : tb_122_0.all (fun q => vld 122 q.1 q.2) = true := by decide +kernel
set_option maxRecDepth 100000 in
theorem vk_122_1 : tb_122_1.all (fun q => vld 122 q.1 q.2) = true := by decide +kernel
theorem vk_122 : (tb 122).all (fun q => vld 122 q.1 q.2) = true := (all_ap vk_122_0 vk_122_1 : tb_122.all (fun q => vld 122 q.1 q.2) = true)
set_option maxRecDepth 100000 in
theorem vk_123 : (tb 123).all (fun q => vld 123 q.1 q.2) = true := by decide +kernel
set_option maxRecDepth 100000 in
theorem vk_124 : (tb 124).all (fun q => vld 124 q.1 q.2) = true := by decide +kernel
set_option maxRecDepth 100000 in
theorem vk_125_0 : tb_125_0.all (fun q => vld 125 q.1 q.2) = true := by decide +kernel
set_option maxRecDepth 100000 in
theorem vk_125_1 : tb_125_1.all (fun q => vld 125 q.1 q.2) = true := by decide +kernel
set_option maxRecDepth 100000 in
theorem vk_125_2 : tb_125_2.all (fun q => vld 125 q.1 q.2) = true := by decide +kernel
theorem vk_125 : (tb 125).all (fun q => vld 125 q.1 q.2) = true := (all_ap vk_125_0 (all_ap vk_125_1 vk_125_2) : tb_125.all (fun q => vld 125 q.1 q.2) = true)
set_option maxRecDepth 100000 in
theorem vk_126_0 : tb_126_0.all (fun q => vld 126 q.1 q.2) = true := by decide +kernel
set_option maxRecDepth 100000 in
theorem vk_126_1 : tb_126_1.all (fun q => vld 126 q.1 q.2) = true := by decide +kernel
set_option maxRecDepth 100000 in
theorem vk_126_2 : tb_126_2.all (fun q => vld 126 q.1 q.2) = true := by decide +kernel
theorem vk_126 : (tb 126).all (fun q => vld 126 q.1 q.2) = true := (all_ap vk_126_0 (all_ap vk_126_1 vk_126_2) : tb_126.all (fun q => vld 126 q.1 q.2) = true)
set_option maxRecDepth 100000 in
theorem vk_127_0 : tb_127_0.all (fun q => vld 127 q.1 q.2) = true := by decide +kernel
set_option maxRecDepth 100000 in
theorem vk_127_1 : tb_127_1.all (fun q => vld 127 q.1 q.2) = true := by decide +kernel
theorem vk_127 : (tb 127).all (fun q => vld 127 q.1 q.2) = true := (all_ap vk_127_0 vk_127_1 : tb_127.all (fun q => vld 127 q.1 q.2) = true)
set_option maxRecDepth 100000 in
theorem vk_128 : (tb 128).all (fun q => vld 128 q.1 q.2) = true := by decide +kernel
set_option maxRecDepth 100000 in
theorem vk_129_0 : tb_129_0.all (fun q => vld 129 q.1 q.2) = true := by decide +kernel
set_option maxRecDepth 100000 in
theorem vk_129_1 : tb_129_1.all (fun q => vld 129 q.1 q.2) = true := by decide +kernel
set_option maxRecDepth 100000 in
theorem vk_129_2 : tb_129_2.all (fun q => vld 129 q.1 q.2) = true := by decide +kernel
theorem vk_129 : (tb 129).all (fun q => vld 129 q.1 q.2) = true := (all_ap vk_129_0 (all_ap vk_129_1 vk_129_2) : tb_129.all (fun q => vld 129 q.1 q.2) = true)
set_option maxRecDepth 100000 in
theorem vk_130 : (tb 130).all (fun q => vld 130 q.1 q.2) = true := by decide +kernel
set_option maxRecDepth 100000 in
theorem vk_131_0 : tb_131_0.all (fun q => vld 131 q.1 q.2) = true := by decide +kernel
set_option maxRecDepth 100000 in
theorem vk_131_1 : tb_131_1.all (fun q => vld 131 q.1 q.2) = true := by decide +kernel
set_option maxRecDepth 100000 in
theorem vk_131_2 : tb_131_2.all (fun q => vld 131 q.1 q.2) = true := by decide +kernel
set_option maxRecDepth 100000 in
theorem vk_131_3 : tb_131_3.all (fun q => vld 131 q.1 q.2) = true := by decide +kernel
theorem vk_131 : (tb 131).all (fun q => vld 131 q.1 q.2) = true := (all_ap vk_131_0 (all_ap vk_131_1 (all_ap vk_131_2 vk_131_3)) : tb_131.all (fun q => vld 131 q.1 q.2) = true)
set_option maxRecDepth 100000 in
theorem vk_132_0 : tb_132_0.all (fun q => vld 132 q.1 q.2) = true := by decide +kernel
set_option maxRecDepth 100000 in
theorem vk_132_1 : tb_132_1.all (fun q => vld 132 q.1 q.2) = true := by decide +kernel
set_option maxRecDepth 100000 in
theorem vk_132_2 : tb_132_2.all (fun q => vld 132 q.1 q.2) = true := by decide +kernel
theorem vk_132 : (tb 132).all (fun q => vld 132 q.1 q.2) = true := (all_ap vk_132_0 (all_ap vk_132_1 vk_132_2) : tb_132.all (fun q => vld 132 q.1 q.2) = true)
set_option maxRecDepth 100000 in
theorem vk_133_0 : tb_133_0.all (fun q => vld 133 q.1 q.2) = true := by decide +kernel
set_option maxRecDepth 100000 in
theorem vk_133_1 : tb_133_1.all (fun q => vld 133 q.1 q.2) = true := by decide +kernel
set_option maxRecDepth 100000 in
theorem vk_133_2 : tb_133_2.all (fun q => vld 133 q.1 q.2) = true := by decide +kernel
theorem vk_133 : (tb 133).all (fun q => vld 133 q.1 q.2) = true := (all_ap vk_133_0 (all_ap vk_133_1 vk_133_2) : tb_133.all (fun q => vld 133 q.1 q.2) = true)
set_option maxRecDepth 100000 in
theorem vk_134 : (tb 134).all (fun q => vld 134 q.1 q.2) = true := by decide +kernel
set_option maxRecDepth 100000 in
theorem vk_135_0 : tb_135_0.all (fun q => vld 135 q.1 q.2) = true := by decide +kernel
set_option maxRecDepth 100000 in
theorem vk_135_1 : tb_135_1.all (fun q => vld 135 q.1 q.2) = true := by decide +kernel
theorem vk_135 : (tb 135).all (fun q => vld 135 q.1 q.2) = true := (all_ap vk_135_0 vk_135_1 : tb_135.all (fun q => vld 135 q.1 q.2) = true)
set_option maxRecDepth 100000 in
theorem vk_136_0 : tb_136_0.all (fun q => vld 136 q.1 q.2) = true := by decide +kernel
set_option maxRecDepth 100000 in
theorem vk_136_1 : tb_136_1.all (fun q => vld 136 q.1 q.2) = true := by decide +kernel
set_option maxRecDepth 100000 in
theorem vk_136_2 : tb_136_2.all (fun q => vld 136 q.1 q.2) = true := by decide +kernel
theorem vk_136 : (tb 136).all (fun q => vld 136 q.1 q.2) = true := (all_ap vk_136_0 (all_ap vk_136_1 vk_136_2) : tb_136.all (fun q => vld 136 q.1 q.2) = true)
set_option maxRecDepth 100000 in
theorem vk_137_0 : tb_137_0.all (fun q => vld 137 q.1 q.2) = true := by decide +kernel
set_option maxRecDepth 100000 in
theorem vk_137_1 : tb_137_1.all (fun q => vld 137 q.1 q.2) = true := by decide +kernel
set_option maxRecDepth 100000 in
theorem vk_137_2 : tb_137_2.all (fun q => vld 137 q.1 q.2) = true := by decide +kernel
theorem vk_137 : (tb 137).all (fun q => vld 137 q.1 q.2) = true := (all_ap vk_137_0 (all_ap vk_137_1 vk_137_2) : tb_137.all (fun q => vld 137 q.1 q.2) = true)
set_option maxRecDepth 100000 in
theorem vk_138 : (tb 138).all (fun q => vld 138 q.1 q.2) = true := by decide +kernel
set_option maxRecDepth 100000 in
theorem vk_139_0 : tb_139_0.all (fun q => vld 139 q.1 q.2) = true := by decide +kernel
set_option maxRecDepth 100000 in
theorem vk_139_1 : tb_139_1.all (fun q => vld 139 q.1 q.2) = true := by decide +kernel
set_option maxRecDepth 100000 in
theorem vk_139_2 : tb_139_2.all (fun q => vld 139 q.1 q.2) = true := by decide +kernel
set_option maxRecDepth 100000 in
theorem vk_139_3 : tb_139_3.all (fun q => vld 139 q.1 q.2) = true := by decide +kernel
theorem vk_139 : (tb 139).all (fun q => vld 139 q.1 q.2) = true := (all_ap vk_139_0 (all_ap vk_139_1 (all_ap vk_139_2 vk_139_3)) : tb_139.all (fun q => vld 139 q.1 q.2) = true)
set_option maxRecDepth 100000 in
theorem vk_140 : (tb 140).all (fun q => vld 140 q.1 q.2) = true := by decide +kernel
set_option maxRecDepth 100000 in
theorem vk_141_0 : tb_141_0.all (fun q => vld 141 q.1 q.2) = true := by decide +kernel
set_option maxRecDepth 100000 in
theorem vk_141_1 : tb_141_1.all (fun q => vld 141 q.1 q.2) = true := by decide +kernel
theorem vk_141 : (tb 141).all (fun q => vld 141 q.1 q.2) = true := (all_ap vk_141_0 vk_141_1 : tb_141.all (fun q => vld 141 q.1 q.2) = true)
set_option maxRecDepth 100000 in
theorem vk_142_0 : tb_142_0.all (fun q => vld 142 q.1 q.2) = true := by decide +kernel
set_option maxRecDepth 100000 in
theorem vk_142_1 : tb_142_1.all (fun q => vld 142 q.1 q.2) = true := by decide +kernel
set_option maxRecDepth 100000 in
theorem vk_142_2 : tb_142_2.all (fun q => vld 142 q.1 q.2) = true := by decide +kernel
set_option maxRecDepth 100000 in
theorem vk_142_3 : tb_142_3.all (fun q => vld 142 q.1 q.2) = true := by decide +kernel
set_option maxRecDepth 100000 in
theorem vk_142_4 : tb_142_4.all (fun q => vld 142 q.1 q.2) = true := by decide +kernel
theorem vk_142 : (tb 142).all (fun q => vld 142 q.1 q.2) = true := (all_ap vk_142_0 (all_ap vk_142_1 (all_ap vk_142_2 (all_ap vk_142_3 vk_142_4))) : tb_142.all (fun q => vld 142 q.1 q.2) = true)
set_option maxRecDepth 100000 in
theorem vk_143_0 : tb_143_0.all (fun q => vld 143 q.1 q.2) = true := by decide +kernel
set_option maxRecDepth 100000 in
theorem vk_143_1 : tb_143_1.all (fun q => vld 143 q.1 q.2) = true := by decide +kernel
theorem vk_143 : (tb 143).all (fun q => vld 143 q.1 q.2) = true := (all_ap vk_143_0 vk_143_1 : tb_143.all (fun q => vld 143 q.1 q.2) = true)
set_option maxRecDepth 100000 in
theorem vk_144 : (tb 144).all (fun q => vld 144 q.1 q.2) = true := by decide +kernel
set_option maxRecDepth 100000 in
theorem vk_145 : (tb 145).all (fun q => vld 145 q.1 q.2) = true := by decide +kernel
set_option maxRecDepth 100000 in
theorem vk_146 : (tb 146).all (fun q => vld 146 q.1 q.2) = true := by decide +kernel
set_option maxRecDepth 100000 in
theorem vk_147 : (tb 147).all (fun q => vld 147 q.1 q.2) = true := by decide +kernel
set_option maxRecDepth 100000 in
theorem vk_148_0 : tb_148_0.all (fun q => vld 148 q.1 q.2) = true := by decide +kernel
set_option maxRecDepth 100000 in
theorem vk_148_1 : tb_148_1.all (fun q => vld 148 q.1 q.2) = true := by decide +kernel
theorem vk_148 : (tb 148).all (fun q => vld 148 q.1 q.2) = true := (all_ap vk_148_0 vk_148_1 : tb_148.all (fun q => vld 148 q.1 q.2) = true)
set_option maxRecDepth 100000 in
theorem vk_149_0 : tb_149_0.all (fun q => vld 149 q.1 q.2) = true := by decide +kernel
set_option maxRecDepth 100000 in
theorem vk_149_1 : tb_149_1.all (fun q => vld 149 q.1 q.2) = true := by decide +kernel
theorem vk_149 : (tb 149).all (fun q => vld 149 q.1 q.2) = true := (all_ap vk_149_0 vk_149_1 : tb_149.all (fun q => vld 149 q.1 q.2) = true)
set_option maxRecDepth 100000 in
theorem vk_150_0 : tb_150_0.all (fun q => vld 150 q.1 q.2) = true := by decide +kernel
set_option maxRecDepth 100000 in
theorem vk_150_1 : tb_150_1.all (fun q => vld 150 q.1 q.2) = true := by decide +kernel
set_option maxRecDepth 100000 in
theorem vk_150_2 : tb_150_2.all (fun q => vld 150 q.1 q.2) = true := by decide +kernel
theorem vk_150 : (tb 150).all (fun q => vld 150 q.1 q.2) = true := (all_ap vk_150_0 (all_ap vk_150_1 vk_150_2) : tb_150.all (fun q => vld 150 q.1 q.2) = true)
set_option maxRecDepth 100000 in
theorem vk_151_0 : tb_151_0.all (fun q => vld 151 q.1 q.2) = true := by decide +kernel
set_option maxRecDepth 100000 in
theorem vk_151_1 : tb_151_1.all (fun q => vld 151 q.1 q.2) = true := by decide +kernel
theorem vk_151 : (tb 151).all (fun q => vld 151 q.1 q.2) = true := (all_ap vk_151_0 vk_151_1 : tb_151.all (fun q => vld 151 q.1 q.2) = true)
set_option maxRecDepth 100000 in
theorem vk_152 : (tb 152).all (fun q => vld 152 q.1 q.2) = true := by decide +kernel
set_option maxRecDepth 100000 in
theorem vk_153 : (tb 153).all (fun q => vld 153 q.1 q.2) = true := by decide +kernel
set_option maxRecDepth 100000 in
theorem vk_154 : (tb 154).all (fun q => vld 154 q.1 q.2) = true := by decide +kernel
set_option maxRecDepth 100000 in
theorem vk_155 : (tb 155).all (fun q => vld 155 q.1 q.2) = true := by decide +kernel
set_option maxRecDepth 100000 in
theorem vk_156 : (tb 156).all (fun q => vld 156 q.1 q.2) = true := by decide +kernel
set_option maxRecDepth 100000 in
theorem vk_157 : (tb 157).all (fun q => vld 157 q.1 q.2) = true := by decide +kernel
set_option maxRecDepth 100000 in
theorem vk_158 : (tb 158).all (fun q => vld 158 q.1 q.2) = true := by decide +kernel
set_option maxRecDepth 100000 in
theorem vk_159 : (tb 159).all (fun q => vld 159 q.1 q.2) = true := by decide +kernel
set_option maxRecDepth 100000 in
theorem vk_160 : (tb 160).all (fun q => vld 160 q.1 q.2) = true := by decide +kernel
set_option maxRecDepth 100000 in
theorem vk_161 : (tb 161).all (fun q => vld 161 q.1 q.2) = true := by decide +kernel
set_option maxRecDepth 100000 in
theorem vk_162 : (tb 162).all (fun q => vld 162 q.1 q.2) = true := by decide +kernel
set_option maxRecDepth 100000 in
theorem vk_163 : (tb 163).all (fun q => vld 163 q.1 q.2) = true := by decide +kernel
set_option maxRecDepth 100000 in
theorem vk_164 : (tb 164).all (fun q => vld 164 q.1 q.2) = true := by decide +kernel
set_option maxRecDepth 100000 in
theorem vk_165 : (tb 165).all (fun q => vld 165 q.1 q.2) = true := by decide +kernel
set_option maxRecDepth 100000 in
theorem vk_166_0 : tb_166_0.all (fun q => vld 166 q.1 q.2) = true := by decide +kernel
set_option maxRecDepth 100000 in
theorem vk_166_1 : tb_166_1.all (fun q => vld 166 q.1 q.2) = true := by decide +kernel
set_option maxRecDepth 100000 in
theorem vk_166_2 : tb_166_2.all (fun q => vld 166 q.1 q.2) = true := by decide +kernel
set_option maxRecDepth 100000 in
theorem vk_166_3 : tb_166_3.all (fun q => vld 166 q.1 q.2) = true := by decide +kernel
set_option maxRecDepth 100000 in
theorem vk_166_4 : tb_166_4.all (fun q => vld 166 q.1 q.2) = true := by decide +kernel
set_option maxRecDepth 100000 in
theorem vk_166_5 : tb_166_5.all (fun q => vld 166 q.1 q.2) = true := by decide +kernel
set_option maxRecDepth 100000 in
theorem vk_166_6 : tb_166_6.all (fun q => vld 166 q.1 q.2) = true := by decide +kernel
set_option maxRecDepth 100000 in
theorem vk_166_7 : tb_166_7.all (fun q => vld 166 q.1 q.2) = true := by decide +kernel
set_option maxRecDepth 100000 in
theorem vk_166_8 : tb_166_8.all (fun q => vld 166 q.1 q.2) = true := by decide +kernel
set_option maxRecDepth 100000 in
theorem vk_166_9 : tb_166_9.all (fun q => vld 166 q.1 q.2) = true := by decide +kernel
set_option maxRecDepth 100000 in
theorem vk_166_10 : tb_166_10.all (fun q => vld 166 q.1 q.2) = true := by decide +kernel
set_option maxRecDepth 100000 in
theorem vk_166_11 : tb_166_11.all (fun q => vld 166 q.1 q.2) = true := by decide +kernel
set_option maxRecDepth 100000 in
theorem vk_166_12 : tb_166_12.all (fun q => vld 166 q.1 q.2) = true := by decide +kernel
set_option maxRecDepth 100000 in
theorem vk_166_13 : tb_166_13.all (fun q => vld 166 q.1 q.2) = true := by decide +kernel
theorem vk_166 : (tb 166).all (fun q => vld 166 q.1 q.2) = true := (all_ap vk_166_0 (all_ap vk_166_1 (all_ap vk_166_2 (all_ap vk_166_3 (all_ap vk_166_4 (all_ap vk_166_5 (all_ap vk_166_6 (all_ap vk_166_7 (all_ap vk_166_8 (all_ap vk_166_9 (all_ap vk_166_10 (all_ap vk_166_11 (all_ap vk_166_12 vk_166_13)))))))))))) : tb_166.all (fun q => vld 166 q.1 q.2) = true)
def vka_p (z : Nat) : Prop := (tb z).all (fun q => vld z q.1 q.2) = true
theorem vka_u24 : ∀ a, a < 24 → vka_p a := lt_s (p := vka_p) (lt_s (p := vka_p) (lt_s (p := vka_p) (lt_s (p := vka_p) (lt_s (p := vka_p) (lt_s (p := vka_p) (lt_s (p := vka_p) (lt_s (p := vka_p) (lt_s (p := vka_p) (lt_s (p := vka_p) (lt_s (p := vka_p) (lt_s (p := vka_p) (lt_s (p := vka_p) (lt_s (p := vka_p) (lt_s (p := vka_p) (lt_s (p := vka_p) (lt_s (p := vka_p) (lt_s (p := vka_p) (lt_s (p := vka_p) (lt_s (p := vka_p) (lt_s (p := vka_p) (lt_s (p := vka_p) (lt_s (p := vka_p) (lt_s (p := vka_p) ((lt_0 : ∀ a, a < 0 → vka_p a)) vk_0) vk_1) vk_2) vk_3) vk_4) vk_5) vk_6) vk_7) vk_8) vk_9) vk_10) vk_11) vk_12) vk_13) vk_14) vk_15) vk_16) vk_17) vk_18) vk_19) vk_20) vk_21) vk_22) vk_23
theorem vka_u48 : ∀ a, a < 48 → vka_p a := lt_s (p := vka_p) (lt_s (p := vka_p) (lt_s (p := vka_p) (lt_s (p := vka_p) (lt_s (p := vka_p) (lt_s (p := vka_p) (lt_s (p := vka_p) (lt_s (p := vka_p) (lt_s (p := vka_p) (lt_s (p := vka_p) (lt_s (p := vka_p) (lt_s (p := vka_p) (lt_s (p := vka_p) (lt_s (p := vka_p) (lt_s (p := vka_p) (lt_s (p := vka_p) (lt_s (p := vka_p) (lt_s (p := vka_p) (lt_s (p := vka_p) (lt_s (p := vka_p) (lt_s (p := vka_p) (lt_s (p := vka_p) (lt_s (p := vka_p) (lt_s (p := vka_p) (vka_u24) vk_24) vk_25) vk_26) vk_27) vk_28) vk_29) vk_30) vk_31) vk_32) vk_33) vk_34) vk_35) vk_36) vk_37) vk_38) vk_39) vk_40) vk_41) vk_42) vk_43) vk_44) vk_45) vk_46) vk_47
theorem vka_u72 : ∀ a, a < 72 → vka_p a := lt_s (p := vka_p) (lt_s (p := vka_p) (lt_s (p := vka_p) (lt_s (p := vka_p) (lt_s (p := vka_p) (lt_s (p := vka_p) (lt_s (p := vka_p) (lt_s (p := vka_p) (lt_s (p := vka_p) (lt_s (p := vka_p) (lt_s (p := vka_p) (lt_s (p := vka_p) (lt_s (p := vka_p) (lt_s (p := vka_p) (lt_s (p := vka_p) (lt_s (p := vka_p) (lt_s (p := vka_p) (lt_s (p := vka_p) (lt_s (p := vka_p) (lt_s (p := vka_p) (lt_s (p := vka_p) (lt_s (p := vka_p) (lt_s (p := vka_p) (lt_s (p := vka_p) (vka_u48) vk_48) vk_49) vk_50) vk_51) vk_52) vk_53) vk_54) vk_55) vk_56) vk_57) vk_58) vk_59) vk_60) vk_61) vk_62) vk_63) vk_64) vk_65) vk_66) vk_67) vk_68) vk_69) vk_70) vk_71
theorem vka_u96 : ∀ a, a < 96 → vka_p a := lt_s (p := vka_p) (lt_s (p := vka_p) (lt_s (p := vka_p) (lt_s (p := vka_p) (lt_s (p := vka_p) (lt_s (p := vka_p) (lt_s (p := vka_p) (lt_s (p := vka_p) (lt_s (p := vka_p) (lt_s (p := vka_p) (lt_s (p := vka_p) (lt_s (p := vka_p) (lt_s (p := vka_p) (lt_s (p := vka_p) (lt_s (p := vka_p) (lt_s (p := vka_p) (lt_s (p := vka_p) (lt_s (p := vka_p) (lt_s (p := vka_p) (lt_s (p := vka_p) (lt_s (p := vka_p) (lt_s (p := vka_p) (lt_s (p := vka_p) (lt_s (p := vka_p) (vka_u72) vk_72) vk_73) vk_74) vk_75) vk_76) vk_77) vk_78) vk_79) vk_80) vk_81) vk_82) vk_83) vk_84) vk_85) vk_86) vk_87) vk_88) vk_89) vk_90) vk_91) vk_92) vk_93) vk_94) vk_95
theorem vka_u120 : ∀ a, a < 120 → vka_p a := lt_s (p := vka_p) (lt_s (p := vka_p) (lt_s (p := vka_p) (lt_s (p := vka_p) (lt_s (p := vka_p) (lt_s (p := vka_p) (lt_s (p := vka_p) (lt_s (p := vka_p) (lt_s (p := vka_p) (lt_s (p := vka_p) (lt_s (p := vka_p) (lt_s (p := vka_p) (lt_s (p := vka_p) (lt_s (p := vka_p) (lt_s (p := vka_p) (lt_s (p := vka_p) (lt_s (p := vka_p) (lt_s (p := vka_p) (lt_s (p := vka_p) (lt_s (p := vka_p) (lt_s (p := vka_p) (lt_s (p := vka_p) (lt_s (p := vka_p) (lt_s (p := vka_p) (vka_u96) vk_96) vk_97) vk_98) vk_99) vk_100) vk_101) vk_102) vk_103) vk_104) vk_105) vk_106) vk_107) vk_108) vk_109) vk_110) vk_111) vk_112) vk_113) vk_114) vk_115) vk_116) vk_117) vk_118) vk_119
theorem vka_u144 : ∀ a, a < 144 → vka_p a := lt_s (p := vka_p) (lt_s (p := vka_p) (lt_s (p := vka_p) (lt_s (p := vka_p) (lt_s (p := vka_p) (lt_s (p := vka_p) (lt_s (p := vka_p) (lt_s (p := vka_p) (lt_s (p := vka_p) (lt_s (p := vka_p) (lt_s (p := vka_p) (lt_s (p := vka_p) (lt_s (p := vka_p) (lt_s (p := vka_p) (lt_s (p := vka_p) (lt_s (p := vka_p) (lt_s (p := vka_p) (lt_s (p := vka_p) (lt_s (p := vka_p) (lt_s (p := vka_p) (lt_s (p := vka_p) (lt_s (p := vka_p) (lt_s (p := vka_p) (lt_s (p := vka_p) (vka_u120) vk_120) vk_121) vk_122) vk_123) vk_124) vk_125) vk_126) vk_127) vk_128) vk_129) vk_130) vk_131) vk_132) vk_133) vk_134) vk_135) vk_136) vk_137) vk_138) vk_139) vk_140) vk_141) vk_142) vk_143
theorem vka_u167 : ∀ a, a < 167 → vka_p a := lt_s (p := vka_p) (lt_s (p := vka_p) (lt_s (p := vka_p) (lt_s (p := vka_p) (lt_s (p := vka_p) (lt_s (p := vka_p) (lt_s (p := vka_p) (lt_s (p := vka_p) (lt_s (p := vka_p) (lt_s (p := vka_p) (lt_s (p := vka_p) (lt_s (p := vka_p) (lt_s (p := vka_p) (lt_s (p := vka_p) (lt_s (p := vka_p) (lt_s (p := vka_p) (lt_s (p := vka_p) (lt_s (p := vka_p) (lt_s (p := vka_p) (lt_s (p := vka_p) (lt_s (p := vka_p) (lt_s (p := vka_p) (lt_s (p := vka_p) (vka_u144) vk_144) vk_145) vk_146) vk_147) vk_148) vk_149) vk_150) vk_151) vk_152) vk_153) vk_154) vk_155) vk_156) vk_157) vk_158) vk_159) vk_160) vk_161) vk_162) vk_163) vk_164) vk_165) vk_166
end
section
def ilen : Instr → Nat
  | .iload _ => 2
  | .aload _ => 2
  | .lload _ => 2
  | .dload _ => 2
  | .istore _ => 2
  | .astore _ => 2
  | .lstore _ => 2
  | .dstore _ => 2
  | .bipush _ => 2
  | .sipush _ => 3
  | .ldc _ => 2
  | .iinc _ _ => 3
  | .ifCond _ _ => 3
  | .if_icmp _ _ => 3
  | .goto _ => 3
  | .getfield _ => 3
  | .putfield _ => 3
  | .new _ => 3
  | .newarray _ => 2
  | .anewarray _ => 3
  | .invokevirtual _ => 3
  | .invokestatic _ => 3
  | .invokespecial _ => 3
  | .tableswitch _ _ _ _ => 0
  | _ => 1
def lok (q : Nat × En) : Bool := ilen q.2.1 == 0 || q.2.2.1 == q.1 + ilen q.2.1
set_option maxRecDepth 100000 in
theorem lok_all : ((List.range 167).all fun z => (tb z).all lok) = true := by decide +kernel
theorem lookup_mem {α : Type} {l : List (Nat × α)} {k : Nat} {v : α} (h : l.lookup k = some v) : (k, v) ∈ l := by
  induction l with
  | nil => cases h
  | cons a l ih =>
    obtain ⟨k2, v2⟩ := a
    simp only [List.lookup] at h
    split at h
    · rename_i he
      cases h
      have := (beq_iff_eq).mp he
      subst this
      exact List.mem_cons_self
    · exact List.mem_cons_of_mem _ (ih h)
theorem tb_big {z : Nat} (h : 167 ≤ z) : tb z = [] := by
  have hl : tbL.length = 167 := by decide +kernel
  unfold tb
  rw [List.getD_eq_getElem?_getD, List.getElem?_eq_none (by omega)]
  rfl
theorem vk {z pc : Nat} {e : En} (h : ins z pc = some e) : z < 167 ∧ vld z pc e = true := by
  by_cases hz : z < 167
  · have h1 : (tb z).all (fun q => vld z q.1 q.2) = true := vka_u167 z hz
    have h2 : (tb z).lookup pc = some e := h
    have h3 := List.all_eq_true.mp h1 (pc, e) (lookup_mem h2)
    exact ⟨hz, h3⟩
  · unfold ins at h
    rw [tb_big (by omega)] at h
    cases h
theorem vlen {z pc : Nat} {i : Instr} {nx p q r : Nat} {x : Int32} (h : ins z pc = some (i, nx, p, q, r, x)) (hi : ilen i ≠ 0) : nx = pc + ilen i := by
  have hz := (vk h).1
  have h1 := List.all_eq_true.mp lok_all z (List.mem_range.mpr hz)
  have h2 : (tb z).lookup pc = some (i, nx, p, q, r, x) := h
  have h3 := List.all_eq_true.mp h1 (pc, i, nx, p, q, r, x) (lookup_mem h2)
  have h4 : (ilen i == 0 || nx == pc + ilen i) = true := h3
  simp only [Bool.or_eq_true, beq_iff_eq] at h4
  rcases h4 with h4 | h4
  · exact absurd h4 hi
  · exact h4
def GW : List Cond := lw_tbl.filter goodWord
def mem_by {L : List Cond} (ws : List Cond) (ps : List Nat) (hp : ws = ps.filterMap (fun i => L[i]?)) : ∀ w ∈ ws, w ∈ L := by
  intro w hw
  rw [hp] at hw
  obtain ⟨i, -, hi⟩ := List.mem_filterMap.mp hw
  exact List.mem_of_getElem? hi
theorem gw_by (ws : List Cond) (ps : List Nat) (hp : ws = ps.filterMap (fun i => lw_tbl[i]?)) (hg : ws.all goodWord = true) : ∀ w ∈ ws, w ∈ GW := fun w hw => List.mem_filter.mpr ⟨mem_by ws ps hp w hw, List.all_eq_true.mp hg w hw⟩
def frw (q : Nat × Nat × Nat × Nat) : Cond := .fieldLink (cn q.1) q.2.1 (tF q.2.2.1 q.2.2.2).1 (tF q.2.2.1 q.2.2.2).2.1 (tF q.2.2.1 q.2.2.2).2.2.1
def frW : List Cond := frL.map frw
def frW_ps : List Nat := [130, 133, 135, 137, 139, 143, 145, 150, 152, 155, 157, 160, 241, 244, 246, 249, 252, 255, 257, 258, 259, 262, 263, 264, 141, 131, 96, 99, 148, 154, 159, 242, 210, 256, 213, 196, 247, 250, 253, 260, 94, 97, 100, 102, 104, 106, 297, 298, 299, 199, 245, 243, 195, 202, 205, 208, 216, 248, 251, 261, 254, 313, 315, 317, 319, 321, 323, 161, 153, 156, 158, 146, 151, 194, 198, 201, 204, 207, 209, 212, 215, 142, 147, 338, 339, 340, 341, 342, 343, 344, 345, 346, 347, 95, 98, 101, 103, 105, 107, 140, 324, 314, 318, 316, 320, 322, 197, 200, 203, 206, 132, 136, 149, 162, 211, 214, 217, 144, 134, 138, 894, 895, 896, 897, 898, 899, 901, 902, 903, 904, 905, 906, 907, 908, 909, 910, 911, 914, 915, 916, 917, 918, 919, 920, 921, 922, 923, 924, 925, 926, 927, 928, 929, 930, 931, 932, 933, 934, 935, 936, 937, 938, 939, 940, 941, 942, 943, 944, 945, 893, 912, 900, 913, 947, 948, 949, 946]
set_option maxRecDepth 100000 in
theorem frW_in : ∀ w ∈ frW, w ∈ GW := gw_by _ frW_ps (by decide +kernel) (by decide +kernel)
def cw (z : Nat) : Cond := if hh z = [] then .code (yN z) (cc z) (mL z) (rt z) else .codeWith (yN z) (cc z) (mL z) (rt z) (hh z)
set_option maxRecDepth 100000 in
theorem cwk_0 : cw 0 ∈ GW := List.mem_filter.mpr ⟨List.mem_of_getElem? (i := 128) rfl, rfl⟩
set_option maxRecDepth 100000 in
theorem cwk_1 : cw 1 ∈ GW := List.mem_filter.mpr ⟨List.mem_of_getElem? (i := 489) rfl, rfl⟩
set_option maxRecDepth 100000 in
theorem cwk_2 : cw 2 ∈ GW := List.mem_filter.mpr ⟨List.mem_of_getElem? (i := 500) rfl, rfl⟩
set_option maxRecDepth 100000 in
theorem cwk_3 : cw 3 ∈ GW := List.mem_filter.mpr ⟨List.mem_of_getElem? (i := 547) rfl, rfl⟩
set_option maxRecDepth 100000 in
theorem cwk_4 : cw 4 ∈ GW := List.mem_filter.mpr ⟨List.mem_of_getElem? (i := 566) rfl, rfl⟩
set_option maxRecDepth 100000 in
theorem cwk_5 : cw 5 ∈ GW := List.mem_filter.mpr ⟨List.mem_of_getElem? (i := 570) rfl, rfl⟩
set_option maxRecDepth 100000 in
theorem cwk_6 : cw 6 ∈ GW := List.mem_filter.mpr ⟨List.mem_of_getElem? (i := 516) rfl, rfl⟩
set_option maxRecDepth 100000 in
theorem cwk_7 : cw 7 ∈ GW := List.mem_filter.mpr ⟨List.mem_of_getElem? (i := 562) rfl, rfl⟩
set_option maxRecDepth 100000 in
theorem cwk_8 : cw 8 ∈ GW := List.mem_filter.mpr ⟨List.mem_of_getElem? (i := 539) rfl, rfl⟩
set_option maxRecDepth 100000 in
theorem cwk_9 : cw 9 ∈ GW := List.mem_filter.mpr ⟨List.mem_of_getElem? (i := 543) rfl, rfl⟩
set_option maxRecDepth 100000 in
theorem cwk_10 : cw 10 ∈ GW := List.mem_filter.mpr ⟨List.mem_of_getElem? (i := 610) rfl, rfl⟩
set_option maxRecDepth 100000 in
theorem cwk_11 : cw 11 ∈ GW := List.mem_filter.mpr ⟨List.mem_of_getElem? (i := 606) rfl, rfl⟩
set_option maxRecDepth 100000 in
theorem cwk_12 : cw 12 ∈ GW := List.mem_filter.mpr ⟨List.mem_of_getElem? (i := 630) rfl, rfl⟩
set_option maxRecDepth 100000 in
theorem cwk_13 : cw 13 ∈ GW := List.mem_filter.mpr ⟨List.mem_of_getElem? (i := 594) rfl, rfl⟩
set_option maxRecDepth 100000 in
theorem cwk_14 : cw 14 ∈ GW := List.mem_filter.mpr ⟨List.mem_of_getElem? (i := 239) rfl, rfl⟩
set_option maxRecDepth 100000 in
theorem cwk_15 : cw 15 ∈ GW := List.mem_filter.mpr ⟨List.mem_of_getElem? (i := 597) rfl, rfl⟩
set_option maxRecDepth 100000 in
theorem cwk_16 : cw 16 ∈ GW := List.mem_filter.mpr ⟨List.mem_of_getElem? (i := 718) rfl, rfl⟩
set_option maxRecDepth 100000 in
theorem cwk_17 : cw 17 ∈ GW := List.mem_filter.mpr ⟨List.mem_of_getElem? (i := 680) rfl, rfl⟩
set_option maxRecDepth 100000 in
theorem cwk_18 : cw 18 ∈ GW := List.mem_filter.mpr ⟨List.mem_of_getElem? (i := 578) rfl, rfl⟩
set_option maxRecDepth 100000 in
theorem cwk_19 : cw 19 ∈ GW := List.mem_filter.mpr ⟨List.mem_of_getElem? (i := 601) rfl, rfl⟩
set_option maxRecDepth 100000 in
theorem cwk_20 : cw 20 ∈ GW := List.mem_filter.mpr ⟨List.mem_of_getElem? (i := 619) rfl, rfl⟩
set_option maxRecDepth 100000 in
theorem cwk_21 : cw 21 ∈ GW := List.mem_filter.mpr ⟨List.mem_of_getElem? (i := 622) rfl, rfl⟩
set_option maxRecDepth 100000 in
theorem cwk_22 : cw 22 ∈ GW := List.mem_filter.mpr ⟨List.mem_of_getElem? (i := 626) rfl, rfl⟩
set_option maxRecDepth 100000 in
theorem cwk_23 : cw 23 ∈ GW := List.mem_filter.mpr ⟨List.mem_of_getElem? (i := 634) rfl, rfl⟩
set_option maxRecDepth 100000 in
theorem cwk_24 : cw 24 ∈ GW := List.mem_filter.mpr ⟨List.mem_of_getElem? (i := 589) rfl, rfl⟩
set_option maxRecDepth 100000 in
theorem cwk_25 : cw 25 ∈ GW := List.mem_filter.mpr ⟨List.mem_of_getElem? (i := 642) rfl, rfl⟩
set_option maxRecDepth 100000 in
theorem cwk_26 : cw 26 ∈ GW := List.mem_filter.mpr ⟨List.mem_of_getElem? (i := 646) rfl, rfl⟩
set_option maxRecDepth 100000 in
theorem cwk_27 : cw 27 ∈ GW := List.mem_filter.mpr ⟨List.mem_of_getElem? (i := 650) rfl, rfl⟩
set_option maxRecDepth 100000 in
theorem cwk_28 : cw 28 ∈ GW := List.mem_filter.mpr ⟨List.mem_of_getElem? (i := 703) rfl, rfl⟩
set_option maxRecDepth 100000 in
theorem cwk_29 : cw 29 ∈ GW := List.mem_filter.mpr ⟨List.mem_of_getElem? (i := 665) rfl, rfl⟩
set_option maxRecDepth 100000 in
theorem cwk_30 : cw 30 ∈ GW := List.mem_filter.mpr ⟨List.mem_of_getElem? (i := 638) rfl, rfl⟩
set_option maxRecDepth 100000 in
theorem cwk_31 : cw 31 ∈ GW := List.mem_filter.mpr ⟨List.mem_of_getElem? (i := 653) rfl, rfl⟩
set_option maxRecDepth 100000 in
theorem cwk_32 : cw 32 ∈ GW := List.mem_filter.mpr ⟨List.mem_of_getElem? (i := 656) rfl, rfl⟩
set_option maxRecDepth 100000 in
theorem cwk_33 : cw 33 ∈ GW := List.mem_filter.mpr ⟨List.mem_of_getElem? (i := 659) rfl, rfl⟩
set_option maxRecDepth 100000 in
theorem cwk_34 : cw 34 ∈ GW := List.mem_filter.mpr ⟨List.mem_of_getElem? (i := 92) rfl, rfl⟩
set_option maxRecDepth 100000 in
theorem cwk_35 : cw 35 ∈ GW := List.mem_filter.mpr ⟨List.mem_of_getElem? (i := 585) rfl, rfl⟩
set_option maxRecDepth 100000 in
theorem cwk_36 : cw 36 ∈ GW := List.mem_filter.mpr ⟨List.mem_of_getElem? (i := 295) rfl, rfl⟩
set_option maxRecDepth 100000 in
theorem cwk_37 : cw 37 ∈ GW := List.mem_filter.mpr ⟨List.mem_of_getElem? (i := 669) rfl, rfl⟩
set_option maxRecDepth 100000 in
theorem cwk_38 : cw 38 ∈ GW := List.mem_filter.mpr ⟨List.mem_of_getElem? (i := 672) rfl, rfl⟩
set_option maxRecDepth 100000 in
theorem cwk_39 : cw 39 ∈ GW := List.mem_filter.mpr ⟨List.mem_of_getElem? (i := 733) rfl, rfl⟩
set_option maxRecDepth 100000 in
theorem cwk_40 : cw 40 ∈ GW := List.mem_filter.mpr ⟨List.mem_of_getElem? (i := 727) rfl, rfl⟩
set_option maxRecDepth 100000 in
theorem cwk_41 : cw 41 ∈ GW := List.mem_filter.mpr ⟨List.mem_of_getElem? (i := 676) rfl, rfl⟩
set_option maxRecDepth 100000 in
theorem cwk_42 : cw 42 ∈ GW := List.mem_filter.mpr ⟨List.mem_of_getElem? (i := 684) rfl, rfl⟩
set_option maxRecDepth 100000 in
theorem cwk_43 : cw 43 ∈ GW := List.mem_filter.mpr ⟨List.mem_of_getElem? (i := 691) rfl, rfl⟩
set_option maxRecDepth 100000 in
theorem cwk_44 : cw 44 ∈ GW := List.mem_filter.mpr ⟨List.mem_of_getElem? (i := 695) rfl, rfl⟩
set_option maxRecDepth 100000 in
theorem cwk_45 : cw 45 ∈ GW := List.mem_filter.mpr ⟨List.mem_of_getElem? (i := 699) rfl, rfl⟩
set_option maxRecDepth 100000 in
theorem cwk_46 : cw 46 ∈ GW := List.mem_filter.mpr ⟨List.mem_of_getElem? (i := 707) rfl, rfl⟩
set_option maxRecDepth 100000 in
theorem cwk_47 : cw 47 ∈ GW := List.mem_filter.mpr ⟨List.mem_of_getElem? (i := 722) rfl, rfl⟩
set_option maxRecDepth 100000 in
theorem cwk_48 : cw 48 ∈ GW := List.mem_filter.mpr ⟨List.mem_of_getElem? (i := 714) rfl, rfl⟩
set_option maxRecDepth 100000 in
theorem cwk_49 : cw 49 ∈ GW := List.mem_filter.mpr ⟨List.mem_of_getElem? (i := 311) rfl, rfl⟩
set_option maxRecDepth 100000 in
theorem cwk_50 : cw 50 ∈ GW := List.mem_filter.mpr ⟨List.mem_of_getElem? (i := 754) rfl, rfl⟩
set_option maxRecDepth 100000 in
theorem cwk_51 : cw 51 ∈ GW := List.mem_filter.mpr ⟨List.mem_of_getElem? (i := 759) rfl, rfl⟩
set_option maxRecDepth 100000 in
theorem cwk_52 : cw 52 ∈ GW := List.mem_filter.mpr ⟨List.mem_of_getElem? (i := 768) rfl, rfl⟩
set_option maxRecDepth 100000 in
theorem cwk_53 : cw 53 ∈ GW := List.mem_filter.mpr ⟨List.mem_of_getElem? (i := 772) rfl, rfl⟩
set_option maxRecDepth 100000 in
theorem cwk_54 : cw 54 ∈ GW := List.mem_filter.mpr ⟨List.mem_of_getElem? (i := 777) rfl, rfl⟩
set_option maxRecDepth 100000 in
theorem cwk_55 : cw 55 ∈ GW := List.mem_filter.mpr ⟨List.mem_of_getElem? (i := 781) rfl, rfl⟩
set_option maxRecDepth 100000 in
theorem cwk_56 : cw 56 ∈ GW := List.mem_filter.mpr ⟨List.mem_of_getElem? (i := 785) rfl, rfl⟩
set_option maxRecDepth 100000 in
theorem cwk_57 : cw 57 ∈ GW := List.mem_filter.mpr ⟨List.mem_of_getElem? (i := 192) rfl, rfl⟩
set_option maxRecDepth 100000 in
theorem cwk_58 : cw 58 ∈ GW := List.mem_filter.mpr ⟨List.mem_of_getElem? (i := 738) rfl, rfl⟩
set_option maxRecDepth 100000 in
theorem cwk_59 : cw 59 ∈ GW := List.mem_filter.mpr ⟨List.mem_of_getElem? (i := 794) rfl, rfl⟩
set_option maxRecDepth 100000 in
theorem cwk_60 : cw 60 ∈ GW := List.mem_filter.mpr ⟨List.mem_of_getElem? (i := 789) rfl, rfl⟩
set_option maxRecDepth 100000 in
theorem cwk_61 : cw 61 ∈ GW := List.mem_filter.mpr ⟨List.mem_of_getElem? (i := 876) rfl, rfl⟩
set_option maxRecDepth 100000 in
theorem cwk_62 : cw 62 ∈ GW := List.mem_filter.mpr ⟨List.mem_of_getElem? (i := 730) rfl, rfl⟩
set_option maxRecDepth 100000 in
theorem cwk_63 : cw 63 ∈ GW := List.mem_filter.mpr ⟨List.mem_of_getElem? (i := 710) rfl, rfl⟩
set_option maxRecDepth 100000 in
theorem cwk_64 : cw 64 ∈ GW := List.mem_filter.mpr ⟨List.mem_of_getElem? (i := 84) rfl, rfl⟩
set_option maxRecDepth 100000 in
theorem cwk_65 : cw 65 ∈ GW := List.mem_filter.mpr ⟨List.mem_of_getElem? (i := 391) rfl, rfl⟩
set_option maxRecDepth 100000 in
theorem cwk_66 : cw 66 ∈ GW := List.mem_filter.mpr ⟨List.mem_of_getElem? (i := 467) rfl, rfl⟩
set_option maxRecDepth 100000 in
theorem cwk_67 : cw 67 ∈ GW := List.mem_filter.mpr ⟨List.mem_of_getElem? (i := 496) rfl, rfl⟩
set_option maxRecDepth 100000 in
theorem cwk_68 : cw 68 ∈ GW := List.mem_filter.mpr ⟨List.mem_of_getElem? (i := 372) rfl, rfl⟩
set_option maxRecDepth 100000 in
theorem cwk_69 : cw 69 ∈ GW := List.mem_filter.mpr ⟨List.mem_of_getElem? (i := 376) rfl, rfl⟩
set_option maxRecDepth 100000 in
theorem cwk_70 : cw 70 ∈ GW := List.mem_filter.mpr ⟨List.mem_of_getElem? (i := 383) rfl, rfl⟩
set_option maxRecDepth 100000 in
theorem cwk_71 : cw 71 ∈ GW := List.mem_filter.mpr ⟨List.mem_of_getElem? (i := 508) rfl, rfl⟩
set_option maxRecDepth 100000 in
theorem cwk_72 : cw 72 ∈ GW := List.mem_filter.mpr ⟨List.mem_of_getElem? (i := 746) rfl, rfl⟩
set_option maxRecDepth 100000 in
theorem cwk_73 : cw 73 ∈ GW := List.mem_filter.mpr ⟨List.mem_of_getElem? (i := 817) rfl, rfl⟩
set_option maxRecDepth 100000 in
theorem cwk_74 : cw 74 ∈ GW := List.mem_filter.mpr ⟨List.mem_of_getElem? (i := 824) rfl, rfl⟩
set_option maxRecDepth 100000 in
theorem cwk_75 : cw 75 ∈ GW := List.mem_filter.mpr ⟨List.mem_of_getElem? (i := 831) rfl, rfl⟩
set_option maxRecDepth 100000 in
theorem cwk_76 : cw 76 ∈ GW := List.mem_filter.mpr ⟨List.mem_of_getElem? (i := 839) rfl, rfl⟩
set_option maxRecDepth 100000 in
theorem cwk_77 : cw 77 ∈ GW := List.mem_filter.mpr ⟨List.mem_of_getElem? (i := 865) rfl, rfl⟩
set_option maxRecDepth 100000 in
theorem cwk_78 : cw 78 ∈ GW := List.mem_filter.mpr ⟨List.mem_of_getElem? (i := 872) rfl, rfl⟩
set_option maxRecDepth 100000 in
theorem cwk_79 : cw 79 ∈ GW := List.mem_filter.mpr ⟨List.mem_of_getElem? (i := 886) rfl, rfl⟩
set_option maxRecDepth 100000 in
theorem cwk_80 : cw 80 ∈ GW := List.mem_filter.mpr ⟨List.mem_of_getElem? (i := 843) rfl, rfl⟩
set_option maxRecDepth 100000 in
theorem cwk_81 : cw 81 ∈ GW := List.mem_filter.mpr ⟨List.mem_of_getElem? (i := 394) rfl, rfl⟩
set_option maxRecDepth 100000 in
theorem cwk_82 : cw 82 ∈ GW := List.mem_filter.mpr ⟨List.mem_of_getElem? (i := 470) rfl, rfl⟩
set_option maxRecDepth 100000 in
theorem cwk_83 : cw 83 ∈ GW := List.mem_filter.mpr ⟨List.mem_of_getElem? (i := 581) rfl, rfl⟩
set_option maxRecDepth 100000 in
theorem cwk_84 : cw 84 ∈ GW := List.mem_filter.mpr ⟨List.mem_of_getElem? (i := 379) rfl, rfl⟩
set_option maxRecDepth 100000 in
theorem cwk_85 : cw 85 ∈ GW := List.mem_filter.mpr ⟨List.mem_of_getElem? (i := 512) rfl, rfl⟩
set_option maxRecDepth 100000 in
theorem cwk_86 : cw 86 ∈ GW := List.mem_filter.mpr ⟨List.mem_of_getElem? (i := 535) rfl, rfl⟩
set_option maxRecDepth 100000 in
theorem cwk_87 : cw 87 ∈ GW := List.mem_filter.mpr ⟨List.mem_of_getElem? (i := 552) rfl, rfl⟩
set_option maxRecDepth 100000 in
theorem cwk_88 : cw 88 ∈ GW := List.mem_filter.mpr ⟨List.mem_of_getElem? (i := 555) rfl, rfl⟩
set_option maxRecDepth 100000 in
theorem cwk_89 : cw 89 ∈ GW := List.mem_filter.mpr ⟨List.mem_of_getElem? (i := 558) rfl, rfl⟩
set_option maxRecDepth 100000 in
theorem cwk_90 : cw 90 ∈ GW := List.mem_filter.mpr ⟨List.mem_of_getElem? (i := 574) rfl, rfl⟩
set_option maxRecDepth 100000 in
theorem cwk_91 : cw 91 ∈ GW := List.mem_filter.mpr ⟨List.mem_of_getElem? (i := 750) rfl, rfl⟩
set_option maxRecDepth 100000 in
theorem cwk_92 : cw 92 ∈ GW := List.mem_filter.mpr ⟨List.mem_of_getElem? (i := 764) rfl, rfl⟩
set_option maxRecDepth 100000 in
theorem cwk_93 : cw 93 ∈ GW := List.mem_filter.mpr ⟨List.mem_of_getElem? (i := 891) rfl, rfl⟩
set_option maxRecDepth 100000 in
theorem cwk_94 : cw 94 ∈ GW := List.mem_filter.mpr ⟨List.mem_of_getElem? (i := 1068) rfl, rfl⟩
set_option maxRecDepth 100000 in
theorem cwk_95 : cw 95 ∈ GW := List.mem_filter.mpr ⟨List.mem_of_getElem? (i := 1075) rfl, rfl⟩
set_option maxRecDepth 100000 in
theorem cwk_96 : cw 96 ∈ GW := List.mem_filter.mpr ⟨List.mem_of_getElem? (i := 1078) rfl, rfl⟩
set_option maxRecDepth 100000 in
theorem cwk_97 : cw 97 ∈ GW := List.mem_filter.mpr ⟨List.mem_of_getElem? (i := 1072) rfl, rfl⟩
set_option maxRecDepth 100000 in
theorem cwk_98 : cw 98 ∈ GW := List.mem_filter.mpr ⟨List.mem_of_getElem? (i := 1082) rfl, rfl⟩
set_option maxRecDepth 100000 in
theorem cwk_99 : cw 99 ∈ GW := List.mem_filter.mpr ⟨List.mem_of_getElem? (i := 1086) rfl, rfl⟩
set_option maxRecDepth 100000 in
theorem cwk_100 : cw 100 ∈ GW := List.mem_filter.mpr ⟨List.mem_of_getElem? (i := 1090) rfl, rfl⟩
set_option maxRecDepth 100000 in
theorem cwk_101 : cw 101 ∈ GW := List.mem_filter.mpr ⟨List.mem_of_getElem? (i := 1094) rfl, rfl⟩
set_option maxRecDepth 100000 in
theorem cwk_102 : cw 102 ∈ GW := List.mem_filter.mpr ⟨List.mem_of_getElem? (i := 1098) rfl, rfl⟩
set_option maxRecDepth 100000 in
theorem cwk_103 : cw 103 ∈ GW := List.mem_filter.mpr ⟨List.mem_of_getElem? (i := 1109) rfl, rfl⟩
set_option maxRecDepth 100000 in
theorem cwk_104 : cw 104 ∈ GW := List.mem_filter.mpr ⟨List.mem_of_getElem? (i := 1112) rfl, rfl⟩
set_option maxRecDepth 100000 in
theorem cwk_105 : cw 105 ∈ GW := List.mem_filter.mpr ⟨List.mem_of_getElem? (i := 1119) rfl, rfl⟩
set_option maxRecDepth 100000 in
theorem cwk_106 : cw 106 ∈ GW := List.mem_filter.mpr ⟨List.mem_of_getElem? (i := 1106) rfl, rfl⟩
set_option maxRecDepth 100000 in
theorem cwk_107 : cw 107 ∈ GW := List.mem_filter.mpr ⟨List.mem_of_getElem? (i := 1116) rfl, rfl⟩
set_option maxRecDepth 100000 in
theorem cwk_108 : cw 108 ∈ GW := List.mem_filter.mpr ⟨List.mem_of_getElem? (i := 1102) rfl, rfl⟩
set_option maxRecDepth 100000 in
theorem cwk_109 : cw 109 ∈ GW := List.mem_filter.mpr ⟨List.mem_of_getElem? (i := 1123) rfl, rfl⟩
set_option maxRecDepth 100000 in
theorem cwk_110 : cw 110 ∈ GW := List.mem_filter.mpr ⟨List.mem_of_getElem? (i := 1127) rfl, rfl⟩
set_option maxRecDepth 100000 in
theorem cwk_111 : cw 111 ∈ GW := List.mem_filter.mpr ⟨List.mem_of_getElem? (i := 1135) rfl, rfl⟩
set_option maxRecDepth 100000 in
theorem cwk_112 : cw 112 ∈ GW := List.mem_filter.mpr ⟨List.mem_of_getElem? (i := 1131) rfl, rfl⟩
set_option maxRecDepth 100000 in
theorem cwk_113 : cw 113 ∈ GW := List.mem_filter.mpr ⟨List.mem_of_getElem? (i := 1139) rfl, rfl⟩
set_option maxRecDepth 100000 in
theorem cwk_114 : cw 114 ∈ GW := List.mem_filter.mpr ⟨List.mem_of_getElem? (i := 1143) rfl, rfl⟩
set_option maxRecDepth 100000 in
theorem cwk_115 : cw 115 ∈ GW := List.mem_filter.mpr ⟨List.mem_of_getElem? (i := 1184) rfl, rfl⟩
set_option maxRecDepth 100000 in
theorem cwk_116 : cw 116 ∈ GW := List.mem_filter.mpr ⟨List.mem_of_getElem? (i := 1208) rfl, rfl⟩
set_option maxRecDepth 100000 in
theorem cwk_117 : cw 117 ∈ GW := List.mem_filter.mpr ⟨List.mem_of_getElem? (i := 1167) rfl, rfl⟩
set_option maxRecDepth 100000 in
theorem cwk_118 : cw 118 ∈ GW := List.mem_filter.mpr ⟨List.mem_of_getElem? (i := 1180) rfl, rfl⟩
set_option maxRecDepth 100000 in
theorem cwk_119 : cw 119 ∈ GW := List.mem_filter.mpr ⟨List.mem_of_getElem? (i := 1155) rfl, rfl⟩
set_option maxRecDepth 100000 in
theorem cwk_120 : cw 120 ∈ GW := List.mem_filter.mpr ⟨List.mem_of_getElem? (i := 1192) rfl, rfl⟩
set_option maxRecDepth 100000 in
theorem cwk_121 : cw 121 ∈ GW := List.mem_filter.mpr ⟨List.mem_of_getElem? (i := 1188) rfl, rfl⟩
set_option maxRecDepth 100000 in
theorem cwk_122 : cw 122 ∈ GW := List.mem_filter.mpr ⟨List.mem_of_getElem? (i := 1176) rfl, rfl⟩
set_option maxRecDepth 100000 in
theorem cwk_123 : cw 123 ∈ GW := List.mem_filter.mpr ⟨List.mem_of_getElem? (i := 1163) rfl, rfl⟩
set_option maxRecDepth 100000 in
theorem cwk_124 : cw 124 ∈ GW := List.mem_filter.mpr ⟨List.mem_of_getElem? (i := 1171) rfl, rfl⟩
set_option maxRecDepth 100000 in
theorem cwk_125 : cw 125 ∈ GW := List.mem_filter.mpr ⟨List.mem_of_getElem? (i := 1159) rfl, rfl⟩
set_option maxRecDepth 100000 in
theorem cwk_126 : cw 126 ∈ GW := List.mem_filter.mpr ⟨List.mem_of_getElem? (i := 1151) rfl, rfl⟩
set_option maxRecDepth 100000 in
theorem cwk_127 : cw 127 ∈ GW := List.mem_filter.mpr ⟨List.mem_of_getElem? (i := 1220) rfl, rfl⟩
set_option maxRecDepth 100000 in
theorem cwk_128 : cw 128 ∈ GW := List.mem_filter.mpr ⟨List.mem_of_getElem? (i := 1200) rfl, rfl⟩
set_option maxRecDepth 100000 in
theorem cwk_129 : cw 129 ∈ GW := List.mem_filter.mpr ⟨List.mem_of_getElem? (i := 1216) rfl, rfl⟩
set_option maxRecDepth 100000 in
theorem cwk_130 : cw 130 ∈ GW := List.mem_filter.mpr ⟨List.mem_of_getElem? (i := 1212) rfl, rfl⟩
set_option maxRecDepth 100000 in
theorem cwk_131 : cw 131 ∈ GW := List.mem_filter.mpr ⟨List.mem_of_getElem? (i := 1147) rfl, rfl⟩
set_option maxRecDepth 100000 in
theorem cwk_132 : cw 132 ∈ GW := List.mem_filter.mpr ⟨List.mem_of_getElem? (i := 1196) rfl, rfl⟩
set_option maxRecDepth 100000 in
theorem cwk_133 : cw 133 ∈ GW := List.mem_filter.mpr ⟨List.mem_of_getElem? (i := 1204) rfl, rfl⟩
set_option maxRecDepth 100000 in
theorem cwk_134 : cw 134 ∈ GW := List.mem_filter.mpr ⟨List.mem_of_getElem? (i := 1232) rfl, rfl⟩
set_option maxRecDepth 100000 in
theorem cwk_135 : cw 135 ∈ GW := List.mem_filter.mpr ⟨List.mem_of_getElem? (i := 1236) rfl, rfl⟩
set_option maxRecDepth 100000 in
theorem cwk_136 : cw 136 ∈ GW := List.mem_filter.mpr ⟨List.mem_of_getElem? (i := 1224) rfl, rfl⟩
set_option maxRecDepth 100000 in
theorem cwk_137 : cw 137 ∈ GW := List.mem_filter.mpr ⟨List.mem_of_getElem? (i := 1228) rfl, rfl⟩
set_option maxRecDepth 100000 in
theorem cwk_138 : cw 138 ∈ GW := List.mem_filter.mpr ⟨List.mem_of_getElem? (i := 1252) rfl, rfl⟩
set_option maxRecDepth 100000 in
theorem cwk_139 : cw 139 ∈ GW := List.mem_filter.mpr ⟨List.mem_of_getElem? (i := 1248) rfl, rfl⟩
set_option maxRecDepth 100000 in
theorem cwk_140 : cw 140 ∈ GW := List.mem_filter.mpr ⟨List.mem_of_getElem? (i := 1244) rfl, rfl⟩
set_option maxRecDepth 100000 in
theorem cwk_141 : cw 141 ∈ GW := List.mem_filter.mpr ⟨List.mem_of_getElem? (i := 1256) rfl, rfl⟩
set_option maxRecDepth 100000 in
theorem cwk_142 : cw 142 ∈ GW := List.mem_filter.mpr ⟨List.mem_of_getElem? (i := 1240) rfl, rfl⟩
set_option maxRecDepth 100000 in
theorem cwk_143 : cw 143 ∈ GW := List.mem_filter.mpr ⟨List.mem_of_getElem? (i := 1260) rfl, rfl⟩
set_option maxRecDepth 100000 in
theorem cwk_144 : cw 144 ∈ GW := List.mem_filter.mpr ⟨List.mem_of_getElem? (i := 1264) rfl, rfl⟩
set_option maxRecDepth 100000 in
theorem cwk_145 : cw 145 ∈ GW := List.mem_filter.mpr ⟨List.mem_of_getElem? (i := 1268) rfl, rfl⟩
set_option maxRecDepth 100000 in
theorem cwk_146 : cw 146 ∈ GW := List.mem_filter.mpr ⟨List.mem_of_getElem? (i := 1272) rfl, rfl⟩
set_option maxRecDepth 100000 in
theorem cwk_147 : cw 147 ∈ GW := List.mem_filter.mpr ⟨List.mem_of_getElem? (i := 1280) rfl, rfl⟩
set_option maxRecDepth 100000 in
theorem cwk_148 : cw 148 ∈ GW := List.mem_filter.mpr ⟨List.mem_of_getElem? (i := 1276) rfl, rfl⟩
set_option maxRecDepth 100000 in
theorem cwk_149 : cw 149 ∈ GW := List.mem_filter.mpr ⟨List.mem_of_getElem? (i := 1284) rfl, rfl⟩
set_option maxRecDepth 100000 in
theorem cwk_150 : cw 150 ∈ GW := List.mem_filter.mpr ⟨List.mem_of_getElem? (i := 1288) rfl, rfl⟩
set_option maxRecDepth 100000 in
theorem cwk_151 : cw 151 ∈ GW := List.mem_filter.mpr ⟨List.mem_of_getElem? (i := 1292) rfl, rfl⟩
set_option maxRecDepth 100000 in
theorem cwk_152 : cw 152 ∈ GW := List.mem_filter.mpr ⟨List.mem_of_getElem? (i := 386) rfl, rfl⟩
set_option maxRecDepth 100000 in
theorem cwk_153 : cw 153 ∈ GW := List.mem_filter.mpr ⟨List.mem_of_getElem? (i := 462) rfl, rfl⟩
set_option maxRecDepth 100000 in
theorem cwk_154 : cw 154 ∈ GW := List.mem_filter.mpr ⟨List.mem_of_getElem? (i := 492) rfl, rfl⟩
set_option maxRecDepth 100000 in
theorem cwk_155 : cw 155 ∈ GW := List.mem_filter.mpr ⟨List.mem_of_getElem? (i := 503) rfl, rfl⟩
set_option maxRecDepth 100000 in
theorem cwk_156 : cw 156 ∈ GW := List.mem_filter.mpr ⟨List.mem_of_getElem? (i := 741) rfl, rfl⟩
set_option maxRecDepth 100000 in
theorem cwk_157 : cw 157 ∈ GW := List.mem_filter.mpr ⟨List.mem_of_getElem? (i := 813) rfl, rfl⟩
set_option maxRecDepth 100000 in
theorem cwk_158 : cw 158 ∈ GW := List.mem_filter.mpr ⟨List.mem_of_getElem? (i := 820) rfl, rfl⟩
set_option maxRecDepth 100000 in
theorem cwk_159 : cw 159 ∈ GW := List.mem_filter.mpr ⟨List.mem_of_getElem? (i := 827) rfl, rfl⟩
set_option maxRecDepth 100000 in
theorem cwk_160 : cw 160 ∈ GW := List.mem_filter.mpr ⟨List.mem_of_getElem? (i := 834) rfl, rfl⟩
set_option maxRecDepth 100000 in
theorem cwk_161 : cw 161 ∈ GW := List.mem_filter.mpr ⟨List.mem_of_getElem? (i := 861) rfl, rfl⟩
set_option maxRecDepth 100000 in
theorem cwk_162 : cw 162 ∈ GW := List.mem_filter.mpr ⟨List.mem_of_getElem? (i := 868) rfl, rfl⟩
set_option maxRecDepth 100000 in
theorem cwk_163 : cw 163 ∈ GW := List.mem_filter.mpr ⟨List.mem_of_getElem? (i := 882) rfl, rfl⟩
set_option maxRecDepth 100000 in
theorem cwk_164 : cw 164 ∈ GW := List.mem_filter.mpr ⟨List.mem_of_getElem? (i := 616) rfl, rfl⟩
set_option maxRecDepth 100000 in
theorem cwk_165 : cw 165 ∈ GW := List.mem_filter.mpr ⟨List.mem_of_getElem? (i := 613) rfl, rfl⟩
def cwa_p (z : Nat) : Prop := cw z ∈ GW
theorem cwa_u24 : ∀ a, a < 24 → cwa_p a := lt_s (p := cwa_p) (lt_s (p := cwa_p) (lt_s (p := cwa_p) (lt_s (p := cwa_p) (lt_s (p := cwa_p) (lt_s (p := cwa_p) (lt_s (p := cwa_p) (lt_s (p := cwa_p) (lt_s (p := cwa_p) (lt_s (p := cwa_p) (lt_s (p := cwa_p) (lt_s (p := cwa_p) (lt_s (p := cwa_p) (lt_s (p := cwa_p) (lt_s (p := cwa_p) (lt_s (p := cwa_p) (lt_s (p := cwa_p) (lt_s (p := cwa_p) (lt_s (p := cwa_p) (lt_s (p := cwa_p) (lt_s (p := cwa_p) (lt_s (p := cwa_p) (lt_s (p := cwa_p) (lt_s (p := cwa_p) ((lt_0 : ∀ a, a < 0 → cwa_p a)) cwk_0) cwk_1) cwk_2) cwk_3) cwk_4) cwk_5) cwk_6) cwk_7) cwk_8) cwk_9) cwk_10) cwk_11) cwk_12) cwk_13) cwk_14) cwk_15) cwk_16) cwk_17) cwk_18) cwk_19) cwk_20) cwk_21) cwk_22) cwk_23
theorem cwa_u48 : ∀ a, a < 48 → cwa_p a := lt_s (p := cwa_p) (lt_s (p := cwa_p) (lt_s (p := cwa_p) (lt_s (p := cwa_p) (lt_s (p := cwa_p) (lt_s (p := cwa_p) (lt_s (p := cwa_p) (lt_s (p := cwa_p) (lt_s (p := cwa_p) (lt_s (p := cwa_p) (lt_s (p := cwa_p) (lt_s (p := cwa_p) (lt_s (p := cwa_p) (lt_s (p := cwa_p) (lt_s (p := cwa_p) (lt_s (p := cwa_p) (lt_s (p := cwa_p) (lt_s (p := cwa_p) (lt_s (p := cwa_p) (lt_s (p := cwa_p) (lt_s (p := cwa_p) (lt_s (p := cwa_p) (lt_s (p := cwa_p) (lt_s (p := cwa_p) (cwa_u24) cwk_24) cwk_25) cwk_26) cwk_27) cwk_28) cwk_29) cwk_30) cwk_31) cwk_32) cwk_33) cwk_34) cwk_35) cwk_36) cwk_37) cwk_38) cwk_39) cwk_40) cwk_41) cwk_42) cwk_43) cwk_44) cwk_45) cwk_46) cwk_47
theorem cwa_u72 : ∀ a, a < 72 → cwa_p a := lt_s (p := cwa_p) (lt_s (p := cwa_p) (lt_s (p := cwa_p) (lt_s (p := cwa_p) (lt_s (p := cwa_p) (lt_s (p := cwa_p) (lt_s (p := cwa_p) (lt_s (p := cwa_p) (lt_s (p := cwa_p) (lt_s (p := cwa_p) (lt_s (p := cwa_p) (lt_s (p := cwa_p) (lt_s (p := cwa_p) (lt_s (p := cwa_p) (lt_s (p := cwa_p) (lt_s (p := cwa_p) (lt_s (p := cwa_p) (lt_s (p := cwa_p) (lt_s (p := cwa_p) (lt_s (p := cwa_p) (lt_s (p := cwa_p) (lt_s (p := cwa_p) (lt_s (p := cwa_p) (lt_s (p := cwa_p) (cwa_u48) cwk_48) cwk_49) cwk_50) cwk_51) cwk_52) cwk_53) cwk_54) cwk_55) cwk_56) cwk_57) cwk_58) cwk_59) cwk_60) cwk_61) cwk_62) cwk_63) cwk_64) cwk_65) cwk_66) cwk_67) cwk_68) cwk_69) cwk_70) cwk_71
theorem cwa_u96 : ∀ a, a < 96 → cwa_p a := lt_s (p := cwa_p) (lt_s (p := cwa_p) (lt_s (p := cwa_p) (lt_s (p := cwa_p) (lt_s (p := cwa_p) (lt_s (p := cwa_p) (lt_s (p := cwa_p) (lt_s (p := cwa_p) (lt_s (p := cwa_p) (lt_s (p := cwa_p) (lt_s (p := cwa_p) (lt_s (p := cwa_p) (lt_s (p := cwa_p) (lt_s (p := cwa_p) (lt_s (p := cwa_p) (lt_s (p := cwa_p) (lt_s (p := cwa_p) (lt_s (p := cwa_p) (lt_s (p := cwa_p) (lt_s (p := cwa_p) (lt_s (p := cwa_p) (lt_s (p := cwa_p) (lt_s (p := cwa_p) (lt_s (p := cwa_p) (cwa_u72) cwk_72) cwk_73) cwk_74) cwk_75) cwk_76) cwk_77) cwk_78) cwk_79) cwk_80) cwk_81) cwk_82) cwk_83) cwk_84) cwk_85) cwk_86) cwk_87) cwk_88) cwk_89) cwk_90) cwk_91) cwk_92) cwk_93) cwk_94) cwk_95
theorem cwa_u120 : ∀ a, a < 120 → cwa_p a := lt_s (p := cwa_p) (lt_s (p := cwa_p) (lt_s (p := cwa_p) (lt_s (p := cwa_p) (lt_s (p := cwa_p) (lt_s (p := cwa_p) (lt_s (p := cwa_p) (lt_s (p := cwa_p) (lt_s (p := cwa_p) (lt_s (p := cwa_p) (lt_s (p := cwa_p) (lt_s (p := cwa_p) (lt_s (p := cwa_p) (lt_s (p := cwa_p) (lt_s (p := cwa_p) (lt_s (p := cwa_p) (lt_s (p := cwa_p) (lt_s (p := cwa_p) (lt_s (p := cwa_p) (lt_s (p := cwa_p) (lt_s (p := cwa_p) (lt_s (p := cwa_p) (lt_s (p := cwa_p) (lt_s (p := cwa_p) (cwa_u96) cwk_96) cwk_97) cwk_98) cwk_99) cwk_100) cwk_101) cwk_102) cwk_103) cwk_104) cwk_105) cwk_106) cwk_107) cwk_108) cwk_109) cwk_110) cwk_111) cwk_112) cwk_113) cwk_114) cwk_115) cwk_116) cwk_117) cwk_118) cwk_119
theorem cwa_u144 : ∀ a, a < 144 → cwa_p a := lt_s (p := cwa_p) (lt_s (p := cwa_p) (lt_s (p := cwa_p) (lt_s (p := cwa_p) (lt_s (p := cwa_p) (lt_s (p := cwa_p) (lt_s (p := cwa_p) (lt_s (p := cwa_p) (lt_s (p := cwa_p) (lt_s (p := cwa_p) (lt_s (p := cwa_p) (lt_s (p := cwa_p) (lt_s (p := cwa_p) (lt_s (p := cwa_p) (lt_s (p := cwa_p) (lt_s (p := cwa_p) (lt_s (p := cwa_p) (lt_s (p := cwa_p) (lt_s (p := cwa_p) (lt_s (p := cwa_p) (lt_s (p := cwa_p) (lt_s (p := cwa_p) (lt_s (p := cwa_p) (lt_s (p := cwa_p) (cwa_u120) cwk_120) cwk_121) cwk_122) cwk_123) cwk_124) cwk_125) cwk_126) cwk_127) cwk_128) cwk_129) cwk_130) cwk_131) cwk_132) cwk_133) cwk_134) cwk_135) cwk_136) cwk_137) cwk_138) cwk_139) cwk_140) cwk_141) cwk_142) cwk_143
theorem cwa_u166 : ∀ a, a < 166 → cwa_p a := lt_s (p := cwa_p) (lt_s (p := cwa_p) (lt_s (p := cwa_p) (lt_s (p := cwa_p) (lt_s (p := cwa_p) (lt_s (p := cwa_p) (lt_s (p := cwa_p) (lt_s (p := cwa_p) (lt_s (p := cwa_p) (lt_s (p := cwa_p) (lt_s (p := cwa_p) (lt_s (p := cwa_p) (lt_s (p := cwa_p) (lt_s (p := cwa_p) (lt_s (p := cwa_p) (lt_s (p := cwa_p) (lt_s (p := cwa_p) (lt_s (p := cwa_p) (lt_s (p := cwa_p) (lt_s (p := cwa_p) (lt_s (p := cwa_p) (lt_s (p := cwa_p) (cwa_u144) cwk_144) cwk_145) cwk_146) cwk_147) cwk_148) cwk_149) cwk_150) cwk_151) cwk_152) cwk_153) cwk_154) cwk_155) cwk_156) cwk_157) cwk_158) cwk_159) cwk_160) cwk_161) cwk_162) cwk_163) cwk_164) cwk_165
def mrw (m : Nat × Nat × Nat × Nat) : List Cond :=
  if m.2.2.2 = 0 then [.methodLink (cn m.1) m.2.1 (yN m.2.2.1), .instanceMethod (yN m.2.2.1), .selects (yN m.2.2.1).cls (yN m.2.2.1) (yN m.2.2.1), .initialized (yN m.2.2.1).cls]
  else if m.2.2.2 = 1 ∨ m.2.2.2 = 2 then [.methodLink (cn m.1) m.2.1 (yN m.2.2.1), .static (yN m.2.2.1), .initialized (yN m.2.2.1).cls]
  else if m.2.2.2 = 3 then [.methodLink (cn m.1) m.2.1 (yN m.2.2.1), .instanceMethod (yN m.2.2.1), .initialized (yN m.2.2.1).cls]
  else if m.2.2.2 = 4 then [.instanceMethod (yN m.2.2.1), .initialized (yN m.2.2.1).cls]
  else [.static (yN m.2.2.1), .initialized (yN m.2.2.1).cls]
def mrW : List Cond := mrL.flatMap mrw
def mrW_ps : List Nat := [548, 487, 488, 64, 549, 498, 499, 64, 540, 541, 542, 64, 611, 612, 76, 607, 608, 609, 64, 580, 62, 582, 583, 584, 63, 586, 588, 4, 66, 595, 596, 66, 598, 600, 5, 66, 623, 625, 6, 66, 590, 541, 542, 64, 603, 604, 605, 64, 614, 615, 76, 617, 618, 66, 620, 621, 66, 627, 628, 629, 64, 631, 633, 7, 66, 378, 62, 591, 592, 593, 64, 643, 645, 8, 66, 639, 640, 641, 66, 647, 648, 649, 66, 651, 652, 77, 662, 663, 664, 66, 654, 655, 77, 657, 658, 77, 660, 596, 66, 670, 671, 67, 673, 675, 9, 67, 688, 690, 11, 67, 731, 732, 67, 725, 726, 67, 734, 663, 664, 66, 728, 729, 65, 687, 615, 76, 677, 678, 679, 66, 681, 683, 10, 67, 685, 640, 641, 66, 686, 648, 649, 66, 692, 694, 12, 67, 696, 698, 13, 67, 700, 701, 702, 66, 704, 706, 14, 67, 708, 709, 65, 719, 721, 16, 67, 723, 596, 66, 711, 713, 15, 67, 715, 716, 717, 66, 760, 615, 76, 769, 771, 19, 68, 378, 62, 774, 776, 20, 68, 778, 780, 21, 68, 782, 784, 22, 68, 795, 615, 76, 790, 736, 737, 65, 877, 709, 65, 878, 729, 65, 580, 62, 91, 63, 127, 64, 191, 65, 238, 66, 294, 67, 310, 68, 392, 393, 62, 468, 469, 62, 486, 487, 488, 64, 497, 498, 499, 64, 377, 378, 62, 509, 511, 1, 62, 532, 534, 2, 62, 544, 545, 546, 64, 550, 551, 62, 571, 573, 3, 62, 747, 749, 17, 62, 840, 842, 23, 62, 873, 874, 875, 65, 735, 736, 737, 65, 513, 514, 515, 64, 536, 537, 538, 64, 553, 554, 62, 556, 557, 62, 563, 564, 565, 64, 567, 568, 569, 64, 559, 560, 561, 64, 575, 576, 577, 66, 636, 637, 77, 666, 667, 668, 67, 751, 752, 753, 68, 755, 615, 76, 756, 757, 758, 68, 761, 763, 18, 62, 765, 766, 767, 68, 786, 787, 788, 65, 791, 792, 793, 65, 1073, 1074, 69, 1076, 1077, 69, 1107, 1108, 69, 1110, 1111, 69, 1117, 1118, 69, 1103, 1105, 24, 69, 1113, 1115, 25, 69, 1120, 1122, 26, 69, 1128, 1130, 28, 69, 1144, 1146, 32, 69, 1124, 1126, 27, 69, 1132, 1134, 29, 69, 1136, 1138, 30, 69, 1140, 1142, 31, 69, 1164, 1166, 37, 69, 1177, 1179, 40, 69, 1181, 1183, 41, 69, 1185, 1187, 42, 69, 1189, 1191, 43, 69, 1160, 1162, 36, 69, 1168, 1170, 38, 69, 1152, 1154, 34, 69, 1156, 1158, 35, 69, 1173, 1175, 39, 69, 1217, 1219, 50, 69, 1205, 1207, 47, 69, 1148, 1150, 33, 69, 1193, 1195, 44, 69, 1213, 1215, 49, 69, 1221, 1223, 51, 69, 1197, 1199, 45, 69, 1201, 1203, 46, 69, 1209, 1211, 48, 69, 1225, 1227, 52, 69, 1229, 1231, 53, 69, 1233, 1235, 54, 69, 1249, 1251, 57, 69, 1245, 1247, 56, 69, 1241, 1243, 55, 69, 1253, 1255, 58, 69, 1257, 1259, 59, 69, 1277, 1279, 60, 69, 388, 389, 390, 62, 464, 465, 466, 62, 493, 494, 495, 62, 505, 506, 507, 62, 743, 744, 745, 62, 814, 815, 816, 62, 821, 822, 823, 62, 828, 829, 830, 62, 836, 837, 838, 62, 862, 863, 864, 62, 869, 870, 871, 62, 883, 884, 885, 62, 82, 83, 62, 889, 890, 69, 384, 385, 61, 1069, 1070, 1071, 69, 1065, 1066, 1067, 69, 460, 461, 61, 1079, 1080, 1081, 69, 490, 491, 61, 1083, 1084, 1085, 69, 369, 370, 371, 62, 1087, 1088, 1089, 69, 373, 374, 375, 62, 1091, 1092, 1093, 69, 380, 381, 382, 62, 1095, 1096, 1097, 69, 501, 502, 61, 1099, 1100, 1101, 69, 739, 740, 61, 1237, 1238, 1239, 69, 811, 812, 61, 1261, 1262, 1263, 69, 818, 819, 61, 1265, 1266, 1267, 69, 825, 826, 61, 1269, 1270, 1271, 69, 832, 833, 61, 1273, 1274, 1275, 69, 859, 860, 61, 1281, 1282, 1283, 69, 866, 867, 61, 1285, 1286, 1287, 69, 880, 881, 61, 1289, 1290, 1291, 69]
set_option maxRecDepth 100000 in
theorem mrW_in : ∀ w ∈ mrW, w ∈ GW := gw_by _ mrW_ps (by decide +kernel) (by decide +kernel)
def nsL : List (Nat × Nat × Nat) := [(1, 64, 83), (1, 114, 84), (4, 59, 84), (5, 61, 83), (6, 9, 34), (6, 31, 0), (6, 32, 57), (6, 35, 14), (6, 42, 36), (6, 57, 49)]
def nsw (m : Nat × Nat × Nat) : Cond := .methodLinkNest (cn m.1) m.2.1 (yN m.2.2) "BundleMill"
def nsW : List Cond := nsL.map nsw
def nsW_ps : List Nat := [579, 635, 773, 879, 90, 126, 190, 237, 293, 309]
set_option maxRecDepth 100000 in
theorem nsW_in : ∀ w ∈ nsW, w ∈ lw_tbl := mem_by _ nsW_ps (by decide +kernel)
def lyW : List Cond := (List.range 8).flatMap (fun c => u_ws (cn c) (tF c) (nf c))
def lyW_ps : List Nat := [163, 165, 167, 169, 171, 173, 175, 177, 179, 181, 183, 185, 265, 267, 269, 271, 273, 275, 277, 279, 281, 283, 285, 287, 108, 110, 112, 114, 116, 118, 300, 302, 304, 325, 327, 329, 331, 333, 335, 218, 220, 222, 224, 226, 228, 230, 232, 348, 350, 352, 354, 356, 358, 360, 362, 364, 366, 950, 952, 954, 956, 958, 960, 962, 964, 966, 968, 970, 972, 974, 976, 978, 980, 982, 984, 986, 988, 990, 992, 994, 996, 998, 1000, 1002, 1004, 1006, 1008, 1010, 1012, 1014, 1016, 1018, 1020, 1022, 1024, 1026, 1028, 1030, 1032, 1034, 1036, 1038, 1040, 1042, 1044, 1046, 1048, 1050, 1052, 1054, 1056, 1058, 1060, 1062]
set_option maxRecDepth 100000 in
theorem lyW_in : ∀ w ∈ lyW, w ∈ GW := gw_by _ lyW_ps (by decide +kernel) (by decide +kernel)
def inW : List Cond := (List.range 8).flatMap (fun c => [Cond.instantiable (cn c) (nf c), .initialized (cn c)])
def inW_ps : List Nat := [125, 64, 236, 66, 89, 63, 292, 67, 308, 68, 189, 65, 81, 62, 888, 69]
set_option maxRecDepth 100000 in
theorem inW_in : ∀ w ∈ inW, w ∈ GW := gw_by _ inW_ps (by decide +kernel) (by decide +kernel)
def clW : List Cond := clrL.map (fun q => Cond.classLink (cn q.1) q.2.1 (cn q.2.2))
def clW_ps : List Nat := [88, 121, 123, 235, 291, 307, 80, 887]
set_option maxRecDepth 100000 in
theorem clW_in : ∀ w ∈ clW, w ∈ GW := gw_by _ clW_ps (by decide +kernel) (by decide +kernel)
def crW : List Cond := crL.map (fun q => Cond.constant (cn q.1) q.2.1 q.2.2)
def crW_ps : List Nat := [602, 661, 724, 1172]
set_option maxRecDepth 100000 in
theorem crW_in : ∀ w ∈ crW, w ∈ GW := gw_by _ crW_ps (by decide +kernel) (by decide +kernel)
def arW : List Cond := [.arrayClass .int, .arrayClass .boolean, .arrayClass .long, .arrayClass .double]
def arW_ps : List Nat := [188, 290, 1293, 1294]
set_option maxRecDepth 100000 in
theorem arW_in : ∀ w ∈ arW, w ∈ GW := gw_by _ arW_ps (by decide +kernel) (by decide +kernel)
def aoW : List Cond := [.arrayOver (.object "BundleMill$Block"), .arrayOver (.object "BundleMill$Plan")]
def aoW_ps : List Nat := [122, 124]
set_option maxRecDepth 100000 in
theorem aoW_in : ∀ w ∈ aoW, w ∈ lw_tbl := mem_by _ aoW_ps (by decide +kernel)
def oiW : List Cond := oinL.map (fun q => Cond.methodLink (cn q.1) q.2 objectInit) ++ [.instanceMethod objectInit, .code objectInit ⟨#[0xb1]⟩ 1 none]
def oiW_ps : List Nat := [129, 240, 93, 296, 312, 193, 85, 892, 86, 87]
set_option maxRecDepth 100000 in
theorem oiW_in : ∀ w ∈ oiW, w ∈ GW := gw_by _ oiW_ps (by decide +kernel) (by decide +kernel)
end
section
/-! ===== BEGIN words of one list among another's, by their places ===== -/
theorem goodIn_r {big : List Cond} (ws : List Cond) (ps : List Nat) (hp : ws = ps.filterMap (fun i => big[i]?)) (h : ws.all goodWord = true) : GoodIn big ws := by
  intro w hw
  have h1 := List.all_eq_true.mp h w hw
  rw [hp] at hw
  obtain ⟨i, -, hi⟩ := List.mem_filterMap.mp hw
  have hm : w ∈ big := by first | exact List.mem_of_getElem? hi | exact List.getElem?_mem hi
  exact ⟨hm, good_of_word h1⟩
theorem goodIn_app {big a b : List Cond} (ha : GoodIn big a) (hb : GoodIn big b) : GoodIn big (a ++ b) := fun w h => (List.mem_append.mp h).elim (ha w) (hb w)
theorem goodIn_ca {big a b : List Cond} {c : Cond} (ha : GoodIn big (c :: a)) (hb : GoodIn big b) : GoodIn big (c :: (a ++ b)) := fun w h => (List.mem_cons.mp h).elim (fun e => ha w (List.mem_cons.mpr (Or.inl e))) (fun h => (List.mem_append.mp h).elim (fun h => ha w (List.mem_cons.mpr (Or.inr h))) (hb w))
theorem goodIn_sub {big ws : List Cond} (hm : ∀ w ∈ ws, w ∈ big) (h : ws.all goodWord = true) : GoodIn big ws := fun w hw => ⟨hm w hw, good_of_word (List.all_eq_true.mp h w hw)⟩
/-! ===== END ===== -/

/-! ===== BEGIN exceptions that leave a method, and their catching by the caller (launches without stack traces) ===== -/
section VXA
/-! The laws vx_back, vx_callV, vx_callS, vx_callSW, vx_throw0, vx_throwS follow proofs of the library, with one case more: JvmDerived/Free/Laws.lean (Back.of_free), Shelf42/LK1.lean (callV, callS), Shelf/KitTraced.lean (throwNew0V, throwNewS). -/
/-- where a method has thrown q: the class by its name, the cell, what was written, the world -/
def vx_T (XC : String → State → State → Prop) (st : State) (q : Addr) (t : State) (mc ms : Nat) (free : Addr → Prop) : Prop :=
  ∃ (E : String) (ce : Cell) (L : List Loc), XC E st t ∧ t.heap[q]? = some ce ∧ ce.vm = .none ∧ st.vm.findClass E = some ce.cls ∧ st.WarmedH t.vm ∧ st.sameButNew ({ t with vm := st.vm } : State) L mc ms ∧ ∀ z ∈ L, free z.base
def vx_Q (Qc : Array Value → State → Outcome → State → Prop) (XC : String → State → State → Prop) (mc ms : Nat) (free : Addr → Prop) : Array Value → State → Outcome → State → Prop := fun a st o t =>
  (Qc a st o t ∧ ∃ L, FrameEnd st o t L mc ms ∧ ∀ q ∈ L, free q.base) ∨ ∃ q, o = .threw q ∧ vx_T XC st q t mc ms free
/-- a callee that returns or throws -/
def vx_Met (l : Launch) (y : MethodName) (ws : List Cond) (rm : Room) (Pc : Array Value → State → Prop) (Qc : Array Value → State → Outcome → State → Prop) (XC : String → State → State → Prop) (mc ms : Nat) (free : Addr → Prop) : Prop :=
  MetFree l y (headSpec ws rm) Pc (fun _ _ _ _ _ => True) (vx_Q Qc XC mc ms free)
def vx_Post (XC : String → State → State → Prop) (mc ms : Nat) (free : Addr → Prop) : Pt → Array Value → Addr → Pt → Prop := fun A a q B =>
  ∃ (g : JFrame) (mk : MethodId) (t : State) (L : List Loc) (E : String) (ce : Cell), B.U.heap = t.heap ∧ B.U.vm = t.vm ∧ XC E (A.U.calling g mk a) t ∧ t.heap[q]? = some ce ∧ ce.vm = .none ∧ A.U.vm.findClass E = some ce.cls ∧ B.locs = A.locs ++ L ∧ (∀ z ∈ L, free z.base) ∧ B.cells = A.cells + mc ∧ B.slots = A.slots + ms
def vx_Back (l : Launch) (R : Room) (p : Program) (e : Env) (below : List Frame) (s : State) (sargs : Array Value) (y : MethodName) (len W9 : Nat)
    (Pre : Pt → Array Value → Prop) (Post : Pt → Array Value → Option Value → Pt → Prop) (PostX : Pt → Array Value → Addr → Pt → Prop) : Prop :=
  ∀ (m : MethodId) (meth : Method) (c : Code) (A : Pt) (g : JFrame) (ig : Instr) (mk : MethodId) (a : Array Value),
    Stand p l e R s m sargs below meth c A.U A.locs A.cells A.slots → g.method = m → g.locals.size = c.maxLocals → decode c.code g.pc = .ok (ig, len) →
    2 * g.monitorRoom + (g.stack.map fun v => v.category).sum ≤ W9 → A.U.methodNamed? y = some mk → Pre A a →
    (∃ (v : Option Value) (B : Pt), Stand p l e R s m sargs below meth c B.U B.locs B.cells B.slots ∧ Post A a v B ∧
      Steps p.tables e below (doInvoke e (A.U.setTop g) [] mk a).1 (B.U.setTop { g with pc := g.pc + len, stack := v.toList ++ g.stack })) ∨
    (∃ (q : Addr) (B : Pt), Stand p l e R s m sargs below meth c B.U B.locs B.cells B.slots ∧ PostX A a q B ∧
      Steps p.tables e below (doInvoke e (A.U.setTop g) [] mk a).1 ((B.U.setTop g).pushFrame (.throwing q)))
section Payer
variable {l : Launch} {R : Room} {p : Program} {e : Env} {below : List Frame} {s : State} {sargs : Array Value} {y : MethodName} {len W9 : Nat}
theorem vx_back {ws : List Cond} {rm : Room} {Pc : Array Value → State → Prop} {Qc : Array Value → State → Outcome → State → Prop} {XC : String → State → State → Prop} {mc ms : Nat} {free : Addr → Prop} {bytes : ByteArray} {maxL : Nat} {ret : Option FieldType}
    (hM : vx_Met l y ws rm Pc Qc XC mc ms free) (hblind : FrameBlind Pc) (hrc : rm.cells = mc) (hrs : rm.slots = ms)
    (hframes : rm.frames + 1 ≤ R.frames) (hlocals : W9 + (maxL + 11) + rm.locals ≤ R.locals)
    (hws : ∀ w ∈ ws, ∀ a' U, s.WarmedH U.vm → w.before a' U = true) (hcode : Cond.code y bytes maxL ret ∈ ws) (hinit : ∀ a' U, s.WarmedH U.vm → (Cond.initialized y.cls).before a' U = true) :
    vx_Back l R p e below s sargs y len W9 (PreOf R mc ms Pc) (PostOf Qc mc ms free) (vx_Post XC mc ms free) := by
  intro m meth c A g ig mk a X hg hsize hdg hW hn hp
  have h1 : (headSpec ws rm).pre.before a A.U = true := atoms_intro fun w hw => hws w hw _ _ X.warmed
  have h2 : (Cond.code y bytes maxL ret).before a A.U = true := hws _ hcode _ _ X.warmed
  have h3 : (Cond.initialized y.cls).before a A.U = true := hinit _ _ X.warmed
  have h4 : A.cells + (headSpec ws rm).room.cells ≤ R.cells := by rw [show (headSpec ws rm).room.cells = mc from hrc]; exact hp.1
  have h5 : A.slots + (headSpec ws rm).room.slots ≤ R.slots := by rw [show (headSpec ws rm).room.slots = ms from hrs]; exact hp.2.1
  have hPc : Pc a (A.U.calling g mk a) := hblind _ _ _ _ hp.2.2
  obtain ⟨U, Ls, c0, s0⟩ := A
  dsimp only [Pt.U, Pt.locs, Pt.cells, Pt.slots] at h1 h2 h3 h4 h5 X hn hPc ⊢
  obtain ⟨methY, cY, hmY, hcY, -, hlY, -, -, -, -⟩ := Cond.code_spec hn h2
  obtain ⟨kY, hkY, -⟩ := className_of_methodNamed hn
  have hinitY : kY.init = .initialized := Cond.initialized_spec (findClass_of_methodNamed hn) hkY h3
  have h : At U g.method c below := by rw [hg]; exact X.here
  have hlocals9 : W9 + (maxL + 11) + (headSpec ws rm).room.locals ≤ R.locals := hlocals
  have happ : (headSpec ws rm).appliesLoose y e.platform (U.calling g mk a) = true :=
    Spec.appliesLoose_calling (g := g) h hdg hn hkY hinitY
      (X.room_calling (g := g) (R' := (headSpec ws rm).room) hsize hmY hcY hframes (by rw [hlY]; omega) h4 h5) h1
  obtain ⟨mid, hmid⟩ := h.above
  have hfr : (U.setTop g).frames = (.java g :: mid) ++ below := by rw [State.frames_setTop' g h.top, hmid]; rfl
  obtain ⟨o, s₂, hsteps, -, hend, hq⟩ := Steps.callFree hM p X.admits X.cas X.clock (acts := []) hfr happ hPc trivial
  have hq' : vx_Q Qc XC mc ms free a (U.calling g mk a) o s₂ := hq
  rw [State.frames_setTop' g h.top] at hend
  obtain ⟨g₀, hg0⟩ := Option.isSome_iff_exists.mp h.top
  obtain ⟨r, hr⟩ := State.topJava?_eq_some.mp hg0
  have hr' : (({ U with heap := s₂.heap, slotsUsed := s₂.slotsUsed } : State).setVm s₂.vm).frames = .java g₀ :: r := hr
  rcases hq' with ⟨hqc, L, hfe, hL⟩ | ⟨q, rfl, E, ce, L, hx, hce, hcv, hcl, hW₂, hsm, hL⟩
  · obtain ⟨⟨v, rfl⟩, hW₂, e2, q2, q3, q4, q5, q6⟩ := id hfe
    have e3 : s₂ = ({ (U.calling g mk a).setFrames s₂.frames with heap := s₂.heap, slotsUsed := s₂.slotsUsed } : State).setVm s₂.vm := by
      have : s₂ = ({ s₂ with vm := (U.calling g mk a).vm } : State).setVm s₂.vm := rfl
      rw [e2] at this
      exact this
    obtain ⟨c₂, i₂, len₂, hc₂, hd₂, hf₂⟩ := hend
    have hW' : U.WarmedH s₂.vm := hW₂
    have hcc : c₂ = c := by
      have h1 : s₂.code? g.method = U.code? g.method := by
        rw [State.code?_eq, State.code?_eq, hW'.alike.method?]
      exact Option.some.inj (hc₂.symm.trans (h1.trans h.code))
    subst hcc
    have hlen : len₂ = len := by rw [hdg] at hd₂; cases hd₂; rfl
    subst hlen
    have hs₂ : s₂ = (({ U with heap := s₂.heap, slotsUsed := s₂.slotsUsed } : State).setVm s₂.vm).setTop { g with pc := g.pc + len₂, stack := v.toList ++ g.stack } := by
      refine e3.trans ?_
      rw [hf₂, State.calling_eq h.top, State.setFrames_setFrames, State.setTop_of_frames _ hr', hr]
      rfl
    have hsame : U.sameButNew ({ U with heap := s₂.heap, slotsUsed := s₂.slotsUsed } : State) L mc ms := by
      refine ⟨?_, q2, q3, q4, q5, q6⟩
      obtain ⟨t, ht, -⟩ := State.frames_cons hr
      show ({ U with heap := s₂.heap, slotsUsed := s₂.slotsUsed } : State) = { U.setFrames U.frames with heap := s₂.heap, slotsUsed := s₂.slotsUsed }
      rw [State.setFrames_self ht]
    subst hg
    refine Or.inl ⟨v, ⟨(({ U with heap := s₂.heap, slotsUsed := s₂.slotsUsed } : State).setVm s₂.vm), Ls ++ L, c0 + mc, s0 + ms⟩,
      ⟨X.admits, X.cas, X.clock, X.frames, X.room, X.hears, X.method, X.code, (X.here.setHeapUsed s₂.heap s₂.slotsUsed).setVm hW'.alike, X.tail, State.WarmedH.trans X.warmed hW', X.limits, X.bytes, X.same.trans (hsame.setVm s.vm)⟩,
      ⟨g, mk, s₂, L, rfl, rfl, hqc, rfl, hL, rfl, rfl⟩, ?_⟩
    show Steps p.tables e below _ ((({ U with heap := s₂.heap, slotsUsed := s₂.slotsUsed } : State).setVm s₂.vm).setTop { g with pc := g.pc + len₂, stack := v.toList ++ g.stack })
    rw [← hs₂]
    exact hsteps
  · obtain ⟨e2, q2, q3, q4, q5, q6⟩ := id hsm
    have e3 : s₂ = ({ (U.calling g mk a).setFrames s₂.frames with heap := s₂.heap, slotsUsed := s₂.slotsUsed } : State).setVm s₂.vm := by
      have : s₂ = ({ s₂ with vm := (U.calling g mk a).vm } : State).setVm s₂.vm := rfl
      rw [e2] at this
      exact this
    have hf₂ : s₂.frames = .throwing q :: .java g :: U.frames.tail := hend
    have hW' : U.WarmedH s₂.vm := hW₂
    have hs₂ : s₂ = ((({ U with heap := s₂.heap, slotsUsed := s₂.slotsUsed } : State).setVm s₂.vm).setTop g).pushFrame (.throwing q) := by
      refine e3.trans ?_
      rw [hf₂, State.calling_eq h.top, State.setFrames_setFrames, State.pushFrame, State.frames_setTop _ hr', State.setTop_of_frames _ hr', State.setFrames_setFrames, hr]
      rfl
    have hsame : U.sameButNew ({ U with heap := s₂.heap, slotsUsed := s₂.slotsUsed } : State) L mc ms := by
      refine ⟨?_, q2, q3, q4, q5, q6⟩
      obtain ⟨t, ht, -⟩ := State.frames_cons hr
      show ({ U with heap := s₂.heap, slotsUsed := s₂.slotsUsed } : State) = { U.setFrames U.frames with heap := s₂.heap, slotsUsed := s₂.slotsUsed }
      rw [State.setFrames_self ht]
    subst hg
    refine Or.inr ⟨q, ⟨(({ U with heap := s₂.heap, slotsUsed := s₂.slotsUsed } : State).setVm s₂.vm), Ls ++ L, c0 + mc, s0 + ms⟩,
      ⟨X.admits, X.cas, X.clock, X.frames, X.room, X.hears, X.method, X.code, (X.here.setHeapUsed s₂.heap s₂.slotsUsed).setVm hW'.alike, X.tail, State.WarmedH.trans X.warmed hW', X.limits, X.bytes, X.same.trans (hsame.setVm s.vm)⟩,
      ⟨g, mk, s₂, L, E, ce, rfl, rfl, hx, hce, hcv, hcl, rfl, hL, rfl, rfl⟩, ?_⟩
    show Steps p.tables e below _ (((({ U with heap := s₂.heap, slotsUsed := s₂.slotsUsed } : State).setVm s₂.vm).setTop g).pushFrame (.throwing q))
    rw [← hs₂]
    exact hsteps
end Payer
section Calls
variable {p : Program} {l : Launch} {e : Env} {R : Room} {s : State} {m : MethodId} {args : Array Value} {below : List Frame} {meth : Method} {c : Code} {T : State} {locs : List Loc} {cells slots : Nat}
theorem vx_callV (X : Stand p l e R s m args below meth c T locs cells slots) (hexec : p.tables.exec = Jvm.exec) {own C : String} {index : Nat} {y : MethodName} {bytes : ByteArray} {maxL : Nat} {ret : Option FieldType}
    (hown : s.vm.findClass own = some m.cls) (hlink : (Cond.methodLink own index y).before args s = true) (hinst : (Cond.instanceMethod y).before args s = true) (hsel : (Cond.selects C y y).before args s = true)
    (hcode : (Cond.code y bytes maxL ret).before args s = true) (hy : y.cls ≠ "java/lang/invoke/MethodHandle" ∧ y.cls ≠ "java/lang/invoke/VarHandle")
    {W9 : Nat} {Pre : Pt → Array Value → Prop} {Post : Pt → Array Value → Option Value → Pt → Prop} {PostX : Pt → Array Value → Addr → Pt → Prop} (hK : vx_Back l R p e below s args y 3 W9 Pre Post PostX)
    {b : Addr} {cellB : Cell} (hcell : T.heap[b]? = some cellB) (hobj : cellB.vm.isStatics = false) (hcls : s.vm.findClass C = some cellB.cls)
    {g : JFrame} (hg : g.method = m) (hsize : g.locals.size = c.maxLocals) {argsL rest : List Value} (hlen : ∀ sig, parseMethodDescriptor y.desc = some sig → argsL.length = sig.parameters.length)
    (hstack : g.stack = argsL.reverse ++ .ref b :: rest) (hW : 2 * g.monitorRoom + (rest.map fun v => v.category).sum ≤ W9) (hdg : decode c.code g.pc = .ok (.invokevirtual index, 3))
    (hpre : ∀ vm₁, s.WarmedH vm₁ → Pre ⟨T.setVm vm₁, locs, cells, slots⟩ (Value.ref b :: argsL).toArray) :
    (∃ (v : Option Value) (vm₁ : Vm) (B : Pt), s.WarmedH vm₁ ∧ Stand p l e R s m args below meth c B.U B.locs B.cells B.slots ∧ Post ⟨T.setVm vm₁, locs, cells, slots⟩ (Value.ref b :: argsL).toArray v B ∧
      ∀ target, Steps p.tables e below (B.U.setTop { g with pc := g.pc + 3, stack := v.toList ++ rest }) target → Steps p.tables e below (T.setTop g) target) ∨
    (∃ (q : Addr) (vm₁ : Vm) (B : Pt), s.WarmedH vm₁ ∧ Stand p l e R s m args below meth c B.U B.locs B.cells B.slots ∧ PostX ⟨T.setVm vm₁, locs, cells, slots⟩ (Value.ref b :: argsL).toArray q B ∧
      Steps p.tables e below (T.setTop g) ((B.U.setTop { g with stack := rest }).pushFrame (.throwing q))) := by
  obtain ⟨mk, methM, hnamed, hmethM, hstM, habM⟩ := Cond.instanceMethod_spec hinst
  obtain ⟨methM', cM, hmethM', -, -, -, -, -, -, hsigM⟩ := Cond.code_spec hnamed hcode
  cases hmethM.symm.trans hmethM'
  obtain ⟨c2, r2, m2, q1, q2, q3, q4, kP, hkP, hkPi⟩ := Cond.selects_spec hsel
  cases hcls.symm.trans q1
  cases (State.methodFound?_of_named hnamed hy).symm.trans q2
  cases hnamed.symm.trans q3
  have hselP : selectMethod e.platform s.vm cellB.cls mk = .method mk := by rw [Launch.admits_selectMethod X.admits]; exact q4
  obtain ⟨vm₁, X₁, hstep₁⟩ := X.invokevirtual hexec hown hlink hnamed hmethM hstM hkP hkPi hy (a := b) (cell := cellB) hcell
    (fun z h => by rw [h] at hobj; cases hobj) hselP hmethM habM hkP hkPi (g := g) hg (argsL := argsL) (rest := rest) (hlen _ hsigM) hstack hdg
  rcases hK m meth c ⟨T.setVm vm₁, locs, cells, slots⟩ { g with stack := rest } (.invokevirtual index) mk (Value.ref b :: argsL).toArray X₁ hg hsize hdg hW (X₁.named hnamed) (hpre vm₁ X₁.warmed) with ⟨v, B, X', hpost, hsteps⟩ | ⟨q, B, X', hpost, hsteps⟩
  · exact Or.inl ⟨v, vm₁, B, X₁.warmed, X', hpost, fun target h => hstep₁ _ fun acts => by rw [doInvoke_state]; exact hsteps.trans h⟩
  · exact Or.inr ⟨q, vm₁, B, X₁.warmed, X', hpost, hstep₁ _ fun acts => by rw [doInvoke_state]; exact hsteps⟩
theorem vx_callS (X : Stand p l e R s m args below meth c T locs cells slots) (hexec : p.tables.exec = Jvm.exec) {own : String} {index : Nat} {y : MethodName} {bytes : ByteArray} {maxL : Nat} {ret : Option FieldType}
    (hown : s.vm.findClass own = some m.cls) (hlink : (Cond.methodLink own index y).before args s = true) (hstat : (Cond.static y).before args s = true) (hinit : (Cond.initialized y.cls).before args s = true)
    (hcode : (Cond.code y bytes maxL ret).before args s = true) (hy : y.cls ≠ "java/lang/invoke/MethodHandle" ∧ y.cls ≠ "java/lang/invoke/VarHandle")
    {W9 : Nat} {Pre : Pt → Array Value → Prop} {Post : Pt → Array Value → Option Value → Pt → Prop} {PostX : Pt → Array Value → Addr → Pt → Prop} (hK : vx_Back l R p e below s args y 3 W9 Pre Post PostX)
    {g : JFrame} (hg : g.method = m) (hsize : g.locals.size = c.maxLocals) {argsL rest : List Value} (hlen : ∀ sig, parseMethodDescriptor y.desc = some sig → argsL.length = sig.parameters.length)
    (hstack : g.stack = argsL.reverse ++ rest) (hW : 2 * g.monitorRoom + (rest.map fun v => v.category).sum ≤ W9) (hdg : decode c.code g.pc = .ok (.invokestatic index, 3))
    (hpre : ∀ vm₁, s.WarmedH vm₁ → Pre ⟨T.setVm vm₁, locs, cells, slots⟩ argsL.toArray) :
    (∃ (v : Option Value) (vm₁ : Vm) (B : Pt), s.WarmedH vm₁ ∧ Stand p l e R s m args below meth c B.U B.locs B.cells B.slots ∧ Post ⟨T.setVm vm₁, locs, cells, slots⟩ argsL.toArray v B ∧
      ∀ target, Steps p.tables e below (B.U.setTop { g with pc := g.pc + 3, stack := v.toList ++ rest }) target → Steps p.tables e below (T.setTop g) target) ∨
    (∃ (q : Addr) (vm₁ : Vm) (B : Pt), s.WarmedH vm₁ ∧ Stand p l e R s m args below meth c B.U B.locs B.cells B.slots ∧ PostX ⟨T.setVm vm₁, locs, cells, slots⟩ argsL.toArray q B ∧
      Steps p.tables e below (T.setTop g) ((B.U.setTop { g with stack := rest }).pushFrame (.throwing q))) := by
  obtain ⟨mk, hnamed⟩ := Cond.code_named hcode
  obtain ⟨methM, cM, hmethM, -, -, -, -, -, -, hsigM⟩ := Cond.code_spec hnamed hcode
  have hstatic : methM.isStatic = true := Cond.static_spec hnamed hmethM hstat
  obtain ⟨kP, hkP, -⟩ := className_of_methodNamed hnamed
  have hinitP : kP.init = .initialized := Cond.initialized_spec (findClass_of_methodNamed hnamed) hkP hinit
  obtain ⟨vm₁, X₁, hstep₁⟩ := X.invokestatic hexec hown hlink hnamed hmethM hstatic hkP hinitP hy (g := g) hg (argsL := argsL) (rest := rest) (hlen _ hsigM) hstack hdg
  rcases hK m meth c ⟨T.setVm vm₁, locs, cells, slots⟩ { g with stack := rest } (.invokestatic index) mk argsL.toArray X₁ hg hsize hdg hW (X₁.named hnamed) (hpre vm₁ X₁.warmed) with ⟨v, B, X', hpost, hsteps⟩ | ⟨q, B, X', hpost, hsteps⟩
  · exact Or.inl ⟨v, vm₁, B, X₁.warmed, X', hpost, fun target h => hstep₁ _ fun acts => by rw [doInvoke_state]; exact hsteps.trans h⟩
  · exact Or.inr ⟨q, vm₁, B, X₁.warmed, X', hpost, hstep₁ _ fun acts => by rw [doInvoke_state]; exact hsteps⟩
end Calls
theorem vx_cls {s : State} {T : State} {vm₁ : Vm} {E : String} {k : ClassId} (hW : s.WarmedH vm₁) (h : (T.setVm vm₁).vm.findClass E = some k) : s.vm.findClass E = some k := by
  have h1 : vm₁.findClass E = some k := h
  rw [hW.alike.findClass] at h1
  exact h1
/-- the method's frame g, with q thrown over it -/
def vx_W (p : Program) (l : Launch) (e : Env) (R : Room) (s : State) (m : MethodId) (args : Array Value) (below : List Frame) (meth : Method) (c : Code) (H : Heap) (locs : List Loc) (cells slots : Nat) (Q : State → Prop) (g : JFrame) (q : Addr) : Prop :=
  ∀ T : State, T.heap = H → Stand p l e R s m args below meth c T locs cells slots → ∃ t, Steps p.tables e below ((T.setTop g).pushFrame (.throwing q)) t ∧ Q t
def vx_Run (p : Program) (l : Launch) (e : Env) (R : Room) (s : State) (m : MethodId) (args : Array Value) (below : List Frame) (meth : Method) (c : Code) (H : Heap) (locs : List Loc) (cells slots mc ms : Nat) (g : JFrame) (rest : List Value) (Qa : State → Outcome → State → Prop) (XC : String → State → State → Prop) (free : Addr → Prop) : Prop :=
  ∀ T : State, T.heap = H → Stand p l e R s m args below meth c T locs cells slots →
    (∃ (v : Option Value) (st₀ t T' : State) (L : List Loc), st₀.heap = H ∧ Stand p l e R s m args below meth c T' (locs ++ L) (cells + mc) (slots + ms) ∧ (∀ q ∈ L, free q.base) ∧ T'.heap = t.heap ∧ T'.vm = t.vm ∧ Qa st₀ (.returned v) t ∧
      Goes p e below T g T' { g with pc := g.pc + 3, stack := v.toList ++ rest }) ∨
    (∃ (q : Addr) (st₀ t T' : State) (L : List Loc) (E : String) (ce : Cell), st₀.heap = H ∧ Stand p l e R s m args below meth c T' (locs ++ L) (cells + mc) (slots + ms) ∧ (∀ z ∈ L, free z.base) ∧ T'.heap = t.heap ∧ T'.vm = t.vm ∧ XC E st₀ t ∧ t.heap[q]? = some ce ∧ ce.vm = .none ∧ s.vm.findClass E = some ce.cls ∧
      Steps p.tables e below (T.setTop g) ((T'.setTop { g with stack := rest }).pushFrame (.throwing q)))
def vx_X {S : Type} (px : S → Prop) (B : String → S → State → Prop) (A : Nat → Prop) : String → State → State → Prop := fun E st t => ∃ u : S, px u ∧ B E u t ∧ va_F A st t
section Runs
variable {p : Program} {l : Launch} {e : Env} {R : Room} {s : State} {m : MethodId} {args : Array Value} {below : List Frame} {meth : Method} {c : Code} {H : Heap} {locs : List Loc} {cells slots : Nat}
variable {y : MethodName} {bytes cc : ByteArray} {maxL nL mc ms n index : Nat} {ret : Option FieldType} {ws : List Cond} {rm : Room} {Pc : Array Value → State → Prop} {Qc : Array Value → State → Outcome → State → Prop} {XC : String → State → State → Prop} {free : Addr → Prop} {Ts : List Cond} {own C : String} {b : Addr} {As rest : List Value} {g : JFrame}
theorem vx_callBack (cb : CallB R s args own index y bytes maxL ret ws rm mc ms n) (hM : vx_Met l y ws rm Pc Qc XC mc ms free) (hbl : FrameBlind Pc) : vx_Back l R p e below s args y 3 8 (PreOf R mc ms Pc) (PostOf Qc mc ms free) (vx_Post XC mc ms free) := by
  obtain ⟨hrc, hrs, hfr, hlo, hws, hcw, -, hini, -⟩ := cb
  exact vx_back (bytes := bytes) (maxL := maxL) (ret := ret) hM hbl hrc hrs hfr hlo hws hcw (fun a' U hW => word_at hW (Or.inl (by first | rfl | simp [Cond.onTables, Cond.keeps, Cond.steady])) hini)
theorem vx_runV (S : CallFix p m c cc nL s args Ts own) (hM : vx_Met l y ws rm Pc Qc XC mc ms free) (cw : CallW R s args own C index y bytes maxL ret ws rm mc ms n) (hp : PreV s H C b Pc As)
    (hg : g.method = m) (hn : As.length = n) (hsize : g.locals.size = nL) (hstack : g.stack = As.reverse ++ .ref b :: rest) (hW : 2 * g.monitorRoom + (rest.map fun v => v.category).sum ≤ 8) (hdg : decode cc g.pc = .ok (.invokevirtual index, 3)) (hf : cells + mc ≤ R.cells ∧ slots + ms ≤ R.slots) :
    vx_Run p l e R s m args below meth c H locs cells slots mc ms g rest (Qc (Value.ref b :: As).toArray) XC free := by
  have hK : vx_Back l R p e below s args y 3 8 (PreOf R mc ms Pc) (PostOf Qc mc ms free) (vx_Post XC mc ms free) := vx_callBack cw.1 hM hp.1
  obtain ⟨⟨-, -, -, -, -, -, hcode, -, hy, hlen, hl⟩, hin, hse⟩ := cw
  obtain ⟨hx, hb, hml, ho, -⟩ := S
  obtain ⟨-, ⟨cellB, hcB, hoB, hclB⟩, hPc⟩ := hp
  intro T hT X
  rcases vx_callV X hx (C := C) (bytes := bytes) (maxL := maxL) (ret := ret) ho hl hin hse hcode hy hK (by rw [hT]; exact hcB) hoB hclB hg (hsize.trans hml.symm) (argsL := As) (rest := rest) (fun sig h => hn.trans (hlen sig h)) hstack hW (by rw [hb]; exact hdg)
    (fun vm₁ hW₁ => ⟨hf.1, hf.2, hPc (T.setVm vm₁) hT hW₁⟩) with ⟨v, vm₁, ⟨U', l2, c2, s2⟩, hW₁, X', ⟨g', mk, t, L, e1, e2, hq, h1, hL, h2, h3⟩, st⟩ | ⟨q, vm₁, ⟨U', l2, c2, s2⟩, hW₁, X', ⟨g', mk, t, L, E, ce, e1, e2, hq, hce, hcv, hcl, h1, hL, h2, h3⟩, st⟩
  · dsimp only [Pt.U, Pt.locs, Pt.cells, Pt.slots] at X' e1 e2 h1 h2 h3 st
    subst h1; subst h2; subst h3
    exact Or.inl ⟨v, (T.setVm vm₁).calling g' mk (Value.ref b :: As).toArray, t, U', L, hT, X', hL, e1, e2, hq, st⟩
  · dsimp only [Pt.U, Pt.locs, Pt.cells, Pt.slots] at X' e1 e2 h1 h2 h3 st hcl
    subst h1; subst h2; subst h3
    exact Or.inr ⟨q, (T.setVm vm₁).calling g' mk (Value.ref b :: As).toArray, t, U', L, E, ce, hT, X', hL, e1, e2, hq, hce, hcv, vx_cls hW₁ hcl, st⟩
theorem vx_runS (S : CallFix p m c cc nL s args Ts own) (hM : vx_Met l y ws rm Pc Qc XC mc ms free) (cw : CallB R s args own index y bytes maxL ret ws rm mc ms n ∧ (Cond.static y).before args s = true) (hp : PreS s H Pc As)
    (hg : g.method = m) (hn : As.length = n) (hsize : g.locals.size = nL) (hstack : g.stack = As.reverse ++ rest) (hW : 2 * g.monitorRoom + (rest.map fun v => v.category).sum ≤ 8) (hdg : decode cc g.pc = .ok (.invokestatic index, 3)) (hf : cells + mc ≤ R.cells ∧ slots + ms ≤ R.slots) :
    vx_Run p l e R s m args below meth c H locs cells slots mc ms g rest (Qc As.toArray) XC free := by
  have hK : vx_Back l R p e below s args y 3 8 (PreOf R mc ms Pc) (PostOf Qc mc ms free) (vx_Post XC mc ms free) := vx_callBack cw.1 hM hp.1
  obtain ⟨⟨-, -, -, -, -, -, hcode, hini, hy, hlen, hl⟩, hstt⟩ := cw
  obtain ⟨hx, hb, hml, ho, -⟩ := S
  intro T hT X
  rcases vx_callS X hx (bytes := bytes) (maxL := maxL) (ret := ret) ho hl hstt hini hcode hy hK hg (hsize.trans hml.symm) (argsL := As) (rest := rest) (fun sig h => hn.trans (hlen sig h)) hstack hW (by rw [hb]; exact hdg)
    (fun vm₁ hW₁ => ⟨hf.1, hf.2, hp.2 (T.setVm vm₁) hT hW₁⟩) with ⟨v, vm₁, ⟨U', l2, c2, s2⟩, hW₁, X', ⟨g', mk, t, L, e1, e2, hq, h1, hL, h2, h3⟩, st⟩ | ⟨q, vm₁, ⟨U', l2, c2, s2⟩, hW₁, X', ⟨g', mk, t, L, E, ce, e1, e2, hq, hce, hcv, hcl, h1, hL, h2, h3⟩, st⟩
  · dsimp only [Pt.U, Pt.locs, Pt.cells, Pt.slots] at X' e1 e2 h1 h2 h3 st
    subst h1; subst h2; subst h3
    exact Or.inl ⟨v, (T.setVm vm₁).calling g' mk As.toArray, t, U', L, hT, X', hL, e1, e2, hq, st⟩
  · dsimp only [Pt.U, Pt.locs, Pt.cells, Pt.slots] at X' e1 e2 h1 h2 h3 st hcl
    subst h1; subst h2; subst h3
    exact Or.inr ⟨q, (T.setVm vm₁).calling g' mk As.toArray, t, U', L, E, ce, hT, X', hL, e1, e2, hq, hce, hcv, vx_cls hW₁ hcl, st⟩
end Runs
section Rows
variable {p : Program} {l : Launch} {e : Env} {R : Room} {s : State} {m : MethodId} {args : Array Value} {below : List Frame} {meth : Method} {c : Code} {H : Heap} {locs : List Loc} {cells slots : Nat} {Q : State → Prop}
variable {mc ms : Nat} {free : Addr → Prop} {A0 A1 : Nat → Prop} {H0 : Heap} {a : Array Value} {pc : Nat} {ls : Array Slot} {st0 rest : List Value}
theorem vx_keep {st₀ t T' : State} {L : List Loc} (h0 : st₀.heap = H) (e1 : T'.heap = t.heap) (hS : va_S A0 H0 H locs) (hA : ∀ q, q < H.size → A1 q → A0 q) (hf : ∀ q, free q → A0 q) (hL : ∀ q ∈ L, free q.base) (hF : va_F A1 st₀ t) :
    H.size ≤ T'.heap.size ∧ (∀ q : Nat, q < H.size → ¬ A1 q → T'.heap[q]? = H[q]?) ∧ va_S A0 H0 T'.heap (locs ++ L) := by
  obtain ⟨hz, hk⟩ := hF
  rw [h0] at hz hk
  exact ⟨by rw [e1]; exact hz, fun q h1 h2 => by rw [e1]; exact hk q h1 h2,
    ⟨Nat.le_trans hS.1 (by rw [e1]; exact hz), fun q h1 h2 => by rw [e1, hk q (Nat.lt_of_lt_of_le h1 hS.1) (fun z => h2 (hA q (Nat.lt_of_lt_of_le h1 hS.1) z))]; exact hS.2.1 q h1 h2, fun q hq => by
      rcases List.mem_append.mp hq with h | h
      · exact hS.2.2 q h
      · exact hf _ (hL q h)⟩⟩
theorem vx_calli {S SX : Type} {post : Int32 → S → Prop} {px : SX → Prop} {B : S → State → Prop} {BX : String → SX → State → Prop} {AX : Nat → Prop} (hr : vx_Run p l e R s m args below meth c H locs cells slots mc ms (F0 m pc ls st0) rest (va_Qi post B A1 a) (vx_X px BX AX) free) (hS : va_S A0 H0 H locs) (hA : ∀ q, q < H.size → A1 q → A0 q) (hf : ∀ q, free q → A0 q) (hAX : ∀ q, q < H.size → AX q → A0 q)
    (kx : ∀ (E : String) (ce : Cell) (q9 : Addr) (u : SX) (t : State) (H1 : Heap) (locs1 : List Loc), t.heap = H1 → s.vm.Alike t.vm → px u → BX E u t → H.size ≤ H1.size → (∀ q : Nat, q < H.size → ¬ AX q → H1[q]? = H[q]?) → va_S A0 H0 H1 locs1 → H1[q9]? = some ce → ce.vm = .none → s.vm.findClass E = some ce.cls → vx_W p l e R s m args below meth c H1 locs1 (cells + mc) (slots + ms) Q (F0 m pc ls rest) q9)
    (kk : ∀ (r : Int32) (u : S) (t : State) (H1 : Heap) (locs1 : List Loc), t.heap = H1 → s.vm.Alike t.vm → post r u → B u t → H.size ≤ H1.size → (∀ q : Nat, q < H.size → ¬ A1 q → H1[q]? = H[q]?) → va_S A0 H0 H1 locs1 → W p l e R s m args below meth c H1 locs1 (cells + mc) (slots + ms) Q (F0 m (pc + 3) ls (.int r :: rest))) : W p l e R s m args below meth c H locs cells slots Q (F0 m pc ls st0) := by
  intro T hT X
  rcases hr T hT X with ⟨v, st₀, t, T', L, h0, X', hL, e1, e2, ⟨⟨r, u, hv, hp, hb⟩, hF⟩, st⟩ | ⟨q, st₀, t, T', L, E, ce, h0, X', hL, e1, e2, ⟨u, hp, hb, hF⟩, hce, hcv, hcl, st⟩
  · cases hv
    obtain ⟨k1, k2, k3⟩ := vx_keep h0 e1 hS hA hf hL hF
    obtain ⟨t2, a1, b1⟩ := kk r u t T'.heap (locs ++ L) e1.symm (by rw [← e2]; exact X'.warmed.alike) hp hb k1 k2 k3 T' rfl X'
    exact ⟨t2, st t2 a1, b1⟩
  · obtain ⟨k1, k2, k3⟩ := vx_keep h0 e1 hS hAX hf hL hF
    obtain ⟨t2, a1, b1⟩ := kx E ce q u t T'.heap (locs ++ L) e1.symm (by rw [← e2]; exact X'.warmed.alike) hp hb k1 k2 k3 (by rw [e1]; exact hce) hcv hcl T' rfl X'
    exact ⟨t2, st.trans a1, b1⟩
theorem vx_calll {S SX : Type} {post : Int64 → S → Prop} {px : SX → Prop} {B : S → State → Prop} {BX : String → SX → State → Prop} {AX : Nat → Prop} (hr : vx_Run p l e R s m args below meth c H locs cells slots mc ms (F0 m pc ls st0) rest (va_Ql post B A1 a) (vx_X px BX AX) free) (hS : va_S A0 H0 H locs) (hA : ∀ q, q < H.size → A1 q → A0 q) (hf : ∀ q, free q → A0 q) (hAX : ∀ q, q < H.size → AX q → A0 q)
    (kx : ∀ (E : String) (ce : Cell) (q9 : Addr) (u : SX) (t : State) (H1 : Heap) (locs1 : List Loc), t.heap = H1 → s.vm.Alike t.vm → px u → BX E u t → H.size ≤ H1.size → (∀ q : Nat, q < H.size → ¬ AX q → H1[q]? = H[q]?) → va_S A0 H0 H1 locs1 → H1[q9]? = some ce → ce.vm = .none → s.vm.findClass E = some ce.cls → vx_W p l e R s m args below meth c H1 locs1 (cells + mc) (slots + ms) Q (F0 m pc ls rest) q9)
    (kk : ∀ (r : Int64) (u : S) (t : State) (H1 : Heap) (locs1 : List Loc), t.heap = H1 → s.vm.Alike t.vm → post r u → B u t → H.size ≤ H1.size → (∀ q : Nat, q < H.size → ¬ A1 q → H1[q]? = H[q]?) → va_S A0 H0 H1 locs1 → W p l e R s m args below meth c H1 locs1 (cells + mc) (slots + ms) Q (F0 m (pc + 3) ls (.long r :: rest))) : W p l e R s m args below meth c H locs cells slots Q (F0 m pc ls st0) := by
  intro T hT X
  rcases hr T hT X with ⟨v, st₀, t, T', L, h0, X', hL, e1, e2, ⟨⟨r, u, hv, hp, hb⟩, hF⟩, st⟩ | ⟨q, st₀, t, T', L, E, ce, h0, X', hL, e1, e2, ⟨u, hp, hb, hF⟩, hce, hcv, hcl, st⟩
  · cases hv
    obtain ⟨k1, k2, k3⟩ := vx_keep h0 e1 hS hA hf hL hF
    obtain ⟨t2, a1, b1⟩ := kk r u t T'.heap (locs ++ L) e1.symm (by rw [← e2]; exact X'.warmed.alike) hp hb k1 k2 k3 T' rfl X'
    exact ⟨t2, st t2 a1, b1⟩
  · obtain ⟨k1, k2, k3⟩ := vx_keep h0 e1 hS hAX hf hL hF
    obtain ⟨t2, a1, b1⟩ := kx E ce q u t T'.heap (locs ++ L) e1.symm (by rw [← e2]; exact X'.warmed.alike) hp hb k1 k2 k3 (by rw [e1]; exact hce) hcv hcl T' rfl X'
    exact ⟨t2, st.trans a1, b1⟩
theorem vx_callf {S SX : Type} {post : UInt32 → S → Prop} {px : SX → Prop} {B : S → State → Prop} {BX : String → SX → State → Prop} {AX : Nat → Prop} (hr : vx_Run p l e R s m args below meth c H locs cells slots mc ms (F0 m pc ls st0) rest (va_Qf post B A1 a) (vx_X px BX AX) free) (hS : va_S A0 H0 H locs) (hA : ∀ q, q < H.size → A1 q → A0 q) (hf : ∀ q, free q → A0 q) (hAX : ∀ q, q < H.size → AX q → A0 q)
    (kx : ∀ (E : String) (ce : Cell) (q9 : Addr) (u : SX) (t : State) (H1 : Heap) (locs1 : List Loc), t.heap = H1 → s.vm.Alike t.vm → px u → BX E u t → H.size ≤ H1.size → (∀ q : Nat, q < H.size → ¬ AX q → H1[q]? = H[q]?) → va_S A0 H0 H1 locs1 → H1[q9]? = some ce → ce.vm = .none → s.vm.findClass E = some ce.cls → vx_W p l e R s m args below meth c H1 locs1 (cells + mc) (slots + ms) Q (F0 m pc ls rest) q9)
    (kk : ∀ (r : UInt32) (u : S) (t : State) (H1 : Heap) (locs1 : List Loc), t.heap = H1 → s.vm.Alike t.vm → post r u → B u t → H.size ≤ H1.size → (∀ q : Nat, q < H.size → ¬ A1 q → H1[q]? = H[q]?) → va_S A0 H0 H1 locs1 → W p l e R s m args below meth c H1 locs1 (cells + mc) (slots + ms) Q (F0 m (pc + 3) ls (.float r :: rest))) : W p l e R s m args below meth c H locs cells slots Q (F0 m pc ls st0) := by
  intro T hT X
  rcases hr T hT X with ⟨v, st₀, t, T', L, h0, X', hL, e1, e2, ⟨⟨r, u, hv, hp, hb⟩, hF⟩, st⟩ | ⟨q, st₀, t, T', L, E, ce, h0, X', hL, e1, e2, ⟨u, hp, hb, hF⟩, hce, hcv, hcl, st⟩
  · cases hv
    obtain ⟨k1, k2, k3⟩ := vx_keep h0 e1 hS hA hf hL hF
    obtain ⟨t2, a1, b1⟩ := kk r u t T'.heap (locs ++ L) e1.symm (by rw [← e2]; exact X'.warmed.alike) hp hb k1 k2 k3 T' rfl X'
    exact ⟨t2, st t2 a1, b1⟩
  · obtain ⟨k1, k2, k3⟩ := vx_keep h0 e1 hS hAX hf hL hF
    obtain ⟨t2, a1, b1⟩ := kx E ce q u t T'.heap (locs ++ L) e1.symm (by rw [← e2]; exact X'.warmed.alike) hp hb k1 k2 k3 (by rw [e1]; exact hce) hcv hcl T' rfl X'
    exact ⟨t2, st.trans a1, b1⟩
theorem vx_calld {S SX : Type} {post : UInt64 → S → Prop} {px : SX → Prop} {B : S → State → Prop} {BX : String → SX → State → Prop} {AX : Nat → Prop} (hr : vx_Run p l e R s m args below meth c H locs cells slots mc ms (F0 m pc ls st0) rest (va_Qd post B A1 a) (vx_X px BX AX) free) (hS : va_S A0 H0 H locs) (hA : ∀ q, q < H.size → A1 q → A0 q) (hf : ∀ q, free q → A0 q) (hAX : ∀ q, q < H.size → AX q → A0 q)
    (kx : ∀ (E : String) (ce : Cell) (q9 : Addr) (u : SX) (t : State) (H1 : Heap) (locs1 : List Loc), t.heap = H1 → s.vm.Alike t.vm → px u → BX E u t → H.size ≤ H1.size → (∀ q : Nat, q < H.size → ¬ AX q → H1[q]? = H[q]?) → va_S A0 H0 H1 locs1 → H1[q9]? = some ce → ce.vm = .none → s.vm.findClass E = some ce.cls → vx_W p l e R s m args below meth c H1 locs1 (cells + mc) (slots + ms) Q (F0 m pc ls rest) q9)
    (kk : ∀ (r : UInt64) (u : S) (t : State) (H1 : Heap) (locs1 : List Loc), t.heap = H1 → s.vm.Alike t.vm → post r u → B u t → H.size ≤ H1.size → (∀ q : Nat, q < H.size → ¬ A1 q → H1[q]? = H[q]?) → va_S A0 H0 H1 locs1 → W p l e R s m args below meth c H1 locs1 (cells + mc) (slots + ms) Q (F0 m (pc + 3) ls (.double r :: rest))) : W p l e R s m args below meth c H locs cells slots Q (F0 m pc ls st0) := by
  intro T hT X
  rcases hr T hT X with ⟨v, st₀, t, T', L, h0, X', hL, e1, e2, ⟨⟨r, u, hv, hp, hb⟩, hF⟩, st⟩ | ⟨q, st₀, t, T', L, E, ce, h0, X', hL, e1, e2, ⟨u, hp, hb, hF⟩, hce, hcv, hcl, st⟩
  · cases hv
    obtain ⟨k1, k2, k3⟩ := vx_keep h0 e1 hS hA hf hL hF
    obtain ⟨t2, a1, b1⟩ := kk r u t T'.heap (locs ++ L) e1.symm (by rw [← e2]; exact X'.warmed.alike) hp hb k1 k2 k3 T' rfl X'
    exact ⟨t2, st t2 a1, b1⟩
  · obtain ⟨k1, k2, k3⟩ := vx_keep h0 e1 hS hAX hf hL hF
    obtain ⟨t2, a1, b1⟩ := kx E ce q u t T'.heap (locs ++ L) e1.symm (by rw [← e2]; exact X'.warmed.alike) hp hb k1 k2 k3 (by rw [e1]; exact hce) hcv hcl T' rfl X'
    exact ⟨t2, st.trans a1, b1⟩
theorem vx_callv {S SX : Type} {post : S → Prop} {px : SX → Prop} {B : S → State → Prop} {BX : String → SX → State → Prop} {AX : Nat → Prop} (hr : vx_Run p l e R s m args below meth c H locs cells slots mc ms (F0 m pc ls st0) rest (va_Qv post B A1 a) (vx_X px BX AX) free) (hS : va_S A0 H0 H locs) (hA : ∀ q, q < H.size → A1 q → A0 q) (hf : ∀ q, free q → A0 q) (hAX : ∀ q, q < H.size → AX q → A0 q)
    (kx : ∀ (E : String) (ce : Cell) (q9 : Addr) (u : SX) (t : State) (H1 : Heap) (locs1 : List Loc), t.heap = H1 → s.vm.Alike t.vm → px u → BX E u t → H.size ≤ H1.size → (∀ q : Nat, q < H.size → ¬ AX q → H1[q]? = H[q]?) → va_S A0 H0 H1 locs1 → H1[q9]? = some ce → ce.vm = .none → s.vm.findClass E = some ce.cls → vx_W p l e R s m args below meth c H1 locs1 (cells + mc) (slots + ms) Q (F0 m pc ls rest) q9)
    (kk : ∀ (u : S) (t : State) (H1 : Heap) (locs1 : List Loc), t.heap = H1 → s.vm.Alike t.vm → post u → B u t → H.size ≤ H1.size → (∀ q : Nat, q < H.size → ¬ A1 q → H1[q]? = H[q]?) → va_S A0 H0 H1 locs1 → W p l e R s m args below meth c H1 locs1 (cells + mc) (slots + ms) Q (F0 m (pc + 3) ls (rest))) : W p l e R s m args below meth c H locs cells slots Q (F0 m pc ls st0) := by
  intro T hT X
  rcases hr T hT X with ⟨v, st₀, t, T', L, h0, X', hL, e1, e2, ⟨⟨u, hv, hp, hb⟩, hF⟩, st⟩ | ⟨q, st₀, t, T', L, E, ce, h0, X', hL, e1, e2, ⟨u, hp, hb, hF⟩, hce, hcv, hcl, st⟩
  · cases hv
    obtain ⟨k1, k2, k3⟩ := vx_keep h0 e1 hS hA hf hL hF
    obtain ⟨t2, a1, b1⟩ := kk u t T'.heap (locs ++ L) e1.symm (by rw [← e2]; exact X'.warmed.alike) hp hb k1 k2 k3 T' rfl X'
    exact ⟨t2, st t2 a1, b1⟩
  · obtain ⟨k1, k2, k3⟩ := vx_keep h0 e1 hS hAX hf hL hF
    obtain ⟨t2, a1, b1⟩ := kx E ce q u t T'.heap (locs ++ L) e1.symm (by rw [← e2]; exact X'.warmed.alike) hp hb k1 k2 k3 (by rw [e1]; exact hce) hcv hcl T' rfl X'
    exact ⟨t2, st.trans a1, b1⟩
/-- caught by the row x of this method's table; the rows ahead don't take it -/
theorem vx_catch {own name : String} {E : String} {ce : Cell} {q : Addr} (hown : s.vm.findClass own = some m.cls) (pre : List ExceptionTableEntry) (x : ExceptionTableEntry) (suf : List ExceptionTableEntry) (hsplit : c.exceptionTable.toList = pre ++ x :: suf)
    (hpass : ∀ z ∈ pre, covers z pc = false ∨ (z.catchType ≠ 0 ∧ ∃ nm : String, (Cond.classLink own z.catchType nm).before args s = true ∧ va_Nc E nm s)) (hx : covers x pc = true) (h0 : x.catchType ≠ 0)
    (hlink : (Cond.classLink own x.catchType name).before args s = true) (hcast : (Cond.castable E name).before args s = true) (hcell : H[q]? = some ce) (hv : ce.vm = .none) (hcl : s.vm.findClass E = some ce.cls)
    (kk : W p l e R s m args below meth c H locs cells slots Q (F0 m x.handlerPc ls [.ref q])) : vx_W p l e R s m args below meth c H locs cells slots Q (F0 m pc ls rest) q := by
  intro T hT X
  have hpl : e.platform.magicAccessors = ({} : Platform).magicAccessors := by rw [X.admits.platform]
  obtain ⟨c3, c4, hc3, hc4, hasg⟩ := Cond.castable_spec hcast
  cases Option.some.inj (hc3.symm.trans hcl)
  obtain ⟨c5, hc5, hcl5⟩ := Cond.classLink_spec hown hlink e.platform hpl
  cases Option.some.inj (hc4.symm.trans hc5)
  obtain ⟨vm', X', st⟩ := X.thenCaughtThrough q (g := F0 m pc ls rest) rfl (Steps.refl _) (by rw [hT]; exact hcell) (by rw [hv]; rfl) (by obtain ⟨k9, h9, -⟩ := Vm.findClass_spec hcl; exact ⟨k9, h9⟩) pre x suf hsplit
    (fun z hz => by
      rcases hpass z hz with h | ⟨hz0, nm, hl1, hn1⟩
      · exact Or.inl h
      · obtain ⟨c6, hc6, hcl6⟩ := Cond.classLink_spec hown hl1 e.platform hpl
        obtain ⟨a8, b8, h1, h2, h3⟩ := hn1
        cases Option.some.inj (h1.symm.trans hcl)
        cases Option.some.inj (h2.symm.trans hc6)
        exact Or.inr ⟨hz0, _, hcl6, h3⟩) hx (Or.inr ⟨h0, c4, hcl5, hasg⟩)
  obtain ⟨t, a1, b1⟩ := kk (T.setVm vm') hT X'
  exact ⟨t, st.trans a1, b1⟩
end Rows
section Ends
variable {p : Program} {l : Launch} {e : Env} {R : Room} {s : State} {m : MethodId} {args : Array Value} {below : List Frame} {meth : Method} {c : Code} {H : Heap} {locs : List Loc} {cells slots : Nat} {Q : State → Prop}
variable {mc ms : Nat} {free : Addr → Prop} {A0 A1 : Nat → Prop} {H0 : Heap} {a : Array Value} {ls : Array Slot} {st0 rest : List Value}
variable {Qc : Array Value → State → Outcome → State → Prop} {XC : String → State → State → Prop}
/-- what a body that may throw owes at its end -/
def vx_MQ (below : List Frame) (Qc : Array Value → State → Outcome → State → Prop) (XC : String → State → State → Prop) (a : Array Value) (s : State) (mc ms : Nat) (free : Addr → Prop) : State → Prop := fun t =>
  ∃ o, t.status = .running ∧ Ended t below o ∧ vx_Q Qc XC mc ms free a s o t
theorem vx_ret {g : JFrame} {mc ms : Nat} (k : W p l e R s m args below meth c H locs cells slots (MQ below Qc args s mc ms free) g) : W p l e R s m args below meth c H locs cells slots (vx_MQ below Qc XC args s mc ms free) g := by
  intro T hT X
  obtain ⟨t, a1, o, b1, b2, b3, b4⟩ := k T hT X
  exact ⟨t, a1, o, b1, b2, Or.inl ⟨b3, b4⟩⟩
/-- not caught here: it goes on to the caller -/
theorem vx_widen {g : JFrame} {q : Addr} {k n : Nat} (h1 : cells ≤ k) (h2 : slots ≤ n) (kk : vx_W p l e R s m args below meth c H locs k n Q g q) : vx_W p l e R s m args below meth c H locs cells slots Q g q := fun T hT X => kk T hT (stand_widen X h1 h2)
theorem vx_out {pc : Nat} {E : String} {ce : Cell} {q : Addr} {mc ms : Nat} (hout : ∀ x ∈ c.exceptionTable.toList, covers x pc = false) (hlocks : meth.locks = false) (hcell : H[q]? = some ce) (hv : ce.vm = .none) (hcl : s.vm.findClass E = some ce.cls)
    (hx : ∀ t : State, t.heap = H → s.vm.Alike t.vm → XC E s t) (hf : ∀ z ∈ locs, free z.base) (hc : cells ≤ mc) (hs : slots ≤ ms) :
    vx_W p l e R s m args below meth c H locs cells slots (vx_MQ below Qc XC args s mc ms free) (F0 m pc ls rest) q := by
  intro T hT X
  obtain ⟨st1, hrun, hend, hW, hsm⟩ := X.leaveThrown q (g := F0 m pc ls rest) rfl rfl rfl hout hlocks
  have hcell9 : (T.setFrames (.throwing q :: below)).heap[q]? = some ce := by
    show T.heap[q]? = some ce
    rw [hT]; exact hcell
  exact ⟨_, st1, .threw q, hrun, hend, Or.inr ⟨q, rfl, E, ce, locs, hx _ hT hW.alike, hcell9, hv, hcl, hW, hsm.mono hc hs, hf⟩⟩
theorem vx_frame {U : State} {k n : Nat} (h : s.sameButNew ({ U with vm := s.vm } : State) locs k n) : s.heap.size ≤ U.heap.size ∧ ∀ q : Nat, q < s.heap.size → (∀ z ∈ locs, z.base ≠ q) → U.heap[q]? = s.heap[q]? := by
  obtain ⟨-, h2, -, -, -, h6⟩ := h
  refine ⟨h2, fun q hq hz => ?_⟩
  obtain ⟨c9, e1, e2, e3, e4⟩ := h6 q _ (Array.getElem?_eq_getElem hq)
  have hs : c9.slots = (s.heap[q]).slots := Array.ext_getElem? fun i => e4 i fun hm => hz _ hm rfl
  have h9 : c9 = s.heap[q] := by
    rw [hs] at e2
    exact e2
  have e5 : U.heap[q]? = some c9 := e1
  rw [e5, h9, Array.getElem?_eq_getElem hq]
/-- the words of a throw but the four that speak of the heap -/
def vx_no (w : Cond) : Bool := decide (w ≠ .isRef (.static Bundle.tN "UNASSIGNED_STACK" Bundle.steD)) && decide (w ≠ .isRef (.static Bundle.tN "SUPPRESSED_SENTINEL" Bundle.listD)) && decide (w ≠ .laysStatic Bundle.tN "UNASSIGNED_STACK" Bundle.steD) && decide (w ≠ .laysStatic Bundle.tN "SUPPRESSED_SENTINEL" Bundle.listD)
def vx_at0 (own : String) (ic : Nat) (X : String) (names : List String) : List Cond := (Bundle.ownAtoms0 own ic X names).filter vx_no
def vx_atS (own : String) (ic : Nat) (X : String) (names : List String) : List Cond := (Bundle.ownAtoms own ic X names).filter vx_no
/-- a word that the tables alone decide, or a good one -/
def vx_ot (w : Cond) : Bool := w.onTables || goodWord w
theorem vx_ot_at {args a' : Array Value} {s U : State} {w : Cond} (hW : s.WarmedH U.vm) (hvm : s.vm = U.vm) (hg : vx_ot w = true) (h : w.before args s = true) : w.before a' U = true := by
  simp only [vx_ot, Bool.or_eq_true] at hg
  rcases hg with hg | hg
  · exact va_tabs hg hvm h
  · exact word_at hW (good_of_word hg) h
/-- a list's words: the good ones out of the method's own list, the others by premises of their own -/
theorem vx_hat {args : Array Value} {s : State} {L B : List Cond} (h1 : ∀ w ∈ L.filter goodWord, w.before args s = true) (h2 : ∀ w ∈ L.filter (fun w => !goodWord w), w ∈ B) (h3 : ∀ w ∈ B, w.before args s = true) : ∀ w ∈ L, w.before args s = true := by
  intro w hw
  by_cases g : goodWord w = true
  · exact h1 w (List.mem_filter.mpr ⟨hw, g⟩)
  · refine h3 w (h2 w (List.mem_filter.mpr ⟨hw, ?_⟩))
    show (!goodWord w) = true
    cases hgw : goodWord w
    · rfl
    · exact absurd hgw g
theorem vx_c {args : Array Value} {s : State} {w : Cond} {B : List Cond} (h : w.before args s = true) (t : ∀ w ∈ B, w.before args s = true) : ∀ w' ∈ w :: B, w'.before args s = true := fun w' h' => (List.mem_cons.mp h').elim (fun e => by rw [e]; exact h) (t w')
theorem vx_n {args : Array Value} {s : State} : ∀ w ∈ ([] : List Cond), w.before args s = true := fun _ h => nomatch h
theorem vx_own {args : Array Value} {s : State} {L : List Cond} (h1 : ∀ w ∈ L.filter vx_no, w.before args s = true)
    (hU : (Cond.isRef (.static Bundle.tN "UNASSIGNED_STACK" Bundle.steD)).before args s = true) (hN : (Cond.isRef (.static Bundle.tN "SUPPRESSED_SENTINEL" Bundle.listD)).before args s = true)
    (lU : (Cond.laysStatic Bundle.tN "UNASSIGNED_STACK" Bundle.steD).before args s = true) (lN : (Cond.laysStatic Bundle.tN "SUPPRESSED_SENTINEL" Bundle.listD).before args s = true) : ∀ w ∈ L, w.before args s = true := by
  intro w hw
  by_cases e1 : w = .isRef (.static Bundle.tN "UNASSIGNED_STACK" Bundle.steD)
  · rw [e1]; exact hU
  · by_cases e2 : w = .isRef (.static Bundle.tN "SUPPRESSED_SENTINEL" Bundle.listD)
    · rw [e2]; exact hN
    · by_cases e3 : w = .laysStatic Bundle.tN "UNASSIGNED_STACK" Bundle.steD
      · rw [e3]; exact lU
      · by_cases e4 : w = .laysStatic Bundle.tN "SUPPRESSED_SENTINEL" Bundle.listD
        · rw [e4]; exact lN
        · exact h1 w (List.mem_filter.mpr ⟨hw, by unfold vx_no; rw [decide_eq_true e1, decide_eq_true e2, decide_eq_true e3, decide_eq_true e4]; rfl⟩)
/-- where a static field lies, its class's statics cell in H -/
def vx_L (C n d : String) (A : Nat → Prop) (U : State) (H : Heap) : Prop := ∃ (c : ClassId) (k : Class) (i : Nat) (f : Field) (a : Nat) (cell : Cell), U.vm.findClass C = some c ∧ U.fieldFound? C n d = some (c, k, i, f) ∧ f.isStatic = true ∧ k.statics = some a ∧ H[a]? = some cell ∧ cell.vm.isStatics = true ∧ cell.cls = c ∧ f.slot < cell.slots.size ∧ k.staticTypes[f.slot]? = some f.type ∧ ¬ A a
theorem vx_L.moved {C n d : String} {A : Nat → Prop} {u U : State} {H : Heap} (hvm : u.vm.Alike U.vm) (h : vx_L C n d A u H) : vx_L C n d A U H := by
  obtain ⟨c, k, i, f, a, cell, h1, h2, h3, h4, h5, h6, h7, h8, h9, h10⟩ := h
  obtain ⟨k', hi', he⟩ := State.fieldFound?_setVm hvm h2
  exact ⟨c, k', i, f, a, cell, by rw [hvm.findClass]; exact h1, hi', h3, by rw [he]; exact h4, h5, h6, h7, h8, by rw [he]; exact h9, h10⟩
theorem vx_L.kept {C n d : String} {A : Nat → Prop} {U : State} {H H1 : Heap} (h : vx_L C n d A U H) (hq : ∀ a : Nat, a < H.size → ¬ A a → H1[a]? = H[a]?) : vx_L C n d A U H1 := by
  obtain ⟨c, k, i, f, a, cell, h1, h2, h3, h4, h5, h6, h7, h8, h9, h10⟩ := h
  exact ⟨c, k, i, f, a, cell, h1, h2, h3, h4, by rw [hq a (Array.getElem?_eq_some_iff.mp h5).1 h10]; exact h5, h6, h7, h8, h9, h10⟩
theorem vx_L.narrow {C n d : String} {A B : Nat → Prop} {U : State} {H : Heap} (h : vx_L C n d A U H) (hAB : ∀ q, B q → A q) : vx_L C n d B U H := by
  obtain ⟨c, k, i, f, a, cell, h1, h2, h3, h4, h5, h6, h7, h8, h9, h10⟩ := h
  exact ⟨c, k, i, f, a, cell, h1, h2, h3, h4, h5, h6, h7, h8, h9, fun z => h10 (hAB _ z)⟩
theorem vx_L.word {C n d : String} {A : Nat → Prop} {s : State} {args : Array Value} (h : vx_L C n d A s s.heap) : (Cond.laysStatic C n d).before args s = true := by
  obtain ⟨c, k, i, f, a, cell, h1, h2, h3, h4, h5, h6, h7, h8, h9, -⟩ := h
  show (Cond.laysStatic C n d).holds args s none s [] = true
  exact Cond.laysStatic_of h1 h2 h3 h4 h5 h6 h7 h8 h9
/-- .. and what it holds: null or some reference -/
def vx_Zq (C n d : String) (A : Nat → Prop) (U : State) (H : Heap) : Prop := va_Zq C n d A U H ∧ vx_L C n d A U H
theorem vx_Zq.moved {C n d : String} {A : Nat → Prop} {u U : State} {H : Heap} (hvm : u.vm.Alike U.vm) (h : vx_Zq C n d A u H) : vx_Zq C n d A U H := ⟨va_Zq.moved hvm h.1, vx_L.moved hvm h.2⟩
theorem vx_Zq.kept {C n d : String} {A : Nat → Prop} {U : State} {H H1 : Heap} (h : vx_Zq C n d A U H) (hq : ∀ a : Nat, a < H.size → ¬ A a → H1[a]? = H[a]?) : vx_Zq C n d A U H1 := ⟨va_Zq.kept h.1 hq, vx_L.kept h.2 hq⟩
theorem vx_Zq.narrow {C n d : String} {A B : Nat → Prop} {U : State} {H : Heap} (h : vx_Zq C n d A U H) (hAB : ∀ q, B q → A q) : vx_Zq C n d B U H := ⟨va_Zq.narrow h.1 hAB, vx_L.narrow h.2 hAB⟩
theorem vx_Zqof {args : Array Value} {s : State} {C n d : String} {A : Nat → Prop} (hl : (Cond.laysStatic C n d).before args s = true) (hini : (Cond.initialized C).before args s = true) (h : (Cond.isRef (.static C n d)).before args s = true) (hA : ∀ a : Nat, a < s.heap.size → ¬ A a) : vx_Zq C n d A s s.heap := by
  refine ⟨va_Zqof hl hini h hA, ?_⟩
  obtain ⟨c, k, i, f, a, cell, h1, h2, h3, h4, h5, h6, h7, h8, h9⟩ := Cond.laysStatic_spec hl
  exact ⟨c, k, i, f, a, cell, h1, h2, h3, h4, h5, h6, h7, h8, h9, hA a (Array.getElem?_eq_some_iff.mp h5).1⟩
theorem vx_isRef {C n d : String} {v : Value} {A : Nat → Prop} {s : State} {args : Array Value} (h : va_Z C n d v A s s.heap) (hv : v.isRef = true) : (Cond.isRef (.static C n d)).before args s = true := by
  obtain ⟨cf, kf, fi, f, a, cell, h1, h2, h3, h4, h5, h6, h7, -⟩ := h
  have he : (Term.static C n d).eval args s none [] s = some v := by
    simp [Term.eval, State.fieldNamed?, h1, h2, h4, h5, h6, h7]
  simp only [Cond.before, Cond.holds, Cond.value, he]
  cases v <;> simp_all [Value.isRef]
theorem vx_isRefq {C n d : String} {A : Nat → Prop} {s : State} {args : Array Value} (h : va_Zq C n d A s s.heap) : (Cond.isRef (.static C n d)).before args s = true := by
  rcases h with h | ⟨t, h⟩
  · exact vx_isRef h rfl
  · exact vx_isRef h rfl
/-- the same frame, seen from here: as if the method were called anew in this heap -/
theorem vx_rebase {T : State} (X : Stand p l e R s m args below meth c T locs cells slots) {R' : Room} (hf : R'.frames ≤ R.frames) (hl : R'.locals ≤ R.locals) (hc : cells + R'.cells ≤ R.cells) (hs : slots + R'.slots ≤ R.slots) :
    Stand p l e R' ((T.setVm s.vm).setFrames (.invoking m args :: below)) m args below meth c T [] 0 0 := by
  have htop : (T.setVm s.vm).topJava?.isSome := X.here.top
  have hF : ((T.setVm s.vm).setFrames (.invoking m args :: below)).frames = .invoking m args :: below := State.frames_setFrames _ (State.cur_lt_of_top htop)
  obtain ⟨g₀, hg0⟩ := Option.isSome_iff_exists.mp htop
  obtain ⟨r, hr⟩ := State.topJava?_eq_some.mp hg0
  have hl9 : e.platform.stackLimits (T.setVm s.vm).me = e.platform.stackLimits s.me := X.limits
  have hb9 : (T.setVm s.vm).me.stackBytes = s.me.stackBytes := X.bytes
  refine ⟨X.admits, X.cas, X.clock, hF, ?_, X.hears, X.method, X.code, X.here, X.tail, X.warmed, ?_, ?_, ?_⟩
  · have h := X.room
    have hU : ((T.setVm s.vm).setFrames (.invoking m args :: below)).localsInUse = s.localsInUse := by
      rw [State.localsInUse_invoking hF (meth := meth) (c := c) X.method X.code, State.localsInUse_invoking X.frames X.method X.code]
    simp only [State.hasRoom, Bool.and_eq_true, decide_eq_true_eq] at h ⊢
    obtain ⟨⟨⟨⟨h1, h2, h3, h4, h5, h6⟩, h7⟩, h8⟩, h9⟩ := h
    rw [X.frames, List.length_cons] at h2 h3
    have q1 := X.heapSize
    have q2 := X.used
    simp only [hF, hU, List.length_cons, State.stackLimits_setFrames, State.stackBytes_setFrames, hl9, hb9]
    refine ⟨⟨⟨⟨by omega, by omega, by omega, by omega, by omega, h6⟩, ?_⟩, ?_⟩, X.book⟩
    · show T.heap.size + R'.cells ≤ e.platform.maxCells
      omega
    · show T.slotsUsed + R'.slots ≤ e.platform.maxSlots
      omega
  · rw [State.stackLimits_setFrames]; rfl
  · rw [State.stackBytes_setFrames]; rfl
  · refine ⟨?_, Nat.le_refl _, Nat.le_refl _, ?_, ?_, fun a c9 h9 => ⟨c9, h9, rfl, rfl, fun _ _ => rfl⟩⟩
    · obtain ⟨t, ht, -⟩ := State.frames_cons hr
      show T.setVm s.vm = { ((T.setVm s.vm).setFrames (.invoking m args :: below)).setFrames (T.setVm s.vm).frames with heap := T.heap, slotsUsed := T.slotsUsed }
      rw [State.setFrames_setFrames, State.setFrames_self ht]
      rfl
    · show T.slotsUsed = T.slotsUsed + ((T.heap.toList.drop T.heap.size).map (·.slots.size)).sum
      rw [List.drop_eq_nil_of_le (Nat.le_of_eq Array.length_toList)]
      rfl
    · show ((T.heap.toList.drop T.heap.size).map (·.slots.size)).sum ≤ 0
      rw [List.drop_eq_nil_of_le (Nat.le_of_eq Array.length_toList)]
      exact Nat.le_refl _
/-- 'throw new E()': new; dup; invokespecial; athrow -/
theorem vx_throw0 {cc : ByteArray} {pc : Nat} (hexec : p.tables.exec = Jvm.exec) (hb : c.code = cc) (hl : l.stackTraces = false) {own cls : String} {names : List String} {ik ic mc ms : Nat} {A : Nat → Prop}
    (hown : s.vm.findClass own = some m.cls) (hcls : Bundle.fit cls = true) (hnames : ∀ n ∈ names, Bundle.fit n = true)
    (hk : (Cond.classLink own ik cls).before args s = true) (hini : (Cond.initialized cls).before args s = true) (hat : ∀ w ∈ vx_at0 own ic cls names, w.before args s = true)
    (hgood : ∀ w ∈ Cond.classLink own ik cls :: Cond.initialized cls :: vx_at0 own ic cls names, vx_ot w = true)
    (hU : vx_Zq Bundle.tN "UNASSIGNED_STACK" Bundle.steD A s s.heap) (hN : vx_Zq Bundle.tN "SUPPRESSED_SENTINEL" Bundle.listD A s s.heap) (hS : va_S A s.heap H locs) (hsize : ls.size = c.maxLocals)
    (d0 : decode cc pc = .ok (.new ik, 3)) (d3 : decode cc (pc + 3) = .ok (.dup, 1)) (d4 : decode cc (pc + 4) = .ok (.invokespecial ic, 3)) (d7 : decode cc (pc + 7) = .ok (.athrow, 1))
    (hout : ∀ x ∈ c.exceptionTable.toList, covers x (pc + 7) = false)
    (hRframes : names.length + 3 < R.frames) (hRlocals : (rest.map fun v => v.category).sum + (13 * (names.length + 1) + 42) ≤ R.locals) (hRcells : cells + 1 ≤ R.cells) (hRslots : slots + 6 ≤ R.slots) (hlocks : meth.locks = false)
    (hx : ∀ t : State, s.vm.Alike t.vm → H.size ≤ t.heap.size → (∀ q : Nat, q < H.size → t.heap[q]? = H[q]?) → XC cls s t)
    (hf : ∀ z ∈ locs, free z.base) (hc : cells + 1 ≤ mc) (hs : slots + 6 ≤ ms) :
    W p l e R s m args below meth c H locs cells slots (vx_MQ below Qc XC args s mc ms free) (F0 m pc ls rest) := by
  intro T hT X
  have htr : e.platform.stackTraces = false := (show e.platform.stackTraces = l.stackTraces by rw [X.admits.platform]).trans hl
  have Y := vx_rebase X (R' := { frames := R.frames, locals := R.locals, cells := 1, slots := 6 }) (Nat.le_refl _) (Nat.le_refl _) hRcells hRslots
  obtain ⟨s', hA⟩ : ∃ z, z = (T.setVm s.vm).setFrames (.invoking m args :: below) := ⟨_, rfl⟩
  rw [← hA] at Y
  have hvm : s'.vm = s.vm := by rw [hA]; rfl
  have hhp : s'.heap = H := by rw [hA]; exact hT
  have hW0 : s.WarmedH s'.vm := by rw [hvm]; exact State.WarmedH.refl s
  have hat' : ∀ w ∈ vx_at0 own ic cls names, w.before args s' = true := fun w hw => vx_ot_at hW0 hvm.symm (hgood w (List.mem_cons_of_mem _ (List.mem_cons_of_mem _ hw))) (hat w hw)
  have hk' : (Cond.classLink own ik cls).before args s' = true := vx_ot_at hW0 hvm.symm (hgood _ List.mem_cons_self) hk
  have hini' : (Cond.initialized cls).before args s' = true := vx_ot_at hW0 hvm.symm (hgood _ (List.mem_cons_of_mem _ List.mem_cons_self)) hini
  have hU' : vx_Zq Bundle.tN "UNASSIGNED_STACK" Bundle.steD A s' s'.heap := by rw [hhp]; exact vx_Zq.moved hW0.alike (hU.kept hS.2.1)
  have hN' : vx_Zq Bundle.tN "SUPPRESSED_SENTINEL" Bundle.listD A s' s'.heap := by rw [hhp]; exact vx_Zq.moved hW0.alike (hN.kept hS.2.1)
  have h : ∀ w ∈ Bundle.ownAtoms0 own ic cls names, w.before args s' = true := vx_own hat' (vx_isRefq hU'.1) (vx_isRefq hN'.1) hU'.2.word hN'.2.word
  have hown' : s'.vm.findClass own = some m.cls := by rw [hvm]; exact hown
  have hins : (Cond.instantiable cls 6).before args s' = true := h _ (by simp [Bundle.ownAtoms0])
  obtain ⟨vm₁, cX, kX, hfX, hkX, -, -, X₁, st1⟩ := Y.newCold hexec (own := own) (C := cls) (index := ik) (n := 6) hown' hk' hins hini'
    (g := F0 m pc ls rest) rfl (by rw [hb]; exact d0) (Nat.le_refl _) (Nat.le_refl _)
  generalize hT1 : (T.setVm vm₁).pushCell { cls := cX, slots := kX.instanceTypes.map defaultValue, vm := .none } = T1 at X₁ st1
  have hcat : (Value.ref T.heap.size).category = 1 := rfl
  have hcellA : T1.heap[T.heap.size]? = some (freshCell cX kX) := by rw [← hT1]; exact State.heap_pushCell_size _ _
  have d3' : decode c.code (pc + 3) = .ok (.dup, 1) := by rw [hb]; exact d3
  obtain ⟨U, hsteps, hrun, hend, hW, hsame, ce, hce, hO⟩ := X₁.ctorThrow0 hexec htr (own := own) (cls := cls) (names := names) (ic := ic) hown' hcls hnames h (fun x hx => nomatch hx) hfX hkX hcellA (by rw [hhp, hT]; exact Nat.le_refl _)
    (g := { method := m, pc := pc + 4, locals := ls, stack := .ref T.heap.size :: .ref T.heap.size :: rest, locked := none }) rfl hsize rfl rfl (rest := rest) rfl
    (by rw [hb]; exact d4) (by rw [hb]; exact d7) hout hRframes (by simp only [List.map_cons, List.sum_cons, hcat]; omega) hlocks
  obtain ⟨f1, f2⟩ := vx_frame hsame
  rw [hhp] at f1 f2
  have hWs : s.WarmedH U.vm := State.WarmedH.trans hW0 hW
  have hcl : s.vm.findClass cls = some ce.cls := by
    have h9 := hO.cls
    rw [hvm] at h9
    exact h9
  have hall : s.sameButNew ({ U with vm := s.vm } : State) locs mc ms := by
    subst hA
    obtain ⟨e1, e2⟩ := hsame
    rw [State.setFrames_setFrames] at e1
    have h2 : (T.setVm s.vm).sameButNew ({ U with vm := s.vm } : State) [] (0 + 1) (0 + 6) := ⟨e1, e2⟩
    have h3 := X.same.trans h2
    rw [List.append_nil] at h3
    exact h3.mono hc hs
  refine ⟨U, ?_, .threw T.heap.size, hrun, hend, Or.inr ⟨T.heap.size, rfl, cls, ce, locs, hx U hWs.alike f1 (fun q hq => f2 q hq (fun z hz => nomatch hz)), hce, hO.vm, hcl, hWs, hall, hf⟩⟩
  refine st1 _ ?_
  show Steps p.tables e below (T1.setTop { method := m, pc := pc + 3, locals := ls, stack := .ref T.heap.size :: rest, locked := none }) _
  jvm_step X₁.here [X₁.here.top, hexec, d3', Value.category]
  exact hsteps
/-- 'throw new E("text")': new; dup; ldc; invokespecial; athrow -/
theorem vx_throwS {cc : ByteArray} {pc : Nat} (hexec : p.tables.exec = Jvm.exec) (hb : c.code = cc) (hl : l.stackTraces = false) {own cls text : String} {names : List String} {ik is ic mc ms sa : Nat} {A : Nat → Prop}
    (hown : s.vm.findClass own = some m.cls) (hcls : Bundle.fit cls = true) (hnames : ∀ n ∈ names, Bundle.fit n = true)
    (hk : (Cond.classLink own ik cls).before args s = true) (hini : (Cond.initialized cls).before args s = true) (hstr : vk_R own is text sa s) (hat : ∀ w ∈ vx_atS own ic cls names, w.before args s = true)
    (hgood : ∀ w ∈ Cond.classLink own ik cls :: Cond.initialized cls :: vx_atS own ic cls names, vx_ot w = true)
    (hU : vx_Zq Bundle.tN "UNASSIGNED_STACK" Bundle.steD A s s.heap) (hN : vx_Zq Bundle.tN "SUPPRESSED_SENTINEL" Bundle.listD A s s.heap) (hS : va_S A s.heap H locs) (hsize : ls.size = c.maxLocals)
    (d0 : decode cc pc = .ok (.new ik, 3)) (d3 : decode cc (pc + 3) = .ok (.dup, 1)) (d4 : decode cc (pc + 4) = .ok (.ldc is, 2)) (d6 : decode cc (pc + 6) = .ok (.invokespecial ic, 3)) (d9 : decode cc (pc + 9) = .ok (.athrow, 1))
    (hout : ∀ x ∈ c.exceptionTable.toList, covers x (pc + 9) = false)
    (hRframes : names.length + 3 < R.frames) (hRlocals : (rest.map fun v => v.category).sum + (13 * (names.length + 1) + 43) ≤ R.locals) (hRcells : cells + 1 ≤ R.cells) (hRslots : slots + 6 ≤ R.slots) (hlocks : meth.locks = false)
    (hx : ∀ t : State, s.vm.Alike t.vm → H.size ≤ t.heap.size → (∀ q : Nat, q < H.size → t.heap[q]? = H[q]?) → XC cls s t)
    (hf : ∀ z ∈ locs, free z.base) (hc : cells + 1 ≤ mc) (hs : slots + 6 ≤ ms) :
    W p l e R s m args below meth c H locs cells slots (vx_MQ below Qc XC args s mc ms free) (F0 m pc ls rest) := by
  intro T hT X
  have htr : e.platform.stackTraces = false := (show e.platform.stackTraces = l.stackTraces by rw [X.admits.platform]).trans hl
  have Y := vx_rebase X (R' := { frames := R.frames, locals := R.locals, cells := 1, slots := 6 }) (Nat.le_refl _) (Nat.le_refl _) hRcells hRslots
  obtain ⟨s', hA⟩ : ∃ z, z = (T.setVm s.vm).setFrames (.invoking m args :: below) := ⟨_, rfl⟩
  rw [← hA] at Y
  have hvm : s'.vm = s.vm := by rw [hA]; rfl
  have hhp : s'.heap = H := by rw [hA]; exact hT
  have hW0 : s.WarmedH s'.vm := by rw [hvm]; exact State.WarmedH.refl s
  have hat' : ∀ w ∈ vx_atS own ic cls names, w.before args s' = true := fun w hw => vx_ot_at hW0 hvm.symm (hgood w (List.mem_cons_of_mem _ (List.mem_cons_of_mem _ hw))) (hat w hw)
  have hk' : (Cond.classLink own ik cls).before args s' = true := vx_ot_at hW0 hvm.symm (hgood _ List.mem_cons_self) hk
  have hini' : (Cond.initialized cls).before args s' = true := vx_ot_at hW0 hvm.symm (hgood _ (List.mem_cons_of_mem _ List.mem_cons_self)) hini
  have hU' : vx_Zq Bundle.tN "UNASSIGNED_STACK" Bundle.steD A s' s'.heap := by rw [hhp]; exact vx_Zq.moved hW0.alike (hU.kept hS.2.1)
  have hN' : vx_Zq Bundle.tN "SUPPRESSED_SENTINEL" Bundle.listD A s' s'.heap := by rw [hhp]; exact vx_Zq.moved hW0.alike (hN.kept hS.2.1)
  have h : ∀ w ∈ Bundle.ownAtoms own ic cls names, w.before args s' = true := vx_own hat' (vx_isRefq hU'.1) (vx_isRefq hN'.1) hU'.2.word hN'.2.word
  have hown' : s'.vm.findClass own = some m.cls := by rw [hvm]; exact hown
  have hins : (Cond.instantiable cls 6).before args s' = true := h _ (by simp [Bundle.ownAtoms])
  obtain ⟨vm₁, cX, kX, hfX, hkX, -, -, X₁, st1⟩ := Y.newCold hexec (own := own) (C := cls) (index := ik) (n := 6) hown' hk' hins hini'
    (g := F0 m pc ls rest) rfl (by rw [hb]; exact d0) (Nat.le_refl _) (Nat.le_refl _)
  generalize hT1 : (T.setVm vm₁).pushCell { cls := cX, slots := kX.instanceTypes.map defaultValue, vm := .none } = T1 at X₁ st1
  have hcat : (Value.ref T.heap.size).category = 1 := rfl
  have hcellA : T1.heap[T.heap.size]? = some (freshCell cX kX) := by rw [← hT1]; exact State.heap_pushCell_size _ _
  have d3' : decode c.code (pc + 3) = .ok (.dup, 1) := by rw [hb]; exact d3
  have d4' : decode c.code (pc + 4) = .ok (.ldc is, 2) := by rw [hb]; exact d4
  have hstr' : vk_R own is text sa s' := vk_R.warm hW0 hstr
  obtain ⟨U, hsteps, hrun, hend, hW, hsame, ce, hce, hO⟩ := X₁.ctorThrowS hexec htr (own := own) (cls := cls) (names := names) (ic := ic) hown' hcls hnames h (fun x hx => nomatch hx) hfX hkX hcellA (by rw [hhp, hT]; exact Nat.le_refl _) (msg := .ref sa) rfl
    (g := { method := m, pc := pc + 6, locals := ls, stack := .ref sa :: .ref T.heap.size :: .ref T.heap.size :: rest, locked := none }) rfl hsize rfl rfl (rest := rest) rfl
    (by rw [hb]; exact d6) (by rw [hb]; exact d9) hout hRframes (by simp only [List.map_cons, List.sum_cons, hcat]; omega) hlocks
  obtain ⟨f1, f2⟩ := vx_frame hsame
  rw [hhp] at f1 f2
  have hWs : s.WarmedH U.vm := State.WarmedH.trans hW0 hW
  have hcl : s.vm.findClass cls = some ce.cls := by
    have h9 := hO.cls
    rw [hvm] at h9
    exact h9
  have hall : s.sameButNew ({ U with vm := s.vm } : State) locs mc ms := by
    subst hA
    obtain ⟨e1, e2⟩ := hsame
    rw [State.setFrames_setFrames] at e1
    have h2 : (T.setVm s.vm).sameButNew ({ U with vm := s.vm } : State) [] (0 + 1) (0 + 6) := ⟨e1, e2⟩
    have h3 := X.same.trans h2
    rw [List.append_nil] at h3
    exact h3.mono hc hs
  refine ⟨U, ?_, .threw T.heap.size, hrun, hend, Or.inr ⟨T.heap.size, rfl, cls, ce, locs, hx U hWs.alike f1 (fun q hq => f2 q hq (fun z hz => nomatch hz)), hce, hO.vm, hcl, hWs, hall, hf⟩⟩
  refine st1 _ ?_
  show Steps p.tables e below (T1.setTop { method := m, pc := pc + 3, locals := ls, stack := .ref T.heap.size :: rest, locked := none }) _
  jvm_step X₁.here [X₁.here.top, hexec, d3', Value.category]
  exact X₁.ldcString hexec (own := own) (text := text) (index := is) (a := sa) hown' hstr'.1 hstr'.2
    (g := { method := m, pc := pc + 4, locals := ls, stack := .ref T.heap.size :: .ref T.heap.size :: rest, locked := none }) rfl d4' _ hsteps
/-- 'throw new E("text")', the text by a wide index -/
theorem vx_throwSW {cc : ByteArray} {pc : Nat} (hexec : p.tables.exec = Jvm.exec) (hb : c.code = cc) (hl : l.stackTraces = false) {own cls text : String} {names : List String} {ik is ic mc ms sa : Nat} {A : Nat → Prop}
    (hown : s.vm.findClass own = some m.cls) (hcls : Bundle.fit cls = true) (hnames : ∀ n ∈ names, Bundle.fit n = true)
    (hk : (Cond.classLink own ik cls).before args s = true) (hini : (Cond.initialized cls).before args s = true) (hstr : vk_R own is text sa s) (hat : ∀ w ∈ vx_atS own ic cls names, w.before args s = true)
    (hgood : ∀ w ∈ Cond.classLink own ik cls :: Cond.initialized cls :: vx_atS own ic cls names, vx_ot w = true)
    (hU : vx_Zq Bundle.tN "UNASSIGNED_STACK" Bundle.steD A s s.heap) (hN : vx_Zq Bundle.tN "SUPPRESSED_SENTINEL" Bundle.listD A s s.heap) (hS : va_S A s.heap H locs) (hsize : ls.size = c.maxLocals)
    (d0 : decode cc pc = .ok (.new ik, 3)) (d3 : decode cc (pc + 3) = .ok (.dup, 1)) (d4 : decode cc (pc + 4) = .ok (.ldc_w is, 3)) (d7 : decode cc (pc + 7) = .ok (.invokespecial ic, 3)) (d10 : decode cc (pc + 10) = .ok (.athrow, 1))
    (hout : ∀ x ∈ c.exceptionTable.toList, covers x (pc + 10) = false)
    (hRframes : names.length + 3 < R.frames) (hRlocals : (rest.map fun v => v.category).sum + (13 * (names.length + 1) + 43) ≤ R.locals) (hRcells : cells + 1 ≤ R.cells) (hRslots : slots + 6 ≤ R.slots) (hlocks : meth.locks = false)
    (hx : ∀ t : State, s.vm.Alike t.vm → H.size ≤ t.heap.size → (∀ q : Nat, q < H.size → t.heap[q]? = H[q]?) → XC cls s t)
    (hf : ∀ z ∈ locs, free z.base) (hc : cells + 1 ≤ mc) (hs : slots + 6 ≤ ms) :
    W p l e R s m args below meth c H locs cells slots (vx_MQ below Qc XC args s mc ms free) (F0 m pc ls rest) := by
  intro T hT X
  have htr : e.platform.stackTraces = false := (show e.platform.stackTraces = l.stackTraces by rw [X.admits.platform]).trans hl
  have Y := vx_rebase X (R' := { frames := R.frames, locals := R.locals, cells := 1, slots := 6 }) (Nat.le_refl _) (Nat.le_refl _) hRcells hRslots
  obtain ⟨s', hA⟩ : ∃ z, z = (T.setVm s.vm).setFrames (.invoking m args :: below) := ⟨_, rfl⟩
  rw [← hA] at Y
  have hvm : s'.vm = s.vm := by rw [hA]; rfl
  have hhp : s'.heap = H := by rw [hA]; exact hT
  have hW0 : s.WarmedH s'.vm := by rw [hvm]; exact State.WarmedH.refl s
  have hat' : ∀ w ∈ vx_atS own ic cls names, w.before args s' = true := fun w hw => vx_ot_at hW0 hvm.symm (hgood w (List.mem_cons_of_mem _ (List.mem_cons_of_mem _ hw))) (hat w hw)
  have hk' : (Cond.classLink own ik cls).before args s' = true := vx_ot_at hW0 hvm.symm (hgood _ List.mem_cons_self) hk
  have hini' : (Cond.initialized cls).before args s' = true := vx_ot_at hW0 hvm.symm (hgood _ (List.mem_cons_of_mem _ List.mem_cons_self)) hini
  have hU' : vx_Zq Bundle.tN "UNASSIGNED_STACK" Bundle.steD A s' s'.heap := by rw [hhp]; exact vx_Zq.moved hW0.alike (hU.kept hS.2.1)
  have hN' : vx_Zq Bundle.tN "SUPPRESSED_SENTINEL" Bundle.listD A s' s'.heap := by rw [hhp]; exact vx_Zq.moved hW0.alike (hN.kept hS.2.1)
  have h : ∀ w ∈ Bundle.ownAtoms own ic cls names, w.before args s' = true := vx_own hat' (vx_isRefq hU'.1) (vx_isRefq hN'.1) hU'.2.word hN'.2.word
  have hown' : s'.vm.findClass own = some m.cls := by rw [hvm]; exact hown
  have hins : (Cond.instantiable cls 6).before args s' = true := h _ (by simp [Bundle.ownAtoms])
  obtain ⟨vm₁, cX, kX, hfX, hkX, -, -, X₁, st1⟩ := Y.newCold hexec (own := own) (C := cls) (index := ik) (n := 6) hown' hk' hins hini'
    (g := F0 m pc ls rest) rfl (by rw [hb]; exact d0) (Nat.le_refl _) (Nat.le_refl _)
  generalize hT1 : (T.setVm vm₁).pushCell { cls := cX, slots := kX.instanceTypes.map defaultValue, vm := .none } = T1 at X₁ st1
  have hcat : (Value.ref T.heap.size).category = 1 := rfl
  have hcellA : T1.heap[T.heap.size]? = some (freshCell cX kX) := by rw [← hT1]; exact State.heap_pushCell_size _ _
  have d3' : decode c.code (pc + 3) = .ok (.dup, 1) := by rw [hb]; exact d3
  have d4' : decode c.code (pc + 4) = .ok (.ldc_w is, 3) := by rw [hb]; exact d4
  have hstr' : vk_R own is text sa s' := vk_R.warm hW0 hstr
  obtain ⟨U, hsteps, hrun, hend, hW, hsame, ce, hce, hO⟩ := X₁.ctorThrowS hexec htr (own := own) (cls := cls) (names := names) (ic := ic) hown' hcls hnames h (fun x hx => nomatch hx) hfX hkX hcellA (by rw [hhp, hT]; exact Nat.le_refl _) (msg := .ref sa) rfl
    (g := { method := m, pc := pc + 7, locals := ls, stack := .ref sa :: .ref T.heap.size :: .ref T.heap.size :: rest, locked := none }) rfl hsize rfl rfl (rest := rest) rfl
    (by rw [hb]; exact d7) (by rw [hb]; exact d10) hout hRframes (by simp only [List.map_cons, List.sum_cons, hcat]; omega) hlocks
  obtain ⟨f1, f2⟩ := vx_frame hsame
  rw [hhp] at f1 f2
  have hWs : s.WarmedH U.vm := State.WarmedH.trans hW0 hW
  have hcl : s.vm.findClass cls = some ce.cls := by
    have h9 := hO.cls
    rw [hvm] at h9
    exact h9
  have hall : s.sameButNew ({ U with vm := s.vm } : State) locs mc ms := by
    subst hA
    obtain ⟨e1, e2⟩ := hsame
    rw [State.setFrames_setFrames] at e1
    have h2 : (T.setVm s.vm).sameButNew ({ U with vm := s.vm } : State) [] (0 + 1) (0 + 6) := ⟨e1, e2⟩
    have h3 := X.same.trans h2
    rw [List.append_nil] at h3
    exact h3.mono hc hs
  refine ⟨U, ?_, .threw T.heap.size, hrun, hend, Or.inr ⟨T.heap.size, rfl, cls, ce, locs, hx U hWs.alike f1 (fun q hq => f2 q hq (fun z hz => nomatch hz)), hce, hO.vm, hcl, hWs, hall, hf⟩⟩
  refine st1 _ ?_
  show Steps p.tables e below (T1.setTop { method := m, pc := pc + 3, locals := ls, stack := .ref T.heap.size :: rest, locked := none }) _
  jvm_step X₁.here [X₁.here.top, hexec, d3', Value.category]
  exact X₁.ldcStringW hexec (own := own) (text := text) (index := is) (a := sa) hown' hstr'.1 hstr'.2
    (g := { method := m, pc := pc + 4, locals := ls, stack := .ref T.heap.size :: .ref T.heap.size :: rest, locked := none }) rfl d4' _ hsteps
end Ends
section Bodies
variable {l : Launch}
theorem vx_ofW {y : MethodName} {ws ws' : List Cond} {rm : Room} {Pc : Array Value → State → Prop} {Qc : Array Value → State → Outcome → State → Prop} {XC : String → State → State → Prop} {mc ms : Nat} {free : Addr → Prop} {cc : ByteArray} {maxL : Nat} {ret : Option FieldType}
    (hy : plainName y.cls = true) (hw : ws = Cond.code y cc maxL ret :: ws')
    (body : ∀ p e s m args below meth c s₁, BodyLoose p l y (headSpec ws rm) cc maxL ret e s m args below meth c s₁ → c.maxLocals = maxL → (∀ x ∈ c.exceptionTable.toList, False) → Pc args s →
      W p l e (headSpec ws rm).room s m args below meth c s.heap [] 0 0 (vx_MQ below Qc XC args s mc ms free) (entryFrame m args maxL)) : vx_Met l y ws rm Pc Qc XC mc ms free := by
  refine MetFree.of_bodyS (code := cc) (maxLocals := maxL) (ret := ret) hy ?_ ?_
  · intro args s m h hn
    obtain ⟨meth, c, h1, h2, h3, h4, h5, h6, -, -⟩ := Cond.code_spec hn (atoms_spec (ws := ws) h _ (by rw [hw]; exact List.mem_cons_self))
    exact ⟨meth, c, h1, h2, h3, h4, h5, h6⟩
  · intro p e s m args below meth c s₁ B hml hP _
    have hh0 : s₁.heap = s.heap := by rw [B.state]; rfl
    have ht : ∀ x ∈ c.exceptionTable.toList, False := by
      obtain ⟨meth9, c9, h1, h2, -, -, -, -, h7, -⟩ := Cond.code_spec B.named (atoms_spec (ws := ws) B.pre _ (by rw [hw]; exact List.mem_cons_self))
      cases Option.some.inj (h1.symm.trans B.method)
      cases Option.some.inj (h2.symm.trans (Stand.of_body B).code)
      intro x hx
      rw [Array.isEmpty_iff.mp h7] at hx
      cases hx
    obtain ⟨t, a1, o, b1, b2, b3⟩ := body p e s m args below meth c s₁ B hml ht hP s₁ hh0 (Stand.of_body B)
    exact ⟨t, o, a1, b1, b2, b3⟩
/-- the table of a body with handlers -/
theorem vx_table {p : Program} {x y : MethodName} {S : Spec} {cc bytes : ByteArray} {maxL maxL' : Nat} {ret ret' : Option FieldType} {e : Env} {s s₁ : State} {m : MethodId} {args : Array Value} {below : List Frame} {meth : Method} {c : Code} {hh : List (Nat × Nat × Nat × Nat)}
    (B : BodyLoose p l y S cc maxL ret e s m args below meth c s₁) (h : (Cond.codeWith y bytes maxL' ret' hh).before args s = true) : c.exceptionTable.toList = tableOf hh := by
  obtain ⟨m9, meth9, c9, hn9, h1, h2, -, -, h6, -⟩ := Cond.codeWith_spec h
  cases Option.some.inj (hn9.symm.trans B.named)
  cases Option.some.inj (h1.symm.trans B.method)
  cases Option.some.inj (h2.symm.trans (Stand.of_body B).code)
  rw [← h6, table_eq]
end Bodies
end VXA
/-! ===== END ===== -/
/-! ===== BEGIN a static call of a method with an exception table ===== -/
section VXS
variable {p : Program} {l : Launch} {e : Env} {R : Room} {s : State} {m : MethodId} {args : Array Value} {below : List Frame} {meth : Method} {c : Code} {T : State} {H : Heap} {locs : List Loc} {cells slots : Nat}
abbrev vx_CSW (R : Room) (s : State) (args : Array Value) (own : String) (index : Nat) (y : MethodName) (bytes : ByteArray) (maxL : Nat) (ret : Option FieldType) (hh : List (Nat × Nat × Nat × Nat)) (ws : List Cond) (rm : Room) (mc ms n : Nat) : Prop :=
  (rm.cells = mc ∧ rm.slots = ms ∧ rm.frames + 1 ≤ R.frames ∧ 8 + (maxL + 11) + rm.locals ≤ R.locals ∧ (∀ w ∈ ws, ∀ (a' : Array Value) (U : State), s.WarmedH U.vm → w.before a' U = true) ∧ Cond.codeWith y bytes maxL ret hh ∈ ws) ∧
  (Cond.codeWith y bytes maxL ret hh).before args s = true ∧ (Cond.initialized y.cls).before args s = true ∧ (y.cls ≠ "java/lang/invoke/MethodHandle" ∧ y.cls ≠ "java/lang/invoke/VarHandle") ∧
  (∀ sig, parseMethodDescriptor y.desc = some sig → n = sig.parameters.length) ∧ (Cond.methodLink own index y).before args s = true ∧ (Cond.static y).before args s = true
theorem vx_cwSW {own : String} {index maxL mc ms : Nat} {y : MethodName} {bytes : ByteArray} {ret : Option FieldType} {hh : List (Nat × Nat × Nat × Nat)} {Ts ws ws' : List Cond} {rm : Room} (n : Nat) (ht : ∀ w ∈ Ts, w.before args s = true) (hT : GoodIn Ts (va_wsS own index y ws)) (hw : ws = Cond.codeWith y bytes maxL ret hh :: ws') (hrc : rm.cells = mc) (hrs : rm.slots = ms)
    (hd : y.cls ≠ "java/lang/invoke/MethodHandle" ∧ y.cls ≠ "java/lang/invoke/VarHandle" ∧ (parseMethodDescriptor y.desc).map (fun d => d.parameters.length) = some n) (hR : rm.frames + 1 ≤ R.frames ∧ 8 + (maxL + 11) + rm.locals ≤ R.locals) :
    vx_CSW R s args own index y bytes maxL ret hh ws rm mc ms n := by
  have ok : ∀ w ∈ va_wsS own index y ws, w.before args s = true := fun w h => ht w (hT w h).1
  have hG : GoodIn Ts ws := fun w h => hT w (by unfold va_wsS; exact List.mem_append_right _ h)
  have hc : Cond.codeWith y bytes maxL ret hh ∈ ws := by rw [hw]; exact List.mem_cons_self
  refine ⟨⟨hrc, hrs, hR.1, hR.2, pay_in ht hG, hc⟩, ht _ (hG _ hc).1, ok _ (by simp [va_wsS]), ⟨hd.1, hd.2.1⟩, fun sig h => ?_, ok _ (by simp [va_wsS]), ok _ (by simp [va_wsS])⟩
  have h2 := hd.2.2
  rw [h] at h2
  exact (Option.some.inj h2).symm
theorem vx_callSW (X : Stand p l e R s m args below meth c T locs cells slots) (hexec : p.tables.exec = Jvm.exec) {own : String} {index : Nat} {y : MethodName} {bytes : ByteArray} {maxL : Nat} {ret : Option FieldType} {hh : List (Nat × Nat × Nat × Nat)}
    (hown : s.vm.findClass own = some m.cls) (hlink : (Cond.methodLink own index y).before args s = true) (hstat : (Cond.static y).before args s = true) (hinit : (Cond.initialized y.cls).before args s = true)
    (hcode : (Cond.codeWith y bytes maxL ret hh).before args s = true) (hy : y.cls ≠ "java/lang/invoke/MethodHandle" ∧ y.cls ≠ "java/lang/invoke/VarHandle")
    {W9 : Nat} {Pre : Pt → Array Value → Prop} {Post : Pt → Array Value → Option Value → Pt → Prop} (hK : Back l R p e below s args y 3 W9 Pre Post)
    {g : JFrame} (hg : g.method = m) (hsize : g.locals.size = c.maxLocals) {argsL rest : List Value} (hlen : ∀ sig, parseMethodDescriptor y.desc = some sig → argsL.length = sig.parameters.length)
    (hstack : g.stack = argsL.reverse ++ rest) (hW : 2 * g.monitorRoom + (rest.map fun v => v.category).sum ≤ W9) (hdg : decode c.code g.pc = .ok (.invokestatic index, 3))
    (hpre : ∀ vm₁, s.WarmedH vm₁ → Pre ⟨T.setVm vm₁, locs, cells, slots⟩ argsL.toArray) :
    ∃ (v : Option Value) (vm₁ : Vm) (B : Pt), s.WarmedH vm₁ ∧ Stand p l e R s m args below meth c B.U B.locs B.cells B.slots ∧ Post ⟨T.setVm vm₁, locs, cells, slots⟩ argsL.toArray v B ∧
      ∀ target, Steps p.tables e below (B.U.setTop { g with pc := g.pc + 3, stack := v.toList ++ rest }) target → Steps p.tables e below (T.setTop g) target := by
  obtain ⟨mk, methM, cM, hnamed, hmethM, -, -, -, -, -, -, hsigM⟩ := Cond.codeWith_spec hcode
  have hstatic : methM.isStatic = true := Cond.static_spec hnamed hmethM hstat
  obtain ⟨kP, hkP, -⟩ := className_of_methodNamed hnamed
  have hinitP : kP.init = .initialized := Cond.initialized_spec (findClass_of_methodNamed hnamed) hkP hinit
  obtain ⟨vm₁, X₁, hstep₁⟩ := X.invokestatic hexec hown hlink hnamed hmethM hstatic hkP hinitP hy (g := g) hg (argsL := argsL) (rest := rest) (hlen _ hsigM) hstack hdg
  obtain ⟨v, B, X', hpost, hsteps⟩ := hK m meth c ⟨T.setVm vm₁, locs, cells, slots⟩ { g with stack := rest } (.invokestatic index) mk argsL.toArray X₁ hg hsize hdg hW (X₁.named hnamed) (hpre vm₁ X₁.warmed)
  exact ⟨v, vm₁, B, X₁.warmed, X', hpost, fun target h => hstep₁ _ fun acts => by rw [doInvoke_state]; exact hsteps.trans h⟩
theorem vx_runSW {y : MethodName} {bytes cc : ByteArray} {maxL nL mc ms n index : Nat} {ret : Option FieldType} {hh : List (Nat × Nat × Nat × Nat)} {ws : List Cond} {rm : Room} {Pc : Array Value → State → Prop} {Qc : Array Value → State → Outcome → State → Prop} {free : Addr → Prop} {Ts : List Cond} {own : String} {As rest : List Value} {g : JFrame}
    (S : CallFix p m c cc nL s args Ts own) (hM : Met l y ws rm Pc Qc mc ms free) (cw : vx_CSW R s args own index y bytes maxL ret hh ws rm mc ms n) (hp : PreS s H Pc As)
    (hg : g.method = m) (hn : As.length = n) (hsize : g.locals.size = nL) (hstack : g.stack = As.reverse ++ rest) (hW : 2 * g.monitorRoom + (rest.map fun v => v.category).sum ≤ 8) (hdg : decode cc g.pc = .ok (.invokestatic index, 3)) (hf : cells + mc ≤ R.cells ∧ slots + ms ≤ R.slots) :
    va_Run p l e R s m args below meth c H locs cells slots mc ms g rest (Qc As.toArray) (free) := by
  obtain ⟨⟨hrc, hrs, hfr, hlo, hws, hcw⟩, hcode, hini, hy, hlen, hl, hstt⟩ := cw
  have hK : Back l R p e below s args y 3 8 (PreOf R mc ms Pc) (PostOf Qc mc ms free) := va_backW (hh := hh) (bytes := bytes) (maxL := maxL) (ret := ret) hM hp.1 hrc hrs hfr hlo hws hcw (fun a' U hW => word_at hW (Or.inl (by first | rfl | simp [Cond.onTables, Cond.keeps, Cond.steady])) hini)
  obtain ⟨hx, hb, hml, ho, -⟩ := S
  intro T hT X
  obtain ⟨v, vm₁, ⟨U', l2, c2, s2⟩, hW₁, X', ⟨g', mk, t, L, e1, e2, hq, h1, hL, h2, h3⟩, st⟩ := vx_callSW X hx (hh := hh) (bytes := bytes) (maxL := maxL) (ret := ret) ho hl hstt hini hcode hy hK hg (hsize.trans hml.symm) (argsL := As) (rest := rest) (fun sig h => hn.trans (hlen sig h)) hstack hW (by rw [hb]; exact hdg)
    (fun vm₁ hW₁ => ⟨hf.1, hf.2, hp.2 (T.setVm vm₁) hT hW₁⟩)
  dsimp only [Pt.U, Pt.locs, Pt.cells, Pt.slots] at X' e1 e2 h1 h2 h3 st
  subst h1; subst h2; subst h3
  exact ⟨v, (T.setVm vm₁).calling g' mk As.toArray, t, U', L, hT, X', hL, e1, e2, hq, st⟩
/-- not caught here, past rows that name other classes: it goes on to the caller -/
theorem vx_outP {p : Program} {l : Launch} {e : Env} {R : Room} {s : State} {m : MethodId} {args : Array Value} {below : List Frame} {meth : Method} {c : Code} {H : Heap} {locs : List Loc} {cells slots : Nat} {free : Addr → Prop} {ls : Array Slot} {rest : List Value} {Qc : Array Value → State → Outcome → State → Prop} {XC : String → State → State → Prop}
    {pc : Nat} {own E : String} {ce : Cell} {q : Addr} {mc ms : Nat} (hown : s.vm.findClass own = some m.cls) (hlocks : meth.locks = false)
    (hpass : ∀ z ∈ c.exceptionTable.toList, covers z pc = false ∨ (z.catchType ≠ 0 ∧ ∃ nm : String, (Cond.classLink own z.catchType nm).before args s = true ∧ va_Nc E nm s)) (hcell : H[q]? = some ce) (hv : ce.vm = .none) (hcl : s.vm.findClass E = some ce.cls)
    (hx : ∀ t : State, t.heap = H → s.vm.Alike t.vm → XC E s t) (hf : ∀ z ∈ locs, free z.base) (hc : cells ≤ mc) (hs : slots ≤ ms) :
    vx_W p l e R s m args below meth c H locs cells slots (vx_MQ below Qc XC args s mc ms free) (F0 m pc ls rest) q := by
  intro T hT X
  have hpl : e.platform.magicAccessors = ({} : Platform).magicAccessors := by rw [X.admits.platform]
  obtain ⟨vm', hW', X', st⟩ := X.outThrough hlocks q (g := F0 m pc ls rest) rfl rfl rfl (cell := ce) (by rw [hT]; exact hcell) (by rw [hv]; rfl)
    (by obtain ⟨k9, h9, -⟩ := Vm.findClass_spec hcl; exact ⟨k9, h9⟩) (fun z hz => by
      rcases hpass z hz with h | ⟨hz0, nm, hl1, hn1⟩
      · exact Or.inl h
      · obtain ⟨c6, hc6, hcl6⟩ := Cond.classLink_spec hown hl1 e.platform hpl
        obtain ⟨a8, b8, h1, h2, h3⟩ := hn1
        cases Option.some.inj (h1.symm.trans hcl)
        cases Option.some.inj (h2.symm.trans hc6)
        exact Or.inr ⟨hz0, _, hcl6, h3⟩)
  obtain ⟨g₀, hfr⟩ := X'.frames_eq
  have hcell9 : ((T.setVm vm').setFrames (.throwing q :: below)).heap[q]? = some ce := by
    show T.heap[q]? = some ce
    rw [hT]; exact hcell
  have hend : Ended ((T.setVm vm').setFrames (.throwing q :: below)) below (.threw q) := State.frames_setFrames _ (State.cur_lt_of_frames hfr)
  refine ⟨(T.setVm vm').setFrames (.throwing q :: below), ?_, .threw q, X'.here.running, hend, Or.inr ⟨q, rfl, E, ce, locs, hx _ hT (X'.ends _).1.alike, hcell9, hv, hcl, (X'.ends _).1, (X'.ends _).2.mono hc hs, hf⟩⟩
  rw [X.pushThrowing_eq]
  exact st
/-- a thing of a world lies in the heap -/
theorem vx_lt {D : va_G} {cl : List vw_C} {ws : va_W} {H1 : Heap} (h : va_P D cl ws H1) {k : Nat} {q : Nat × va_E} (hk : ws[k]? = some q) : q.1 < H1.size := (h k q hk).lt
end VXS
/-! ===== END ===== -/
/-! ===== BEGIN methods with a table of their own: called by a name, returning or throwing ===== -/
section VXH
/-! vx_backW, vx_callVX, vx_callSX, vx_callVW, vx_runVW, vx_runVX, vx_runSX, vx_ofWH follow the same proofs as their sisters above (Free/Laws.lean, Shelf42/LK1.lean); vx_outP calls Shelf42/NT130.lean (outThrough). -/
section
variable {l : Launch} {R : Room} {p : Program} {e : Env} {below : List Frame} {s : State} {sargs : Array Value} {y : MethodName} {len W9 : Nat}
theorem vx_backW {ws : List Cond} {rm : Room} {Pc : Array Value → State → Prop} {Qc : Array Value → State → Outcome → State → Prop} {XC : String → State → State → Prop} {mc ms : Nat} {free : Addr → Prop} {bytes : ByteArray} {maxL : Nat} {ret : Option FieldType} {hh : List (Nat × Nat × Nat × Nat)}
    (hM : vx_Met l y ws rm Pc Qc XC mc ms free) (hblind : FrameBlind Pc) (hrc : rm.cells = mc) (hrs : rm.slots = ms)
    (hframes : rm.frames + 1 ≤ R.frames) (hlocals : W9 + (maxL + 11) + rm.locals ≤ R.locals)
    (hws : ∀ w ∈ ws, ∀ a' U, s.WarmedH U.vm → w.before a' U = true) (hcode : Cond.codeWith y bytes maxL ret hh ∈ ws) (hinit : ∀ a' U, s.WarmedH U.vm → (Cond.initialized y.cls).before a' U = true) :
    vx_Back l R p e below s sargs y len W9 (PreOf R mc ms Pc) (PostOf Qc mc ms free) (vx_Post XC mc ms free) := by
  intro m meth c A g ig mk a X hg hsize hdg hW hn hp
  have h1 : (headSpec ws rm).pre.before a A.U = true := atoms_intro fun w hw => hws w hw _ _ X.warmed
  have h2 : (Cond.codeWith y bytes maxL ret hh).before a A.U = true := hws _ hcode _ _ X.warmed
  have h3 : (Cond.initialized y.cls).before a A.U = true := hinit _ _ X.warmed
  have h4 : A.cells + (headSpec ws rm).room.cells ≤ R.cells := by rw [show (headSpec ws rm).room.cells = mc from hrc]; exact hp.1
  have h5 : A.slots + (headSpec ws rm).room.slots ≤ R.slots := by rw [show (headSpec ws rm).room.slots = ms from hrs]; exact hp.2.1
  have hPc : Pc a (A.U.calling g mk a) := hblind _ _ _ _ hp.2.2
  obtain ⟨U, Ls, c0, s0⟩ := A
  dsimp only [Pt.U, Pt.locs, Pt.cells, Pt.slots] at h1 h2 h3 h4 h5 X hn hPc ⊢
  obtain ⟨m9, methY, cY, hn9, hmY, hcY, -, hlY, -⟩ := Cond.codeWith_spec h2
  cases Option.some.inj (hn9.symm.trans hn)
  obtain ⟨kY, hkY, -⟩ := className_of_methodNamed hn
  have hinitY : kY.init = .initialized := Cond.initialized_spec (findClass_of_methodNamed hn) hkY h3
  have h : At U g.method c below := by rw [hg]; exact X.here
  have hlocals9 : W9 + (maxL + 11) + (headSpec ws rm).room.locals ≤ R.locals := hlocals
  have happ : (headSpec ws rm).appliesLoose y e.platform (U.calling g mk a) = true :=
    Spec.appliesLoose_calling (g := g) h hdg hn hkY hinitY
      (X.room_calling (g := g) (R' := (headSpec ws rm).room) hsize hmY hcY hframes (by rw [hlY]; omega) h4 h5) h1
  obtain ⟨mid, hmid⟩ := h.above
  have hfr : (U.setTop g).frames = (.java g :: mid) ++ below := by rw [State.frames_setTop' g h.top, hmid]; rfl
  obtain ⟨o, s₂, hsteps, -, hend, hq⟩ := Steps.callFree hM p X.admits X.cas X.clock (acts := []) hfr happ hPc trivial
  have hq' : vx_Q Qc XC mc ms free a (U.calling g mk a) o s₂ := hq
  rw [State.frames_setTop' g h.top] at hend
  obtain ⟨g₀, hg0⟩ := Option.isSome_iff_exists.mp h.top
  obtain ⟨r, hr⟩ := State.topJava?_eq_some.mp hg0
  have hr' : (({ U with heap := s₂.heap, slotsUsed := s₂.slotsUsed } : State).setVm s₂.vm).frames = .java g₀ :: r := hr
  rcases hq' with ⟨hqc, L, hfe, hL⟩ | ⟨q, rfl, E, ce, L, hx, hce, hcv, hcl, hW₂, hsm, hL⟩
  · obtain ⟨⟨v, rfl⟩, hW₂, e2, q2, q3, q4, q5, q6⟩ := id hfe
    have e3 : s₂ = ({ (U.calling g mk a).setFrames s₂.frames with heap := s₂.heap, slotsUsed := s₂.slotsUsed } : State).setVm s₂.vm := by
      have : s₂ = ({ s₂ with vm := (U.calling g mk a).vm } : State).setVm s₂.vm := rfl
      rw [e2] at this
      exact this
    obtain ⟨c₂, i₂, len₂, hc₂, hd₂, hf₂⟩ := hend
    have hW' : U.WarmedH s₂.vm := hW₂
    have hcc : c₂ = c := by
      have h1 : s₂.code? g.method = U.code? g.method := by
        rw [State.code?_eq, State.code?_eq, hW'.alike.method?]
      exact Option.some.inj (hc₂.symm.trans (h1.trans h.code))
    subst hcc
    have hlen : len₂ = len := by rw [hdg] at hd₂; cases hd₂; rfl
    subst hlen
    have hs₂ : s₂ = (({ U with heap := s₂.heap, slotsUsed := s₂.slotsUsed } : State).setVm s₂.vm).setTop { g with pc := g.pc + len₂, stack := v.toList ++ g.stack } := by
      refine e3.trans ?_
      rw [hf₂, State.calling_eq h.top, State.setFrames_setFrames, State.setTop_of_frames _ hr', hr]
      rfl
    have hsame : U.sameButNew ({ U with heap := s₂.heap, slotsUsed := s₂.slotsUsed } : State) L mc ms := by
      refine ⟨?_, q2, q3, q4, q5, q6⟩
      obtain ⟨t, ht, -⟩ := State.frames_cons hr
      show ({ U with heap := s₂.heap, slotsUsed := s₂.slotsUsed } : State) = { U.setFrames U.frames with heap := s₂.heap, slotsUsed := s₂.slotsUsed }
      rw [State.setFrames_self ht]
    subst hg
    refine Or.inl ⟨v, ⟨(({ U with heap := s₂.heap, slotsUsed := s₂.slotsUsed } : State).setVm s₂.vm), Ls ++ L, c0 + mc, s0 + ms⟩,
      ⟨X.admits, X.cas, X.clock, X.frames, X.room, X.hears, X.method, X.code, (X.here.setHeapUsed s₂.heap s₂.slotsUsed).setVm hW'.alike, X.tail, State.WarmedH.trans X.warmed hW', X.limits, X.bytes, X.same.trans (hsame.setVm s.vm)⟩,
      ⟨g, mk, s₂, L, rfl, rfl, hqc, rfl, hL, rfl, rfl⟩, ?_⟩
    show Steps p.tables e below _ ((({ U with heap := s₂.heap, slotsUsed := s₂.slotsUsed } : State).setVm s₂.vm).setTop { g with pc := g.pc + len₂, stack := v.toList ++ g.stack })
    rw [← hs₂]
    exact hsteps
  · obtain ⟨e2, q2, q3, q4, q5, q6⟩ := id hsm
    have e3 : s₂ = ({ (U.calling g mk a).setFrames s₂.frames with heap := s₂.heap, slotsUsed := s₂.slotsUsed } : State).setVm s₂.vm := by
      have : s₂ = ({ s₂ with vm := (U.calling g mk a).vm } : State).setVm s₂.vm := rfl
      rw [e2] at this
      exact this
    have hf₂ : s₂.frames = .throwing q :: .java g :: U.frames.tail := hend
    have hW' : U.WarmedH s₂.vm := hW₂
    have hs₂ : s₂ = ((({ U with heap := s₂.heap, slotsUsed := s₂.slotsUsed } : State).setVm s₂.vm).setTop g).pushFrame (.throwing q) := by
      refine e3.trans ?_
      rw [hf₂, State.calling_eq h.top, State.setFrames_setFrames, State.pushFrame, State.frames_setTop _ hr', State.setTop_of_frames _ hr', State.setFrames_setFrames, hr]
      rfl
    have hsame : U.sameButNew ({ U with heap := s₂.heap, slotsUsed := s₂.slotsUsed } : State) L mc ms := by
      refine ⟨?_, q2, q3, q4, q5, q6⟩
      obtain ⟨t, ht, -⟩ := State.frames_cons hr
      show ({ U with heap := s₂.heap, slotsUsed := s₂.slotsUsed } : State) = { U.setFrames U.frames with heap := s₂.heap, slotsUsed := s₂.slotsUsed }
      rw [State.setFrames_self ht]
    subst hg
    refine Or.inr ⟨q, ⟨(({ U with heap := s₂.heap, slotsUsed := s₂.slotsUsed } : State).setVm s₂.vm), Ls ++ L, c0 + mc, s0 + ms⟩,
      ⟨X.admits, X.cas, X.clock, X.frames, X.room, X.hears, X.method, X.code, (X.here.setHeapUsed s₂.heap s₂.slotsUsed).setVm hW'.alike, X.tail, State.WarmedH.trans X.warmed hW', X.limits, X.bytes, X.same.trans (hsame.setVm s.vm)⟩,
      ⟨g, mk, s₂, L, E, ce, rfl, rfl, hx, hce, hcv, hcl, rfl, hL, rfl, rfl⟩, ?_⟩
    show Steps p.tables e below _ (((({ U with heap := s₂.heap, slotsUsed := s₂.slotsUsed } : State).setVm s₂.vm).setTop g).pushFrame (.throwing q))
    rw [← hs₂]
    exact hsteps
end
variable {p : Program} {l : Launch} {e : Env} {R : Room} {s : State} {m : MethodId} {args : Array Value} {below : List Frame} {meth : Method} {c : Code} {T : State} {H : Heap} {locs : List Loc} {cells slots : Nat}
theorem vx_callVX (X : Stand p l e R s m args below meth c T locs cells slots) (hexec : p.tables.exec = Jvm.exec) {own C : String} {index : Nat} {y : MethodName} {bytes : ByteArray} {maxL : Nat} {ret : Option FieldType} {hh : List (Nat × Nat × Nat × Nat)}
    (hown : s.vm.findClass own = some m.cls) (hlink : (Cond.methodLink own index y).before args s = true) (hinst : (Cond.instanceMethod y).before args s = true) (hsel : (Cond.selects C y y).before args s = true)
    (hcode : (Cond.codeWith y bytes maxL ret hh).before args s = true) (hy : y.cls ≠ "java/lang/invoke/MethodHandle" ∧ y.cls ≠ "java/lang/invoke/VarHandle")
    {W9 : Nat} {Pre : Pt → Array Value → Prop} {Post : Pt → Array Value → Option Value → Pt → Prop} {PostX : Pt → Array Value → Addr → Pt → Prop} (hK : vx_Back l R p e below s args y 3 W9 Pre Post PostX)
    {b : Addr} {cellB : Cell} (hcell : T.heap[b]? = some cellB) (hobj : cellB.vm.isStatics = false) (hcls : s.vm.findClass C = some cellB.cls)
    {g : JFrame} (hg : g.method = m) (hsize : g.locals.size = c.maxLocals) {argsL rest : List Value} (hlen : ∀ sig, parseMethodDescriptor y.desc = some sig → argsL.length = sig.parameters.length)
    (hstack : g.stack = argsL.reverse ++ .ref b :: rest) (hW : 2 * g.monitorRoom + (rest.map fun v => v.category).sum ≤ W9) (hdg : decode c.code g.pc = .ok (.invokevirtual index, 3))
    (hpre : ∀ vm₁, s.WarmedH vm₁ → Pre ⟨T.setVm vm₁, locs, cells, slots⟩ (Value.ref b :: argsL).toArray) :
    (∃ (v : Option Value) (vm₁ : Vm) (B : Pt), s.WarmedH vm₁ ∧ Stand p l e R s m args below meth c B.U B.locs B.cells B.slots ∧ Post ⟨T.setVm vm₁, locs, cells, slots⟩ (Value.ref b :: argsL).toArray v B ∧
      ∀ target, Steps p.tables e below (B.U.setTop { g with pc := g.pc + 3, stack := v.toList ++ rest }) target → Steps p.tables e below (T.setTop g) target) ∨
    (∃ (q : Addr) (vm₁ : Vm) (B : Pt), s.WarmedH vm₁ ∧ Stand p l e R s m args below meth c B.U B.locs B.cells B.slots ∧ PostX ⟨T.setVm vm₁, locs, cells, slots⟩ (Value.ref b :: argsL).toArray q B ∧
      Steps p.tables e below (T.setTop g) ((B.U.setTop { g with stack := rest }).pushFrame (.throwing q))) := by
  obtain ⟨mk, methM, hnamed, hmethM, hstM, habM⟩ := Cond.instanceMethod_spec hinst
  obtain ⟨m8, methM', cM, hn8, hmethM', -, -, -, -, -, -, hsigM⟩ := Cond.codeWith_spec hcode
  cases Option.some.inj (hn8.symm.trans hnamed)
  cases hmethM.symm.trans hmethM'
  obtain ⟨c2, r2, m2, q1, q2, q3, q4, kP, hkP, hkPi⟩ := Cond.selects_spec hsel
  cases hcls.symm.trans q1
  cases (State.methodFound?_of_named hnamed hy).symm.trans q2
  cases hnamed.symm.trans q3
  have hselP : selectMethod e.platform s.vm cellB.cls mk = .method mk := by rw [Launch.admits_selectMethod X.admits]; exact q4
  obtain ⟨vm₁, X₁, hstep₁⟩ := X.invokevirtual hexec hown hlink hnamed hmethM hstM hkP hkPi hy (a := b) (cell := cellB) hcell
    (fun z h => by rw [h] at hobj; cases hobj) hselP hmethM habM hkP hkPi (g := g) hg (argsL := argsL) (rest := rest) (hlen _ hsigM) hstack hdg
  rcases hK m meth c ⟨T.setVm vm₁, locs, cells, slots⟩ { g with stack := rest } (.invokevirtual index) mk (Value.ref b :: argsL).toArray X₁ hg hsize hdg hW (X₁.named hnamed) (hpre vm₁ X₁.warmed) with ⟨v, B, X', hpost, hsteps⟩ | ⟨q, B, X', hpost, hsteps⟩
  · exact Or.inl ⟨v, vm₁, B, X₁.warmed, X', hpost, fun target h => hstep₁ _ fun acts => by rw [doInvoke_state]; exact hsteps.trans h⟩
  · exact Or.inr ⟨q, vm₁, B, X₁.warmed, X', hpost, hstep₁ _ fun acts => by rw [doInvoke_state]; exact hsteps⟩
theorem vx_callSX (X : Stand p l e R s m args below meth c T locs cells slots) (hexec : p.tables.exec = Jvm.exec) {own : String} {index : Nat} {y : MethodName} {bytes : ByteArray} {maxL : Nat} {ret : Option FieldType} {hh : List (Nat × Nat × Nat × Nat)}
    (hown : s.vm.findClass own = some m.cls) (hlink : (Cond.methodLink own index y).before args s = true) (hstat : (Cond.static y).before args s = true) (hinit : (Cond.initialized y.cls).before args s = true)
    (hcode : (Cond.codeWith y bytes maxL ret hh).before args s = true) (hy : y.cls ≠ "java/lang/invoke/MethodHandle" ∧ y.cls ≠ "java/lang/invoke/VarHandle")
    {W9 : Nat} {Pre : Pt → Array Value → Prop} {Post : Pt → Array Value → Option Value → Pt → Prop} {PostX : Pt → Array Value → Addr → Pt → Prop} (hK : vx_Back l R p e below s args y 3 W9 Pre Post PostX)
    {g : JFrame} (hg : g.method = m) (hsize : g.locals.size = c.maxLocals) {argsL rest : List Value} (hlen : ∀ sig, parseMethodDescriptor y.desc = some sig → argsL.length = sig.parameters.length)
    (hstack : g.stack = argsL.reverse ++ rest) (hW : 2 * g.monitorRoom + (rest.map fun v => v.category).sum ≤ W9) (hdg : decode c.code g.pc = .ok (.invokestatic index, 3))
    (hpre : ∀ vm₁, s.WarmedH vm₁ → Pre ⟨T.setVm vm₁, locs, cells, slots⟩ argsL.toArray) :
    (∃ (v : Option Value) (vm₁ : Vm) (B : Pt), s.WarmedH vm₁ ∧ Stand p l e R s m args below meth c B.U B.locs B.cells B.slots ∧ Post ⟨T.setVm vm₁, locs, cells, slots⟩ argsL.toArray v B ∧
      ∀ target, Steps p.tables e below (B.U.setTop { g with pc := g.pc + 3, stack := v.toList ++ rest }) target → Steps p.tables e below (T.setTop g) target) ∨
    (∃ (q : Addr) (vm₁ : Vm) (B : Pt), s.WarmedH vm₁ ∧ Stand p l e R s m args below meth c B.U B.locs B.cells B.slots ∧ PostX ⟨T.setVm vm₁, locs, cells, slots⟩ argsL.toArray q B ∧
      Steps p.tables e below (T.setTop g) ((B.U.setTop { g with stack := rest }).pushFrame (.throwing q))) := by
  obtain ⟨mk, methM, cM, hnamed, hmethM, -, -, -, -, -, -, hsigM⟩ := Cond.codeWith_spec hcode
  have hstatic : methM.isStatic = true := Cond.static_spec hnamed hmethM hstat
  obtain ⟨kP, hkP, -⟩ := className_of_methodNamed hnamed
  have hinitP : kP.init = .initialized := Cond.initialized_spec (findClass_of_methodNamed hnamed) hkP hinit
  obtain ⟨vm₁, X₁, hstep₁⟩ := X.invokestatic hexec hown hlink hnamed hmethM hstatic hkP hinitP hy (g := g) hg (argsL := argsL) (rest := rest) (hlen _ hsigM) hstack hdg
  rcases hK m meth c ⟨T.setVm vm₁, locs, cells, slots⟩ { g with stack := rest } (.invokestatic index) mk argsL.toArray X₁ hg hsize hdg hW (X₁.named hnamed) (hpre vm₁ X₁.warmed) with ⟨v, B, X', hpost, hsteps⟩ | ⟨q, B, X', hpost, hsteps⟩
  · exact Or.inl ⟨v, vm₁, B, X₁.warmed, X', hpost, fun target h => hstep₁ _ fun acts => by rw [doInvoke_state]; exact hsteps.trans h⟩
  · exact Or.inr ⟨q, vm₁, B, X₁.warmed, X', hpost, hstep₁ _ fun acts => by rw [doInvoke_state]; exact hsteps⟩
theorem vx_callVW (X : Stand p l e R s m args below meth c T locs cells slots) (hexec : p.tables.exec = Jvm.exec) {own C : String} {index : Nat} {y : MethodName} {bytes : ByteArray} {maxL : Nat} {ret : Option FieldType} {hh : List (Nat × Nat × Nat × Nat)}
    (hown : s.vm.findClass own = some m.cls) (hlink : (Cond.methodLink own index y).before args s = true) (hinst : (Cond.instanceMethod y).before args s = true) (hsel : (Cond.selects C y y).before args s = true)
    (hcode : (Cond.codeWith y bytes maxL ret hh).before args s = true) (hy : y.cls ≠ "java/lang/invoke/MethodHandle" ∧ y.cls ≠ "java/lang/invoke/VarHandle")
    {W9 : Nat} {Pre : Pt → Array Value → Prop} {Post : Pt → Array Value → Option Value → Pt → Prop} (hK : Back l R p e below s args y 3 W9 Pre Post)
    {b : Addr} {cellB : Cell} (hcell : T.heap[b]? = some cellB) (hobj : cellB.vm.isStatics = false) (hcls : s.vm.findClass C = some cellB.cls)
    {g : JFrame} (hg : g.method = m) (hsize : g.locals.size = c.maxLocals) {argsL rest : List Value} (hlen : ∀ sig, parseMethodDescriptor y.desc = some sig → argsL.length = sig.parameters.length)
    (hstack : g.stack = argsL.reverse ++ .ref b :: rest) (hW : 2 * g.monitorRoom + (rest.map fun v => v.category).sum ≤ W9) (hdg : decode c.code g.pc = .ok (.invokevirtual index, 3))
    (hpre : ∀ vm₁, s.WarmedH vm₁ → Pre ⟨T.setVm vm₁, locs, cells, slots⟩ (Value.ref b :: argsL).toArray) :
    ∃ (v : Option Value) (vm₁ : Vm) (B : Pt), s.WarmedH vm₁ ∧ Stand p l e R s m args below meth c B.U B.locs B.cells B.slots ∧ Post ⟨T.setVm vm₁, locs, cells, slots⟩ (Value.ref b :: argsL).toArray v B ∧
      ∀ target, Steps p.tables e below (B.U.setTop { g with pc := g.pc + 3, stack := v.toList ++ rest }) target → Steps p.tables e below (T.setTop g) target := by
  obtain ⟨mk, methM, hnamed, hmethM, hstM, habM⟩ := Cond.instanceMethod_spec hinst
  obtain ⟨m8, methM', cM, hn8, hmethM', -, -, -, -, -, -, hsigM⟩ := Cond.codeWith_spec hcode
  cases Option.some.inj (hn8.symm.trans hnamed)
  cases hmethM.symm.trans hmethM'
  obtain ⟨c2, r2, m2, q1, q2, q3, q4, kP, hkP, hkPi⟩ := Cond.selects_spec hsel
  cases hcls.symm.trans q1
  cases (State.methodFound?_of_named hnamed hy).symm.trans q2
  cases hnamed.symm.trans q3
  have hselP : selectMethod e.platform s.vm cellB.cls mk = .method mk := by rw [Launch.admits_selectMethod X.admits]; exact q4
  obtain ⟨vm₁, X₁, hstep₁⟩ := X.invokevirtual hexec hown hlink hnamed hmethM hstM hkP hkPi hy (a := b) (cell := cellB) hcell
    (fun z h => by rw [h] at hobj; cases hobj) hselP hmethM habM hkP hkPi (g := g) hg (argsL := argsL) (rest := rest) (hlen _ hsigM) hstack hdg
  obtain ⟨v, B, X', hpost, hsteps⟩ := hK m meth c ⟨T.setVm vm₁, locs, cells, slots⟩ { g with stack := rest } (.invokevirtual index) mk (Value.ref b :: argsL).toArray X₁ hg hsize hdg hW (X₁.named hnamed) (hpre vm₁ X₁.warmed)
  exact ⟨v, vm₁, B, X₁.warmed, X', hpost, fun target h => hstep₁ _ fun acts => by rw [doInvoke_state]; exact hsteps.trans h⟩
abbrev vx_CVW (R : Room) (s : State) (args : Array Value) (own C : String) (index : Nat) (y : MethodName) (bytes : ByteArray) (maxL : Nat) (ret : Option FieldType) (hh : List (Nat × Nat × Nat × Nat)) (ws : List Cond) (rm : Room) (mc ms n : Nat) : Prop :=
  (rm.cells = mc ∧ rm.slots = ms ∧ rm.frames + 1 ≤ R.frames ∧ 8 + (maxL + 11) + rm.locals ≤ R.locals ∧ (∀ w ∈ ws, ∀ (a' : Array Value) (U : State), s.WarmedH U.vm → w.before a' U = true) ∧ Cond.codeWith y bytes maxL ret hh ∈ ws) ∧
  (Cond.codeWith y bytes maxL ret hh).before args s = true ∧ (Cond.initialized y.cls).before args s = true ∧ (y.cls ≠ "java/lang/invoke/MethodHandle" ∧ y.cls ≠ "java/lang/invoke/VarHandle") ∧
  (∀ sig, parseMethodDescriptor y.desc = some sig → n = sig.parameters.length) ∧ (Cond.methodLink own index y).before args s = true ∧ (Cond.instanceMethod y).before args s = true ∧ (Cond.selects C y y).before args s = true
theorem vx_cwVW {own C : String} {index maxL mc ms : Nat} {y : MethodName} {bytes : ByteArray} {ret : Option FieldType} {hh : List (Nat × Nat × Nat × Nat)} {Ts ws ws' : List Cond} {rm : Room} (n : Nat) (ht : ∀ w ∈ Ts, w.before args s = true) (hT : GoodIn Ts (wsV own index C y ws)) (hw : ws = Cond.codeWith y bytes maxL ret hh :: ws') (hrc : rm.cells = mc) (hrs : rm.slots = ms)
    (hd : y.cls = C ∧ y.cls ≠ "java/lang/invoke/MethodHandle" ∧ y.cls ≠ "java/lang/invoke/VarHandle" ∧ (parseMethodDescriptor y.desc).map (fun d => d.parameters.length) = some n) (hR : rm.frames + 1 ≤ R.frames ∧ 8 + (maxL + 11) + rm.locals ≤ R.locals) :
    vx_CVW R s args own C index y bytes maxL ret hh ws rm mc ms n := by
  obtain ⟨hC, hd⟩ := hd
  subst hC
  have ok : ∀ w ∈ wsV own index y.cls y ws, w.before args s = true := fun w h => ht w (hT w h).1
  have hG : GoodIn Ts ws := fun w h => hT w (by unfold wsV; exact List.mem_append_right _ h)
  have hc : Cond.codeWith y bytes maxL ret hh ∈ ws := by rw [hw]; exact List.mem_cons_self
  refine ⟨⟨hrc, hrs, hR.1, hR.2, pay_in ht hG, hc⟩, ht _ (hG _ hc).1, ok _ (by simp [wsV]), ⟨hd.1, hd.2.1⟩, fun sig h => ?_, ok _ (by simp [wsV]), ok _ (by simp [wsV]), ok _ (by simp [wsV])⟩
  have h2 := hd.2.2
  rw [h] at h2
  exact (Option.some.inj h2).symm
theorem vx_runVW {y : MethodName} {bytes cc : ByteArray} {maxL nL mc ms n index : Nat} {ret : Option FieldType} {hh : List (Nat × Nat × Nat × Nat)} {ws : List Cond} {rm : Room} {Pc : Array Value → State → Prop} {Qc : Array Value → State → Outcome → State → Prop} {free : Addr → Prop} {Ts : List Cond} {own C : String} {b : Addr} {As rest : List Value} {g : JFrame}
    (S : CallFix p m c cc nL s args Ts own) (hM : Met l y ws rm Pc Qc mc ms free) (cw : vx_CVW R s args own C index y bytes maxL ret hh ws rm mc ms n) (hp : PreV s H C b Pc As)
    (hg : g.method = m) (hn : As.length = n) (hsize : g.locals.size = nL) (hstack : g.stack = As.reverse ++ .ref b :: rest) (hW : 2 * g.monitorRoom + (rest.map fun v => v.category).sum ≤ 8) (hdg : decode cc g.pc = .ok (.invokevirtual index, 3)) (hf : cells + mc ≤ R.cells ∧ slots + ms ≤ R.slots) :
    va_Run p l e R s m args below meth c H locs cells slots mc ms g rest (Qc (Value.ref b :: As).toArray) free := by
  obtain ⟨⟨hrc, hrs, hfr, hlo, hws, hcw⟩, hcode, hini, hy, hlen, hl, hin, hse⟩ := cw
  have hK : Back l R p e below s args y 3 8 (PreOf R mc ms Pc) (PostOf Qc mc ms free) := va_backW (hh := hh) (bytes := bytes) (maxL := maxL) (ret := ret) hM hp.1 hrc hrs hfr hlo hws hcw (fun a' U hW => word_at hW (Or.inl (by first | rfl | simp [Cond.onTables, Cond.keeps, Cond.steady])) hini)
  obtain ⟨hx, hb, hml, ho, -⟩ := S
  obtain ⟨-, ⟨cellB, hcB, hoB, hclB⟩, hPc⟩ := hp
  intro T hT X
  obtain ⟨v, vm₁, ⟨U', l2, c2, s2⟩, hW₁, X', ⟨g', mk, t, L, e1, e2, hq, h1, hL, h2, h3⟩, st⟩ := vx_callVW X hx (C := C) (hh := hh) (bytes := bytes) (maxL := maxL) (ret := ret) ho hl hin hse hcode hy hK (by rw [hT]; exact hcB) hoB hclB hg (hsize.trans hml.symm) (argsL := As) (rest := rest) (fun sig h => hn.trans (hlen sig h)) hstack hW (by rw [hb]; exact hdg)
    (fun vm₁ hW₁ => ⟨hf.1, hf.2, hPc (T.setVm vm₁) hT hW₁⟩)
  dsimp only [Pt.U, Pt.locs, Pt.cells, Pt.slots] at X' e1 e2 h1 h2 h3 st
  subst h1; subst h2; subst h3
  exact ⟨v, (T.setVm vm₁).calling g' mk (Value.ref b :: As).toArray, t, U', L, hT, X', hL, e1, e2, hq, st⟩
section
variable {y : MethodName} {bytes cc : ByteArray} {maxL nL mc ms n index : Nat} {ret : Option FieldType} {ws : List Cond} {rm : Room} {Pc : Array Value → State → Prop} {Qc : Array Value → State → Outcome → State → Prop} {XC : String → State → State → Prop} {free : Addr → Prop} {Ts : List Cond} {own C : String} {b : Addr} {As rest : List Value} {g : JFrame}
theorem vx_runVX {hh : List (Nat × Nat × Nat × Nat)} (S : CallFix p m c cc nL s args Ts own) (hM : vx_Met l y ws rm Pc Qc XC mc ms free) (cw : vx_CVW R s args own C index y bytes maxL ret hh ws rm mc ms n) (hp : PreV s H C b Pc As)
    (hg : g.method = m) (hn : As.length = n) (hsize : g.locals.size = nL) (hstack : g.stack = As.reverse ++ .ref b :: rest) (hW : 2 * g.monitorRoom + (rest.map fun v => v.category).sum ≤ 8) (hdg : decode cc g.pc = .ok (.invokevirtual index, 3)) (hf : cells + mc ≤ R.cells ∧ slots + ms ≤ R.slots) :
    vx_Run p l e R s m args below meth c H locs cells slots mc ms g rest (Qc (Value.ref b :: As).toArray) XC free := by
  obtain ⟨⟨hrc, hrs, hfr, hlo, hws, hcw⟩, hcode, hini, hy, hlen, hl, hin, hse⟩ := cw
  have hK : vx_Back l R p e below s args y 3 8 (PreOf R mc ms Pc) (PostOf Qc mc ms free) (vx_Post XC mc ms free) := vx_backW (hh := hh) (bytes := bytes) (maxL := maxL) (ret := ret) hM hp.1 hrc hrs hfr hlo hws hcw (fun a' U hW => word_at hW (Or.inl (by first | rfl | simp [Cond.onTables, Cond.keeps, Cond.steady])) hini)
  obtain ⟨hx, hb, hml, ho, -⟩ := S
  obtain ⟨-, ⟨cellB, hcB, hoB, hclB⟩, hPc⟩ := hp
  intro T hT X
  rcases vx_callVX X hx (C := C) (hh := hh) (bytes := bytes) (maxL := maxL) (ret := ret) ho hl hin hse hcode hy hK (by rw [hT]; exact hcB) hoB hclB hg (hsize.trans hml.symm) (argsL := As) (rest := rest) (fun sig h => hn.trans (hlen sig h)) hstack hW (by rw [hb]; exact hdg)
    (fun vm₁ hW₁ => ⟨hf.1, hf.2, hPc (T.setVm vm₁) hT hW₁⟩) with ⟨v, vm₁, ⟨U', l2, c2, s2⟩, hW₁, X', ⟨g', mk, t, L, e1, e2, hq, h1, hL, h2, h3⟩, st⟩ | ⟨q, vm₁, ⟨U', l2, c2, s2⟩, hW₁, X', ⟨g', mk, t, L, E, ce, e1, e2, hq, hce, hcv, hcl, h1, hL, h2, h3⟩, st⟩
  · dsimp only [Pt.U, Pt.locs, Pt.cells, Pt.slots] at X' e1 e2 h1 h2 h3 st
    subst h1; subst h2; subst h3
    exact Or.inl ⟨v, (T.setVm vm₁).calling g' mk (Value.ref b :: As).toArray, t, U', L, hT, X', hL, e1, e2, hq, st⟩
  · dsimp only [Pt.U, Pt.locs, Pt.cells, Pt.slots] at X' e1 e2 h1 h2 h3 st hcl
    subst h1; subst h2; subst h3
    exact Or.inr ⟨q, (T.setVm vm₁).calling g' mk (Value.ref b :: As).toArray, t, U', L, E, ce, hT, X', hL, e1, e2, hq, hce, hcv, vx_cls hW₁ hcl, st⟩
theorem vx_runSX {hh : List (Nat × Nat × Nat × Nat)} (S : CallFix p m c cc nL s args Ts own) (hM : vx_Met l y ws rm Pc Qc XC mc ms free) (cw : vx_CSW R s args own index y bytes maxL ret hh ws rm mc ms n) (hp : PreS s H Pc As)
    (hg : g.method = m) (hn : As.length = n) (hsize : g.locals.size = nL) (hstack : g.stack = As.reverse ++ rest) (hW : 2 * g.monitorRoom + (rest.map fun v => v.category).sum ≤ 8) (hdg : decode cc g.pc = .ok (.invokestatic index, 3)) (hf : cells + mc ≤ R.cells ∧ slots + ms ≤ R.slots) :
    vx_Run p l e R s m args below meth c H locs cells slots mc ms g rest (Qc As.toArray) XC free := by
  obtain ⟨⟨hrc, hrs, hfr, hlo, hws, hcw⟩, hcode, hini, hy, hlen, hl, hstt⟩ := cw
  have hK : vx_Back l R p e below s args y 3 8 (PreOf R mc ms Pc) (PostOf Qc mc ms free) (vx_Post XC mc ms free) := vx_backW (hh := hh) (bytes := bytes) (maxL := maxL) (ret := ret) hM hp.1 hrc hrs hfr hlo hws hcw (fun a' U hW => word_at hW (Or.inl (by first | rfl | simp [Cond.onTables, Cond.keeps, Cond.steady])) hini)
  obtain ⟨hx, hb, hml, ho, -⟩ := S
  intro T hT X
  rcases vx_callSX X hx (hh := hh) (bytes := bytes) (maxL := maxL) (ret := ret) ho hl hstt hini hcode hy hK hg (hsize.trans hml.symm) (argsL := As) (rest := rest) (fun sig h => hn.trans (hlen sig h)) hstack hW (by rw [hb]; exact hdg)
    (fun vm₁ hW₁ => ⟨hf.1, hf.2, hp.2 (T.setVm vm₁) hT hW₁⟩) with ⟨v, vm₁, ⟨U', l2, c2, s2⟩, hW₁, X', ⟨g', mk, t, L, e1, e2, hq, h1, hL, h2, h3⟩, st⟩ | ⟨q, vm₁, ⟨U', l2, c2, s2⟩, hW₁, X', ⟨g', mk, t, L, E, ce, e1, e2, hq, hce, hcv, hcl, h1, hL, h2, h3⟩, st⟩
  · dsimp only [Pt.U, Pt.locs, Pt.cells, Pt.slots] at X' e1 e2 h1 h2 h3 st
    subst h1; subst h2; subst h3
    exact Or.inl ⟨v, (T.setVm vm₁).calling g' mk As.toArray, t, U', L, hT, X', hL, e1, e2, hq, st⟩
  · dsimp only [Pt.U, Pt.locs, Pt.cells, Pt.slots] at X' e1 e2 h1 h2 h3 st hcl
    subst h1; subst h2; subst h3
    exact Or.inr ⟨q, (T.setVm vm₁).calling g' mk As.toArray, t, U', L, E, ce, hT, X', hL, e1, e2, hq, hce, hcv, vx_cls hW₁ hcl, st⟩
end
end VXH
theorem vx_ofWH {l : Launch} {y : MethodName} {ws ws' : List Cond} {rm : Room} {Pc : Array Value → State → Prop} {Qc : Array Value → State → Outcome → State → Prop} {XC : String → State → State → Prop} {mc ms : Nat} {free : Addr → Prop} {cc : ByteArray} {maxL : Nat} {ret : Option FieldType} {hh : List (Nat × Nat × Nat × Nat)}
    (hy : plainName y.cls = true) (hw : ws = Cond.codeWith y cc maxL ret hh :: ws')
    (body : ∀ p e s m args below meth c s₁, BodyLoose p l y (headSpec ws rm) cc maxL ret e s m args below meth c s₁ → c.maxLocals = maxL → Pc args s →
      W p l e (headSpec ws rm).room s m args below meth c s.heap [] 0 0 (vx_MQ below Qc XC args s mc ms free) (entryFrame m args maxL)) : vx_Met l y ws rm Pc Qc XC mc ms free := by
  refine MetFree.of_bodyS (code := cc) (maxLocals := maxL) (ret := ret) hy ?_ ?_
  · intro args s m h hn
    obtain ⟨m9, meth, c, hn9, h1, h2, h3, h4, -, h5, h6, -⟩ := Cond.codeWith_spec (atoms_spec (ws := ws) h _ (by rw [hw]; exact List.mem_cons_self))
    cases hn.symm.trans hn9
    exact ⟨meth, c, h1, h2, h3, h4, h5, h6⟩
  · intro p e s m args below meth c s₁ B hml hP _
    have hh0 : s₁.heap = s.heap := by rw [B.state]; rfl
    obtain ⟨t, a1, o, b1, b2, b3⟩ := body p e s m args below meth c s₁ B hml hP s₁ hh0 (Stand.of_body B)
    exact ⟨t, o, a1, b1, b2, b3⟩
/-! ===== END ===== -/
end
section
/-! THE SMALL MACHINE. Kp: the script's length, the arrays of 64 bits, whether every static reference is set, the number of objects, of cells made, of slots made -/
abbrev Kp : Type := Nat × (Nat → UInt64) × Bool × Nat × Nat × Nat
abbrev St : Type := Nat × List Value × List Value × Mem × Kp
abbrev Ou : Type := (Option Value ⊕ Nat) × Mem × Kp
/-- a local that can't be read -/
abbrev UU : Value := .retAddr 0
def stM (M : Mem) (k j : Nat) (v : Int32) : Mem := fun k' j' => if k' = k ∧ j' = j then v else M k' j'
def stX (X : Nat → UInt64) (k : Nat) (v : UInt64) : Nat → UInt64 := fun k' => if k' = k then v else X k'
abbrev kL (κ : Kp) : Nat := κ.1
abbrev kX (κ : Kp) : Nat → UInt64 := κ.2.1
abbrev kR (κ : Kp) : Bool := κ.2.2.1
abbrev kN (κ : Kp) : Nat := κ.2.2.2.1
abbrev kC (κ : Kp) : Nat := κ.2.2.2.2.1
abbrev kU (κ : Kp) : Nat := κ.2.2.2.2.2
/-- locals: a value comes in at i; what a long there or before held is gone -/
def dropL (ls : List Value) (i : Nat) : List Value := match i with
  | 0 => ls
  | j + 1 => match ls[j]? with
    | some (.long _) => ls.set j UU
    | some (.double _) => ls.set j UU
    | _ => ls
def setl (ls : List Value) (i : Nat) (v : Value) : List Value := if v.category = 2 then ((dropL ls i).set i v).set (i + 1) UU else (dropL ls i).set i v
/-- what is known of the locals may be forgotten -/
def lle (l1 l2 : List Value) : Prop := l1.length = l2.length ∧ ∀ (i : Nat) (v : Value), l1[i]? = some v → v = UU ∨ l2[i]? = some v
def ldOk : Instr → Value → Bool
  | .iload_n _, .int _ => true
  | .iload _, .int _ => true
  | .aload_n _, .ref _ => true
  | .aload _, .ref _ => true
  | .lload_n _, .long _ => true
  | .lload _, .long _ => true
  | .dload_n _, .double _ => true
  | .dload _, .double _ => true
  | _, _ => false
def stOk : Instr → Value → Bool
  | .istore_n _, .int _ => true
  | .istore _, .int _ => true
  | .astore_n _, .ref _ => true
  | .astore _, .ref _ => true
  | .lstore_n _, .long _ => true
  | .lstore _, .long _ => true
  | .dstore_n _, .double _ => true
  | .dstore _, .double _ => true
  | _, _ => false
def isPush : Instr → Bool
  | .iconst _ => true
  | .bipush _ => true
  | .sipush _ => true
  | .ldc _ => true
  | _ => false
def bop : Instr → Option (Int32 → Int32 → Int32)
  | .iadd => some (fun x y => x + y)
  | .isub => some (fun x y => x - y)
  | .imul => some (fun x y => x * y)
  | .iand => some (fun x y => x &&& y)
  | _ => none
def dop : Instr → Option (Int32 → Int32 → Int32)
  | .idiv => some (fun x y => x / y)
  | .irem => some (fun x y => x - x / y * y)
  | _ => none
def cnd0 : Jvm.ClassFile.Cond → Int32 → Prop
  | .eq, x => x = 0
  | .ne, x => ¬ x = 0
  | .lt, x => x < 0
  | .ge, x => 0 ≤ x
  | .gt, x => 0 < x
  | .le, x => x ≤ 0
def cnd2 : Jvm.ClassFile.Cond → Int32 → Int32 → Prop
  | .eq, x, y => x = y
  | .ne, x, y => ¬ x = y
  | .lt, x, y => x < y
  | .ge, x, y => y ≤ x
  | .gt, x, y => y < x
  | .le, x, y => x ≤ y
/-- is this slot a reference that is the same one whenever it is set -/
def sref (k j : Nat) : Bool := if kd k ≤ 7 then fty (kd k) j == 1 else (kd k == 22 || kd k == 23) && decide (j < 6)
def WF (M : Mem) : Prop := ∀ k j, sref k j = true → M k j ≠ 0
def isB (v : Int32) : Bool := v == 0 || v == 1
abbrev PT : Type := Nat → St → Ou → Prop
def entL (y : Nat) (av : List Value) : List Value := av ++ List.replicate (mL y - av.length) UU
def c1s (l : List Value) : Bool := l.all (fun v => v.category == 1)
abbrev rm8 (l : List Value) : Prop := (l.map fun v => v.category).sum ≤ 8
def tgtOk (pc : Nat) (i : Instr) (x : Int32) (tgt : Nat) : Bool := match i with
  | .tableswitch d lo hi offs => if x.toInt < lo ∨ hi < x.toInt then decide ((pc : Int) + d = (tgt : Int)) else decide (offs[(x.toInt - lo).toNat]?.map (fun o => (pc : Int) + o) = some (tgt : Int))
  | _ => false
/-- which object a virtual call's callee wants -/
def vcls (y : Nat) (v : Value) : Bool := match v with
  | .ref k => kd k == oc y
  | _ => false
def cl_push (P : PT) : Prop := ∀ (z pc : Nat) (ls st : List Value) (M : Mem) (κ : Kp) (out : Ou) (i : Instr) (nx p q r : Nat) (x : Int32), ins z pc = some (i, nx, p, q, r, x) → isPush i = true → P z (nx, ls, .int x :: st, M, κ) out → P z (pc, ls, st, M, κ) out
def cl_lpush (P : PT) : Prop := ∀ (z pc : Nat) (ls st : List Value) (M : Mem) (κ : Kp) (out : Ou) (nx p q r : Nat) (x : Int32), ins z pc = some (.lconst 0, nx, p, q, r, x) → P z (nx, ls, .long 0 :: st, M, κ) out → P z (pc, ls, st, M, κ) out
def cl_dpush (P : PT) : Prop := ∀ (z pc : Nat) (ls st : List Value) (M : Mem) (κ : Kp) (out : Ou) (nx p q r : Nat) (x : Int32), ins z pc = some (.dconst 0, nx, p, q, r, x) → P z (nx, ls, .double 0 :: st, M, κ) out → P z (pc, ls, st, M, κ) out
def cl_load (P : PT) : Prop := ∀ (z pc : Nat) (ls st : List Value) (M : Mem) (κ : Kp) (out : Ou) (i : Instr) (nx p q r : Nat) (x : Int32) (v : Value), ins z pc = some (i, nx, p, q, r, x) → ldOk i v = true → ls[p]? = some v → P z (nx, ls, v :: st, M, κ) out → P z (pc, ls, st, M, κ) out
def cl_store (P : PT) : Prop := ∀ (z pc : Nat) (ls st : List Value) (M : Mem) (κ : Kp) (out : Ou) (i : Instr) (nx p q r : Nat) (x : Int32) (v : Value), ins z pc = some (i, nx, p, q, r, x) → stOk i v = true → p + v.category ≤ ls.length → P z (nx, setl ls p v, st, M, κ) out → P z (pc, ls, v :: st, M, κ) out
def cl_iinc (P : PT) : Prop := ∀ (z pc : Nat) (ls st : List Value) (M : Mem) (κ : Kp) (out : Ou) (nx p q r : Nat) (x : Int32) (a : Nat) (b : Int) (y : Int32), ins z pc = some (.iinc a b, nx, p, q, r, x) → ls[p]? = some (.int y) → P z (nx, setl ls p (.int (y + x)), st, M, κ) out → P z (pc, ls, st, M, κ) out
def cl_bin (P : PT) : Prop := ∀ (z pc : Nat) (ls st : List Value) (M : Mem) (κ : Kp) (out : Ou) (i : Instr) (nx p q r : Nat) (x : Int32) (f : Int32 → Int32 → Int32) (a b : Int32), ins z pc = some (i, nx, p, q, r, x) → bop i = some f → P z (nx, ls, .int (f a b) :: st, M, κ) out → P z (pc, ls, .int b :: .int a :: st, M, κ) out
def cl_div (P : PT) : Prop := ∀ (z pc : Nat) (ls st : List Value) (M : Mem) (κ : Kp) (out : Ou) (i : Instr) (nx p q r : Nat) (x : Int32) (f : Int32 → Int32 → Int32) (a b : Int32), ins z pc = some (i, nx, p, q, r, x) → dop i = some f → ¬ b = 0 → P z (nx, ls, .int (f a b) :: st, M, κ) out → P z (pc, ls, .int b :: .int a :: st, M, κ) out
def cl_neg (P : PT) : Prop := ∀ (z pc : Nat) (ls st : List Value) (M : Mem) (κ : Kp) (out : Ou) (nx p q r : Nat) (x : Int32) (a : Int32), ins z pc = some (.ineg, nx, p, q, r, x) → P z (nx, ls, .int (-a) :: st, M, κ) out → P z (pc, ls, .int a :: st, M, κ) out
def cl_i2l (P : PT) : Prop := ∀ (z pc : Nat) (ls st : List Value) (M : Mem) (κ : Kp) (out : Ou) (nx p q r : Nat) (x : Int32) (a : Int32), ins z pc = some (.i2l, nx, p, q, r, x) → P z (nx, ls, .long a.toInt64 :: st, M, κ) out → P z (pc, ls, .int a :: st, M, κ) out
def cl_i2d (P : PT) : Prop := ∀ (z pc : Nat) (ls st : List Value) (M : Mem) (κ : Kp) (out : Ou) (nx p q r : Nat) (x : Int32) (a : Int32), ins z pc = some (.i2d, nx, p, q, r, x) → P z (nx, ls, .double (FP.i2d a) :: st, M, κ) out → P z (pc, ls, .int a :: st, M, κ) out
def cl_lcmp (P : PT) : Prop := ∀ (z pc : Nat) (ls st : List Value) (M : Mem) (κ : Kp) (out : Ou) (nx p q r : Nat) (x : Int32) (a b : Int64), ins z pc = some (.lcmp, nx, p, q, r, x) → P z (nx, ls, .int (lg_cmp a b) :: st, M, κ) out → P z (pc, ls, .long b :: .long a :: st, M, κ) out
def cl_lor (P : PT) : Prop := ∀ (z pc : Nat) (ls st : List Value) (M : Mem) (κ : Kp) (out : Ou) (nx p q r : Nat) (x : Int32) (a b : Int64), ins z pc = some (.lor, nx, p, q, r, x) → P z (nx, ls, .long (a ||| b) :: st, M, κ) out → P z (pc, ls, .long b :: .long a :: st, M, κ) out
def cl_lshl (P : PT) : Prop := ∀ (z pc : Nat) (ls st : List Value) (M : Mem) (κ : Kp) (out : Ou) (nx p q r : Nat) (x : Int32) (a : Int64) (b : Int32), ins z pc = some (.lshl, nx, p, q, r, x) → P z (nx, ls, .long (a <<< (b.toInt64 &&& 63)) :: st, M, κ) out → P z (pc, ls, .int b :: .long a :: st, M, κ) out
def cl_dcmp (P : PT) : Prop := ∀ (z pc : Nat) (ls st : List Value) (M : Mem) (κ : Kp) (out : Ou) (nx p q r : Nat) (x : Int32) (o : CmpOp) (a b : UInt64), ins z pc = some (.dcmp o, nx, p, q, r, x) → P z (nx, ls, .int (Op.cmpValue (FP.dcmp a b) o) :: st, M, κ) out → P z (pc, ls, .double b :: .double a :: st, M, κ) out
def cl_dmul (P : PT) : Prop := ∀ (z pc : Nat) (ls st : List Value) (M : Mem) (κ : Kp) (out : Ou) (nx p q r : Nat) (x : Int32) (a b : UInt64), ins z pc = some (.dmul, nx, p, q, r, x) → vf_n64 (FP.dmul a b) → P z (nx, ls, .double (FP.dmul a b) :: st, M, κ) out → P z (pc, ls, .double b :: .double a :: st, M, κ) out
def cl_ddiv (P : PT) : Prop := ∀ (z pc : Nat) (ls st : List Value) (M : Mem) (κ : Kp) (out : Ou) (nx p q r : Nat) (x : Int32) (a b : UInt64), ins z pc = some (.ddiv, nx, p, q, r, x) → vf_n64 (FP.ddiv a b) → P z (nx, ls, .double (FP.ddiv a b) :: st, M, κ) out → P z (pc, ls, .double b :: .double a :: st, M, κ) out
def cl_dup (P : PT) : Prop := ∀ (z pc : Nat) (ls st : List Value) (M : Mem) (κ : Kp) (out : Ou) (nx p q r : Nat) (x : Int32) (v : Value), ins z pc = some (.dup, nx, p, q, r, x) → v.category = 1 → P z (nx, ls, v :: v :: st, M, κ) out → P z (pc, ls, v :: st, M, κ) out
def cl_dup2 (P : PT) : Prop := ∀ (z pc : Nat) (ls st : List Value) (M : Mem) (κ : Kp) (out : Ou) (nx p q r : Nat) (x : Int32) (v w : Value), ins z pc = some (.dup2, nx, p, q, r, x) → v.category = 1 → w.category = 1 → P z (nx, ls, v :: w :: v :: w :: st, M, κ) out → P z (pc, ls, v :: w :: st, M, κ) out
def cl_if0 (P : PT) : Prop := ∀ (z pc : Nat) (ls st : List Value) (M : Mem) (κ : Kp) (out : Ou) (nx p q r : Nat) (x : Int32) (c : Jvm.ClassFile.Cond) (o : Int) (a : Int32), ins z pc = some (.ifCond c o, nx, p, q, r, x) → (cnd0 c a → P z (p, ls, st, M, κ) out) → (¬ cnd0 c a → P z (nx, ls, st, M, κ) out) → P z (pc, ls, .int a :: st, M, κ) out
def cl_if2 (P : PT) : Prop := ∀ (z pc : Nat) (ls st : List Value) (M : Mem) (κ : Kp) (out : Ou) (nx p q r : Nat) (x : Int32) (c : Jvm.ClassFile.Cond) (o : Int) (a b : Int32), ins z pc = some (.if_icmp c o, nx, p, q, r, x) → (cnd2 c a b → P z (p, ls, st, M, κ) out) → (¬ cnd2 c a b → P z (nx, ls, st, M, κ) out) → P z (pc, ls, .int b :: .int a :: st, M, κ) out
def cl_goto (P : PT) : Prop := ∀ (z pc : Nat) (ls st : List Value) (M : Mem) (κ : Kp) (out : Ou) (nx p q r : Nat) (x : Int32) (o : Int), ins z pc = some (.goto o, nx, p, q, r, x) → P z (p, ls, st, M, κ) out → P z (pc, ls, st, M, κ) out
def cl_table (P : PT) : Prop := ∀ (z pc : Nat) (ls st : List Value) (M : Mem) (κ : Kp) (out : Ou) (i : Instr) (nx p q r : Nat) (x : Int32) (a : Int32) (tgt : Nat), ins z pc = some (i, nx, p, q, r, x) → tgtOk pc i a tgt = true → P z (tgt, ls, st, M, κ) out → P z (pc, ls, .int a :: st, M, κ) out
def cl_getI (P : PT) : Prop := ∀ (z pc : Nat) (ls st : List Value) (M : Mem) (κ : Kp) (out : Ou) (nx p q r : Nat) (x : Int32) (a k : Nat), ins z pc = some (.getfield a, nx, p, q, r, x) → kd k = p → fty p q = 0 → k < kN κ → P z (nx, ls, .int (M k q) :: st, M, κ) out → P z (pc, ls, .ref k :: st, M, κ) out
def cl_getR (P : PT) : Prop := ∀ (z pc : Nat) (ls st : List Value) (M : Mem) (κ : Kp) (out : Ou) (nx p q r : Nat) (x : Int32) (a k : Nat), ins z pc = some (.getfield a, nx, p, q, r, x) → kd k = p → fty p q = 1 → k < kN κ → (kR κ = true ∨ M k q ≠ 0) → P z (nx, ls, .ref (k + off p q) :: st, M, κ) out → P z (pc, ls, .ref k :: st, M, κ) out
def cl_getD (P : PT) : Prop := ∀ (z pc : Nat) (ls st : List Value) (M : Mem) (κ : Kp) (out : Ou) (nx p q r : Nat) (x : Int32) (a k d : Nat), ins z pc = some (.getfield a, nx, p, q, r, x) → kd k = p → fty p q = 2 → k < kN κ → M k q = nI d → 0 < d → d < 200 → P z (nx, ls, .ref d :: st, M, κ) out → P z (pc, ls, .ref k :: st, M, κ) out
def cl_putI (P : PT) : Prop := ∀ (z pc : Nat) (ls st : List Value) (M : Mem) (κ : Kp) (out : Ou) (nx p q r : Nat) (x : Int32) (a k : Nat) (v : Int32), ins z pc = some (.putfield a, nx, p, q, r, x) → kd k = p → fty p q = 0 → k < kN κ → (fbo p q = 1 → isB v = true) → P z (nx, ls, st, stM M k q v, κ) out → P z (pc, ls, .int v :: .ref k :: st, M, κ) out
def cl_putR (P : PT) : Prop := ∀ (z pc : Nat) (ls st : List Value) (M : Mem) (κ : Kp) (out : Ou) (nx p q r : Nat) (x : Int32) (a k d : Nat), ins z pc = some (.putfield a, nx, p, q, r, x) → kd k = p → fty p q = 1 → k < kN κ → d = k + off p q → isI z = true → oc z = p → P z (nx, ls, st, stM M k q 1, κ) out → P z (pc, ls, .ref d :: .ref k :: st, M, κ) out
def cl_putD (P : PT) : Prop := ∀ (z pc : Nat) (ls st : List Value) (M : Mem) (κ : Kp) (out : Ou) (nx p q r : Nat) (x : Int32) (a k d : Nat), ins z pc = some (.putfield a, nx, p, q, r, x) → kd k = p → fty p q = 2 → k < kN κ → 0 < d → d < 200 → P z (nx, ls, st, stM M k q (nI d), κ) out → P z (pc, ls, .ref d :: .ref k :: st, M, κ) out
def cl_iald (P : PT) : Prop := ∀ (z pc : Nat) (ls st : List Value) (M : Mem) (κ : Kp) (out : Ou) (nx p q r : Nat) (x : Int32) (k : Nat) (a : Int32), ins z pc = some (.iaload, nx, p, q, r, x) → kd k = 20 → k < kN κ → vp_in a (ln k) → P z (nx, ls, .int (M k a.toNatClampNeg) :: st, M, κ) out → P z (pc, ls, .int a :: .ref k :: st, M, κ) out
def cl_sald (P : PT) : Prop := ∀ (z pc : Nat) (ls st : List Value) (M : Mem) (κ : Kp) (out : Ou) (nx p q r : Nat) (x : Int32) (a : Int32), ins z pc = some (.iaload, nx, p, q, r, x) → vp_in a (kL κ) → P z (nx, ls, .int (M 999 a.toNatClampNeg) :: st, M, κ) out → P z (pc, ls, .int a :: .ref 999 :: st, M, κ) out
def cl_slen (P : PT) : Prop := ∀ (z pc : Nat) (ls st : List Value) (M : Mem) (κ : Kp) (out : Ou) (nx p q r : Nat) (x : Int32), ins z pc = some (.arraylength, nx, p, q, r, x) → P z (nx, ls, .int (Int32.ofNat (kL κ)) :: st, M, κ) out → P z (pc, ls, .ref 999 :: st, M, κ) out
def cl_alen (P : PT) : Prop := ∀ (z pc : Nat) (ls st : List Value) (M : Mem) (κ : Kp) (out : Ou) (nx p q r : Nat) (x : Int32) (k : Nat), ins z pc = some (.arraylength, nx, p, q, r, x) → kd k = 20 → k < kN κ → P z (nx, ls, .int (Int32.ofNat (ln k)) :: st, M, κ) out → P z (pc, ls, .ref k :: st, M, κ) out
def cl_zald (P : PT) : Prop := ∀ (z pc : Nat) (ls st : List Value) (M : Mem) (κ : Kp) (out : Ou) (nx p q r : Nat) (x : Int32) (k : Nat) (a : Int32), ins z pc = some (.baload, nx, p, q, r, x) → kd k = 21 → k < kN κ → vp_in a (ln k) → P z (nx, ls, .int (M k a.toNatClampNeg) :: st, M, κ) out → P z (pc, ls, .int a :: .ref k :: st, M, κ) out
def cl_aald (P : PT) : Prop := ∀ (z pc : Nat) (ls st : List Value) (M : Mem) (κ : Kp) (out : Ou) (nx p q r : Nat) (x : Int32) (k : Nat) (a : Int32), ins z pc = some (.aaload, nx, p, q, r, x) → (kd k = 22 ∨ kd k = 23) → k < kN κ → vp_in a 6 → (kR κ = true ∨ M k a.toNatClampNeg ≠ 0) → P z (nx, ls, .ref (elb k + 18 * a.toNatClampNeg) :: st, M, κ) out → P z (pc, ls, .int a :: .ref k :: st, M, κ) out
def cl_lald (P : PT) : Prop := ∀ (z pc : Nat) (ls st : List Value) (M : Mem) (κ : Kp) (out : Ou) (nx p q r : Nat) (x : Int32) (k : Nat) (a : Int32), ins z pc = some (.laload, nx, p, q, r, x) → kd k = 24 → k < kN κ → vp_in a 1 → P z (nx, ls, .long (kX κ k).toInt64 :: st, M, κ) out → P z (pc, ls, .int a :: .ref k :: st, M, κ) out
def cl_dald (P : PT) : Prop := ∀ (z pc : Nat) (ls st : List Value) (M : Mem) (κ : Kp) (out : Ou) (nx p q r : Nat) (x : Int32) (k : Nat) (a : Int32), ins z pc = some (.daload, nx, p, q, r, x) → kd k = 25 → k < kN κ → vp_in a 1 → P z (nx, ls, .double (kX κ k) :: st, M, κ) out → P z (pc, ls, .int a :: .ref k :: st, M, κ) out
def cl_iast (P : PT) : Prop := ∀ (z pc : Nat) (ls st : List Value) (M : Mem) (κ : Kp) (out : Ou) (nx p q r : Nat) (x : Int32) (k : Nat) (a v : Int32), ins z pc = some (.iastore, nx, p, q, r, x) → kd k = 20 → k < kN κ → vp_in a (ln k) → P z (nx, ls, st, stM M k a.toNatClampNeg v, κ) out → P z (pc, ls, .int v :: .int a :: .ref k :: st, M, κ) out
def cl_zast (P : PT) : Prop := ∀ (z pc : Nat) (ls st : List Value) (M : Mem) (κ : Kp) (out : Ou) (nx p q r : Nat) (x : Int32) (k : Nat) (a v : Int32), ins z pc = some (.bastore, nx, p, q, r, x) → kd k = 21 → k < kN κ → vp_in a (ln k) → isB v = true → P z (nx, ls, st, stM M k a.toNatClampNeg v, κ) out → P z (pc, ls, .int v :: .int a :: .ref k :: st, M, κ) out
def cl_aast (P : PT) : Prop := ∀ (z pc : Nat) (ls st : List Value) (M : Mem) (κ : Kp) (out : Ou) (nx p q r : Nat) (x : Int32) (k d : Nat) (a : Int32), ins z pc = some (.aastore, nx, p, q, r, x) → (kd k = 22 ∨ kd k = 23) → k < kN κ → d < kN κ → vp_in a 6 → d = elb k + 18 * a.toNatClampNeg → kd d = (if kd k = 22 then 0 else 5) → P z (nx, ls, st, stM M k a.toNatClampNeg 1, κ) out → P z (pc, ls, .ref d :: .int a :: .ref k :: st, M, κ) out
def cl_last (P : PT) : Prop := ∀ (z pc : Nat) (ls st : List Value) (M : Mem) (κ : Kp) (out : Ou) (nx p q r : Nat) (x : Int32) (k : Nat) (a : Int32) (v : Int64), ins z pc = some (.lastore, nx, p, q, r, x) → kd k = 24 → k < kN κ → vp_in a 1 → P z (nx, ls, st, M, (κ.1, stX (kX κ) k v.toUInt64, κ.2.2)) out → P z (pc, ls, .long v :: .int a :: .ref k :: st, M, κ) out
def cl_dast (P : PT) : Prop := ∀ (z pc : Nat) (ls st : List Value) (M : Mem) (κ : Kp) (out : Ou) (nx p q r : Nat) (x : Int32) (k : Nat) (a : Int32) (v : UInt64), ins z pc = some (.dastore, nx, p, q, r, x) → kd k = 25 → k < kN κ → vp_in a 1 → P z (nx, ls, st, M, (κ.1, stX (kX κ) k v, κ.2.2)) out → P z (pc, ls, .double v :: .int a :: .ref k :: st, M, κ) out
def cl_new (P : PT) : Prop := ∀ (z pc : Nat) (ls st : List Value) (M : Mem) (κ : Kp) (out : Ou) (nx p q r : Nat) (x : Int32) (a : Nat), ins z pc = some (.new a, nx, p, q, r, x) → q = 0 → kR κ = false → kd (kN κ) = p → p ≤ 7 → (∀ j, M (kN κ) j = 0) → P z (nx, ls, .ref (kN κ) :: st, M, (κ.1, κ.2.1, κ.2.2.1, kN κ + 1, kC κ + 1, kU κ + nf p)) out → P z (pc, ls, st, M, κ) out
def cl_newa (P : PT) : Prop := ∀ (z pc : Nat) (ls st : List Value) (M : Mem) (κ : Kp) (out : Ou) (nx p q r : Nat) (x : Int32) (t : ArrayType) (n : Int32), ins z pc = some (.newarray t, nx, p, q, r, x) → kR κ = false → kd (kN κ) = p → 20 ≤ p → p ≠ 22 → p ≠ 23 → n.toNatClampNeg = ln (kN κ) → ¬ n < 0 → (∀ j, M (kN κ) j = 0) → (24 ≤ p → kX κ (kN κ) = 0) → P z (nx, ls, .ref (kN κ) :: st, M, (κ.1, κ.2.1, κ.2.2.1, kN κ + 1, kC κ + 1, kU κ + ln (kN κ))) out → P z (pc, ls, .int n :: st, M, κ) out
def cl_anew (P : PT) : Prop := ∀ (z pc : Nat) (ls st : List Value) (M : Mem) (κ : Kp) (out : Ou) (nx p q r : Nat) (x : Int32) (a : Nat), ins z pc = some (.anewarray a, nx, p, q, r, x) → kR κ = false → kd (kN κ) = p → (p = 22 ∨ p = 23) → (∀ j, M (kN κ) j = 0) → P z (nx, ls, .ref (kN κ) :: st, M, (κ.1, κ.2.1, κ.2.2.1, kN κ + 1, kC κ + 1, kU κ + 6)) out → P z (pc, ls, .int 6 :: st, M, κ) out
def cl_oinit (P : PT) : Prop := ∀ (z pc : Nat) (ls st : List Value) (M : Mem) (κ : Kp) (out : Ou) (nx p q r : Nat) (x : Int32) (a k : Nat), ins z pc = some (.invokespecial a, nx, p, q, r, x) → q = 9 → rm8 st → P z (nx, ls, st, M, κ) out → P z (pc, ls, .ref k :: st, M, κ) out
def cl_ready (P : PT) : Prop := ∀ (z pc : Nat) (ls st : List Value) (M : Mem) (κ : Kp) (out : Ou), WF M → kN κ = 180 → P z (pc, ls, st, M, (κ.1, κ.2.1, true, κ.2.2.2)) out → P z (pc, ls, st, M, κ) out
def cl_weak (P : PT) : Prop := ∀ (z pc : Nat) (ls st : List Value) (M : Mem) (κ : Kp) (out : Ou) (l1 : List Value), lle l1 ls → P z (pc, l1, st, M, κ) out → P z (pc, ls, st, M, κ) out
def cl_call (P : PT) : Prop := ∀ (z pc : Nat) (ls st : List Value) (M : Mem) (κ : Kp) (out : Ou) (i : Instr) (nx y q r : Nat) (x : Int32) (av rest : List Value) (v : Option Value) (M1 : Mem) (κ1 : Kp), ins z pc = some (i, nx, y, q, r, x) → ik i ≠ 3 → y < 164 → q < 6 → st = av.reverse ++ rest → av.length = r → c1s av = true → rm8 rest → (kOf q ≠ 1 → ∃ k as, av = .ref k :: as ∧ kd k = oc y ∧ k < kN κ) → P y (0, entL y av, [], M, κ) (.inl v, M1, κ1) → P z (nx, ls, v.toList ++ rest, M1, κ1) out → P z (pc, ls, st, M, κ) out
def cl_callT (P : PT) : Prop := ∀ (z pc : Nat) (ls st : List Value) (M : Mem) (κ : Kp) (out : Ou) (i : Instr) (nx y q r : Nat) (x : Int32) (av rest : List Value) (e : Nat) (M1 : Mem) (κ1 : Kp), ins z pc = some (i, nx, y, q, r, x) → ik i ≠ 3 → y < 164 → q < 6 → st = av.reverse ++ rest → av.length = r → c1s av = true → rm8 rest → (kOf q ≠ 1 → ∃ k as, av = .ref k :: as ∧ kd k = oc y ∧ k < kN κ) → q = 0 → z < 166 → hh z = [] → P y (0, entL y av, [], M, κ) (.inr e, M1, κ1) → P z (pc, ls, st, M, κ) (.inr e, M1, κ1)
def cl_callC (P : PT) : Prop := ∀ (z pc : Nat) (ls st : List Value) (M : Mem) (κ : Kp) (out : Ou) (i : Instr) (nx y q r : Nat) (x : Int32) (av rest : List Value) (e n hp : Nat) (M1 : Mem) (κ1 : Kp) (w : Int32), ins z pc = some (i, nx, y, q, r, x) → ik i ≠ 3 → y < 164 → q < 6 → st = av.reverse ++ rest → av.length = r → c1s av = true → rm8 rest → (kOf q ≠ 1 → ∃ k as, av = .ref k :: as ∧ kd k = oc y ∧ k < kN κ) → q = 0 → z < 166 → (z, e, w, n, hp) ∈ hdL → P y (0, entL y av, [], M, κ) (.inr e, M1, κ1) → P z (pc, ls, st, M, κ) (.inl (some (.int w)), M1, κ1)
def cl_mmax (P : PT) : Prop := ∀ (z pc : Nat) (ls st : List Value) (M : Mem) (κ : Kp) (out : Ou) (i : Instr) (nx q r : Nat) (x a b : Int32), ins z pc = some (i, nx, 164, q, r, x) → ik i = 1 → q < 6 → (st.map fun v => v.category).sum ≤ 4 → P z (nx, ls, .int (if a < b then b else a) :: st, M, κ) out → P z (pc, ls, .int b :: .int a :: st, M, κ) out
def cl_mabs (P : PT) : Prop := ∀ (z pc : Nat) (ls st : List Value) (M : Mem) (κ : Kp) (out : Ou) (i : Instr) (nx q r : Nat) (x a : Int32), ins z pc = some (i, nx, 165, q, r, x) → ik i = 1 → q < 6 → (st.map fun v => v.category).sum ≤ 4 → P z (nx, ls, .int (if 0 ≤ a then a else 0 - a) :: st, M, κ) out → P z (pc, ls, .int a :: st, M, κ) out
def cl_throw (P : PT) : Prop := ∀ (z pc : Nat) (ls st : List Value) (M : Mem) (κ : Kp) (out : Ou) (nx p q r : Nat) (x : Int32) (a : Nat), ins z pc = some (.new a, nx, p, q, r, x) → q = 1 → kR κ = true → z < 166 → hh z = [] → rm8 st → P z (pc, ls, st, M, κ) (.inr p, M, (κ.1, κ.2.1, κ.2.2.1, kN κ, kC κ + 1, kU κ + 6))
def cl_iret (P : PT) : Prop := ∀ (z pc : Nat) (ls st : List Value) (M : Mem) (κ : Kp) (out : Ou) (nx p q r : Nat) (x : Int32) (v : Int32), ins z pc = some (.ireturn, nx, p, q, r, x) → (rt z = some .int ∨ (rt z = some .boolean ∧ isB v = true)) → P z (pc, ls, [.int v], M, κ) (.inl (some (.int v)), M, κ)
def cl_lret (P : PT) : Prop := ∀ (z pc : Nat) (ls st : List Value) (M : Mem) (κ : Kp) (out : Ou) (nx p q r : Nat) (x : Int32) (v : Int64), ins z pc = some (.lreturn, nx, p, q, r, x) → rt z = some .long → P z (pc, ls, [.long v], M, κ) (.inl (some (.long v)), M, κ)
def cl_dret (P : PT) : Prop := ∀ (z pc : Nat) (ls st : List Value) (M : Mem) (κ : Kp) (out : Ou) (nx p q r : Nat) (x : Int32) (v : UInt64), ins z pc = some (.dreturn, nx, p, q, r, x) → rt z = some .double → P z (pc, ls, [.double v], M, κ) (.inl (some (.double v)), M, κ)
def cl_vret (P : PT) : Prop := ∀ (z pc : Nat) (ls st : List Value) (M : Mem) (κ : Kp) (out : Ou) (nx p q r : Nat) (x : Int32), ins z pc = some (.return_, nx, p, q, r, x) → rt z = none → P z (pc, ls, [], M, κ) (.inl none, M, κ)
/-- closed under every clause -/
def Cl (P : PT) : Prop := cl_push P ∧ cl_lpush P ∧ cl_dpush P ∧ cl_load P ∧ cl_store P ∧ cl_iinc P ∧ cl_bin P ∧ cl_div P ∧ cl_neg P ∧ cl_i2l P ∧ cl_i2d P ∧ cl_lcmp P ∧ cl_lor P ∧ cl_lshl P ∧ cl_dcmp P ∧ cl_dmul P ∧ cl_ddiv P ∧ cl_dup P ∧ cl_dup2 P ∧ cl_if0 P ∧ cl_if2 P ∧ cl_goto P ∧ cl_table P ∧ cl_getI P ∧ cl_getR P ∧ cl_getD P ∧ cl_putI P ∧ cl_putR P ∧ cl_putD P ∧ cl_iald P ∧ cl_sald P ∧ cl_slen P ∧ cl_alen P ∧ cl_zald P ∧ cl_aald P ∧ cl_lald P ∧ cl_dald P ∧ cl_iast P ∧ cl_zast P ∧ cl_aast P ∧ cl_last P ∧ cl_dast P ∧ cl_new P ∧ cl_newa P ∧ cl_anew P ∧ cl_oinit P ∧ cl_ready P ∧ cl_weak P ∧ cl_call P ∧ cl_callT P ∧ cl_callC P ∧ cl_mmax P ∧ cl_mabs P ∧ cl_throw P ∧ cl_iret P ∧ cl_lret P ∧ cl_dret P ∧ cl_vret P
theorem Cl.push {P : PT} (h : Cl P) : cl_push P := h.1
theorem Cl.lpush {P : PT} (h : Cl P) : cl_lpush P := h.2.1
theorem Cl.dpush {P : PT} (h : Cl P) : cl_dpush P := h.2.2.1
theorem Cl.load {P : PT} (h : Cl P) : cl_load P := h.2.2.2.1
theorem Cl.store {P : PT} (h : Cl P) : cl_store P := h.2.2.2.2.1
theorem Cl.iinc {P : PT} (h : Cl P) : cl_iinc P := h.2.2.2.2.2.1
theorem Cl.bin {P : PT} (h : Cl P) : cl_bin P := h.2.2.2.2.2.2.1
theorem Cl.div {P : PT} (h : Cl P) : cl_div P := h.2.2.2.2.2.2.2.1
theorem Cl.neg {P : PT} (h : Cl P) : cl_neg P := h.2.2.2.2.2.2.2.2.1
theorem Cl.i2l {P : PT} (h : Cl P) : cl_i2l P := h.2.2.2.2.2.2.2.2.2.1
theorem Cl.i2d {P : PT} (h : Cl P) : cl_i2d P := h.2.2.2.2.2.2.2.2.2.2.1
theorem Cl.lcmp {P : PT} (h : Cl P) : cl_lcmp P := h.2.2.2.2.2.2.2.2.2.2.2.1
theorem Cl.lor {P : PT} (h : Cl P) : cl_lor P := h.2.2.2.2.2.2.2.2.2.2.2.2.1
theorem Cl.lshl {P : PT} (h : Cl P) : cl_lshl P := h.2.2.2.2.2.2.2.2.2.2.2.2.2.1
theorem Cl.dcmp {P : PT} (h : Cl P) : cl_dcmp P := h.2.2.2.2.2.2.2.2.2.2.2.2.2.2.1
theorem Cl.dmul {P : PT} (h : Cl P) : cl_dmul P := h.2.2.2.2.2.2.2.2.2.2.2.2.2.2.2.1
theorem Cl.ddiv {P : PT} (h : Cl P) : cl_ddiv P := h.2.2.2.2.2.2.2.2.2.2.2.2.2.2.2.2.1
theorem Cl.dup {P : PT} (h : Cl P) : cl_dup P := h.2.2.2.2.2.2.2.2.2.2.2.2.2.2.2.2.2.1
theorem Cl.dup2 {P : PT} (h : Cl P) : cl_dup2 P := h.2.2.2.2.2.2.2.2.2.2.2.2.2.2.2.2.2.2.1
theorem Cl.if0 {P : PT} (h : Cl P) : cl_if0 P := h.2.2.2.2.2.2.2.2.2.2.2.2.2.2.2.2.2.2.2.1
theorem Cl.if2 {P : PT} (h : Cl P) : cl_if2 P := h.2.2.2.2.2.2.2.2.2.2.2.2.2.2.2.2.2.2.2.2.1
theorem Cl.goto {P : PT} (h : Cl P) : cl_goto P := h.2.2.2.2.2.2.2.2.2.2.2.2.2.2.2.2.2.2.2.2.2.1
theorem Cl.table {P : PT} (h : Cl P) : cl_table P := h.2.2.2.2.2.2.2.2.2.2.2.2.2.2.2.2.2.2.2.2.2.2.1
theorem Cl.getI {P : PT} (h : Cl P) : cl_getI P := h.2.2.2.2.2.2.2.2.2.2.2.2.2.2.2.2.2.2.2.2.2.2.2.1
theorem Cl.getR {P : PT} (h : Cl P) : cl_getR P := h.2.2.2.2.2.2.2.2.2.2.2.2.2.2.2.2.2.2.2.2.2.2.2.2.1
theorem Cl.getD {P : PT} (h : Cl P) : cl_getD P := h.2.2.2.2.2.2.2.2.2.2.2.2.2.2.2.2.2.2.2.2.2.2.2.2.2.1
theorem Cl.putI {P : PT} (h : Cl P) : cl_putI P := h.2.2.2.2.2.2.2.2.2.2.2.2.2.2.2.2.2.2.2.2.2.2.2.2.2.2.1
theorem Cl.putR {P : PT} (h : Cl P) : cl_putR P := h.2.2.2.2.2.2.2.2.2.2.2.2.2.2.2.2.2.2.2.2.2.2.2.2.2.2.2.1
theorem Cl.putD {P : PT} (h : Cl P) : cl_putD P := h.2.2.2.2.2.2.2.2.2.2.2.2.2.2.2.2.2.2.2.2.2.2.2.2.2.2.2.2.1
theorem Cl.iald {P : PT} (h : Cl P) : cl_iald P := h.2.2.2.2.2.2.2.2.2.2.2.2.2.2.2.2.2.2.2.2.2.2.2.2.2.2.2.2.2.1
theorem Cl.sald {P : PT} (h : Cl P) : cl_sald P := h.2.2.2.2.2.2.2.2.2.2.2.2.2.2.2.2.2.2.2.2.2.2.2.2.2.2.2.2.2.2.1
theorem Cl.slen {P : PT} (h : Cl P) : cl_slen P := h.2.2.2.2.2.2.2.2.2.2.2.2.2.2.2.2.2.2.2.2.2.2.2.2.2.2.2.2.2.2.2.1
theorem Cl.alen {P : PT} (h : Cl P) : cl_alen P := h.2.2.2.2.2.2.2.2.2.2.2.2.2.2.2.2.2.2.2.2.2.2.2.2.2.2.2.2.2.2.2.2.1
theorem Cl.zald {P : PT} (h : Cl P) : cl_zald P := h.2.2.2.2.2.2.2.2.2.2.2.2.2.2.2.2.2.2.2.2.2.2.2.2.2.2.2.2.2.2.2.2.2.1
theorem Cl.aald {P : PT} (h : Cl P) : cl_aald P := h.2.2.2.2.2.2.2.2.2.2.2.2.2.2.2.2.2.2.2.2.2.2.2.2.2.2.2.2.2.2.2.2.2.2.1
theorem Cl.lald {P : PT} (h : Cl P) : cl_lald P := h.2.2.2.2.2.2.2.2.2.2.2.2.2.2.2.2.2.2.2.2.2.2.2.2.2.2.2.2.2.2.2.2.2.2.2.1
theorem Cl.dald {P : PT} (h : Cl P) : cl_dald P := h.2.2.2.2.2.2.2.2.2.2.2.2.2.2.2.2.2.2.2.2.2.2.2.2.2.2.2.2.2.2.2.2.2.2.2.2.1
theorem Cl.iast {P : PT} (h : Cl P) : cl_iast P := h.2.2.2.2.2.2.2.2.2.2.2.2.2.2.2.2.2.2.2.2.2.2.2.2.2.2.2.2.2.2.2.2.2.2.2.2.2.1
theorem Cl.zast {P : PT} (h : Cl P) : cl_zast P := h.2.2.2.2.2.2.2.2.2.2.2.2.2.2.2.2.2.2.2.2.2.2.2.2.2.2.2.2.2.2.2.2.2.2.2.2.2.2.1
theorem Cl.aast {P : PT} (h : Cl P) : cl_aast P := h.2.2.2.2.2.2.2.2.2.2.2.2.2.2.2.2.2.2.2.2.2.2.2.2.2.2.2.2.2.2.2.2.2.2.2.2.2.2.2.1
theorem Cl.last {P : PT} (h : Cl P) : cl_last P := h.2.2.2.2.2.2.2.2.2.2.2.2.2.2.2.2.2.2.2.2.2.2.2.2.2.2.2.2.2.2.2.2.2.2.2.2.2.2.2.2.1
theorem Cl.dast {P : PT} (h : Cl P) : cl_dast P := h.2.2.2.2.2.2.2.2.2.2.2.2.2.2.2.2.2.2.2.2.2.2.2.2.2.2.2.2.2.2.2.2.2.2.2.2.2.2.2.2.2.1
theorem Cl.new {P : PT} (h : Cl P) : cl_new P := h.2.2.2.2.2.2.2.2.2.2.2.2.2.2.2.2.2.2.2.2.2.2.2.2.2.2.2.2.2.2.2.2.2.2.2.2.2.2.2.2.2.2.1
theorem Cl.newa {P : PT} (h : Cl P) : cl_newa P := h.2.2.2.2.2.2.2.2.2.2.2.2.2.2.2.2.2.2.2.2.2.2.2.2.2.2.2.2.2.2.2.2.2.2.2.2.2.2.2.2.2.2.2.1
theorem Cl.anew {P : PT} (h : Cl P) : cl_anew P := h.2.2.2.2.2.2.2.2.2.2.2.2.2.2.2.2.2.2.2.2.2.2.2.2.2.2.2.2.2.2.2.2.2.2.2.2.2.2.2.2.2.2.2.2.1
theorem Cl.oinit {P : PT} (h : Cl P) : cl_oinit P := h.2.2.2.2.2.2.2.2.2.2.2.2.2.2.2.2.2.2.2.2.2.2.2.2.2.2.2.2.2.2.2.2.2.2.2.2.2.2.2.2.2.2.2.2.2.1
theorem Cl.ready {P : PT} (h : Cl P) : cl_ready P := h.2.2.2.2.2.2.2.2.2.2.2.2.2.2.2.2.2.2.2.2.2.2.2.2.2.2.2.2.2.2.2.2.2.2.2.2.2.2.2.2.2.2.2.2.2.2.1
theorem Cl.weak {P : PT} (h : Cl P) : cl_weak P := h.2.2.2.2.2.2.2.2.2.2.2.2.2.2.2.2.2.2.2.2.2.2.2.2.2.2.2.2.2.2.2.2.2.2.2.2.2.2.2.2.2.2.2.2.2.2.2.1
theorem Cl.call {P : PT} (h : Cl P) : cl_call P := h.2.2.2.2.2.2.2.2.2.2.2.2.2.2.2.2.2.2.2.2.2.2.2.2.2.2.2.2.2.2.2.2.2.2.2.2.2.2.2.2.2.2.2.2.2.2.2.2.1
theorem Cl.callT {P : PT} (h : Cl P) : cl_callT P := h.2.2.2.2.2.2.2.2.2.2.2.2.2.2.2.2.2.2.2.2.2.2.2.2.2.2.2.2.2.2.2.2.2.2.2.2.2.2.2.2.2.2.2.2.2.2.2.2.2.1
theorem Cl.callC {P : PT} (h : Cl P) : cl_callC P := h.2.2.2.2.2.2.2.2.2.2.2.2.2.2.2.2.2.2.2.2.2.2.2.2.2.2.2.2.2.2.2.2.2.2.2.2.2.2.2.2.2.2.2.2.2.2.2.2.2.2.1
theorem Cl.mmax {P : PT} (h : Cl P) : cl_mmax P := h.2.2.2.2.2.2.2.2.2.2.2.2.2.2.2.2.2.2.2.2.2.2.2.2.2.2.2.2.2.2.2.2.2.2.2.2.2.2.2.2.2.2.2.2.2.2.2.2.2.2.2.1
theorem Cl.mabs {P : PT} (h : Cl P) : cl_mabs P := h.2.2.2.2.2.2.2.2.2.2.2.2.2.2.2.2.2.2.2.2.2.2.2.2.2.2.2.2.2.2.2.2.2.2.2.2.2.2.2.2.2.2.2.2.2.2.2.2.2.2.2.2.1
theorem Cl.throw {P : PT} (h : Cl P) : cl_throw P := h.2.2.2.2.2.2.2.2.2.2.2.2.2.2.2.2.2.2.2.2.2.2.2.2.2.2.2.2.2.2.2.2.2.2.2.2.2.2.2.2.2.2.2.2.2.2.2.2.2.2.2.2.2.1
theorem Cl.iret {P : PT} (h : Cl P) : cl_iret P := h.2.2.2.2.2.2.2.2.2.2.2.2.2.2.2.2.2.2.2.2.2.2.2.2.2.2.2.2.2.2.2.2.2.2.2.2.2.2.2.2.2.2.2.2.2.2.2.2.2.2.2.2.2.2.1
theorem Cl.lret {P : PT} (h : Cl P) : cl_lret P := h.2.2.2.2.2.2.2.2.2.2.2.2.2.2.2.2.2.2.2.2.2.2.2.2.2.2.2.2.2.2.2.2.2.2.2.2.2.2.2.2.2.2.2.2.2.2.2.2.2.2.2.2.2.2.2.1
theorem Cl.dret {P : PT} (h : Cl P) : cl_dret P := h.2.2.2.2.2.2.2.2.2.2.2.2.2.2.2.2.2.2.2.2.2.2.2.2.2.2.2.2.2.2.2.2.2.2.2.2.2.2.2.2.2.2.2.2.2.2.2.2.2.2.2.2.2.2.2.2.1
theorem Cl.vret {P : PT} (h : Cl P) : cl_vret P := h.2.2.2.2.2.2.2.2.2.2.2.2.2.2.2.2.2.2.2.2.2.2.2.2.2.2.2.2.2.2.2.2.2.2.2.2.2.2.2.2.2.2.2.2.2.2.2.2.2.2.2.2.2.2.2.2.2
/-- the least closed relation -/
def Run (z : Nat) (s : St) (out : Ou) : Prop := ∀ P : PT, Cl P → P z s out
theorem Run_push : cl_push Run := fun z pc ls st M κ out i nx p q r x h0 h1 h2 P hP => Cl.push hP z pc ls st M κ out i nx p q r x h0 h1 (h2 P hP)
theorem Run_lpush : cl_lpush Run := fun z pc ls st M κ out nx p q r x h0 h1 P hP => Cl.lpush hP z pc ls st M κ out nx p q r x h0 (h1 P hP)
theorem Run_dpush : cl_dpush Run := fun z pc ls st M κ out nx p q r x h0 h1 P hP => Cl.dpush hP z pc ls st M κ out nx p q r x h0 (h1 P hP)
theorem Run_load : cl_load Run := fun z pc ls st M κ out i nx p q r x v h0 h1 h2 h3 P hP => Cl.load hP z pc ls st M κ out i nx p q r x v h0 h1 h2 (h3 P hP)
theorem Run_store : cl_store Run := fun z pc ls st M κ out i nx p q r x v h0 h1 h2 h3 P hP => Cl.store hP z pc ls st M κ out i nx p q r x v h0 h1 h2 (h3 P hP)
theorem Run_iinc : cl_iinc Run := fun z pc ls st M κ out nx p q r x a b y h0 h1 h2 P hP => Cl.iinc hP z pc ls st M κ out nx p q r x a b y h0 h1 (h2 P hP)
theorem Run_bin : cl_bin Run := fun z pc ls st M κ out i nx p q r x f a b h0 h1 h2 P hP => Cl.bin hP z pc ls st M κ out i nx p q r x f a b h0 h1 (h2 P hP)
theorem Run_div : cl_div Run := fun z pc ls st M κ out i nx p q r x f a b h0 h1 h2 h3 P hP => Cl.div hP z pc ls st M κ out i nx p q r x f a b h0 h1 h2 (h3 P hP)
theorem Run_neg : cl_neg Run := fun z pc ls st M κ out nx p q r x a h0 h1 P hP => Cl.neg hP z pc ls st M κ out nx p q r x a h0 (h1 P hP)
theorem Run_i2l : cl_i2l Run := fun z pc ls st M κ out nx p q r x a h0 h1 P hP => Cl.i2l hP z pc ls st M κ out nx p q r x a h0 (h1 P hP)
theorem Run_i2d : cl_i2d Run := fun z pc ls st M κ out nx p q r x a h0 h1 P hP => Cl.i2d hP z pc ls st M κ out nx p q r x a h0 (h1 P hP)
theorem Run_lcmp : cl_lcmp Run := fun z pc ls st M κ out nx p q r x a b h0 h1 P hP => Cl.lcmp hP z pc ls st M κ out nx p q r x a b h0 (h1 P hP)
theorem Run_lor : cl_lor Run := fun z pc ls st M κ out nx p q r x a b h0 h1 P hP => Cl.lor hP z pc ls st M κ out nx p q r x a b h0 (h1 P hP)
theorem Run_lshl : cl_lshl Run := fun z pc ls st M κ out nx p q r x a b h0 h1 P hP => Cl.lshl hP z pc ls st M κ out nx p q r x a b h0 (h1 P hP)
theorem Run_dcmp : cl_dcmp Run := fun z pc ls st M κ out nx p q r x o a b h0 h1 P hP => Cl.dcmp hP z pc ls st M κ out nx p q r x o a b h0 (h1 P hP)
theorem Run_dmul : cl_dmul Run := fun z pc ls st M κ out nx p q r x a b h0 h1 h2 P hP => Cl.dmul hP z pc ls st M κ out nx p q r x a b h0 h1 (h2 P hP)
theorem Run_ddiv : cl_ddiv Run := fun z pc ls st M κ out nx p q r x a b h0 h1 h2 P hP => Cl.ddiv hP z pc ls st M κ out nx p q r x a b h0 h1 (h2 P hP)
theorem Run_dup : cl_dup Run := fun z pc ls st M κ out nx p q r x v h0 h1 h2 P hP => Cl.dup hP z pc ls st M κ out nx p q r x v h0 h1 (h2 P hP)
theorem Run_dup2 : cl_dup2 Run := fun z pc ls st M κ out nx p q r x v w h0 h1 h2 h3 P hP => Cl.dup2 hP z pc ls st M κ out nx p q r x v w h0 h1 h2 (h3 P hP)
theorem Run_if0 : cl_if0 Run := fun z pc ls st M κ out nx p q r x c o a h0 h1 h2 P hP => Cl.if0 hP z pc ls st M κ out nx p q r x c o a h0 (fun c => h1 c P hP) (fun c => h2 c P hP)
theorem Run_if2 : cl_if2 Run := fun z pc ls st M κ out nx p q r x c o a b h0 h1 h2 P hP => Cl.if2 hP z pc ls st M κ out nx p q r x c o a b h0 (fun c => h1 c P hP) (fun c => h2 c P hP)
theorem Run_goto : cl_goto Run := fun z pc ls st M κ out nx p q r x o h0 h1 P hP => Cl.goto hP z pc ls st M κ out nx p q r x o h0 (h1 P hP)
theorem Run_table : cl_table Run := fun z pc ls st M κ out i nx p q r x a tgt h0 h1 h2 P hP => Cl.table hP z pc ls st M κ out i nx p q r x a tgt h0 h1 (h2 P hP)
theorem Run_getI : cl_getI Run := fun z pc ls st M κ out nx p q r x a k h0 h1 h2 h3 h4 P hP => Cl.getI hP z pc ls st M κ out nx p q r x a k h0 h1 h2 h3 (h4 P hP)
theorem Run_getR : cl_getR Run := fun z pc ls st M κ out nx p q r x a k h0 h1 h2 h3 h4 h5 P hP => Cl.getR hP z pc ls st M κ out nx p q r x a k h0 h1 h2 h3 h4 (h5 P hP)
theorem Run_getD : cl_getD Run := fun z pc ls st M κ out nx p q r x a k d h0 h1 h2 h3 h4 h5 h6 h7 P hP => Cl.getD hP z pc ls st M κ out nx p q r x a k d h0 h1 h2 h3 h4 h5 h6 (h7 P hP)
theorem Run_putI : cl_putI Run := fun z pc ls st M κ out nx p q r x a k v h0 h1 h2 h3 h4 h5 P hP => Cl.putI hP z pc ls st M κ out nx p q r x a k v h0 h1 h2 h3 h4 (h5 P hP)
theorem Run_putR : cl_putR Run := fun z pc ls st M κ out nx p q r x a k d h0 h1 h2 h3 h4 h5 h6 h7 P hP => Cl.putR hP z pc ls st M κ out nx p q r x a k d h0 h1 h2 h3 h4 h5 h6 (h7 P hP)
theorem Run_putD : cl_putD Run := fun z pc ls st M κ out nx p q r x a k d h0 h1 h2 h3 h4 h5 h6 P hP => Cl.putD hP z pc ls st M κ out nx p q r x a k d h0 h1 h2 h3 h4 h5 (h6 P hP)
theorem Run_iald : cl_iald Run := fun z pc ls st M κ out nx p q r x k a h0 h1 h2 h3 h4 P hP => Cl.iald hP z pc ls st M κ out nx p q r x k a h0 h1 h2 h3 (h4 P hP)
theorem Run_sald : cl_sald Run := fun z pc ls st M κ out nx p q r x a h0 h1 h2 P hP => Cl.sald hP z pc ls st M κ out nx p q r x a h0 h1 (h2 P hP)
theorem Run_slen : cl_slen Run := fun z pc ls st M κ out nx p q r x h0 h1 P hP => Cl.slen hP z pc ls st M κ out nx p q r x h0 (h1 P hP)
theorem Run_alen : cl_alen Run := fun z pc ls st M κ out nx p q r x k h0 h1 h2 h3 P hP => Cl.alen hP z pc ls st M κ out nx p q r x k h0 h1 h2 (h3 P hP)
theorem Run_zald : cl_zald Run := fun z pc ls st M κ out nx p q r x k a h0 h1 h2 h3 h4 P hP => Cl.zald hP z pc ls st M κ out nx p q r x k a h0 h1 h2 h3 (h4 P hP)
theorem Run_aald : cl_aald Run := fun z pc ls st M κ out nx p q r x k a h0 h1 h2 h3 h4 h5 P hP => Cl.aald hP z pc ls st M κ out nx p q r x k a h0 h1 h2 h3 h4 (h5 P hP)
theorem Run_lald : cl_lald Run := fun z pc ls st M κ out nx p q r x k a h0 h1 h2 h3 h4 P hP => Cl.lald hP z pc ls st M κ out nx p q r x k a h0 h1 h2 h3 (h4 P hP)
theorem Run_dald : cl_dald Run := fun z pc ls st M κ out nx p q r x k a h0 h1 h2 h3 h4 P hP => Cl.dald hP z pc ls st M κ out nx p q r x k a h0 h1 h2 h3 (h4 P hP)
theorem Run_iast : cl_iast Run := fun z pc ls st M κ out nx p q r x k a v h0 h1 h2 h3 h4 P hP => Cl.iast hP z pc ls st M κ out nx p q r x k a v h0 h1 h2 h3 (h4 P hP)
theorem Run_zast : cl_zast Run := fun z pc ls st M κ out nx p q r x k a v h0 h1 h2 h3 h4 h5 P hP => Cl.zast hP z pc ls st M κ out nx p q r x k a v h0 h1 h2 h3 h4 (h5 P hP)
theorem Run_aast : cl_aast Run := fun z pc ls st M κ out nx p q r x k d a h0 h1 h2 h3 h4 h5 h6 h7 P hP => Cl.aast hP z pc ls st M κ out nx p q r x k d a h0 h1 h2 h3 h4 h5 h6 (h7 P hP)
theorem Run_last : cl_last Run := fun z pc ls st M κ out nx p q r x k a v h0 h1 h2 h3 h4 P hP => Cl.last hP z pc ls st M κ out nx p q r x k a v h0 h1 h2 h3 (h4 P hP)
theorem Run_dast : cl_dast Run := fun z pc ls st M κ out nx p q r x k a v h0 h1 h2 h3 h4 P hP => Cl.dast hP z pc ls st M κ out nx p q r x k a v h0 h1 h2 h3 (h4 P hP)
theorem Run_new : cl_new Run := fun z pc ls st M κ out nx p q r x a h0 h1 h2 h3 h4 h5 h6 P hP => Cl.new hP z pc ls st M κ out nx p q r x a h0 h1 h2 h3 h4 h5 (h6 P hP)
theorem Run_newa : cl_newa Run := fun z pc ls st M κ out nx p q r x t n h0 h1 h2 h3 h4 h5 h6 h7 h8 h9 h10 P hP => Cl.newa hP z pc ls st M κ out nx p q r x t n h0 h1 h2 h3 h4 h5 h6 h7 h8 h9 (h10 P hP)
theorem Run_anew : cl_anew Run := fun z pc ls st M κ out nx p q r x a h0 h1 h2 h3 h4 h5 P hP => Cl.anew hP z pc ls st M κ out nx p q r x a h0 h1 h2 h3 h4 (h5 P hP)
theorem Run_oinit : cl_oinit Run := fun z pc ls st M κ out nx p q r x a k h0 h1 h2 h3 P hP => Cl.oinit hP z pc ls st M κ out nx p q r x a k h0 h1 h2 (h3 P hP)
theorem Run_ready : cl_ready Run := fun z pc ls st M κ out h0 h1 h2 P hP => Cl.ready hP z pc ls st M κ out h0 h1 (h2 P hP)
theorem Run_weak : cl_weak Run := fun z pc ls st M κ out l1 h0 h1 P hP => Cl.weak hP z pc ls st M κ out l1 h0 (h1 P hP)
theorem Run_call : cl_call Run := fun z pc ls st M κ out i nx y q r x av rest v M1 κ1 h0 h1 h2 h3 h4 h5 h6 h7 h8 h9 h10 P hP => Cl.call hP z pc ls st M κ out i nx y q r x av rest v M1 κ1 h0 h1 h2 h3 h4 h5 h6 h7 h8 (h9 P hP) (h10 P hP)
theorem Run_callT : cl_callT Run := fun z pc ls st M κ out i nx y q r x av rest e M1 κ1 h0 h1 h2 h3 h4 h5 h6 h7 h8 h9 h10 h11 h12 P hP => Cl.callT hP z pc ls st M κ out i nx y q r x av rest e M1 κ1 h0 h1 h2 h3 h4 h5 h6 h7 h8 h9 h10 h11 (h12 P hP)
theorem Run_callC : cl_callC Run := fun z pc ls st M κ out i nx y q r x av rest e n hp M1 κ1 w h0 h1 h2 h3 h4 h5 h6 h7 h8 h9 h10 h11 h12 P hP => Cl.callC hP z pc ls st M κ out i nx y q r x av rest e n hp M1 κ1 w h0 h1 h2 h3 h4 h5 h6 h7 h8 h9 h10 h11 (h12 P hP)
theorem Run_mmax : cl_mmax Run := fun z pc ls st M κ out i nx q r x a b h0 h1 h2 h3 h4 P hP => Cl.mmax hP z pc ls st M κ out i nx q r x a b h0 h1 h2 h3 (h4 P hP)
theorem Run_mabs : cl_mabs Run := fun z pc ls st M κ out i nx q r x a h0 h1 h2 h3 h4 P hP => Cl.mabs hP z pc ls st M κ out i nx q r x a h0 h1 h2 h3 (h4 P hP)
theorem Run_throw : cl_throw Run := fun z pc ls st M κ out nx p q r x a h0 h1 h2 h3 h4 h5 P hP => Cl.throw hP z pc ls st M κ out nx p q r x a h0 h1 h2 h3 h4 h5
theorem Run_iret : cl_iret Run := fun z pc ls st M κ out nx p q r x v h0 h1 P hP => Cl.iret hP z pc ls st M κ out nx p q r x v h0 h1
theorem Run_lret : cl_lret Run := fun z pc ls st M κ out nx p q r x v h0 h1 P hP => Cl.lret hP z pc ls st M κ out nx p q r x v h0 h1
theorem Run_dret : cl_dret Run := fun z pc ls st M κ out nx p q r x v h0 h1 P hP => Cl.dret hP z pc ls st M κ out nx p q r x v h0 h1
theorem Run_vret : cl_vret Run := fun z pc ls st M κ out nx p q r x h0 h1 P hP => Cl.vret hP z pc ls st M κ out nx p q r x h0 h1
end
section
/-! SOUNDNESS, 1: the pictures -/
def mv (a : Nat → Nat) : Value → Value
  | .ref k => .ref (a k)
  | v => v
theorem mv_cat (a : Nat → Nat) (v : Value) : (mv a v).category = v.category := by cases v <;> rfl
theorem mv_cats (a : Nat → Nat) (l : List Value) : ((l.map (mv a)).map fun v => v.category) = l.map fun v => v.category := by
  rw [List.map_map]
  exact List.map_congr_left (fun v _ => mv_cat a v)
def lvl (a : Nat → Nat) : Nat → List Value → List (Nat × Value)
  | _, [] => []
  | i, v :: vs => if v = UU then lvl a (i + 1) vs else (i, mv a v) :: lvl a (i + 1) vs
theorem mem_lvl {a : Nat → Nat} {q : Nat × Value} : ∀ (l : List Value) (i : Nat), q ∈ lvl a i l ↔ ∃ (j : Nat) (v : Value), l[j]? = some v ∧ v ≠ UU ∧ q = (i + j, mv a v) := by
  intro l
  induction l with
  | nil => intro i; simp [lvl]
  | cons w ws ih =>
    intro i
    have step : (∃ (j : Nat) (v : Value), (w :: ws)[j]? = some v ∧ v ≠ UU ∧ q = (i + j, mv a v)) ↔ (w ≠ UU ∧ q = (i, mv a w)) ∨ ∃ (j : Nat) (v : Value), ws[j]? = some v ∧ v ≠ UU ∧ q = (i + 1 + j, mv a v) := by
      constructor
      · rintro ⟨j, v, h1, h2, h3⟩
        cases j with
        | zero =>
          rw [List.getElem?_cons_zero] at h1
          cases h1
          exact Or.inl ⟨h2, by simpa using h3⟩
        | succ j =>
          rw [List.getElem?_cons_succ] at h1
          exact Or.inr ⟨j, v, h1, h2, by rw [h3, show i + (j + 1) = i + 1 + j by omega]⟩
      · rintro (⟨h1, h2⟩ | ⟨j, v, h1, h2, h3⟩)
        · exact ⟨0, w, rfl, h1, by simpa using h2⟩
        · exact ⟨j + 1, v, by rw [List.getElem?_cons_succ]; exact h1, h2, by rw [h3, show i + (j + 1) = i + 1 + j by omega]⟩
    rw [step]
    unfold lvl
    by_cases hw : w = UU
    · rw [if_pos hw, ih (i + 1)]
      simp [hw]
    · rw [if_neg hw, List.mem_cons, ih (i + 1)]
      simp [hw]
def LV (a : Nat → Nat) (ls : List Value) (n : Nat) (arr : Array Slot) : Prop := ls.length ≤ n ∧ lv_has arr n (lvl a 0 ls)
theorem LV.get {a : Nat → Nat} {ls : List Value} {n : Nat} {arr : Array Slot} (h : LV a ls n arr) {p : Nat} {v : Value} (hp : ls[p]? = some v) (hv : v ≠ UU) : arr[p]? = some (.val (mv a v)) :=
  h.2.2.2 (p, mv a v) ((mem_lvl ls 0).mpr ⟨p, v, hp, hv, by simp⟩)
theorem lv_few {ls : Array Slot} {n : Nat} {l l' : List (Nat × Value)} (h : lv_has ls n l) (hs : ∀ q ∈ l', q ∈ l) : lv_has ls n l' := ⟨h.1, h.2.1, fun q hq => h.2.2 q (hs q hq)⟩
theorem LV.weak {a : Nat → Nat} {ls l1 : List Value} {n : Nat} {arr : Array Slot} (h : LV a ls n arr) (hl : lle l1 ls) : LV a l1 n arr := by
  refine ⟨by rw [hl.1]; exact h.1, lv_few h.2 fun q hq => ?_⟩
  obtain ⟨j, v, h1, h2, h3⟩ := (mem_lvl l1 0).mp hq
  rcases hl.2 j v h1 with h4 | h4
  · exact absurd h4 h2
  · exact (mem_lvl ls 0).mpr ⟨j, v, h4, h2, h3⟩
theorem dropL_len (ls : List Value) (i : Nat) : (dropL ls i).length = ls.length := by
  unfold dropL
  split
  · rfl
  · split <;> simp
theorem setl_len (ls : List Value) (i : Nat) (v : Value) : (setl ls i v).length = ls.length := by
  unfold setl
  split <;> simp [dropL_len]
theorem dropL_get {ls : List Value} {i j : Nat} {w : Value} (h2 : (dropL ls i)[j]? = some w) (h3 : w ≠ UU) : ls[j]? = some w ∧ ¬ (j + 1 = i ∧ w.category = 2) := by
  cases i with
  | zero => exact ⟨h2, fun q => by omega⟩
  | succ k =>
    have hset : (ls.set k UU)[j]? = some w → ls[j]? = some w ∧ ¬ (j + 1 = k + 1 ∧ w.category = 2) := by
      intro hx
      rw [List.getElem?_set] at hx
      split at hx
      · split at hx
        · cases hx
          exact absurd rfl h3
        · cases hx
      · rename_i hkj
        exact ⟨hx, fun q => hkj (by omega)⟩
    unfold dropL at h2
    dsimp only at h2
    split at h2
    · exact hset h2
    · exact hset h2
    · rename_i hn1 hn2
      refine ⟨h2, fun q => ?_⟩
      obtain ⟨q1, q2⟩ := q
      have hjk : j = k := by omega
      subst hjk
      cases w <;> simp [Value.category] at q2
      · exact hn1 _ h2
      · exact hn2 _ h2
theorem setl_get {ls : List Value} {i : Nat} {v : Value} {j : Nat} {w : Value} (h : (setl ls i v)[j]? = some w) (hw : w ≠ UU) :
    (j = i ∧ w = v) ∨ (j ≠ i ∧ ls[j]? = some w ∧ ¬ (j + 1 = i ∧ w.category = 2) ∧ (v.category = 2 → j ≠ i + 1)) := by
  unfold setl at h
  split at h
  · rename_i hc
    rw [List.getElem?_set] at h
    split at h
    · split at h
      · cases h
        exact absurd rfl hw
      · cases h
    · rename_i hne
      rw [List.getElem?_set] at h
      split at h
      · rename_i hij
        split at h
        · cases h
          exact Or.inl ⟨hij.symm, rfl⟩
        · cases h
      · rename_i hij
        obtain ⟨k1, k2⟩ := dropL_get h hw
        exact Or.inr ⟨fun q => hij q.symm, k1, k2, fun _ q => hne q.symm⟩
  · rename_i hc
    rw [List.getElem?_set] at h
    split at h
    · rename_i hij
      split at h
      · cases h
        exact Or.inl ⟨hij.symm, rfl⟩
      · cases h
    · rename_i hij
      obtain ⟨k1, k2⟩ := dropL_get h hw
      exact Or.inr ⟨fun q => hij q.symm, k1, k2, fun q => absurd q hc⟩
theorem LV.set1 {a : Nat → Nat} {ls : List Value} {n : Nat} {arr arr' : Array Slot} {i : Nat} {v : Value} (h : LV a ls n arr) (h' : lv_has arr' n ((i, mv a v) :: (lvl a 0 ls).filter (fun q => !(q.1 == i) && !(q.1 + 1 == i && q.2.category == 2)))) : LV a (setl ls i v) n arr' := by
  refine ⟨by rw [setl_len]; exact h.1, lv_few h' fun q hq => ?_⟩
  obtain ⟨j, w, h1, h2, h3⟩ := (mem_lvl _ 0).mp hq
  rcases setl_get h1 h2 with ⟨e1, e2⟩ | ⟨e1, e2, e3, -⟩
  · subst e1; subst e2
    rw [h3, Nat.zero_add]
    exact List.mem_cons_self
  · refine List.mem_cons_of_mem _ (List.mem_filter.mpr ⟨(mem_lvl ls 0).mpr ⟨j, w, e2, h2, h3⟩, ?_⟩)
    rw [h3]
    dsimp only
    rw [mv_cat, Nat.zero_add]
    simp only [Bool.and_eq_true, Bool.not_eq_true', beq_eq_false_iff_ne, ne_eq, Bool.and_eq_false_iff]
    refine ⟨e1, ?_⟩
    by_cases hj : j + 1 = i
    · exact Or.inr (fun q => e3 ⟨hj, q⟩)
    · exact Or.inl hj
theorem LV.set2 {a : Nat → Nat} {ls : List Value} {n : Nat} {arr arr' : Array Slot} {i : Nat} {v : Value} (h : LV a ls n arr) (hv : v.category = 2) (h' : lv_has arr' n ((i, mv a v) :: (lvl a 0 ls).filter (fun q => !(q.1 == i) && (!(q.1 == i + 1) && !(q.1 + 1 == i && q.2.category == 2))))) : LV a (setl ls i v) n arr' := by
  refine ⟨by rw [setl_len]; exact h.1, lv_few h' fun q hq => ?_⟩
  obtain ⟨j, w, h1, h2, h3⟩ := (mem_lvl _ 0).mp hq
  rcases setl_get h1 h2 with ⟨e1, e2⟩ | ⟨e1, e2, e3, e4⟩
  · subst e1; subst e2
    rw [h3, Nat.zero_add]
    exact List.mem_cons_self
  · refine List.mem_cons_of_mem _ (List.mem_filter.mpr ⟨(mem_lvl ls 0).mpr ⟨j, w, e2, h2, h3⟩, ?_⟩)
    rw [h3]
    dsimp only
    rw [mv_cat, Nat.zero_add]
    simp only [Bool.and_eq_true, Bool.not_eq_true', beq_eq_false_iff_ne, ne_eq, Bool.and_eq_false_iff]
    refine ⟨e1, e4 hv, ?_⟩
    by_cases hj : j + 1 = i
    · exact Or.inr (fun q => e3 ⟨hj, q⟩)
    · exact Or.inl hj
/-! the world -/
abbrev ct (cA : Nat → ClassId) : List (ClassId × FieldType) := [(cA 20, .int), (cA 21, .boolean), (cA 22, .object "BundleMill$Block"), (cA 23, .object "BundleMill$Plan"), (cA 24, .long), (cA 25, .double)]
def fv (a : Nat → Nat) (k : Nat) (f : Nat → Int32) (j : Nat) : Value := if fty (kd k) j = 0 then .int (f j) else if f j = 0 then .null else if fty (kd k) j = 1 then .ref (a (k + off (kd k) j)) else .ref (a (f j).toNatClampNeg)
def er (a : Nat → Nat) (k : Nat) (f : Nat → Int32) (i : Nat) : Option Nat := if f i = 0 then none else some (a (elb k + 18 * i))
def eE (cA : Nat → ClassId) (a : Nat → Nat) (k : Nat) (f : Nat → Int32) (x : UInt64) : va_E :=
  if kd k ≤ 7 then .inr (kd k, (List.range (nf (kd k))).map (fv a k f))
  else if kd k = 20 then .inl (cA 20, ln k, .inl f)
  else if kd k = 21 then .inl (cA 21, ln k, .inl f)
  else if kd k = 22 then .inl (cA 22, 6, .inr (.inr (.inr (.inr (er a k f)))))
  else if kd k = 23 then .inl (cA 23, 6, .inr (.inr (.inr (.inr (er a k f)))))
  else if kd k = 24 then .inl (cA 24, 1, .inr (.inl (fun j => if j = 0 then x.toInt64 else 0)))
  else .inl (cA 25, 1, .inr (.inr (.inr (.inl (fun j => if j = 0 then x else 0)))))
def wld (cA : Nat → ClassId) (a : Nat → Nat) (M : Mem) (X : Nat → UInt64) (n : Nat) : va_W := (List.range n).map (fun k => (a k, eE cA a k (M k) (X k)))
theorem wld_get {cA : Nat → ClassId} {a : Nat → Nat} {M : Mem} {X : Nat → UInt64} {n k : Nat} (h : k < n) : (wld cA a M X n)[k]? = some (a k, eE cA a k (M k) (X k)) := by
  unfold wld
  rw [List.getElem?_map, List.getElem?_range h]
  rfl
theorem wld_set {cA : Nat → ClassId} {a : Nat → Nat} {M M' : Mem} {X X' : Nat → UInt64} {n k : Nat} (h : k < n) (hM : ∀ j, j ≠ k → M' j = M j) (hX : ∀ j, j ≠ k → X' j = X j) : (wld cA a M X n).set k (a k, eE cA a k (M' k) (X' k)) = wld cA a M' X' n := by
  apply List.ext_getElem?
  intro j
  by_cases hj : j = k
  · subst hj
    rw [wld_get h, List.getElem?_set_self (by unfold wld; simpa using h)]
  · rw [List.getElem?_set_ne (Ne.symm hj)]
    by_cases hn : j < n
    · rw [wld_get hn, wld_get hn, hM j hj, hX j hj]
    · rw [List.getElem?_eq_none (by unfold wld; simp; omega), List.getElem?_eq_none (by unfold wld; simp; omega)]
theorem wld_push {cA : Nat → ClassId} {a : Nat → Nat} {M : Mem} {X : Nat → UInt64} {n : Nat} : wld cA a M X n ++ [(a n, eE cA a n (M n) (X n))] = wld cA a M X (n + 1) := by
  unfold wld
  rw [List.range_succ, List.map_append]
  rfl
theorem stM_row (M : Mem) (k j : Nat) (v : Int32) : stM M k j v k = upd (M k) j v := by
  funext q
  simp [stM, upd]
theorem stM_other (M : Mem) (k j : Nat) (v : Int32) {k' : Nat} (h : k' ≠ k) : stM M k j v k' = M k' := by
  funext q
  simp [stM, h]
theorem stX_row (X : Nat → UInt64) (k : Nat) (v : UInt64) : stX X k v k = v := by simp [stX]
theorem stX_other (X : Nat → UInt64) (k : Nat) (v : UInt64) {k' : Nat} (h : k' ≠ k) : stX X k v k' = X k' := by simp [stX, h]
theorem kd_big {k : Nat} (h : 180 ≤ k) : kd k = 99 := by
  have hl : kdL.length = 180 := by decide +kernel
  unfold kd
  rw [List.getD_eq_getElem?_getD, List.getElem?_eq_none (by omega)]
  rfl
theorem kd_lt {k : Nat} (h : kd k ≠ 99) : k < 180 := by
  rcases Nat.lt_or_ge k 180 with h1 | h1
  · exact h1
  · exact absurd (kd_big h1) h
/-- what a method needs of the tables beside the good words -/
def dcL : List MethodName := [⟨"java/lang/RuntimeException", "<init>", "()V"⟩, ⟨"java/lang/Exception", "<init>", "()V"⟩, ⟨"java/lang/Throwable", "<init>", "()V"⟩]
def KN (U : State) : Prop := (∀ q ∈ nsL, va_Nw (nsw q) U) ∧ (∀ e, e < 5 → va_Nw (.castable (ex e) (ex e)) U) ∧ (∀ n ∈ dcL, va_Nw (.declares n) U) ∧ (∀ e, e < 5 → ∀ e', e' < 5 → e ≠ e' → va_Nc (ex e) (ex e') U) ∧ va_AO "BundleMill$Block" U ∧ va_AO "BundleMill$Plan" U
theorem KN.warm {s U : State} (hW : s.WarmedH U.vm) (h : KN s) : KN U := by
  obtain ⟨h1, h2, h3, h4, h5, h6⟩ := h
  exact ⟨fun q hq => va_Nw.warmM hW (h1 q hq), fun e he => va_Nw.warmC hW (h2 e he), fun n hn => va_Nw.warmD hW (h3 n hn), fun e he e' he' hne => (h4 e he e' he' hne).moved hW.alike, h5.moved hW.alike, h6.moved hW.alike⟩
def KS (D : va_G) (cA : Nat → ClassId) (s : State) (A : Nat → Prop) : Prop := va_K D cl8 (ct cA) s ∧ KN s ∧ vx_Zq Bundle.tN "UNASSIGNED_STACK" Bundle.steD A s s.heap ∧ vx_Zq Bundle.tN "SUPPRESSED_SENTINEL" Bundle.listD A s s.heap
def RW (D : va_G) (cA : Nat → ClassId) (a : Nat → Nat) (M : Mem) (κ : Kp) (A : Nat → Prop) (s : State) (H : Heap) : Prop :=
  va_P D cl8 (wld cA a M (kX κ) (kN κ)) H ∧ va_D A (wld cA a M (kX κ) (kN κ)) ∧ va_X (a 999) (kL κ) (M 999) s H ∧ ¬ A (a 999) ∧ (kR κ = true → WF M ∧ kN κ = 180) ∧ kN κ ≤ 180
def FX (z : Nat) (p : Program) (l : Launch) (s : State) (m : MethodId) (args : Array Value) (meth : Method) (c : Code) : Prop :=
  p.tables.exec = Jvm.exec ∧ c.code = cc z ∧ c.maxLocals = mL z ∧ meth.sig.returnType = rt z ∧ meth.locks = false ∧ s.vm.findClass (cn (oc z)) = some m.cls ∧ (isI z = true → meth.name = "<init>") ∧ (∀ w ∈ GW, w.before args s = true) ∧ (z < 166 → c.exceptionTable.toList = tableOf (hh z)) ∧ l.stackTraces = false
def QcM (D : va_G) (cA : Nat → ClassId) (a : Nat → Nat) (out : Ou) (A : Nat → Prop) : Array Value → State → Outcome → State → Prop := fun _ st o t =>
  (∃ v, out.1 = .inl v ∧ o = .returned (v.map (mv a))) ∧ RW D cA a out.2.1 out.2.2 A t t.heap ∧ va_F A st t
def XcM (D : va_G) (cA : Nat → ClassId) (a : Nat → Nat) (out : Ou) (A : Nat → Prop) : String → State → State → Prop := fun E st t =>
  (∃ e, out.1 = .inr e ∧ E = ex e ∧ e < 5) ∧ RW D cA a out.2.1 out.2.2 A t t.heap ∧ va_F A st t
/-- what is proved of every run of the small machine -/
def SP (l : Launch) (D : va_G) (cA : Nat → ClassId) (a : Nat → Nat) : PT := fun z st out =>
  (kC st.2.2.2.2 ≤ kC out.2.2 ∧ kU st.2.2.2.2 ≤ kU out.2.2 ∧ (kR out.2.2 = false → kR st.2.2.2.2 = false ∧ kC out.2.2 + kN st.2.2.2.2 = kC st.2.2.2.2 + kN out.2.2)) ∧
  ∀ (p : Program) (e : Env) (s : State) (m : MethodId) (args : Array Value) (below : List Frame) (meth : Method) (c : Code), FX z p l s m args meth c →
  ∀ (A : Nat → Prop), KS D cA s A → (∀ q, s.heap.size ≤ q → A q) → a 999 < s.heap.size →
  ∀ (H : Heap) (locs : List Loc) (arr : Array Slot) (cells slots mc ms : Nat), RW D cA a st.2.2.2.1 st.2.2.2.2 A s H → va_S A s.heap H locs → LV a st.2.1 (mL z) arr →
    cells + kC out.2.2 = mc + kC st.2.2.2.2 → slots + kU out.2.2 = ms + kU st.2.2.2.2 →
    (kR st.2.2.2.2 = false → s.heap.size + cells = a (kN st.2.2.2.2) ∧ (kN st.2.2.2.2 = 0 → cells = 0)) →
    W p l e { frames := rf z, cells := mc, slots := ms, locals := rl z } s m args below meth c H locs cells slots (vx_MQ below (QcM D cA a out A) (XcM D cA a out A) args s mc ms A) (F0 m st.1 arr (st.2.2.1.map (mv a)))
end
section
/-! SOUNDNESS, 2: the clauses that leave the world as it is -/
section SND2
variable {l : Launch} {D : va_G} {cA : Nat → ClassId} {a : Nat → Nat}
theorem dec {z pc : Nat} {i : Instr} {nx p q r : Nat} {x : Int32} (h : ins z pc = some (i, nx, p, q, r, x)) (hi : ilen i ≠ 0) : decode (cc z) pc = .ok (i, ilen i) ∧ nx = pc + ilen i ∧ vld1 z pc (i, nx, p, q, r, x) = true := by
  obtain ⟨-, h2⟩ := vk h
  have hl := vlen h hi
  unfold vld at h2
  simp only [Bool.and_eq_true, decide_eq_true_eq] at h2
  obtain ⟨⟨h3, -⟩, h5⟩ := h2
  refine ⟨?_, hl, h5⟩
  rw [h3, hl, Nat.add_sub_cancel_left]
theorem dect {z pc : Nat} {i : Instr} {nx p q r : Nat} {x : Int32} (h : ins z pc = some (i, nx, p, q, r, x)) : decode (cc z) pc = .ok (i, nx - pc) := by
  obtain ⟨-, h2⟩ := vk h
  unfold vld at h2
  simp only [Bool.and_eq_true, decide_eq_true_eq] at h2
  exact h2.1.1
theorem sp1 {z pc nx : Nat} {ls ls' st st' : List Value} {M : Mem} {κ : Kp} {out : Ou} (k : SP l D cA a z (nx, ls', st', M, κ) out)
    (row : ∀ (p : Program) (e : Env) (s : State) (m : MethodId) (args : Array Value) (below : List Frame) (meth : Method) (c : Code) (R : Room) (A : Nat → Prop) (H : Heap) (locs : List Loc) (arr : Array Slot) (cells slots : Nat) (Q : State → Prop), FX z p l s m args meth c → KS D cA s A → RW D cA a M κ A s H → va_S A s.heap H locs → LV a ls (mL z) arr → a 999 < s.heap.size → R.frames = rf z → R.locals = rl z →
      (∀ arr', LV a ls' (mL z) arr' → W p l e R s m args below meth c H locs cells slots Q (F0 m nx arr' (st'.map (mv a)))) → W p l e R s m args below meth c H locs cells slots Q (F0 m pc arr (st.map (mv a)))) : SP l D cA a z (pc, ls, st, M, κ) out := by
  obtain ⟨k1, k3⟩ := k
  refine ⟨k1, fun p e s m args below meth c hF A hK hA hb H locs arr cells slots mc ms hR hS hL hc hu hz => ?_⟩
  refine row p e s m args below meth c _ A H locs arr cells slots _ hF hK hR hS hL hb rfl rfl fun arr' hL' => ?_
  exact k3 p e s m args below meth c hF A hK hA hb H locs arr' cells slots mc ms hR hS hL' hc hu hz
theorem s_push : cl_push (SP l D cA a) := by
  intro z pc ls st M κ out i nx p q r x h1 h2 k
  unfold isPush at h2
  split at h2
  · obtain ⟨hd, rfl, hv⟩ := dec h1 (by simp [ilen])
    refine sp1 k fun p e s m args below meth c R A H locs arr cells slots Q hF hK hR hS hL hb hRf hRl kk => ?_
    exact lv_iconst hF.1 hF.2.1 hd (by simpa [vld1] using hv) (kk arr hL)
  · obtain ⟨hd, rfl, hv⟩ := dec h1 (by simp [ilen])
    refine sp1 k fun p e s m args below meth c R A H locs arr cells slots Q hF hK hR hS hL hb hRf hRl kk => ?_
    exact lv_bipush hF.1 hF.2.1 hd (by simpa [vld1] using hv) (kk arr hL)
  · obtain ⟨hd, rfl, hv⟩ := dec h1 (by simp [ilen])
    refine sp1 k fun p e s m args below meth c R A H locs arr cells slots Q hF hK hR hS hL hb hRf hRl kk => ?_
    exact lv_sipush hF.1 hF.2.1 hd (by simpa [vld1] using hv) (kk arr hL)
  · rename_i ix
    obtain ⟨hd, rfl, hv⟩ := dec h1 (by simp [ilen])
    refine sp1 k fun p e s m args below meth c R A H locs arr cells slots Q hF hK hR hS hL hb hRf hRl kk => ?_
    obtain ⟨hx, hbb, -, -, -, hown, -, hts, -⟩ := hF
    have hm : (oc z, ix, x) ∈ crL := by simpa [vld1] using hv
    have hw : (Cond.constant (cn (oc z)) ix x).before args s = true := hts _ (crW_in _ (List.mem_map.mpr ⟨_, hm, rfl⟩))
    exact lv_ldc hx hbb hown hw hd (kk arr hL)
  · cases h2
theorem s_lpush : cl_lpush (SP l D cA a) := by
  intro z pc ls st M κ out nx p q r x h1 k
  obtain ⟨hd, rfl, hv⟩ := dec h1 (by simp [ilen])
  refine sp1 k fun p e s m args below meth c R A H locs arr cells slots Q hF hK hR hS hL hb hRf hRl kk => ?_
  exact lv_lconst hF.1 hF.2.1 hd rfl (kk arr hL)
theorem s_dpush : cl_dpush (SP l D cA a) := by
  intro z pc ls st M κ out nx p q r x h1 k
  obtain ⟨hd, rfl, hv⟩ := dec h1 (by simp [ilen])
  refine sp1 k fun p e s m args below meth c R A H locs arr cells slots Q hF hK hR hS hL hb hRf hRl kk => ?_
  exact lv_dconst0 hF.1 hF.2.1 hd (kk arr hL)
theorem s_load : cl_load (SP l D cA a) := by
  intro z pc ls st M κ out i nx p q r x v h1 h2 h3 k
  unfold ldOk at h2
  split at h2
  · obtain ⟨hd, rfl, hv⟩ := dec h1 (by simp [ilen])
    simp only [vld1, isLd, beq_iff_eq] at hv
    subst hv
    refine sp1 k fun p e s m args below meth c R A H locs arr cells slots Q hF hK hR hS hL hb hRf hRl kk => ?_
    have hg := hL.get h3 (fun q => by cases q)
    exact lv_iload_n hF.1 hF.2.1 hd rfl hg (kk arr hL)
  · obtain ⟨hd, rfl, hv⟩ := dec h1 (by simp [ilen])
    simp only [vld1, isLd, beq_iff_eq] at hv
    subst hv
    refine sp1 k fun p e s m args below meth c R A H locs arr cells slots Q hF hK hR hS hL hb hRf hRl kk => ?_
    have hg := hL.get h3 (fun q => by cases q)
    exact lv_iload hF.1 hF.2.1 hd hg (kk arr hL)
  · obtain ⟨hd, rfl, hv⟩ := dec h1 (by simp [ilen])
    simp only [vld1, isLd, beq_iff_eq] at hv
    subst hv
    refine sp1 k fun p e s m args below meth c R A H locs arr cells slots Q hF hK hR hS hL hb hRf hRl kk => ?_
    have hg := hL.get h3 (fun q => by cases q)
    exact lv_aload_n hF.1 hF.2.1 hd rfl hg (kk arr hL)
  · obtain ⟨hd, rfl, hv⟩ := dec h1 (by simp [ilen])
    simp only [vld1, isLd, beq_iff_eq] at hv
    subst hv
    refine sp1 k fun p e s m args below meth c R A H locs arr cells slots Q hF hK hR hS hL hb hRf hRl kk => ?_
    have hg := hL.get h3 (fun q => by cases q)
    exact lv_aload hF.1 hF.2.1 hd hg (kk arr hL)
  · obtain ⟨hd, rfl, hv⟩ := dec h1 (by simp [ilen])
    simp only [vld1, isLd, beq_iff_eq] at hv
    subst hv
    refine sp1 k fun p e s m args below meth c R A H locs arr cells slots Q hF hK hR hS hL hb hRf hRl kk => ?_
    have hg := hL.get h3 (fun q => by cases q)
    exact lv_lload_n hF.1 hF.2.1 hd rfl hg (kk arr hL)
  · obtain ⟨hd, rfl, hv⟩ := dec h1 (by simp [ilen])
    simp only [vld1, isLd, beq_iff_eq] at hv
    subst hv
    refine sp1 k fun p e s m args below meth c R A H locs arr cells slots Q hF hK hR hS hL hb hRf hRl kk => ?_
    have hg := hL.get h3 (fun q => by cases q)
    exact lv_lload hF.1 hF.2.1 hd hg (kk arr hL)
  · obtain ⟨hd, rfl, hv⟩ := dec h1 (by simp [ilen])
    simp only [vld1, isLd, beq_iff_eq] at hv
    subst hv
    refine sp1 k fun p e s m args below meth c R A H locs arr cells slots Q hF hK hR hS hL hb hRf hRl kk => ?_
    have hg := hL.get h3 (fun q => by cases q)
    exact lv_dload_n hF.1 hF.2.1 hd rfl hg (kk arr hL)
  · obtain ⟨hd, rfl, hv⟩ := dec h1 (by simp [ilen])
    simp only [vld1, isLd, beq_iff_eq] at hv
    subst hv
    refine sp1 k fun p e s m args below meth c R A H locs arr cells slots Q hF hK hR hS hL hb hRf hRl kk => ?_
    have hg := hL.get h3 (fun q => by cases q)
    exact lv_dload hF.1 hF.2.1 hd hg (kk arr hL)
  · cases h2
theorem s_store : cl_store (SP l D cA a) := by
  intro z pc ls st M κ out i nx p q r x v h1 h2 h3 k
  unfold stOk at h2
  split at h2
  · obtain ⟨hd, rfl, hv⟩ := dec h1 (by simp [ilen])
    simp only [vld1, isLd, beq_iff_eq] at hv
    subst hv
    refine sp1 k fun p e s m args below meth c R A H locs arr cells slots Q hF hK hR hS hL hb hRf hRl kk => ?_
    simp only [Value.category] at h3
    have hn0 := hL.1
    have hn := Nat.lt_of_lt_of_le (Nat.lt_of_succ_le h3) hn0
    exact lv_istore_n hF.1 hF.2.1 hd rfl hL.2 hn rfl (fun ls1 h9 => kk ls1 (hL.set1 h9))
  · obtain ⟨hd, rfl, hv⟩ := dec h1 (by simp [ilen])
    simp only [vld1, isLd, beq_iff_eq] at hv
    subst hv
    refine sp1 k fun p e s m args below meth c R A H locs arr cells slots Q hF hK hR hS hL hb hRf hRl kk => ?_
    simp only [Value.category] at h3
    have hn0 := hL.1
    have hn := Nat.lt_of_lt_of_le (Nat.lt_of_succ_le h3) hn0
    exact lv_istore hF.1 hF.2.1 hd hL.2 hn rfl (fun ls1 h9 => kk ls1 (hL.set1 h9))
  · obtain ⟨hd, rfl, hv⟩ := dec h1 (by simp [ilen])
    simp only [vld1, isLd, beq_iff_eq] at hv
    subst hv
    refine sp1 k fun p e s m args below meth c R A H locs arr cells slots Q hF hK hR hS hL hb hRf hRl kk => ?_
    simp only [Value.category] at h3
    have hn0 := hL.1
    have hn := Nat.lt_of_lt_of_le (Nat.lt_of_succ_le h3) hn0
    exact lv_astore_n hF.1 hF.2.1 hd rfl hL.2 hn rfl (fun ls1 h9 => kk ls1 (hL.set1 (v := .ref _) h9))
  · obtain ⟨hd, rfl, hv⟩ := dec h1 (by simp [ilen])
    simp only [vld1, isLd, beq_iff_eq] at hv
    subst hv
    refine sp1 k fun p e s m args below meth c R A H locs arr cells slots Q hF hK hR hS hL hb hRf hRl kk => ?_
    simp only [Value.category] at h3
    have hn0 := hL.1
    have hn := Nat.lt_of_lt_of_le (Nat.lt_of_succ_le h3) hn0
    exact lv_astore hF.1 hF.2.1 hd hL.2 hn rfl (fun ls1 h9 => kk ls1 (hL.set1 (v := .ref _) h9))
  · obtain ⟨hd, rfl, hv⟩ := dec h1 (by simp [ilen])
    simp only [vld1, isLd, beq_iff_eq] at hv
    subst hv
    refine sp1 k fun p e s m args below meth c R A H locs arr cells slots Q hF hK hR hS hL hb hRf hRl kk => ?_
    simp only [Value.category] at h3
    have hn0 := hL.1
    have hn := Nat.lt_of_lt_of_le (Nat.lt_of_succ_le h3) hn0
    exact lv_lstore_n hF.1 hF.2.1 hd rfl hL.2 hn rfl (fun ls1 h9 => kk ls1 (hL.set2 rfl h9))
  · obtain ⟨hd, rfl, hv⟩ := dec h1 (by simp [ilen])
    simp only [vld1, isLd, beq_iff_eq] at hv
    subst hv
    refine sp1 k fun p e s m args below meth c R A H locs arr cells slots Q hF hK hR hS hL hb hRf hRl kk => ?_
    simp only [Value.category] at h3
    have hn0 := hL.1
    have hn := Nat.lt_of_lt_of_le (Nat.lt_of_succ_le h3) hn0
    exact lv_lstore hF.1 hF.2.1 hd hL.2 hn rfl (fun ls1 h9 => kk ls1 (hL.set2 rfl h9))
  · obtain ⟨hd, rfl, hv⟩ := dec h1 (by simp [ilen])
    simp only [vld1, isLd, beq_iff_eq] at hv
    subst hv
    refine sp1 k fun p e s m args below meth c R A H locs arr cells slots Q hF hK hR hS hL hb hRf hRl kk => ?_
    simp only [Value.category] at h3
    have hn0 := hL.1
    have hn := Nat.lt_of_lt_of_le (Nat.lt_of_succ_le h3) hn0
    exact lv_dstore_n hF.1 hF.2.1 hd rfl hL.2 hn rfl (fun ls1 h9 => kk ls1 (hL.set2 rfl h9))
  · obtain ⟨hd, rfl, hv⟩ := dec h1 (by simp [ilen])
    simp only [vld1, isLd, beq_iff_eq] at hv
    subst hv
    refine sp1 k fun p e s m args below meth c R A H locs arr cells slots Q hF hK hR hS hL hb hRf hRl kk => ?_
    simp only [Value.category] at h3
    have hn0 := hL.1
    have hn := Nat.lt_of_lt_of_le (Nat.lt_of_succ_le h3) hn0
    exact lv_dstore hF.1 hF.2.1 hd hL.2 hn rfl (fun ls1 h9 => kk ls1 (hL.set2 rfl h9))
  · cases h2
theorem s_iinc : cl_iinc (SP l D cA a) := by
  intro z pc ls st M κ out nx p q r x v b y h1 h2 k
  obtain ⟨hd, rfl, hv⟩ := dec h1 (by simp [ilen])
  simp only [vld1, Bool.and_eq_true, beq_iff_eq] at hv
  obtain ⟨rfl, rfl⟩ := hv
  refine sp1 k fun p e s m args below meth c R A H locs arr cells slots Q hF hK hR hS hL hb hRf hRl kk => ?_
  obtain ⟨kq, hkq⟩ := List.getElem?_of_mem ((mem_lvl (a := a) ls 0 (q := (v, .int y))).mpr ⟨v, .int y, h2, (fun q => by cases q), by simp [mv]⟩)
  have hlt : v < ls.length := (List.getElem?_eq_some_iff.mp h2).1
  exact lv_iinc hF.1 hF.2.1 hd hL.2 (k := kq) hkq rfl (Nat.lt_of_lt_of_le hlt hL.1) rfl (fun ls' h' => kk ls' (hL.set1 h'))
theorem s_bin : cl_bin (SP l D cA a) := by
  intro z pc ls st M κ out i nx p q r x f b1 b2 h1 h2 k
  unfold bop at h2
  split at h2
  all_goals first
    | (cases h2; done)
    | (obtain ⟨hd, rfl, hv⟩ := dec h1 (by simp [ilen])
       cases h2
       refine sp1 k fun p e s m args below meth c R A H locs arr cells slots Q hF hK hR hS hL hb hRf hRl kk => ?_
       first
         | exact lv_iadd hF.1 hF.2.1 hd (kk arr hL)
         | exact lv_isub hF.1 hF.2.1 hd (kk arr hL)
         | exact lv_imul hF.1 hF.2.1 hd (kk arr hL)
         | exact lv_iand hF.1 hF.2.1 hd (kk arr hL))
theorem s_div : cl_div (SP l D cA a) := by
  intro z pc ls st M κ out i nx p q r x f b1 b2 h1 h2 h3 k
  unfold dop at h2
  split at h2
  all_goals first
    | (cases h2; done)
    | (obtain ⟨hd, rfl, hv⟩ := dec h1 (by simp [ilen])
       cases h2
       refine sp1 k fun p e s m args below meth c R A H locs arr cells slots Q hF hK hR hS hL hb hRf hRl kk => ?_
       first
         | exact lv_idiv hF.1 hF.2.1 hd h3 (kk arr hL)
         | exact lv_irem hF.1 hF.2.1 hd h3 (kk arr hL))
theorem s_neg : cl_neg (SP l D cA a) := by
  intro z pc ls st M κ out nx p q r x b h1 k
  obtain ⟨hd, rfl, hv⟩ := dec h1 (by simp [ilen])
  refine sp1 k fun p e s m args below meth c R A H locs arr cells slots Q hF hK hR hS hL hb hRf hRl kk => ?_
  exact lv_ineg hF.1 hF.2.1 hd (kk arr hL)
theorem s_i2l : cl_i2l (SP l D cA a) := by
  intro z pc ls st M κ out nx p q r x b h1 k
  obtain ⟨hd, rfl, hv⟩ := dec h1 (by simp [ilen])
  refine sp1 k fun p e s m args below meth c R A H locs arr cells slots Q hF hK hR hS hL hb hRf hRl kk => ?_
  exact lv_i2l hF.1 hF.2.1 hd rfl (kk arr hL)
theorem s_i2d : cl_i2d (SP l D cA a) := by
  intro z pc ls st M κ out nx p q r x b h1 k
  obtain ⟨hd, rfl, hv⟩ := dec h1 (by simp [ilen])
  refine sp1 k fun p e s m args below meth c R A H locs arr cells slots Q hF hK hR hS hL hb hRf hRl kk => ?_
  exact lv_i2d hF.1 hF.2.1 hd (kk arr hL)
theorem s_lcmp : cl_lcmp (SP l D cA a) := by
  intro z pc ls st M κ out nx p q r x b c h1 k
  obtain ⟨hd, rfl, hv⟩ := dec h1 (by simp [ilen])
  refine sp1 k fun p e s m args below meth c R A H locs arr cells slots Q hF hK hR hS hL hb hRf hRl kk => ?_
  exact W.lcmp hF.1 hF.2.1 hd (kk arr hL)
theorem s_lor : cl_lor (SP l D cA a) := by
  intro z pc ls st M κ out nx p q r x b c h1 k
  obtain ⟨hd, rfl, hv⟩ := dec h1 (by simp [ilen])
  refine sp1 k fun p e s m args below meth c R A H locs arr cells slots Q hF hK hR hS hL hb hRf hRl kk => ?_
  exact lv_lor hF.1 hF.2.1 hd (kk arr hL)
theorem s_lshl : cl_lshl (SP l D cA a) := by
  intro z pc ls st M κ out nx p q r x b c h1 k
  obtain ⟨hd, rfl, hv⟩ := dec h1 (by simp [ilen])
  refine sp1 k fun p e s m args below meth c R A H locs arr cells slots Q hF hK hR hS hL hb hRf hRl kk => ?_
  exact lv_lshl hF.1 hF.2.1 hd rfl (kk arr hL)
theorem s_dcmp : cl_dcmp (SP l D cA a) := by
  intro z pc ls st M κ out nx p q r x o b c h1 k
  obtain ⟨hd, rfl, hv⟩ := dec h1 (by simp [ilen])
  refine sp1 k fun p e s m args below meth c R A H locs arr cells slots Q hF hK hR hS hL hb hRf hRl kk => ?_
  exact lv_dcmp hF.1 hF.2.1 hd (kk arr hL)
theorem s_dmul : cl_dmul (SP l D cA a) := by
  intro z pc ls st M κ out nx p q r x b c h1 h2 k
  obtain ⟨hd, rfl, hv⟩ := dec h1 (by simp [ilen])
  refine sp1 k fun p e s m args below meth c R A H locs arr cells slots Q hF hK hR hS hL hb hRf hRl kk => ?_
  exact lv_dmul hF.1 hF.2.1 hd h2 (kk arr hL)
theorem s_ddiv : cl_ddiv (SP l D cA a) := by
  intro z pc ls st M κ out nx p q r x b c h1 h2 k
  obtain ⟨hd, rfl, hv⟩ := dec h1 (by simp [ilen])
  refine sp1 k fun p e s m args below meth c R A H locs arr cells slots Q hF hK hR hS hL hb hRf hRl kk => ?_
  exact lv_ddiv hF.1 hF.2.1 hd h2 (kk arr hL)
theorem s_dup : cl_dup (SP l D cA a) := by
  intro z pc ls st M κ out nx p q r x v h1 h2 k
  obtain ⟨hd, rfl, hv⟩ := dec h1 (by simp [ilen])
  refine sp1 k fun p e s m args below meth c R A H locs arr cells slots Q hF hK hR hS hL hb hRf hRl kk => ?_
  exact lv_dup hF.1 hF.2.1 hd (by rw [mv_cat]; exact h2) (kk arr hL)
theorem s_dup2 : cl_dup2 (SP l D cA a) := by
  intro z pc ls st M κ out nx p q r x v w h1 h2 h3 k
  obtain ⟨hd, rfl, hv⟩ := dec h1 (by simp [ilen])
  refine sp1 k fun p e s m args below meth c R A H locs arr cells slots Q hF hK hR hS hL hb hRf hRl kk => ?_
  exact lv_dup2_11 hF.1 hF.2.1 hd (by rw [mv_cat]; exact h2) (by rw [mv_cat]; exact h3) (kk arr hL)
theorem s_if0 : cl_if0 (SP l D cA a) := by
  intro z pc ls st M κ out nx p q r x c0 o b h1 k1 k2
  obtain ⟨hd, rfl, hv⟩ := dec h1 (by simp [ilen])
  have ht : (pc : Int) + o = (p : Int) := by simpa [vld1] using hv
  by_cases hc : cnd0 c0 b
  · refine sp1 (k1 hc) fun p e s m args below meth c R A H locs arr cells slots Q hF hK hR hS hL hb hRf hRl kk => ?_
    cases c0
    · exact lv_if_eq hF.1 hF.2.1 hd ht (fun _ => kk arr hL) (fun q => absurd hc q)
    · exact lv_if_ne hF.1 hF.2.1 hd ht (fun _ => kk arr hL) (fun q => absurd q hc)
    · exact lv_if_lt hF.1 hF.2.1 hd ht (fun _ => kk arr hL) (fun q => absurd hc q)
    · exact lv_if_ge hF.1 hF.2.1 hd ht (fun _ => kk arr hL) (fun q => absurd hc q)
    · exact lv_if_gt hF.1 hF.2.1 hd ht (fun _ => kk arr hL) (fun q => absurd hc q)
    · exact lv_if_le hF.1 hF.2.1 hd ht (fun _ => kk arr hL) (fun q => absurd hc q)
  · refine sp1 (k2 hc) fun p e s m args below meth c R A H locs arr cells slots Q hF hK hR hS hL hb hRf hRl kk => ?_
    cases c0
    · exact lv_if_eq hF.1 hF.2.1 hd ht (fun q => absurd q hc) (fun _ => kk arr hL)
    · exact lv_if_ne hF.1 hF.2.1 hd ht (fun q => absurd q hc) (fun _ => kk arr hL)
    · exact lv_if_lt hF.1 hF.2.1 hd ht (fun q => absurd q hc) (fun _ => kk arr hL)
    · exact lv_if_ge hF.1 hF.2.1 hd ht (fun q => absurd q hc) (fun _ => kk arr hL)
    · exact lv_if_gt hF.1 hF.2.1 hd ht (fun q => absurd q hc) (fun _ => kk arr hL)
    · exact lv_if_le hF.1 hF.2.1 hd ht (fun q => absurd q hc) (fun _ => kk arr hL)
theorem s_if2 : cl_if2 (SP l D cA a) := by
  intro z pc ls st M κ out nx p q r x c0 o b b2 h1 k1 k2
  obtain ⟨hd, rfl, hv⟩ := dec h1 (by simp [ilen])
  have ht : (pc : Int) + o = (p : Int) := by simpa [vld1] using hv
  by_cases hc : cnd2 c0 b b2
  · refine sp1 (k1 hc) fun p e s m args below meth c R A H locs arr cells slots Q hF hK hR hS hL hb hRf hRl kk => ?_
    cases c0
    · exact lv_icmp_eq hF.1 hF.2.1 hd ht (fun _ => kk arr hL) (fun q => absurd hc q)
    · exact lv_icmp_ne hF.1 hF.2.1 hd ht (fun _ => kk arr hL) (fun q => absurd q hc)
    · exact lv_icmp_lt hF.1 hF.2.1 hd ht (fun _ => kk arr hL) (fun q => absurd hc q)
    · exact lv_icmp_ge hF.1 hF.2.1 hd ht (fun _ => kk arr hL) (fun q => absurd hc q)
    · exact lv_icmp_gt hF.1 hF.2.1 hd ht (fun _ => kk arr hL) (fun q => absurd hc q)
    · exact lv_icmp_le hF.1 hF.2.1 hd ht (fun _ => kk arr hL) (fun q => absurd hc q)
  · refine sp1 (k2 hc) fun p e s m args below meth c R A H locs arr cells slots Q hF hK hR hS hL hb hRf hRl kk => ?_
    cases c0
    · exact lv_icmp_eq hF.1 hF.2.1 hd ht (fun q => absurd q hc) (fun _ => kk arr hL)
    · exact lv_icmp_ne hF.1 hF.2.1 hd ht (fun q => absurd q hc) (fun _ => kk arr hL)
    · exact lv_icmp_lt hF.1 hF.2.1 hd ht (fun q => absurd q hc) (fun _ => kk arr hL)
    · exact lv_icmp_ge hF.1 hF.2.1 hd ht (fun q => absurd q hc) (fun _ => kk arr hL)
    · exact lv_icmp_gt hF.1 hF.2.1 hd ht (fun q => absurd q hc) (fun _ => kk arr hL)
    · exact lv_icmp_le hF.1 hF.2.1 hd ht (fun q => absurd q hc) (fun _ => kk arr hL)
theorem s_goto : cl_goto (SP l D cA a) := by
  intro z pc ls st M κ out nx p q r x o h1 k
  obtain ⟨hd, rfl, hv⟩ := dec h1 (by simp [ilen])
  have ht : (pc : Int) + o = (p : Int) := by simpa [vld1] using hv
  refine sp1 k fun p e s m args below meth c R A H locs arr cells slots Q hF hK hR hS hL hb hRf hRl kk => ?_
  exact lv_goto hF.1 hF.2.1 hd ht (kk arr hL)
theorem s_table : cl_table (SP l D cA a) := by
  intro z pc ls st M κ out i nx p q r x b tgt h1 h2 k
  have hd := dect h1
  unfold tgtOk at h2
  split at h2
  · rename_i d lo hi offs
    refine sp1 k fun p e s m args below meth c R A H locs arr cells slots Q hF hK hR hS hL hb hRf hRl kk => ?_
    split at h2
    · rename_i hlo
      exact lv_tableOut hF.1 hF.2.1 hd hlo (by simpa using h2) (kk arr hL)
    · rename_i hlo
      simp only [decide_eq_true_eq, Option.map_eq_some_iff] at h2
      obtain ⟨o, ho, ht⟩ := h2
      exact lv_tableIn hF.1 hF.2.1 hd (fun q => hlo (Or.inl q)) (fun q => hlo (Or.inr q)) ho ht (kk arr hL)
  · cases h2
theorem s_weak : cl_weak (SP l D cA a) := by
  intro z pc ls st M κ out l1 h1 k
  exact sp1 k fun p e s m args below meth c R A H locs arr cells slots Q hF hK hR hS hL hb hRf hRl kk => kk arr (hL.weak h1)
theorem s_ready : cl_ready (SP l D cA a) := by
  intro z pc ls st M κ out h1 h2 k
  obtain ⟨⟨k1, k2, k3⟩, k4⟩ := k
  refine ⟨⟨k1, k2, fun h => absurd (k3 h).1 (by simp)⟩, fun p e s m args below meth c hF A hK hA hb H locs arr cells slots mc ms hR hS hL hc hu hz => ?_⟩
  exact k4 p e s m args below meth c hF A hK hA hb H locs arr cells slots mc ms ⟨hR.1, hR.2.1, hR.2.2.1, hR.2.2.2.1, fun _ => ⟨h1, h2⟩, hR.2.2.2.2.2⟩ hS hL hc hu (fun q => by cases q)
/-! reading -/
theorem nf_lt {p q : Nat} (h : q < nf p) : p < 8 := by
  rcases Nat.lt_or_ge p 8 with h1 | h1
  · exact h1
  · exfalso
    have hl : nfL.length = 8 := by decide +kernel
    unfold nf at h
    rw [List.getD_eq_getElem?_getD, List.getElem?_eq_none (by omega)] at h
    exact absurd h (Nat.not_lt_zero _)
theorem cl8_get : ∀ c, c < 8 → cl8[c]? = some (cn c, tF c, nf c) := by
  intro c hc
  match c, hc with
  | 0, _ => rfl
  | 1, _ => rfl
  | 2, _ => rfl
  | 3, _ => rfl
  | 4, _ => rfl
  | 5, _ => rfl
  | 6, _ => rfl
  | 7, _ => rfl
theorem uw_in {c : Nat} (hc : c < 8) : ∀ w ∈ u_ws (cn c) (tF c) (nf c), w ∈ GW := fun w hw => lyW_in w (List.mem_flatMap.mpr ⟨c, List.mem_range.mpr hc, hw⟩)
theorem eE_obj {k : Nat} (h : kd k ≤ 7) (f : Nat → Int32) (x : UInt64) : eE cA a k f x = .inr (kd k, (List.range (nf (kd k))).map (fv a k f)) := by unfold eE; rw [if_pos h]
theorem fs_get {k q : Nat} (h : q < nf (kd k)) (f : Nat → Int32) : ((List.range (nf (kd k))).map (fv a k f))[q]? = some (fv a k f q) := by
  rw [List.getElem?_map, List.getElem?_range h]
  rfl
/-- the row of a read field -/
theorem get_row {z pc nx ix k q r : Nat} {x : Int32} (h1 : ins z pc = some (.getfield ix, nx, kd k, q, r, x)) {M : Mem} {κ : Kp} (hk : k < kN κ)
    {p : Program} {e : Env} {s : State} {m : MethodId} {args : Array Value} {below : List Frame} {meth : Method} {c : Code} {R : Room} {A : Nat → Prop} {H : Heap} {locs : List Loc} {arr : Array Slot} {cells slots : Nat} {Q : State → Prop} (hF : FX z p l s m args meth c) (hK : KS D cA s A) (hR : RW D cA a M κ A s H) {st : List Value}
    (kk : W p l e R s m args below meth c H locs cells slots Q (F0 m nx arr (fv a k (M k) q :: st))) : W p l e R s m args below meth c H locs cells slots Q (F0 m pc arr (.ref (a k) :: st)) := by
  obtain ⟨hd, rfl, hv⟩ := dec h1 (by simp [ilen])
  obtain ⟨hx, hbb, -, -, -, hown, -, hts, -⟩ := hF
  simp only [vld1, Bool.and_eq_true, decide_eq_true_eq] at hv
  obtain ⟨hm, hq⟩ := hv
  have hp := nf_lt hq
  have hw : (Cond.fieldLink (cn (oc z)) ix (tF (kd k) q).1 (tF (kd k) q).2.1 (tF (kd k) q).2.2.1).before args s = true := hts _ (frW_in _ (List.mem_map.mpr ⟨(oc z, ix, kd k, q), by simpa using hm, rfl⟩))
  have he := wld_get (cA := cA) (a := a) (M := M) (X := kX κ) hk
  rw [eE_obj (by omega)] at he
  exact va_get hx hbb hts (uw_in hp) hown hK.1 hR.1 k he (cl8_get _ hp) q hq hw (fun _ h => h) (fs_get hq _) hd kk
theorem s_getI : cl_getI (SP l D cA a) := by
  intro z pc ls st M κ out nx p q r x ix k h1 h2 h3 h4 kp
  subst h2
  refine sp1 kp fun p e s m args below meth c R A H locs arr cells slots Q hF hK hR hS hL hb hRf hRl kk => ?_
  refine get_row h1 h4 hF hK hR ?_
  have : fv a k (M k) q = .int (M k q) := by unfold fv; rw [if_pos h3]
  rw [this]
  exact kk arr hL
theorem s_getR : cl_getR (SP l D cA a) := by
  intro z pc ls st M κ out nx p q r x ix k h1 h2 h3 h4 h5 kp
  subst h2
  refine sp1 kp fun p e s m args below meth c R A H locs arr cells slots Q hF hK hR hS hL hb hRf hRl kk => ?_
  refine get_row h1 h4 hF hK hR ?_
  obtain ⟨hd, -, hv⟩ := dec h1 (by simp [ilen])
  simp only [vld1, Bool.and_eq_true, decide_eq_true_eq] at hv
  have hp := nf_lt hv.2
  have hne : M k q ≠ 0 := by
    rcases h5 with h5 | h5
    · refine (hR.2.2.2.2.1 h5).1 k q ?_
      unfold sref
      rw [if_pos (by omega), h3]
      rfl
    · exact h5
  have : fv a k (M k) q = .ref (a (k + off (kd k) q)) := by unfold fv; rw [if_neg (by omega), if_neg hne, if_pos h3]
  rw [this]
  exact kk arr hL
theorem s_getD : cl_getD (SP l D cA a) := by
  intro z pc ls st M κ out nx p q r x ix k d h1 h2 h3 h4 h5 h6 h7 kp
  subst h2
  refine sp1 kp fun p e s m args below meth c R A H locs arr cells slots Q hF hK hR hS hL hb hRf hRl kk => ?_
  refine get_row h1 h4 hF hK hR ?_
  have : fv a k (M k) q = .ref (a d) := by unfold fv; rw [if_neg (by omega), h5, if_neg (nI_ne0 h6 (by omega)), if_neg (by omega), nI_clamp (by omega)]
  rw [this]
  exact kk arr hL
theorem s_iald : cl_iald (SP l D cA a) := by
  intro z pc ls st M κ out nx p q r x k b h1 h2 h3 h4 kp
  obtain ⟨hd, rfl, hv⟩ := dec h1 (by simp [ilen])
  refine sp1 kp fun p e s m args below meth c R A H locs arr cells slots Q hF hK hR hS hL hb hRf hRl kk => ?_
  have he := wld_get (cA := cA) (a := a) (M := M) (X := kX κ) h3
  unfold eE at he
  rw [if_neg (by omega), if_pos h2] at he
  exact va_iald hF.1 hF.2.1 hK.1 hR.1 k 0 he rfl h4 hd (kk arr hL)
theorem s_zald : cl_zald (SP l D cA a) := by
  intro z pc ls st M κ out nx p q r x k b h1 h2 h3 h4 kp
  obtain ⟨hd, rfl, hv⟩ := dec h1 (by simp [ilen])
  refine sp1 kp fun p e s m args below meth c R A H locs arr cells slots Q hF hK hR hS hL hb hRf hRl kk => ?_
  have he := wld_get (cA := cA) (a := a) (M := M) (X := kX κ) h3
  unfold eE at he
  rw [if_neg (by omega), if_neg (by omega), if_pos h2] at he
  exact va_zald hF.1 hF.2.1 hK.1 hR.1 k 1 he rfl h4 hd (kk arr hL)
theorem s_aald : cl_aald (SP l D cA a) := by
  intro z pc ls st M κ out nx p q r x k b h1 h2 h3 h4 h5 kp
  obtain ⟨hd, rfl, hv⟩ := dec h1 (by simp [ilen])
  refine sp1 kp fun p e s m args below meth c R A H locs arr cells slots Q hF hK hR hS hL hb hRf hRl kk => ?_
  have he := wld_get (cA := cA) (a := a) (M := M) (X := kX κ) h3
  have hlt : b.toNatClampNeg < 6 := Nat.not_le.mp fun q => h4 (Or.inr q)
  have hne : M k b.toNatClampNeg ≠ 0 := by
    rcases h5 with h5 | h5
    · refine (hR.2.2.2.2.1 h5).1 k _ ?_
      unfold sref
      rw [if_neg (by omega)]
      rcases h2 with h2 | h2 <;> simp [h2, hlt]
    · exact h5
  have hv : va_rf (er a k (M k) b.toNatClampNeg) = .ref (a (elb k + 18 * b.toNatClampNeg)) := by unfold er; rw [if_neg hne]; rfl
  have kk2 := kk arr hL
  rcases h2 with h2 | h2
  · unfold eE at he
    rw [if_neg (by omega), if_neg (by omega), if_neg (by omega), if_pos h2] at he
    refine va_aldq (C := "BundleMill$Block") hF.1 hF.2.1 hK.1 hR.1 k 2 he rfl h4 hd ?_
    rw [hv]
    exact kk2
  · unfold eE at he
    rw [if_neg (by omega), if_neg (by omega), if_neg (by omega), if_neg (by omega), if_pos h2] at he
    refine va_aldq (C := "BundleMill$Plan") hF.1 hF.2.1 hK.1 hR.1 k 3 he rfl h4 hd ?_
    rw [hv]
    exact kk2
theorem s_lald : cl_lald (SP l D cA a) := by
  intro z pc ls st M κ out nx p q r x k b h1 h2 h3 h4 kp
  obtain ⟨hd, rfl, hv⟩ := dec h1 (by simp [ilen])
  refine sp1 kp fun p e s m args below meth c R A H locs arr cells slots Q hF hK hR hS hL hb hRf hRl kk => ?_
  have he := wld_get (cA := cA) (a := a) (M := M) (X := kX κ) h3
  unfold eE at he
  rw [if_neg (by omega), if_neg (by omega), if_neg (by omega), if_neg (by omega), if_neg (by omega), if_pos h2] at he
  have h0 : b.toNatClampNeg = 0 := by
    have : b.toNatClampNeg < 1 := Nat.not_le.mp fun q => h4 (Or.inr q)
    omega
  refine va_lald hF.1 hF.2.1 hK.1 hR.1 k 4 he rfl h4 hd ?_
  rw [if_pos h0]
  exact kk arr hL
theorem s_dald : cl_dald (SP l D cA a) := by
  intro z pc ls st M κ out nx p q r x k b h1 h2 h3 h4 kp
  obtain ⟨hd, rfl, hv⟩ := dec h1 (by simp [ilen])
  refine sp1 kp fun p e s m args below meth c R A H locs arr cells slots Q hF hK hR hS hL hb hRf hRl kk => ?_
  have he := wld_get (cA := cA) (a := a) (M := M) (X := kX κ) h3
  unfold eE at he
  rw [if_neg (by omega), if_neg (by omega), if_neg (by omega), if_neg (by omega), if_neg (by omega), if_neg (by omega)] at he
  have h0 : b.toNatClampNeg = 0 := by
    have : b.toNatClampNeg < 1 := Nat.not_le.mp fun q => h4 (Or.inr q)
    omega
  refine va_dald hF.1 hF.2.1 hK.1 hR.1 k 5 he rfl h4 hd ?_
  rw [if_pos h0]
  exact kk arr hL
theorem s_sald : cl_sald (SP l D cA a) := by
  intro z pc ls st M κ out nx p q r x b h1 h4 kp
  obtain ⟨hd, rfl, hv⟩ := dec h1 (by simp [ilen])
  refine sp1 kp fun p e s m args below meth c R A H locs arr cells slots Q hF hK hR hS hL hb hRf hRl kk => ?_
  obtain ⟨scr, g1, g2, g3, g4, g5⟩ := hR.2.2.1
  have hlt : b.toNatClampNeg < kL κ := Nat.not_le.mp fun q => h4 (Or.inr q)
  exact W.iald (v := .int (M 999 b.toNatClampNeg)) hF.1 hF.2.1 g1 g2 g3 (by rw [g4]; exact h4) (g5 _ hlt) rfl rfl hd (kk arr hL)
theorem s_slen : cl_slen (SP l D cA a) := by
  intro z pc ls st M κ out nx p q r x h1 kp
  obtain ⟨hd, rfl, hv⟩ := dec h1 (by simp [ilen])
  refine sp1 kp fun p e s m args below meth c R A H locs arr cells slots Q hF hK hR hS hL hb hRf hRl kk => ?_
  obtain ⟨scr, g1, g2, g3, g4, g5⟩ := hR.2.2.1
  exact W.alen (n := Int32.ofNat (kL κ)) hF.1 hF.2.1 g1 g2 (by rw [g4] <;> rfl) rfl rfl hd (kk arr hL)
theorem s_oinit : cl_oinit (SP l D cA a) := by
  intro z pc ls st M κ out nx p q r x ix k h1 h2 h3 kp
  obtain ⟨hd, rfl, hv⟩ := dec h1 (by simp [ilen])
  refine sp1 kp fun p e s m args below meth c R A H locs arr cells slots Q hF hK hR hS hL hb hRf hRl kk => ?_
  obtain ⟨hx, hbb, hml, -, -, hown, -, hts, -⟩ := hF
  simp [vld1, isLd, ik, ia, h2] at hv
  obtain ⟨⟨hm, hf⟩, hl⟩ := hv
  have hw : (Cond.methodLink (cn (oc z)) ix objectInit).before args s = true := hts _ (oiW_in _ (List.mem_append_left _ (List.mem_map.mpr ⟨(oc z, ix), hm, rfl⟩)))
  have hsz : arr.size = mL z := hL.2.1
  refine W.objInit hx hbb hown hw (hts _ (oiW_in _ (List.mem_append_right _ List.mem_cons_self))) (hts _ (oiW_in _ (List.mem_append_right _ (List.mem_cons_of_mem _ List.mem_cons_self)))) rfl (hsz.trans hml.symm) rfl hd (by omega) ?_ (kk arr hL)
  show 2 * 0 + ((st.map (mv a)).map fun v => v.category).sum + 12 ≤ R.locals
  rw [mv_cats]
  have h3' : (st.map fun v => v.category).sum ≤ 8 := h3
  omega
end SND2
end
section
/-! SOUNDNESS, 3: the clauses that write and make -/
section SND3
variable {l : Launch} {D : va_G} {cA : Nat → ClassId} {a : Nat → Nat}
theorem sp2 {z pc nx : Nat} {ls st st' : List Value} {M M' : Mem} {κ κ' : Kp} {out : Ou} (hκ : kN κ' = kN κ ∧ kC κ' = kC κ ∧ kU κ' = kU κ ∧ kR κ' = kR κ) (k : SP l D cA a z (nx, ls, st', M', κ') out)
    (row : ∀ (p : Program) (e : Env) (s : State) (m : MethodId) (args : Array Value) (below : List Frame) (meth : Method) (c : Code) (R : Room) (A : Nat → Prop) (H : Heap) (locs : List Loc) (arr : Array Slot) (cells slots : Nat) (Q : State → Prop), FX z p l s m args meth c → KS D cA s A → RW D cA a M κ A s H → va_S A s.heap H locs → a 999 < s.heap.size →
      (∀ (H1 : Heap) (locs1 : List Loc), RW D cA a M' κ' A s H1 → va_S A s.heap H1 locs1 → W p l e R s m args below meth c H1 locs1 cells slots Q (F0 m nx arr (st'.map (mv a)))) → W p l e R s m args below meth c H locs cells slots Q (F0 m pc arr (st.map (mv a)))) : SP l D cA a z (pc, ls, st, M, κ) out := by
  obtain ⟨k1, k3⟩ := k
  obtain ⟨e1, e2, e3, e4⟩ := hκ
  dsimp only at k1 k3
  rw [e1, e2, e3, e4] at k1 k3
  refine ⟨k1, fun p e s m args below meth c hF A hK hA hb H locs arr cells slots mc ms hR hS hL hc hu hz => ?_⟩
  refine row p e s m args below meth c _ A H locs arr cells slots _ hF hK hR hS hb fun H1 locs1 hR1 hS1 => ?_
  exact k3 p e s m args below meth c hF A hK hA hb H1 locs1 arr cells slots mc ms hR1 hS1 hL hc hu hz
theorem RW.put {M M' : Mem} {κ κ' : Kp} {A : Nat → Prop} {s : State} {H H1 : Heap} {locs locs1 : List Loc} {k : Nat} {E : va_E} (hR : RW D cA a M κ A s H) (hS : va_S A s.heap H locs) (hS1 : va_S A s.heap H1 locs1) (hb : a 999 < s.heap.size) (hk : k < kN κ) (hE : eE cA a k (M' k) (kX κ' k) = E) (hM : ∀ j, j ≠ k → M' j = M j) (hX : ∀ j, j ≠ k → kX κ' j = kX κ j)
    (e1 : kN κ' = kN κ) (e2 : kR κ' = kR κ) (e3 : kL κ' = kL κ) (hP1 : va_P D cl8 ((wld cA a M (kX κ) (kN κ)).set k (a k, E)) H1) (hD1 : va_D A ((wld cA a M (kX κ) (kN κ)).set k (a k, E))) (hW : WF M → WF M') : RW D cA a M' κ' A s H1 := by
  obtain ⟨r1, r2, r3, r4, r5, r6⟩ := hR
  subst hE
  rw [wld_set hk hM hX] at hP1 hD1
  have h9 : M' 999 = M 999 := hM 999 (by omega)
  refine ⟨by rw [e1]; exact hP1, by rw [e1]; exact hD1, ?_, r4, fun h => ?_, by rw [e1]; exact r6⟩
  · rw [e3, h9]
    exact r3.kept ((hS1.2.1 _ hb r4).trans (hS.2.1 _ hb r4).symm)
  · rw [e2] at h
    rw [e1]
    exact ⟨hW (r5 h).1, (r5 h).2⟩
theorem WF_st {M : Mem} {k j : Nat} {v : Int32} (h : sref k j = false ∨ v ≠ 0) (hW : WF M) : WF (stM M k j v) := by
  intro k' j' hs
  unfold stM
  split
  · rename_i hq
    obtain ⟨rfl, rfl⟩ := hq
    rcases h with h | h
    · rw [h] at hs; cases hs
    · exact h
  · exact hW k' j' hs
theorem fs_set {n q : Nat} {f g : Nat → Value} {y : Value} (hg : g q = y) (ho : ∀ j, j ≠ q → f j = g j) : ((List.range n).map f).set q y = (List.range n).map g := by
  apply List.ext_getElem?
  intro j
  by_cases hj : j = q
  · subst hj
    by_cases hn : j < n
    · rw [List.getElem?_set_self (by simpa using hn), List.getElem?_map, List.getElem?_range hn, ← hg]
      rfl
    · rw [List.getElem?_eq_none (by simp; omega), List.getElem?_eq_none (by simp; omega)]
  · rw [List.getElem?_set_ne (Ne.symm hj), List.getElem?_map, List.getElem?_map]
    by_cases hn : j < n
    · rw [List.getElem?_range hn]
      exact congrArg some (ho j hj)
    · rw [List.getElem?_eq_none (by simp; omega)]
      rfl
theorem fT_ok : ∀ c, c < 8 → ∀ k, k < nf c → parseFieldDescriptor (tF c k).2.2.1 = some (fT c k) := by decide +kernel
theorem fN_ok : ∀ c, c < 8 → ∀ x, x < nf c → ∀ y, y < nf c → x ≠ y → (tF c x).2.1 ≠ (tF c y).2.1 := by decide +kernel
theorem fI_ok : ∀ c, c < 8 → ∀ k, k < nf c → fty c k = 0 → (tF c k).2.2.2 = false ∧ fT c k = if fbo c k = 1 then .boolean else .int := by decide +kernel
theorem fR_ok : ∀ c, c < 8 → ∀ k, k < nf c → fty c k ≠ 0 → (match fT c k with | .object _ => true | .array _ => true | _ => false) = true ∧ (tF c k).1 = cn c ∧ ((tF c k).2.2.2 = decide (fty c k = 1)) := by decide +kernel
theorem fR_narrow {t : FieldType} (h : (match t with | .object _ => true | .array _ => true | _ => false) = true) (x : Nat) : narrow t (.ref x) = .ref x ∧ fits t (.ref x) = true := by
  cases t <;> first | (cases h; done) | exact ⟨rfl, rfl⟩
theorem isB_01 {v : Int32} (h : isB v = true) : v = 0 ∨ v = 1 := by simpa [isB] using h
theorem fI_narrow {t : FieldType} {v : Int32} {b : Nat} (h : t = if b = 1 then .boolean else .int) (hv : b = 1 → isB v = true) : narrow t (.int v) = .int v ∧ fits t (.int v) = true := by
  subst h
  split
  · rename_i hb
    rcases isB_01 (hv hb) with rfl | rfl <;> exact ⟨by decide, by decide⟩
  · exact ⟨rfl, rfl⟩
theorem s_putI : cl_putI (SP l D cA a) := by
  intro z pc ls st M κ out nx p q r x ix k v h1 h2 h3 h4 h5 kp
  subst h2
  obtain ⟨hd, rfl, hv⟩ := dec h1 (by simp [ilen])
  refine sp2 ⟨rfl, rfl, rfl, rfl⟩ kp fun p e s m args below meth c R A H locs arr cells slots Q hF hK hR hS hb kk => ?_
  obtain ⟨hx, hbb, -, -, -, hown, -, hts, -⟩ := hF
  simp only [vld1, Bool.and_eq_true, decide_eq_true_eq] at hv
  obtain ⟨hm, hq⟩ := hv
  have hp := nf_lt hq
  have hw : (Cond.fieldLink (cn (oc z)) ix (tF (kd k) q).1 (tF (kd k) q).2.1 (tF (kd k) q).2.2.1).before args s = true := hts _ (frW_in _ (List.mem_map.mpr ⟨(oc z, ix, kd k, q), by simpa using hm, rfl⟩))
  have he := wld_get (cA := cA) (a := a) (M := M) (X := kX κ) h4
  rw [eE_obj (by omega)] at he
  obtain ⟨hfin, hty⟩ := fI_ok _ hp q hq h3
  obtain ⟨hnar, hfit⟩ := fI_narrow (v := v) hty h5
  refine va_put hx hbb hts (uw_in hp) (fT (kd k)) (fT_ok _ hp) (fN_ok _ hp) hown hK.1 hR.1 hR.2.1 hS k he (cl8_get _ hp) q hq hw (fun _ h => h) hfin (fT_ok _ hp q hq) hnar hfit (by simpa using hq) hd fun H1 locs1 hP1 hD1 hS1 => ?_
  refine kk H1 locs1 (hR.put hS hS1 hb h4 ?_ (fun j hj => stM_other _ _ _ _ hj) (fun _ _ => rfl) rfl rfl rfl hP1 hD1 (WF_st (Or.inl ?_))) hS1
  · rw [eE_obj (by omega), stM_row, fs_set (g := fv a k (upd (M k) q v)) (by unfold fv; rw [if_pos h3]; simp [upd]; rfl) (fun j hj => by unfold fv; simp [upd, hj])]
  · unfold sref
    rw [if_pos (by omega), h3]
    rfl
theorem s_putR : cl_putR (SP l D cA a) := by
  intro z pc ls st M κ out nx p q r x ix k d h1 h2 h3 h4 h5 h6 h7 kp
  subst h2
  obtain ⟨hd, rfl, hv⟩ := dec h1 (by simp [ilen])
  refine sp2 ⟨rfl, rfl, rfl, rfl⟩ kp fun p e s m args below meth c R A H locs arr cells slots Q hF hK hR hS hb kk => ?_
  obtain ⟨hx, hbb, -, -, -, hown, hinit, hts, -⟩ := hF
  simp only [vld1, Bool.and_eq_true, decide_eq_true_eq] at hv
  obtain ⟨hm, hq⟩ := hv
  have hp := nf_lt hq
  have hw : (Cond.fieldLink (cn (oc z)) ix (tF (kd k) q).1 (tF (kd k) q).2.1 (tF (kd k) q).2.2.1).before args s = true := hts _ (frW_in _ (List.mem_map.mpr ⟨(oc z, ix, kd k, q), by simpa using hm, rfl⟩))
  have he := wld_get (cA := cA) (a := a) (M := M) (X := kX κ) h4
  rw [eE_obj (by omega)] at he
  obtain ⟨hty, hcn, hfin⟩ := fR_ok _ hp q hq (by omega)
  obtain ⟨hnar, hfit⟩ := fR_narrow hty (a d)
  rw [decide_eq_true h3] at hfin
  refine va_putF hx hbb hts (uw_in hp) (fT (kd k)) (fT_ok _ hp) (fN_ok _ hp) hown hK.1 hR.1 hR.2.1 hS k he (cl8_get _ hp) q hq hw (fun _ h => h) hfin (hinit h6) (by rw [hcn, h7]) (fT_ok _ hp q hq) hnar hfit (by simpa using hq) hd fun H1 locs1 hP1 hD1 hS1 => ?_
  refine kk H1 locs1 (hR.put hS hS1 hb h4 ?_ (fun j hj => stM_other _ _ _ _ hj) (fun _ _ => rfl) rfl rfl rfl hP1 hD1 (WF_st (Or.inr (by decide)))) hS1
  rw [eE_obj (by omega), stM_row, fs_set (g := fv a k (upd (M k) q 1)) (by unfold fv; rw [if_neg (by omega), if_neg (by simp [upd]), if_pos h3, h5]; rfl) (fun j hj => by unfold fv; simp [upd, hj])]
theorem s_putD : cl_putD (SP l D cA a) := by
  intro z pc ls st M κ out nx p q r x ix k d h1 h2 h3 h4 h5 h6 kp
  subst h2
  obtain ⟨hd, rfl, hv⟩ := dec h1 (by simp [ilen])
  refine sp2 ⟨rfl, rfl, rfl, rfl⟩ kp fun p e s m args below meth c R A H locs arr cells slots Q hF hK hR hS hb kk => ?_
  obtain ⟨hx, hbb, -, -, -, hown, hinit, hts, -⟩ := hF
  simp only [vld1, Bool.and_eq_true, decide_eq_true_eq] at hv
  obtain ⟨hm, hq⟩ := hv
  have hp := nf_lt hq
  have hw : (Cond.fieldLink (cn (oc z)) ix (tF (kd k) q).1 (tF (kd k) q).2.1 (tF (kd k) q).2.2.1).before args s = true := hts _ (frW_in _ (List.mem_map.mpr ⟨(oc z, ix, kd k, q), by simpa using hm, rfl⟩))
  have he := wld_get (cA := cA) (a := a) (M := M) (X := kX κ) h4
  rw [eE_obj (by omega)] at he
  obtain ⟨hty, hcn, hfin⟩ := fR_ok _ hp q hq (by omega)
  obtain ⟨hnar, hfit⟩ := fR_narrow hty (a d)
  rw [decide_eq_false (by omega)] at hfin
  have hnz : nI d ≠ 0 := nI_ne0 h5 (by omega)
  refine va_put hx hbb hts (uw_in hp) (fT (kd k)) (fT_ok _ hp) (fN_ok _ hp) hown hK.1 hR.1 hR.2.1 hS k he (cl8_get _ hp) q hq hw (fun _ h => h) hfin (fT_ok _ hp q hq) hnar hfit (by simpa using hq) hd fun H1 locs1 hP1 hD1 hS1 => ?_
  refine kk H1 locs1 (hR.put hS hS1 hb h4 ?_ (fun j hj => stM_other _ _ _ _ hj) (fun _ _ => rfl) rfl rfl rfl hP1 hD1 (WF_st (Or.inr hnz))) hS1
  rw [eE_obj (by omega), stM_row, fs_set (g := fv a k (upd (M k) q (nI d))) (by unfold fv; rw [if_neg (by omega), if_neg (by simpa [upd] using hnz), if_neg (by omega)]; simp [upd, nI_clamp (show d < 2 ^ 31 by omega)]; rfl) (fun j hj => by unfold fv; simp [upd, hj])]
theorem sref_arr {k j : Nat} (h : 20 ≤ kd k) (h2 : kd k ≠ 22) (h3 : kd k ≠ 23) : sref k j = false := by
  unfold sref
  rw [if_neg (by omega)]
  simp [h2, h3]
theorem s_iast : cl_iast (SP l D cA a) := by
  intro z pc ls st M κ out nx p q r x k b v h1 h2 h3 h4 kp
  obtain ⟨hd, rfl, hv⟩ := dec h1 (by simp [ilen])
  refine sp2 ⟨rfl, rfl, rfl, rfl⟩ kp fun p e s m args below meth c R A H locs arr cells slots Q hF hK hR hS hb kk => ?_
  have he := wld_get (cA := cA) (a := a) (M := M) (X := kX κ) h3
  have hE : ∀ f : Nat → Int32, ∀ x, eE cA a k f x = .inl (cA 20, ln k, .inl f) := fun f x => by unfold eE; rw [if_neg (by omega), if_pos h2]
  rw [hE] at he
  refine va_iast hF.1 hF.2.1 hK.1 hR.1 hR.2.1 hS k 0 he rfl h4 hd fun H1 locs1 hP1 hD1 hS1 => ?_
  refine kk H1 locs1 (hR.put hS hS1 hb h3 ?_ (fun j hj => stM_other _ _ _ _ hj) (fun _ _ => rfl) rfl rfl rfl hP1 hD1 (WF_st (Or.inl (sref_arr (by omega) (by omega) (by omega))))) hS1
  rw [hE, stM_row]
theorem s_zast : cl_zast (SP l D cA a) := by
  intro z pc ls st M κ out nx p q r x k b v h1 h2 h3 h4 h5 kp
  obtain ⟨hd, rfl, hv⟩ := dec h1 (by simp [ilen])
  refine sp2 ⟨rfl, rfl, rfl, rfl⟩ kp fun p e s m args below meth c R A H locs arr cells slots Q hF hK hR hS hb kk => ?_
  have he := wld_get (cA := cA) (a := a) (M := M) (X := kX κ) h3
  have hE : ∀ f : Nat → Int32, ∀ x, eE cA a k f x = .inl (cA 21, ln k, .inl f) := fun f x => by unfold eE; rw [if_neg (by omega), if_neg (by omega), if_pos h2]
  have hn : vp_nar .boolean v = v := by rcases isB_01 h5 with rfl | rfl <;> decide
  rw [hE] at he
  refine va_zast hF.1 hF.2.1 hK.1 hR.1 hR.2.1 hS k 1 he rfl h4 hd fun H1 locs1 hP1 hD1 hS1 => ?_
  rw [hn] at hP1 hD1
  refine kk H1 locs1 (hR.put hS hS1 hb h3 ?_ (fun j hj => stM_other _ _ _ _ hj) (fun _ _ => rfl) rfl rfl rfl hP1 hD1 (WF_st (Or.inl (sref_arr (by omega) (by omega) (by omega))))) hS1
  rw [hE, stM_row]
theorem s_aast : cl_aast (SP l D cA a) := by
  intro z pc ls st M κ out nx p q r x k d b h1 h2 h3 h4 h5 h6 h7 kp
  obtain ⟨hd, rfl, hv⟩ := dec h1 (by simp [ilen])
  refine sp2 ⟨rfl, rfl, rfl, rfl⟩ kp fun p e s m args below meth c R A H locs arr cells slots Q hF hK hR hS hb kk => ?_
  have he := wld_get (cA := cA) (a := a) (M := M) (X := kX κ) h3
  have hg := wld_get (cA := cA) (a := a) (M := M) (X := kX κ) h4
  have her : va_up (er a k (M k)) b.toNatClampNeg (some (a d)) = er a k (stM M k b.toNatClampNeg 1 k) := by
    rw [stM_row]
    funext j
    unfold va_up er upd
    by_cases hj : j = b.toNatClampNeg
    · subst hj
      simp [h6]
    · simp [hj]
  rcases h2 with h2 | h2
  · rw [if_pos h2] at h7
    have hE : ∀ f : Nat → Int32, ∀ x, eE cA a k f x = .inl (cA 22, 6, .inr (.inr (.inr (.inr (er a k f))))) := fun f x => by unfold eE; rw [if_neg (by omega), if_neg (by omega), if_neg (by omega), if_pos h2]
    rw [hE] at he
    rw [eE_obj (by omega), h7] at hg
    refine va_astq hF.1 hF.2.1 hK.1 hR.1 hR.2.1 hS k 2 d 0 (r := ("BundleMill$Block", tF_0, 12)) he rfl hg rfl h5 hd fun H1 locs1 hP1 hD1 hS1 => ?_
    rw [her] at hP1 hD1
    refine kk H1 locs1 (hR.put hS hS1 hb h3 ?_ (fun j hj => stM_other _ _ _ _ hj) (fun _ _ => rfl) rfl rfl rfl hP1 hD1 (WF_st (Or.inr (by decide)))) hS1
    rw [hE]
  · rw [if_neg (by omega)] at h7
    have hE : ∀ f : Nat → Int32, ∀ x, eE cA a k f x = .inl (cA 23, 6, .inr (.inr (.inr (.inr (er a k f))))) := fun f x => by unfold eE; rw [if_neg (by omega), if_neg (by omega), if_neg (by omega), if_neg (by omega), if_pos h2]
    rw [hE] at he
    rw [eE_obj (by omega), h7] at hg
    refine va_astq hF.1 hF.2.1 hK.1 hR.1 hR.2.1 hS k 3 d 5 (r := ("BundleMill$Plan", tF_5, 8)) he rfl hg rfl h5 hd fun H1 locs1 hP1 hD1 hS1 => ?_
    rw [her] at hP1 hD1
    refine kk H1 locs1 (hR.put hS hS1 hb h3 ?_ (fun j hj => stM_other _ _ _ _ hj) (fun _ _ => rfl) rfl rfl rfl hP1 hD1 (WF_st (Or.inr (by decide)))) hS1
    rw [hE]
theorem s_last : cl_last (SP l D cA a) := by
  intro z pc ls st M κ out nx p q r x k b v h1 h2 h3 h4 kp
  obtain ⟨hd, rfl, hv⟩ := dec h1 (by simp [ilen])
  refine sp2 (κ' := (κ.1, stX (kX κ) k v.toUInt64, κ.2.2)) ⟨rfl, rfl, rfl, rfl⟩ kp fun p e s m args below meth c R A H locs arr cells slots Q hF hK hR hS hb kk => ?_
  have he := wld_get (cA := cA) (a := a) (M := M) (X := kX κ) h3
  have h0 : b.toNatClampNeg = 0 := by
    have : b.toNatClampNeg < 1 := Nat.not_le.mp fun q => h4 (Or.inr q)
    omega
  have hE : ∀ f : Nat → Int32, ∀ x : UInt64, eE cA a k f x = .inl (cA 24, 1, .inr (.inl (fun j => if j = 0 then x.toInt64 else 0))) := fun f x => by unfold eE; rw [if_neg (by omega), if_neg (by omega), if_neg (by omega), if_neg (by omega), if_neg (by omega), if_pos h2]
  rw [hE] at he
  refine va_last hF.1 hF.2.1 hK.1 hR.1 hR.2.1 hS k 4 he rfl h4 hd fun H1 locs1 hP1 hD1 hS1 => ?_
  refine kk H1 locs1 (hR.put hS hS1 hb h3 ?_ (fun _ _ => rfl) (fun j hj => stX_other _ _ _ hj) rfl rfl rfl hP1 hD1 id) hS1
  rw [hE, show kX (κ.1, stX (kX κ) k v.toUInt64, κ.2.2) k = v.toUInt64 from stX_row _ _ _]
  congr 5
  funext j
  unfold vp_updL
  rw [h0]
  by_cases hj : j = 0
  · simp [hj]
  · simp [hj]
theorem s_dast : cl_dast (SP l D cA a) := by
  intro z pc ls st M κ out nx p q r x k b v h1 h2 h3 h4 kp
  obtain ⟨hd, rfl, hv⟩ := dec h1 (by simp [ilen])
  refine sp2 (κ' := (κ.1, stX (kX κ) k v, κ.2.2)) ⟨rfl, rfl, rfl, rfl⟩ kp fun p e s m args below meth c R A H locs arr cells slots Q hF hK hR hS hb kk => ?_
  have he := wld_get (cA := cA) (a := a) (M := M) (X := kX κ) h3
  have h0 : b.toNatClampNeg = 0 := by
    have : b.toNatClampNeg < 1 := Nat.not_le.mp fun q => h4 (Or.inr q)
    omega
  have hE : ∀ f : Nat → Int32, ∀ x : UInt64, eE cA a k f x = .inl (cA 25, 1, .inr (.inr (.inr (.inl (fun j => if j = 0 then x else 0))))) := fun f x => by unfold eE; rw [if_neg (by omega), if_neg (by omega), if_neg (by omega), if_neg (by omega), if_neg (by omega), if_neg (by omega)]
  rw [hE] at he
  refine va_dast hF.1 hF.2.1 hK.1 hR.1 hR.2.1 hS k 5 he rfl h4 hd fun H1 locs1 hP1 hD1 hS1 => ?_
  refine kk H1 locs1 (hR.put hS hS1 hb h3 ?_ (fun _ _ => rfl) (fun j hj => stX_other _ _ _ hj) rfl rfl rfl hP1 hD1 id) hS1
  rw [hE, show kX (κ.1, stX (kX κ) k v, κ.2.2) k = v from stX_row _ _ _]
  congr 7
  funext j
  unfold vf_upd
  rw [h0]
  by_cases hj : j = 0
  · simp [hj]
  · simp [hj]
/-! returns -/
theorem RW.warm {M : Mem} {κ : Kp} {A : Nat → Prop} {s t : State} {H : Heap} (h : RW D cA a M κ A s H) (hvm : s.vm.Alike t.vm) : RW D cA a M κ A t H := ⟨h.1, h.2.1, va_X.moved hvm h.2.2.1, h.2.2.2⟩
theorem s_iret : cl_iret (SP l D cA a) := by
  intro z pc ls st M κ out nx p q r x v h1 h2
  obtain ⟨hd, -, -⟩ := dec h1 (by simp [ilen])
  refine ⟨⟨Nat.le_refl _, Nat.le_refl _, fun h => ⟨h, rfl⟩⟩, fun p e s m args below meth c hF A hK hA hb H locs arr cells slots mc ms hR hS hL hc hu hz => ?_⟩
  obtain ⟨hx, hbb, -, hr, hlk, -⟩ := hF
  have e1 : cells = mc := Nat.add_right_cancel (m := kC κ) hc
  have e2 : slots = ms := Nat.add_right_cancel (m := kU κ) hu
  subst e1; subst e2
  have hq : ∀ t : State, t.heap = H → s.WarmedH t.vm → QcM D cA a (.inl (some (.int v)), M, κ) A args s (.returned (some (.int v))) t := fun t ht hW => ⟨⟨_, rfl, rfl⟩, by rw [ht]; exact hR.warm hW.alike, hS.F ht⟩
  rcases h2 with h2 | ⟨h2, h3⟩
  · exact vx_ret (W.iret hx hbb (hr.trans h2) hq hS.2.2 hd hlk)
  · exact vx_ret (W.zret hx hbb (hr.trans h2) (by rcases isB_01 h3 with rfl | rfl <;> decide) hq hS.2.2 hd hlk)
theorem s_lret : cl_lret (SP l D cA a) := by
  intro z pc ls st M κ out nx p q r x v h1 h2
  obtain ⟨hd, -, -⟩ := dec h1 (by simp [ilen])
  refine ⟨⟨Nat.le_refl _, Nat.le_refl _, fun h => ⟨h, rfl⟩⟩, fun p e s m args below meth c hF A hK hA hb H locs arr cells slots mc ms hR hS hL hc hu hz => ?_⟩
  obtain ⟨hx, hbb, -, hr, hlk, -⟩ := hF
  have e1 : cells = mc := Nat.add_right_cancel (m := kC κ) hc
  have e2 : slots = ms := Nat.add_right_cancel (m := kU κ) hu
  subst e1; subst e2
  exact vx_ret (W.lret hx hbb (hr.trans h2) (fun t ht hW => ⟨⟨_, rfl, rfl⟩, by rw [ht]; exact hR.warm hW.alike, hS.F ht⟩) hS.2.2 hd hlk)
theorem s_dret : cl_dret (SP l D cA a) := by
  intro z pc ls st M κ out nx p q r x v h1 h2
  obtain ⟨hd, -, -⟩ := dec h1 (by simp [ilen])
  refine ⟨⟨Nat.le_refl _, Nat.le_refl _, fun h => ⟨h, rfl⟩⟩, fun p e s m args below meth c hF A hK hA hb H locs arr cells slots mc ms hR hS hL hc hu hz => ?_⟩
  obtain ⟨hx, hbb, -, hr, hlk, -⟩ := hF
  have e1 : cells = mc := Nat.add_right_cancel (m := kC κ) hc
  have e2 : slots = ms := Nat.add_right_cancel (m := kU κ) hu
  subst e1; subst e2
  exact vx_ret (W.dret hx hbb (hr.trans h2) (fun t ht hW => ⟨⟨_, rfl, rfl⟩, by rw [ht]; exact hR.warm hW.alike, hS.F ht⟩) hS.2.2 hd hlk)
theorem s_vret : cl_vret (SP l D cA a) := by
  intro z pc ls st M κ out nx p q r x h1 h2
  obtain ⟨hd, -, -⟩ := dec h1 (by simp [ilen])
  refine ⟨⟨Nat.le_refl _, Nat.le_refl _, fun h => ⟨h, rfl⟩⟩, fun p e s m args below meth c hF A hK hA hb H locs arr cells slots mc ms hR hS hL hc hu hz => ?_⟩
  obtain ⟨hx, hbb, -, hr, hlk, -⟩ := hF
  have e1 : cells = mc := Nat.add_right_cancel (m := kC κ) hc
  have e2 : slots = ms := Nat.add_right_cancel (m := kU κ) hu
  subst e1; subst e2
  exact vx_ret (W.vret hx hbb (hr.trans h2) (fun t ht hW => ⟨⟨_, rfl, rfl⟩, by rw [ht]; exact hR.warm hW.alike, hS.F ht⟩) hS.2.2 hd hlk)
end SND3
end
section
/-! SOUNDNESS, 4: the clauses that make objects -/
section SND4
variable {l : Launch} {D : va_G} {cA : Nat → ClassId} {a : Nat → Nat}
theorem hsize (ha : ∀ n, n < 180 → a (n + 1) = a n + 1) {M : Mem} {κ : Kp} {A : Nat → Prop} {s : State} {H : Heap} {locs : List Loc} {cells : Nat} (hR : RW D cA a M κ A s H) (hS : va_S A s.heap H locs) (hz : s.heap.size + cells = a (kN κ) ∧ (kN κ = 0 → cells = 0)) (hub : H.size ≤ s.heap.size + cells) : H.size = a (kN κ) := by
  obtain ⟨h1, h2⟩ := hz
  rcases Nat.eq_zero_or_pos (kN κ) with h0 | h0
  · have := h2 h0
    have h3 := hS.1
    omega
  · obtain ⟨n, hn⟩ : ∃ n, kN κ = n + 1 := ⟨kN κ - 1, by omega⟩
    have h3 := (hR.1 n _ (wld_get (by omega))).lt
    have h4 := ha n (by have := hR.2.2.2.2.2; omega)
    rw [hn, h4] at h1 ⊢
    dsimp only at h3
    omega
theorem dv_ok : ∀ c, c < 8 → ∀ j, j < nf c → defaultValue (fT c j) = if fty c j = 0 then .int 0 else .null := by decide +kernel
/-- the world with one object more -/
theorem RW.push {M : Mem} {κ κ' : Kp} {A : Nat → Prop} {s : State} {H H1 : Heap} {locs : List Loc} (hR : RW D cA a M κ A s H) (hS : va_S A s.heap H locs) (hb : a 999 < s.heap.size) (hA : ∀ q, s.heap.size ≤ q → A q) (hsz : H.size = a (kN κ)) (z1 : H1.size = a (kN κ) + 1) (o1 : ∀ q, q < a (kN κ) → H1[q]? = H[q]?)
    (he : va_at D cl8 (a (kN κ), eE cA a (kN κ) (M (kN κ)) (kX κ (kN κ))) H1) (hn : kN κ < 180) (hr : kR κ = false) (e1 : kN κ' = kN κ + 1) (e2 : kR κ' = kR κ) (e3 : kL κ' = kL κ) (e4 : kX κ' = kX κ) : RW D cA a M κ' A s H1 ∧ va_S A s.heap H1 locs := by
  obtain ⟨r1, r2, r3, r4, r5, r6⟩ := hR
  have hk : ∀ (k : Nat) (x : Nat × va_E), (wld cA a M (kX κ) (kN κ))[k]? = some x → H1[x.1]? = H[x.1]? := fun k x hx => o1 x.1 (by rw [← hsz]; exact (r1 k x hx).lt)
  have hP := (r1.kept hk).app (w2 := [(a (kN κ), eE cA a (kN κ) (M (kN κ)) (kX κ (kN κ)))]) (fun k x hx => by
    have hz : k < 1 := (List.getElem?_eq_some_iff.mp hx).1
    rw [show k = 0 by omega] at hx
    cases hx
    exact he)
  have hD := r2.push (e := eE cA a (kN κ) (M (kN κ)) (kX κ (kN κ))) r1 hsz.symm (hA _ (by rw [← hsz]; exact hS.1))
  rw [wld_push] at hP hD
  refine ⟨⟨by rw [e1, e4]; exact hP, by rw [e1, e4]; exact hD, ?_, r4, fun h => ?_, by omega⟩, ⟨Nat.le_trans hS.1 (by omega), fun x h1 h2 => (o1 x (by rw [← hsz]; exact Nat.lt_of_lt_of_le h1 hS.1)).trans (hS.2.1 x h1 h2), hS.2.2⟩⟩
  · rw [e3]
    exact r3.kept (o1 _ (by rw [← hsz]; exact Nat.lt_of_lt_of_le hb hS.1))
  · rw [e2, hr] at h
    cases h
/-- the frame of the three clauses -/
theorem sp3 (ha : ∀ n, n < 180 → a (n + 1) = a n + 1) {z pc nx u : Nat} {ls st st' : List Value} {M : Mem} {κ : Kp} {out : Ou} (hr : kR κ = false) (hn : kN κ < 180)
    (k : SP l D cA a z (nx, ls, st', M, (κ.1, κ.2.1, κ.2.2.1, kN κ + 1, kC κ + 1, kU κ + u)) out)
    (row : ∀ (p : Program) (e : Env) (s : State) (m : MethodId) (args : Array Value) (below : List Frame) (meth : Method) (c : Code) (R : Room) (A : Nat → Prop) (H : Heap) (locs : List Loc) (arr : Array Slot) (cells slots : Nat) (Q : State → Prop), FX z p l s m args meth c → KS D cA s A → RW D cA a M κ A s H → H.size = a (kN κ) → cells + 1 ≤ R.cells → slots + u ≤ R.slots →
      (∀ H1 : Heap, H1.size = a (kN κ) + 1 → (∀ q, q < a (kN κ) → H1[q]? = H[q]?) → va_at D cl8 (a (kN κ), eE cA a (kN κ) (M (kN κ)) (kX κ (kN κ))) H1 → W p l e R s m args below meth c H1 locs (cells + 1) (slots + u) Q (F0 m nx arr (st'.map (mv a)))) → W p l e R s m args below meth c H locs cells slots Q (F0 m pc arr (st.map (mv a)))) : SP l D cA a z (pc, ls, st, M, κ) out := by
  obtain ⟨⟨k1, k2, k3⟩, k4⟩ := k
  dsimp only [kC, kU, kN, kR] at k1 k2 k3
  refine ⟨⟨?_, ?_, fun h => ?_⟩, fun p e s m args below meth c hF A hK hA hb H locs arr cells slots mc ms hR hS hL hc hu hz => ?_⟩
  · dsimp only [kC]
    omega
  · dsimp only [kU]
    omega
  · dsimp only [kC, kN, kR] at h ⊢
    obtain ⟨q1, q2⟩ := k3 h
    exact ⟨q1, by omega⟩
  · dsimp only [kC, kU] at hc hu
    intro T hT X
    have hub : H.size ≤ s.heap.size + cells := by rw [← hT]; exact X.heapSize
    have hsz := hsize ha hR hS (hz hr) hub
    refine row p e s m args below meth c _ A H locs arr cells slots _ hF hK hR hsz (show cells + 1 ≤ mc by omega) (show slots + u ≤ ms by omega) (fun H1 z1 o1 he => ?_) T hT X
    obtain ⟨hR1, hS1⟩ := hR.push (κ' := (κ.1, κ.2.1, κ.2.2.1, kN κ + 1, kC κ + 1, kU κ + u)) hS hb hA hsz z1 o1 he hn hr rfl rfl rfl rfl
    refine k4 p e s m args below meth c hF A hK hA hb H1 locs arr (cells + 1) (slots + u) mc ms hR1 hS1 hL ?_ ?_ (fun q => ?_)
    · dsimp only [kC]
      omega
    · dsimp only [kU]
      omega
    · dsimp only [kN]
      obtain ⟨q1, -⟩ := hz hr
      dsimp only at q1
      rw [ha _ hn]
      exact ⟨by omega, fun q => by omega⟩
theorem s_new (ha : ∀ n, n < 180 → a (n + 1) = a n + 1) : cl_new (SP l D cA a) := by
  intro z pc ls st M κ out nx p q r x ix h1 h2 h3 h4 h5 h6 kp
  subst h4
  obtain ⟨hd, rfl, hv⟩ := dec h1 (by simp [ilen])
  have hn : kN κ < 180 := kd_lt (by omega)
  refine sp3 ha h3 hn kp fun p e s m args below meth c R A H locs arr cells slots Q hF hK hR hsz hcl hsl kk => ?_
  obtain ⟨hx, hbb, -, -, -, hown, -, hts, -⟩ := hF
  simp only [vld1, h2] at hv
  have hm : (oc z, ix, kd (kN κ)) ∈ clrL := by simpa using hv
  have hp : kd (kN κ) < 8 := by omega
  have hKn := hK.1.1 _ _ (cl8_get _ hp)
  have hin := fun w hw => inW_in w (List.mem_flatMap.mpr ⟨kd (kN κ), List.mem_range.mpr hp, hw⟩)
  refine W.newcK hx hbb hown (hts _ (clW_in _ (List.mem_map.mpr ⟨_, hm, rfl⟩))) (hts _ (hin _ List.mem_cons_self)) (hts _ (hin _ (List.mem_cons_of_mem _ List.mem_cons_self))) rfl hd hcl hsl hKn.2.1 hsz fun H1 kC hkC e1 z1 o1 => ?_
  refine kk H1 z1 o1 ?_
  rw [eE_obj h5]
  refine ⟨_, cl8_get _ hp, (u_born (fT (kd (kN κ))) hts (uw_in hp) hKn hkC e1 (fT_ok _ hp)).to fun j hj => ?_⟩
  rw [dv_ok _ hp j hj]
  unfold vp_V
  dsimp only
  rw [List.getD_eq_getElem?_getD, fs_get hj]
  unfold fv
  rw [h6 j]
  by_cases h0 : fty (kd (kN κ)) j = 0
  · rw [if_pos h0]
    simp [h0]
  · rw [if_neg h0]
    simp [h0]
theorem s_newa (ha : ∀ n, n < 180 → a (n + 1) = a n + 1) : cl_newa (SP l D cA a) := by
  intro z pc ls st M κ out nx p q r x t n h1 h2 h3 h4 h5 h6 h7 h8 h9 h10 kp
  subst h3
  obtain ⟨hd, rfl, hv⟩ := dec h1 (by simp [ilen])
  have hk99 : kd (kN κ) ≠ 99 := by
    intro h99
    simp only [vld1, beq_iff_eq] at hv
    rw [h99] at hv
    cases t <;> simp at hv
  have hn : kN κ < 180 := kd_lt hk99
  have hlen : ln (kN κ) ≤ 200 := by
    have : ∀ k, k < 180 → ln k ≤ 200 := by decide +kernel
    exact this _ hn
  have hl1 : 24 ≤ kd (kN κ) → ln (kN κ) = 1 := by
    have : ∀ k, k < 180 → 24 ≤ kd k → ln k = 1 := by decide +kernel
    exact this _ hn
  refine sp3 ha h2 hn kp fun p e s m args below meth c R A H locs arr cells slots Q hF hK hR hsz hcl hsl kk => ?_
  obtain ⟨hx, hbb, -, -, -, hown, -, hts, -⟩ := hF
  have hbytes : ln (kN κ) * componentBytes (newarray.typeOf t) ≤ 536870912 := by
    have : componentBytes (newarray.typeOf t) ≤ 8 := by cases t <;> decide
    calc ln (kN κ) * componentBytes (newarray.typeOf t) ≤ 200 * 8 := Nat.mul_le_mul hlen this
      _ ≤ 536870912 := by omega
  have hin : ∀ w ∈ arW, w.before args s = true := fun w hw => hts w (arW_in w hw)
  have hz : (fun j => M (kN κ) j) = fun _ => 0 := funext h9
  simp only [vld1, beq_iff_eq] at hv
  cases t with
  | int =>
    simp only at hv
    refine va_newaK (atype := .int) (N := ln (kN κ)) hx hbb (hin (.arrayClass .int) List.mem_cons_self) rfl hd rfl h8 h7 hbytes hcl hsl hsz fun H1 c1 e1 z1 o1 hAr hNm => ?_
    have hc1 : c1 = cA 20 := Option.some.inj (hNm.symm.trans (hK.1.2 0 _ rfl).2)
    refine kk H1 z1 o1 ?_
    have hE : eE cA a (kN κ) (M (kN κ)) (kX κ (kN κ)) = .inl (cA 20, ln (kN κ), .inl (M (kN κ))) := by unfold eE; rw [if_neg (by omega), if_pos hv]
    rw [hE]
    show H1[a (kN κ)]? = some (vp_cell (cA 20) _)
    rw [vp_cell_i, e1, hc1, show M (kN κ) = fun _ => 0 from hz]
    rfl
  | boolean =>
    simp only at hv
    refine va_newaK (atype := .boolean) (N := ln (kN κ)) hx hbb (hin (.arrayClass .boolean) (List.mem_cons_of_mem _ List.mem_cons_self)) rfl hd rfl h8 h7 hbytes hcl hsl hsz fun H1 c1 e1 z1 o1 hAr hNm => ?_
    have hc1 : c1 = cA 21 := Option.some.inj (hNm.symm.trans (hK.1.2 1 _ rfl).2)
    refine kk H1 z1 o1 ?_
    have hE : eE cA a (kN κ) (M (kN κ)) (kX κ (kN κ)) = .inl (cA 21, ln (kN κ), .inl (M (kN κ))) := by unfold eE; rw [if_neg (by omega), if_neg (by omega), if_pos hv]
    rw [hE]
    show H1[a (kN κ)]? = some (vp_cell (cA 21) _)
    rw [vp_cell_i, e1, hc1, show M (kN κ) = fun _ => 0 from hz]
    rfl
  | long =>
    simp only at hv
    refine va_newaK (atype := .long) (N := ln (kN κ)) hx hbb (hin (.arrayClass .long) (List.mem_cons_of_mem _ (List.mem_cons_of_mem _ List.mem_cons_self))) rfl hd rfl h8 h7 hbytes hcl hsl hsz fun H1 c1 e1 z1 o1 hAr hNm => ?_
    have hc1 : c1 = cA 24 := Option.some.inj (hNm.symm.trans (hK.1.2 4 _ rfl).2)
    refine kk H1 z1 o1 ?_
    have hE : eE cA a (kN κ) (M (kN κ)) (kX κ (kN κ)) = .inl (cA 24, 1, .inr (.inl (fun j => if j = 0 then (kX κ (kN κ)).toInt64 else 0))) := by unfold eE; rw [if_neg (by omega), if_neg (by omega), if_neg (by omega), if_neg (by omega), if_neg (by omega), if_pos hv]
    rw [hE]
    show H1[a (kN κ)]? = some (vp_cell (cA 24) _)
    rw [vp_cell_l, e1, hc1, h10 (by omega), hl1 (by omega)]
    have : (fun j : Nat => Value.long (if j = 0 then (0 : UInt64).toInt64 else 0)) = fun _ => defaultValue .long := by
      funext j
      by_cases hj : j = 0 <;> simp [hj] <;> rfl
    rw [this]
    rfl
  | double =>
    simp only at hv
    refine va_newaK (atype := .double) (N := ln (kN κ)) hx hbb (hin (.arrayClass .double) (List.mem_cons_of_mem _ (List.mem_cons_of_mem _ (List.mem_cons_of_mem _ List.mem_cons_self)))) rfl hd rfl h8 h7 hbytes hcl hsl hsz fun H1 c1 e1 z1 o1 hAr hNm => ?_
    have hc1 : c1 = cA 25 := Option.some.inj (hNm.symm.trans (hK.1.2 5 _ rfl).2)
    refine kk H1 z1 o1 ?_
    have hE : eE cA a (kN κ) (M (kN κ)) (kX κ (kN κ)) = .inl (cA 25, 1, .inr (.inr (.inr (.inl (fun j => if j = 0 then kX κ (kN κ) else 0))))) := by unfold eE; rw [if_neg (by omega), if_neg (by omega), if_neg (by omega), if_neg (by omega), if_neg (by omega), if_neg (by omega)]
    rw [hE]
    show H1[a (kN κ)]? = some (vp_cell (cA 25) _)
    rw [vp_cell_d, e1, hc1, h10 (by omega), hl1 (by omega)]
    have : (fun j : Nat => Value.double (if j = 0 then (0 : UInt64) else 0)) = fun _ => defaultValue .double := by
      funext j
      by_cases hj : j = 0 <;> simp [hj] <;> rfl
    rw [this]
    rfl
  | _ => (simp only at hv; omega)
theorem s_anew (ha : ∀ n, n < 180 → a (n + 1) = a n + 1) : cl_anew (SP l D cA a) := by
  intro z pc ls st M κ out nx p q r x ix h1 h2 h3 h4 h5 kp
  subst h3
  obtain ⟨hd, rfl, hv⟩ := dec h1 (by simp [ilen])
  have hn : kN κ < 180 := kd_lt (by omega)
  refine sp3 ha h2 hn kp fun p e s m args below meth c R A H locs arr cells slots Q hF hK hR hsz hcl hsl kk => ?_
  obtain ⟨hx, hbb, -, -, -, hown, -, hts, -⟩ := hF
  simp only [vld1] at hv
  obtain ⟨-, -, -, -, ao1, ao2⟩ := hK.2.1
  have hz : ∀ j, er a (kN κ) (M (kN κ)) j = none := fun j => by unfold er; rw [h5 j]; rfl
  rcases h4 with h4 | h4
  · rw [if_pos h4] at hv
    have hm : (oc z, ix, 0) ∈ clrL := by simpa using hv
    refine W.anew hx hbb (C := "BundleMill$Block") hown (hts _ (clW_in _ (List.mem_map.mpr ⟨_, hm, rfl⟩))) (va_AO.use ao1) rfl hd (n := 6) rfl (by decide) (by decide) hcl hsl fun c1 kA comp f1 f2 f3 f4 => ?_
    have hc1 : c1 = cA 22 := by
      obtain ⟨_, _, _, _, _, g4⟩ := (hK.1.2 2 _ rfl).2
      exact Option.some.inj (f1.symm.trans g4)
    rw [hsz]
    refine kk _ (by rw [Array.size_push, hsz]) (fun q hq => by rw [Array.getElem?_push, if_neg (by omega)]) ?_
    have hE : eE cA a (kN κ) (M (kN κ)) (kX κ (kN κ)) = .inl (cA 22, 6, .inr (.inr (.inr (.inr (er a (kN κ) (M (kN κ))))))) := by unfold eE; rw [if_neg (by omega), if_neg (by omega), if_neg (by omega), if_pos h4]
    rw [hE]
    show _ = some (vp_cell (cA 22) _)
    rw [vp_cell_q, ← hsz, Array.getElem?_push_size, hc1, arrV_new]
    simp only [hz]
    rfl
  · rw [if_neg (by omega)] at hv
    have hm : (oc z, ix, 5) ∈ clrL := by simpa using hv
    refine W.anew hx hbb (C := "BundleMill$Plan") hown (hts _ (clW_in _ (List.mem_map.mpr ⟨_, hm, rfl⟩))) (va_AO.use ao2) rfl hd (n := 6) rfl (by decide) (by decide) hcl hsl fun c1 kA comp f1 f2 f3 f4 => ?_
    have hc1 : c1 = cA 23 := by
      obtain ⟨_, _, _, _, _, g4⟩ := (hK.1.2 3 _ rfl).2
      exact Option.some.inj (f1.symm.trans g4)
    rw [hsz]
    refine kk _ (by rw [Array.size_push, hsz]) (fun q hq => by rw [Array.getElem?_push, if_neg (by omega)]) ?_
    have hE : eE cA a (kN κ) (M (kN κ)) (kX κ (kN κ)) = .inl (cA 23, 6, .inr (.inr (.inr (.inr (er a (kN κ) (M (kN κ))))))) := by unfold eE; rw [if_neg (by omega), if_neg (by omega), if_neg (by omega), if_neg (by omega), if_pos h4]
    rw [hE]
    show _ = some (vp_cell (cA 23) _)
    rw [vp_cell_q, ← hsz, Array.getElem?_push_size, hc1, arrV_new]
    simp only [hz]
    rfl
end SND4
end
section
/-! SOUNDNESS, 5: calls and throws -/
section SND5
variable {l : Launch} {D : va_G} {cA : Nat → ClassId} {a : Nat → Nat}
def AA (a : Nat → Nat) (n sz : Nat) : Nat → Prop := fun q => (∃ k, k < n ∧ q = a k) ∨ sz ≤ q
def PcM (D : va_G) (cA : Nat → ClassId) (a : Nat → Nat) (av : List Value) (M : Mem) (κ : Kp) (sz : Nat) : Array Value → State → Prop := fun v U =>
  v = (av.map (mv a)).toArray ∧ U.heap.size = sz ∧ KS D cA U (AA a (kN κ) sz) ∧ RW D cA a M κ (AA a (kN κ) sz) U U.heap ∧ (kR κ = false → sz = a (kN κ))
theorem pcm_blind {av : List Value} {M : Mem} {κ : Kp} {sz : Nat} : FrameBlind (PcM D cA a av M κ sz) := by
  intro v U g mk h
  obtain ⟨h1, h2, ⟨k1, k2, k3, k4⟩, h4, h5⟩ := h
  have hv : U.vm.Alike (U.calling g mk v).vm := Vm.Alike.refl U.vm
  exact ⟨h1, h2, ⟨va_K.moved (u := U) (U := U.calling g mk v) hv k1, KN.warm (s := U) (U := U.calling g mk v) (State.WarmedH.refl U) k2, vx_Zq.moved (u := U) (U := U.calling g mk v) hv k3, vx_Zq.moved (u := U) (U := U.calling g mk v) hv k4⟩, RW.warm (s := U) (t := U.calling g mk v) h4 hv, h5⟩
theorem lg_len {vs : List Value} (h : ∀ v ∈ vs, v.category = 1) : (lg_sl vs).length = vs.length := by
  induction vs with
  | nil => rfl
  | cons v vs ih =>
    have h1 := h v List.mem_cons_self
    have h2 := ih (fun w hw => h w (List.mem_cons_of_mem _ hw))
    unfold lg_sl at h2 ⊢
    rw [List.flatMap_cons, if_neg (by omega), List.length_append, h2]
    simp
    omega
theorem lvargs_mem {vs : List Value} (h : ∀ v ∈ vs, v.category = 1) : ∀ (i j : Nat) (v : Value), vs[j]? = some v → (i + j, v) ∈ lv_args i vs := by
  induction vs with
  | nil => intro i j v hv; simp at hv
  | cons w ws ih =>
    intro i j v hv
    have h1 := h w List.mem_cons_self
    unfold lv_args
    rw [if_neg (by omega)]
    cases j with
    | zero =>
      rw [List.getElem?_cons_zero] at hv
      cases hv
      exact List.mem_cons_self
    | succ j =>
      rw [List.getElem?_cons_succ] at hv
      have := ih (fun w hw => h w (List.mem_cons_of_mem _ hw)) (i + 1) j v hv
      rw [show i + (j + 1) = i + 1 + j by omega]
      exact List.mem_cons_of_mem _ this
theorem c1s_all {av : List Value} (h : c1s av = true) : ∀ v ∈ av.map (mv a), v.category = 1 := by
  intro v hv
  obtain ⟨w, hw, rfl⟩ := List.mem_map.mp hv
  rw [mv_cat]
  simpa using List.all_eq_true.mp h w hw
theorem LV_entry {y : Nat} {av : List Value} (hc : c1s av = true) (hl : av.length ≤ mL y) : LV a (entL y av) (mL y) ((lg_sl (av.map (mv a)) ++ List.replicate (mL y - (lg_sl (av.map (mv a))).length) Slot.unset).toArray) := by
  have h1 := lg_len (c1s_all (a := a) hc)
  have h2 := lv_entry (av.map (mv a)) (n := mL y) (by rw [h1, List.length_map]; exact hl)
  refine ⟨by unfold entL; simp; omega, lv_few h2 fun q hq => ?_⟩
  obtain ⟨j, v, e1, e2, e3⟩ := (mem_lvl _ 0).mp hq
  rw [e3]
  refine lvargs_mem (c1s_all hc) 0 j _ ?_
  unfold entL at e1
  by_cases hj : j < av.length
  · rw [List.getElem?_append_left hj] at e1
    rw [List.getElem?_map, e1]
    rfl
  · rw [List.getElem?_append_right (by omega)] at e1
    exact absurd (List.eq_of_mem_replicate (List.mem_of_getElem? e1)) e2
theorem y_ok : ∀ y, y < 164 → plainName (yN y).cls = true ∧ (yN y).cls = cn (oc y) ∧ ((yN y).cls ≠ "java/lang/invoke/MethodHandle" ∧ (yN y).cls ≠ "java/lang/invoke/VarHandle") ∧ (parseMethodDescriptor (yN y).desc).map (fun d => d.parameters.length) = some (ag y) := by decide +kernel
theorem m_ok : ∀ m ∈ mrL, ag m.2.2.1 + (if kOf m.2.2.2 = 1 then 0 else 1) ≤ mL m.2.2.1 ∧ (m.2.2.2 = 2 ↔ hh m.2.2.1 ≠ []) ∧ (m.2.2.2 = 3 ∨ m.2.2.2 = 4 → (yN m.2.2.1).name = "<init>" ∧ rt m.2.2.1 = none) ∧ (4 ≤ m.2.2.2 → (m.1, m.2.1, m.2.2.1) ∈ nsL) := by decide +kernel
/-- a method's contract, for one start -/
theorem ct_of (hst : l.stackTraces = false) {y : Nat} {av : List Value} {M : Mem} {κ : Kp} {out : Ou} (hy : y < 164) (hc : c1s av = true) (hl : av.length ≤ mL y) (k : SP l D cA a y (0, entL y av, [], M, κ) out) {mc ms sz : Nat} (hmc : kC out.2.2 = mc + kC κ) (hms : kU out.2.2 = ms + kU κ) (hsz : a 999 < sz) :
    vx_Met l (yN y) (cw y :: GW) { frames := rf y, cells := mc, slots := ms, locals := rl y } (PcM D cA a av M κ sz) (QcM D cA a out (AA a (kN κ) sz)) (XcM D cA a out (AA a (kN κ) sz)) mc ms (AA a (kN κ) sz) := by
  have hA : ∀ q, sz ≤ q → AA a (kN κ) sz q := fun q h => Or.inr h
  have body : ∀ (p : Program) (e : Env) (s : State) (m : MethodId) (args : Array Value) (below : List Frame) (meth : Method) (c : Code), FX y p l s m args meth c → PcM D cA a av M κ sz args s →
      W p l e { frames := rf y, cells := mc, slots := ms, locals := rl y } s m args below meth c s.heap [] 0 0 (vx_MQ below (QcM D cA a out (AA a (kN κ) sz)) (XcM D cA a out (AA a (kN κ) sz)) args s mc ms (AA a (kN κ) sz)) (entryFrame m args (mL y)) := by
    intro p e s m args below meth c hF hv
    obtain ⟨rfl, h2, hK, hR, hz⟩ := hv
    subst h2
    rw [lg_entry_eq]
    refine k.2 p e s m _ below meth c hF _ hK hA hsz s.heap [] _ 0 0 mc ms hR va_S.rf (LV_entry hc hl) ?_ ?_ (fun h => ⟨?_, fun _ => rfl⟩)
    · rw [Nat.zero_add]; exact hmc
    · rw [Nat.zero_add]; exact hms
    · exact hz h
  have fx : ∀ {p : Program} {e : Env} {s s₁ : State} {m : MethodId} {args : Array Value} {below : List Frame} {meth : Method} {c : Code}, BodyLoose p l (yN y) (headSpec (cw y :: GW) { frames := rf y, cells := mc, slots := ms, locals := rl y }) (cc y) (mL y) (rt y) e s m args below meth c s₁ → c.maxLocals = mL y → c.exceptionTable.toList = tableOf (hh y) → FX y p l s m args meth c := by
    intro p e s s₁ m args below meth c B hml ht
    have hts := atoms_spec (ws := cw y :: GW) B.pre
    refine ⟨B.exec, B.bytes, hml, B.returns, B.notSynchronized, ?_, fun h => ?_, fun w hw => hts w (List.mem_cons_of_mem _ hw), fun _ => ht, hst⟩
    · rw [← (y_ok y (by omega)).2.1]
      exact findClass_of_methodNamed B.named
    · rw [(name_of_methodNamed B.named B.method).1]
      unfold isI at h
      simpa using h
  by_cases hh0 : hh y = []
  · have hcw : cw y = .code (yN y) (cc y) (mL y) (rt y) := by unfold cw; rw [if_pos hh0]
    refine vx_ofW (ws' := GW) (y_ok y (by omega)).1 (by rw [hcw]) ?_
    intro p e s m args below meth c s₁ B hml ht hv
    refine body p e s m args below meth c (fx B hml ?_) hv
    rw [hh0]
    exact List.eq_nil_iff_forall_not_mem.mpr (fun x hx => ht x hx)
  · have hcw : cw y = .codeWith (yN y) (cc y) (mL y) (rt y) (hh y) := by unfold cw; rw [if_neg hh0]
    refine vx_ofWH (ws' := GW) (hh := hh y) (y_ok y (by omega)).1 (by rw [hcw]) ?_
    intro p e s m args below meth c s₁ B hml hv
    refine body p e s m args below meth c (fx B hml ?_) hv
    refine vx_table (x := yN y) B (y := yN y) (bytes := cc y) (maxL' := mL y) (ret' := rt y) ?_
    have hts := atoms_spec (ws := cw y :: GW) B.pre
    have h9 := hts (cw y) List.mem_cons_self
    rw [hcw] at h9
    exact h9
theorem met_of_vx {y : MethodName} {ws : List Cond} {rm : Room} {Pc : Array Value → State → Prop} {Qc : Array Value → State → Outcome → State → Prop} {XC : String → State → State → Prop} {mc ms : Nat} {free : Addr → Prop} (h : vx_Met l y ws rm Pc Qc XC mc ms free) (hX : ∀ E s t, ¬ XC E s t) : Met l y ws rm Pc Qc mc ms free := by
  refine MetFree.mono h (fun _ _ q => q) (fun _ _ _ _ _ _ => trivial) fun v s o t _ hq => ?_
  rcases hq with hq | ⟨q, -, E, ce, L, hx, -⟩
  · exact hq
  · exact absurd hx (hX E s t)
theorem aa_sub {M : Mem} {κ : Kp} {A : Nat → Prop} {s : State} {H : Heap} {locs : List Loc} (hR : RW D cA a M κ A s H) (hS : va_S A s.heap H locs) (hA : ∀ q, s.heap.size ≤ q → A q) : ∀ q, AA a (kN κ) H.size q → A q := by
  intro q hq
  rcases hq with ⟨k, hk, rfl⟩ | hq
  · exact hR.2.1.2 k _ (wld_get hk)
  · exact hA q (Nat.le_trans hS.1 hq)
theorem pcm_of {M : Mem} {κ : Kp} {A : Nat → Prop} {s U : State} {H : Heap} {locs : List Loc} (av : List Value) (hK : KS D cA s A) (hR : RW D cA a M κ A s H) (hS : va_S A s.heap H locs) (hA : ∀ q, s.heap.size ≤ q → A q) (hsz : kR κ = false → H.size = a (kN κ)) (hU : U.heap = H) (hW : s.WarmedH U.vm) : PcM D cA a av M κ H.size (av.map (mv a)).toArray U := by
  have hsub := aa_sub hR hS hA
  obtain ⟨k1, k2, k3, k4⟩ := hK
  obtain ⟨r1, r2, r3, r4, r5⟩ := hR
  subst hU
  refine ⟨rfl, rfl, ⟨va_K.moved hW.alike k1, KN.warm hW k2, ((k3.kept hS.2.1).moved hW.alike).narrow hsub, ((k4.kept hS.2.1).moved hW.alike).narrow hsub⟩, ⟨r1, ⟨r2.1, fun k q hq => ?_⟩, va_X.moved hW.alike r3, fun h => r4 (hsub _ h), r5⟩, hsz⟩
  unfold wld at hq
  rw [List.getElem?_map] at hq
  by_cases hk : k < kN κ
  · rw [List.getElem?_range hk] at hq
    cases hq
    exact Or.inl ⟨k, hk, rfl⟩
  · rw [List.getElem?_eq_none (by simp; omega)] at hq
    cases hq
theorem my_call {p : Program} {e : Env} {R : Room} {s : State} {m : MethodId} {args : Array Value} {below : List Frame} {meth : Method} {c : Code} {H : Heap} {locs : List Loc} {cells slots mc ms : Nat} {Q : State → Prop} {pc : Nat} {ls : Array Slot} {rest st0 : List Value} {A A1 : Nat → Prop} {v : Option Value} {M1 : Mem} {κ1 : Kp} {av : Array Value}
    (hr : va_Run p l e R s m args below meth c H locs cells slots mc ms (F0 m pc ls st0) rest (QcM D cA a (.inl v, M1, κ1) A1 av) A1) (hsub : ∀ q, A1 q → A q) (hS : va_S A s.heap H locs) (hn : ¬ A (a 999))
    (kk : ∀ (H1 : Heap) (locs1 : List Loc), RW D cA a M1 κ1 A s H1 → va_S A s.heap H1 locs1 → W p l e R s m args below meth c H1 locs1 (cells + mc) (slots + ms) Q (F0 m (pc + 3) ls ((v.map (mv a)).toList ++ rest))) : W p l e R s m args below meth c H locs cells slots Q (F0 m pc ls st0) := by
  intro T hT X
  obtain ⟨v1, st₀, t, T', L, h0, X', hL, e1, e2, ⟨⟨v2, hv2, hv1⟩, hR, hz, hk⟩, st⟩ := hr T hT X
  cases hv2
  cases hv1
  rw [h0] at hz hk
  have hvm : s.vm.Alike t.vm := by rw [← e2]; exact X'.warmed.alike
  have hR1 : RW D cA a M1 κ1 A s T'.heap := by
    rw [e1]
    have hR2 := hR.warm (t := s) hvm.symm
    exact ⟨hR2.1, hR2.2.1.weaken (fun _ _ _ h => hsub _ h), hR2.2.2.1, hn, hR2.2.2.2.2⟩
  obtain ⟨t2, a1, b1⟩ := kk T'.heap (locs ++ L) hR1 ⟨Nat.le_trans hS.1 (by rw [e1]; exact hz), fun q h1 h2 => by rw [e1, hk q (Nat.lt_of_lt_of_le h1 hS.1) (fun z => h2 (hsub q z))]; exact hS.2.1 q h1 h2, fun q hq => by
      rcases List.mem_append.mp hq with h | h
      · exact hS.2.2 q h
      · exact hsub _ (hL q h)⟩ T' rfl X'
  exact ⟨t2, st t2 a1, b1⟩
theorem my_callT {p : Program} {e : Env} {R : Room} {s : State} {m : MethodId} {args : Array Value} {below : List Frame} {meth : Method} {c : Code} {H : Heap} {locs : List Loc} {cells slots mc ms : Nat} {Q : State → Prop} {pc : Nat} {ls : Array Slot} {rest st0 : List Value} {A A1 : Nat → Prop} {x : Nat} {M1 : Mem} {κ1 : Kp} {av : Array Value}
    (hr : vx_Run p l e R s m args below meth c H locs cells slots mc ms (F0 m pc ls st0) rest (QcM D cA a (.inr x, M1, κ1) A1 av) (XcM D cA a (.inr x, M1, κ1) A1) A1) (hsub : ∀ q, A1 q → A q) (hS : va_S A s.heap H locs) (hn : ¬ A (a 999))
    (kk : ∀ (H1 : Heap) (locs1 : List Loc) (ce : Cell) (q9 : Addr), x < 5 → RW D cA a M1 κ1 A s H1 → va_S A s.heap H1 locs1 → H1[q9]? = some ce → ce.vm = .none → s.vm.findClass (ex x) = some ce.cls → vx_W p l e R s m args below meth c H1 locs1 (cells + mc) (slots + ms) Q (F0 m pc ls rest) q9) : W p l e R s m args below meth c H locs cells slots Q (F0 m pc ls st0) := by
  intro T hT X
  rcases hr T hT X with ⟨v1, st₀, t, T', L, h0, X', hL, e1, e2, ⟨⟨v2, hv2, -⟩, -⟩, st⟩ | ⟨q, st₀, t, T', L, E, ce, h0, X', hL, e1, e2, ⟨⟨x2, hx2, rfl, hx5⟩, hR, hz, hk⟩, hce, hcv, hcl, st⟩
  · cases hv2
  · cases hx2
    rw [h0] at hz hk
    have hvm : s.vm.Alike t.vm := by rw [← e2]; exact X'.warmed.alike
    have hR1 : RW D cA a M1 κ1 A s T'.heap := by
      rw [e1]
      have hR2 := hR.warm (t := s) hvm.symm
      exact ⟨hR2.1, hR2.2.1.weaken (fun _ _ _ h => hsub _ h), hR2.2.2.1, hn, hR2.2.2.2.2⟩
    obtain ⟨t2, a1, b1⟩ := kk T'.heap (locs ++ L) ce q hx5 hR1 ⟨Nat.le_trans hS.1 (by rw [e1]; exact hz), fun q h1 h2 => by rw [e1, hk q (Nat.lt_of_lt_of_le h1 hS.1) (fun z => h2 (hsub q z))]; exact hS.2.1 q h1 h2, fun q hq => by
        rcases List.mem_append.mp hq with h | h
        · exact hS.2.2 q h
        · exact hsub _ (hL q h)⟩ (by rw [e1]; exact hce) hcv hcl T' rfl X'
    exact ⟨t2, st.trans a1, b1⟩
theorem gw_good {w : Cond} (h : w ∈ GW) : (w.onTables && w.keeps) = true ∨ ∃ ty, w = .arrayClass ty := good_of_word (List.mem_filter.mp h).2
theorem good_gw {ws : List Cond} (h : ∀ w ∈ ws, w ∈ GW) : GoodIn GW ws := fun w hw => ⟨h w hw, gw_good (h w hw)⟩
theorem cw_gw {y : Nat} (hy : y < 166) : ∀ w ∈ cw y :: GW, w ∈ GW := fun w hw => (List.mem_cons.mp hw).elim (fun e => by rw [e]; exact cwa_u166 y hy) id
theorem inv_of {i : Instr} (h : ik i ≠ 3) : ilen i = 3 ∧ isLd i = none ∧ (ik i = 0 → i = .invokevirtual (ia i)) ∧ (ik i = 1 → i = .invokestatic (ia i)) ∧ (ik i = 2 → i = .invokespecial (ia i)) := by
  cases i <;> first | (exact absurd rfl h) | (refine ⟨rfl, rfl, fun q => ?_, fun q => ?_, fun q => ?_⟩ <;> first | rfl | cases q)
/-- what a call's row says -/
theorem inv_row {z pc y nx q r : Nat} {i : Instr} {x : Int32} (h1 : ins z pc = some (i, nx, y, q, r, x)) (hi : ik i ≠ 3) (hq : q < 6) : decode (cc z) pc = .ok (i, 3) ∧ nx = pc + 3 ∧ (oc z, ia i, y, q) ∈ mrL ∧ ik i = kOf q ∧ r = ag y + (if kOf q = 1 then 0 else 1) ∧ rf y + 1 ≤ rf z ∧ 8 + (mL y + 11) + rl y ≤ rl z := by
  obtain ⟨e1, e2, -⟩ := inv_of hi
  obtain ⟨hd, hn, hv⟩ := dec h1 (by omega)
  rw [e1] at hd hn
  have hv2 : (match isLd i with
    | some k => k == y
    | none => if ik i = 3 then true else if q = 9 then ik i == 2 && oinL.contains (oc z, ia i) && decide (1 ≤ rf z) && decide (20 ≤ rl z) else if q = 8 then true else mrL.contains (oc z, ia i, y, q) && decide (q < 6) && decide (y < 166) && ik i == kOf q && r == ag y + (if kOf q = 1 then 0 else 1) && decide (rf y + 1 ≤ rf z) && decide (8 + (mL y + 11) + rl y ≤ rl z)) = true := by
    cases i <;> first | exact hv | (exact absurd rfl hi)
  rw [e2] at hv2
  dsimp only at hv2
  rw [if_neg hi, if_neg (by omega), if_neg (by omega)] at hv2
  simp only [Bool.and_eq_true, decide_eq_true_eq, beq_iff_eq] at hv2
  obtain ⟨⟨⟨⟨⟨⟨m1, -⟩, -⟩, m2⟩, m3⟩, m4⟩, m5⟩ := hv2
  exact ⟨hd, hn, by simpa using m1, m2, m3, m4, m5⟩
end SND5
end
section
/-! SOUNDNESS, 6: the calls -/
section SND6
variable {l : Launch} {D : va_G} {cA : Nat → ClassId} {a : Nat → Nat}
theorem m164 : ∀ m ∈ mrL, 164 ≤ m.2.2.1 → m.2.2.2 = 1 := by decide +kernel
theorem s_mmax : cl_mmax (SP l D cA a) := by
  intro z pc ls st M κ out i nx q r x b c h1 h2 h3 h4 k
  obtain ⟨hd, rfl, hm, hk, hr, hf, hl⟩ := inv_row h1 (by omega) h3
  have hq : q = 1 := m164 _ hm (Nat.le_refl _)
  subst hq
  have hi : i = .invokestatic (ia i) := (inv_of (by omega)).2.2.2.1 h2
  refine ⟨k.1, fun p e s m args below meth c0 hF A hK hA hb H locs arr cells slots mc ms hR hS hL hc hu hz => ?_⟩
  obtain ⟨hx, hbb, hml, -, -, hown, -, hts, -⟩ := id hF
  have hw : ∀ w ∈ mrw (oc z, ia i, 164, 1), w.before args s = true := fun w hw => hts w (mrW_in w (List.mem_flatMap.mpr ⟨_, hm, hw⟩))
  have hcw : cw 164 = Cond.code Lib.Math.max.name Lib.Math.max.code 2 (some .int) := by decide +kernel
  have hyn : yN 164 = Lib.Math.max.name := by decide +kernel
  have hrl : 20 ≤ rl z := by
    have e1 : mL 164 = 2 := by decide
    have e2 : rl 164 = 0 := by decide
    omega
  refine va_mmax hx hbb (hml.trans hL.2.1.symm) (own := cn (oc z)) (index := ia i) hown ?_ ?_ ?_ ?_ (show 1 ≤ rf z by omega) (show _ + 13 ≤ rl z from ?_) (show cells ≤ mc from ?_) (show slots ≤ ms from ?_) (by rw [hi] at hd; exact hd) ?_
  · exact hw _ (by rw [← hyn]; exact List.mem_cons_self)
  · exact hw _ (by rw [← hyn]; exact List.mem_cons_of_mem _ List.mem_cons_self)
  · exact hw _ (by exact List.mem_cons_of_mem _ (List.mem_cons_of_mem _ List.mem_cons_self))
  · exact hts _ (by rw [← hcw]; exact cwa_u166 164 (by decide))
  · have h4' : ((st.map (mv a)).map fun v => v.category).sum ≤ 4 := by rw [mv_cats]; exact h4
    exact Nat.le_trans (Nat.add_le_add_right h4' 13) (by omega)
  · have := k.1.1
    dsimp only at this hc ⊢
    omega
  · have := k.1.2.1
    dsimp only at this hu ⊢
    omega
  · exact k.2 p e s m args below meth c0 hF A hK hA hb H locs arr cells slots mc ms hR hS hL hc hu hz
theorem s_mabs : cl_mabs (SP l D cA a) := by
  intro z pc ls st M κ out i nx q r x b h1 h2 h3 h4 k
  obtain ⟨hd, rfl, hm, hk, hr, hf, hl⟩ := inv_row h1 (by omega) h3
  have hq : q = 1 := m164 _ hm (Nat.le_succ _)
  subst hq
  have hi : i = .invokestatic (ia i) := (inv_of (by omega)).2.2.2.1 h2
  refine ⟨k.1, fun p e s m args below meth c0 hF A hK hA hb H locs arr cells slots mc ms hR hS hL hc hu hz => ?_⟩
  obtain ⟨hx, hbb, hml, -, -, hown, -, hts, -⟩ := id hF
  have hw : ∀ w ∈ mrw (oc z, ia i, 165, 1), w.before args s = true := fun w hw => hts w (mrW_in w (List.mem_flatMap.mpr ⟨_, hm, hw⟩))
  have hcw : cw 165 = Cond.code Lib.Math.abs.name Lib.Math.abs.code 1 (some .int) := by decide +kernel
  have hyn : yN 165 = Lib.Math.abs.name := by decide +kernel
  have hrl : 20 ≤ rl z := by
    have e1 : mL 165 = 1 := by decide
    have e2 : rl 165 = 0 := by decide
    omega
  refine va_mabs hx hbb (hml.trans hL.2.1.symm) (own := cn (oc z)) (index := ia i) hown ?_ ?_ ?_ ?_ (show 1 ≤ rf z by omega) (show _ + 13 ≤ rl z from ?_) (show cells ≤ mc from ?_) (show slots ≤ ms from ?_) (by rw [hi] at hd; exact hd) ?_
  · exact hw _ (by rw [← hyn]; exact List.mem_cons_self)
  · exact hw _ (by rw [← hyn]; exact List.mem_cons_of_mem _ List.mem_cons_self)
  · exact hw _ (by exact List.mem_cons_of_mem _ (List.mem_cons_of_mem _ List.mem_cons_self))
  · exact hts _ (by rw [← hcw]; exact cwa_u166 165 (by decide))
  · have h4' : ((st.map (mv a)).map fun v => v.category).sum ≤ 4 := by rw [mv_cats]; exact h4
    exact Nat.le_trans (Nat.add_le_add_right h4' 13) (by omega)
  · have := k.1.1
    dsimp only at this hc ⊢
    omega
  · have := k.1.2.1
    dsimp only at this hu ⊢
    omega
  · exact k.2 p e s m args below meth c0 hF A hK hA hb H locs arr cells slots mc ms hR hS hL hc hu hz
theorem stk_v {k : Nat} {as rest : List Value} : (((.ref k :: as : List Value).reverse ++ rest).map (mv a)) = (as.map (mv a)).reverse ++ .ref (a k) :: rest.map (mv a) := by
  simp [mv]
theorem stk_s {av rest : List Value} : ((av.reverse ++ rest).map (mv a)) = (av.map (mv a)).reverse ++ rest.map (mv a) := by
  simp
/-- a virtual call's words -/
theorem cwv_of {z y : Nat} {i : Instr} {s : State} {args : Array Value} {R : Room} {mc ms : Nat} (hts : ∀ w ∈ GW, w.before args s = true) (hy : y < 164) (hm : (oc z, ia i, y, 0) ∈ mrL) (hf : rf y + 1 ≤ R.frames) (hl : 8 + (mL y + 11) + rl y ≤ R.locals) :
    CallW R s args (cn (oc z)) (cn (oc y)) (ia i) (yN y) (cc y) (mL y) (rt y) (cw y :: GW) { frames := rf y, cells := mc, slots := ms, locals := rl y } mc ms (ag y) := by
  obtain ⟨-, m2, -⟩ := m_ok _ hm
  obtain ⟨-, y2, y3, y4⟩ := y_ok y hy
  have hh0 : hh y = [] := by
    rcases Classical.em (hh y = []) with h | h
    · exact h
    · exact absurd (m2.mpr h) (fun q => Nat.noConfusion q)
  have hcw : cw y = .code (yN y) (cc y) (mL y) (rt y) := by unfold cw; rw [if_pos hh0]
  refine cwV (ws' := GW) (ag y) hts (good_gw fun w hw => ?_) (by rw [hcw]) rfl rfl ⟨y2, y3.1, y3.2, y4⟩ ⟨hf, hl⟩
  unfold wsV at hw
  rcases List.mem_append.mp hw with hw | hw
  · rw [← y2] at hw
    exact mrW_in w (List.mem_flatMap.mpr ⟨_, hm, hw⟩)
  · exact cw_gw (y := y) (by omega) w hw
theorem a_lin (ha : ∀ n, n < 180 → a (n + 1) = a n + 1) (n : Nat) : ∀ j, n + j ≤ 180 → a (n + j) = a n + j := by
  intro j
  induction j with
  | zero => intro _; rfl
  | succ j ih =>
    intro h
    rw [← Nat.add_assoc, ha _ (by omega), ih (by omega)]
    rfl
set_option maxHeartbeats 6000000 in
theorem s_call (ha : ∀ n, n < 180 → a (n + 1) = a n + 1) : cl_call (SP l D cA a) := by
  intro z pc ls st M κ out i nx y q r x av rest v M1 κ1 h1 hi hy hq hst h5 hc1 h8 hrecv kc k
  obtain ⟨hd, rfl, hm, hk, hr, hf, hl⟩ := inv_row h1 hi hq
  obtain ⟨m1, m2, m3, m4⟩ := m_ok _ hm
  obtain ⟨y1, y2, y3, y4⟩ := y_ok y hy
  dsimp only at m1 m2 m3 m4
  have kc1 := kc.1
  have k1 := k.1
  dsimp only at kc1 k1
  refine ⟨⟨Nat.le_trans kc1.1 k1.1, Nat.le_trans kc1.2.1 k1.2.1, fun h => ?_⟩, fun p e s m args below meth c0 hF A hK hA hb H locs arr cells slots mc ms hR hS hL hc hu hz => ?_⟩
  · obtain ⟨q1, q2⟩ := k1.2.2 h
    obtain ⟨q3, q4⟩ := kc1.2.2 q1
    refine ⟨q3, ?_⟩
    dsimp only
    omega
  · dsimp only at hc hu hz hR hL ⊢
    intro T hT X
    have hub : H.size ≤ s.heap.size + cells := by rw [← hT]; exact X.heapSize
    have hbH : a 999 < H.size := Nat.lt_of_lt_of_le hb hS.1
    obtain ⟨hx, hbb, hml, -, -, hown, -, hts, -, hstt⟩ := id hF
    have hnA := hR.2.2.2.1
    have hsub := aa_sub hR hS hA
    have hsz : kR κ = false → H.size = a (kN κ) := fun h => hsize ha hR hS (hz h) hub
    obtain ⟨mc1, hmc1⟩ : ∃ d, kC κ1 = d + kC κ := ⟨kC κ1 - kC κ, by omega⟩
    obtain ⟨ms1, hms1⟩ : ∃ d, kU κ1 = d + kU κ := ⟨kU κ1 - kU κ, by omega⟩
    have hcm : cells + mc1 ≤ mc := by omega
    have hcs : slots + ms1 ≤ ms := by omega
    have hct := ct_of hstt hy hc1 (show av.length ≤ mL y by omega) kc hmc1 hms1 hbH
    have hM := met_of_vx hct (fun E s t h => by obtain ⟨⟨e9, he, -⟩, -⟩ := h; cases he)
    have hpc : ∀ U : State, U.heap = H → s.WarmedH U.vm → PcM D cA a av M κ H.size (av.map (mv a)).toArray U := fun U hU hW => pcm_of av hK hR hS hA hsz hU hW
    have go : ∀ (H1 : Heap) (locs1 : List Loc), RW D cA a M1 κ1 A s H1 → va_S A s.heap H1 locs1 → W p l e { frames := rf z, cells := mc, slots := ms, locals := rl z } s m args below meth c0 H1 locs1 (cells + mc1) (slots + ms1) (vx_MQ below (QcM D cA a out A) (XcM D cA a out A) args s mc ms A) (F0 m (pc + 3) arr ((v.map (mv a)).toList ++ rest.map (mv a))) := by
      intro H1 locs1 hR1 hS1
      have hgo := k.2 p e s m args below meth c0 hF A hK hA hb H1 locs1 arr (cells + mc1) (slots + ms1) mc ms hR1 hS1 hL (by dsimp only; omega) (by dsimp only; omega) (fun h => by
        dsimp only at h ⊢
        obtain ⟨q3, q4⟩ := kc1.2.2 h
        obtain ⟨z1, z2⟩ := hz q3
        have hn6 := hR1.2.2.2.2.2
        have e1 : kN κ1 = kN κ + mc1 := by omega
        refine ⟨?_, fun h0 => ?_⟩
        · rw [e1, a_lin ha _ _ (by omega)]
          omega
        · have := z2 (by omega)
          omega)
      dsimp only at hgo
      cases v with
      | none => exact hgo
      | some w => exact hgo
    have hsizes : arr.size = mL z := hL.2.1
    have h8' : ((rest.map (mv a)).map fun v => v.category).sum ≤ 8 := by rw [mv_cats]; exact h8
    have hcw0 : hh y = [] → cw y = .code (yN y) (cc y) (mL y) (rt y) := fun h => by unfold cw; rw [if_pos h]
    have hcw1 : hh y ≠ [] → cw y = .codeWith (yN y) (cc y) (mL y) (rt y) (hh y) := fun h => by unfold cw; rw [if_neg h]
    have hw : ∀ w ∈ mrw (oc z, ia i, y, q), w ∈ GW := fun w hw => mrW_in w (List.mem_flatMap.mpr ⟨_, hm, hw⟩)
    have hG : GoodIn GW (cw y :: GW) := good_gw (cw_gw (y := y) (by omega))
    rcases (show q = 0 ∨ q = 1 ∨ q = 2 ∨ q = 3 ∨ q = 4 ∨ q = 5 by omega) with rfl | rfl | rfl | rfl | rfl | rfl
    · obtain ⟨k0, as, rfl, hkd, hkn⟩ := hrecv (by decide)
      have hii : i = .invokevirtual (ia i) := (inv_of hi).2.2.1 hk
      subst hst
      rw [stk_v]
      have he := wld_get (cA := cA) (a := a) (M := M) (X := kX κ) hkn
      have hk8 : kd k0 ≤ 7 := by
        have : oc y ≤ 10 := (show ∀ y, y < 167 → oc y ≤ 10 by decide +kernel) y (by omega)
        have h19 : ∀ k, k < 180 → kd k ≤ 10 → kd k ≤ 7 := by decide +kernel
        exact h19 k0 (Nat.lt_of_lt_of_le hkn hR.2.2.2.2.2) (by omega)
      rw [eE_obj hk8] at he
      have hrec := va_recv hK.1 hR.1 (cl8_get _ (by omega)) he
      rw [hkd] at hrec
      have hrec2 : ∃ cell : Cell, H[a k0]? = some cell ∧ cell.vm.isStatics = false ∧ s.vm.findClass (cn (oc y)) = some cell.cls := hrec
      refine my_call (va_runV (As := as.map (mv a)) (rest := rest.map (mv a)) ⟨hx, hbb, hml, hown, hts⟩ hM (cwv_of hts hy hm hf hl) ⟨pcm_blind, hrec2, hpc⟩ rfl ?_ hsizes rfl (lv_room h8') (by rw [hii] at hd; exact hd) ⟨hcm, hcs⟩) hsub hS hnA go T hT X
      rw [List.length_map]
      simp only [List.length_cons] at h5
      have : kOf 0 ≠ 1 := by decide
      rw [if_neg this] at hr
      omega
    · have hii : i = .invokestatic (ia i) := (inv_of hi).2.2.2.1 hk
      subst hst
      rw [stk_s]
      have hh0 : hh y = [] := by
        rcases Classical.em (hh y = []) with h | h
        · exact h
        · exact absurd (m2.mpr h) (by decide)
      have hcs' := va_cwS (R := { frames := rf z, cells := mc, slots := ms, locals := rl z }) (s := s) (args := args) (own := cn (oc z)) (index := ia i) (ws' := GW) (rm := { frames := rf y, cells := mc1, slots := ms1, locals := rl y }) (mc := mc1) (ms := ms1) (ag y) hts (good_gw fun w hw2 => by
        unfold va_wsS at hw2
        rcases List.mem_append.mp hw2 with hw2 | hw2
        · exact hw w hw2
        · exact cw_gw (y := y) (by omega) w hw2) (by rw [hcw0 hh0]) rfl rfl ⟨y3.1, y3.2, y4⟩ ⟨hf, hl⟩
      refine my_call (va_runS (As := av.map (mv a)) (rest := rest.map (mv a)) ⟨hx, hbb, hml, hown, hts⟩ hM hcs' ⟨pcm_blind, hpc⟩ rfl ?_ hsizes rfl (lv_room h8') (by rw [hii] at hd; exact hd) ⟨hcm, hcs⟩) hsub hS hnA go T hT X
      rw [List.length_map]
      have : kOf 1 = 1 := by decide
      rw [if_pos this] at hr
      omega
    · have hii : i = .invokestatic (ia i) := (inv_of hi).2.2.2.1 hk
      subst hst
      rw [stk_s]
      have hh0 : hh y ≠ [] := m2.mp rfl
      have hcs' := vx_cwSW (R := { frames := rf z, cells := mc, slots := ms, locals := rl z }) (s := s) (args := args) (own := cn (oc z)) (index := ia i) (hh := hh y) (ws' := GW) (rm := { frames := rf y, cells := mc1, slots := ms1, locals := rl y }) (mc := mc1) (ms := ms1) (ag y) hts (good_gw fun w hw2 => by
        unfold va_wsS at hw2
        rcases List.mem_append.mp hw2 with hw2 | hw2
        · exact hw w hw2
        · exact cw_gw (y := y) (by omega) w hw2) (by rw [hcw1 hh0]) rfl rfl ⟨y3.1, y3.2, y4⟩ ⟨hf, hl⟩
      refine my_call (vx_runSW (As := av.map (mv a)) (rest := rest.map (mv a)) ⟨hx, hbb, hml, hown, hts⟩ hM hcs' ⟨pcm_blind, hpc⟩ rfl ?_ hsizes rfl (lv_room h8') (by rw [hii] at hd; exact hd) ⟨hcm, hcs⟩) hsub hS hnA go T hT X
      rw [List.length_map]
      have : kOf 2 = 1 := by decide
      rw [if_pos this] at hr
      omega
    · obtain ⟨k0, as, rfl, hkd, hkn⟩ := hrecv (by decide)
      have hii : i = .invokespecial (ia i) := (inv_of hi).2.2.2.2 hk
      obtain ⟨n1, n2⟩ := m3 (Or.inl rfl)
      subst hst
      rw [stk_v]
      have hh0 : hh y = [] := by
        rcases Classical.em (hh y = []) with h | h
        · exact h
        · exact absurd (m2.mpr h) (by decide)
      have hcs' := cwI (R := { frames := rf z, cells := mc, slots := ms, locals := rl z }) (s := s) (args := args) (own := cn (oc z)) (index := ia i) (ws' := GW) (rm := { frames := rf y, cells := mc1, slots := ms1, locals := rl y }) (mc := mc1) (ms := ms1) (ag y) hts hG (by rw [hcw0 hh0, n2]) rfl rfl (hts _ (hw _ (List.mem_cons_of_mem _ (List.mem_cons_of_mem _ List.mem_cons_self)))) (hts _ (hw _ List.mem_cons_self)) (hts _ (hw _ (List.mem_cons_of_mem _ List.mem_cons_self))) n1 ⟨y3.1, y3.2, y4⟩ ⟨hf, hl⟩
      refine my_call (va_runI (b := a k0) (As := as.map (mv a)) (rest := rest.map (mv a)) ⟨hx, hbb, hml, hown, hts⟩ hM hcs' ⟨pcm_blind, hpc⟩ rfl ?_ hsizes rfl (lv_room h8') (by rw [hii] at hd; exact hd) ⟨hcm, hcs⟩) hsub hS hnA go T hT X
      rw [List.length_map]
      simp only [List.length_cons] at h5
      have : kOf 3 ≠ 1 := by decide
      rw [if_neg this] at hr
      omega
    · obtain ⟨k0, as, rfl, hkd, hkn⟩ := hrecv (by decide)
      have hii : i = .invokespecial (ia i) := (inv_of hi).2.2.2.2 hk
      obtain ⟨n1, n2⟩ := m3 (Or.inr rfl)
      subst hst
      rw [stk_v]
      have hh0 : hh y = [] := by
        rcases Classical.em (hh y = []) with h | h
        · exact h
        · exact absurd (m2.mpr h) (by decide)
      have hcs' := va_cnB (R := { frames := rf z, cells := mc, slots := ms, locals := rl z }) (s := s) (args := args) (own := cn (oc z)) (host := "BundleMill") (index := ia i) (ws' := GW) (rm := { frames := rf y, cells := mc1, slots := ms1, locals := rl y }) (mc := mc1) (ms := ms1) (ag y) hts hG (by rw [hcw0 hh0, n2]) rfl rfl (hK.2.1.1 _ (m4 (by decide))) (hts _ (hw _ (List.mem_cons_of_mem _ List.mem_cons_self))) ⟨y3.1, y3.2, y4⟩ ⟨hf, hl⟩
      refine my_call (va_runIN (b := a k0) (As := as.map (mv a)) (rest := rest.map (mv a)) ⟨hx, hbb, hml, hown, hts⟩ hM ⟨hcs', n1, hts _ (hw _ List.mem_cons_self)⟩ ⟨pcm_blind, hpc⟩ rfl ?_ hsizes rfl (lv_room h8') (by rw [hii] at hd; exact hd) ⟨hcm, hcs⟩) hsub hS hnA go T hT X
      rw [List.length_map]
      simp only [List.length_cons] at h5
      have : kOf 4 ≠ 1 := by decide
      rw [if_neg this] at hr
      omega
    · have hii : i = .invokestatic (ia i) := (inv_of hi).2.2.2.1 hk
      subst hst
      rw [stk_s]
      have hh0 : hh y = [] := by
        rcases Classical.em (hh y = []) with h | h
        · exact h
        · exact absurd (m2.mpr h) (by decide)
      have hcs' := va_cnB (R := { frames := rf z, cells := mc, slots := ms, locals := rl z }) (s := s) (args := args) (own := cn (oc z)) (host := "BundleMill") (index := ia i) (ws' := GW) (rm := { frames := rf y, cells := mc1, slots := ms1, locals := rl y }) (mc := mc1) (ms := ms1) (ag y) hts hG (by rw [hcw0 hh0]) rfl rfl (hK.2.1.1 _ (m4 (by decide))) (hts _ (hw _ (List.mem_cons_of_mem _ List.mem_cons_self))) ⟨y3.1, y3.2, y4⟩ ⟨hf, hl⟩
      refine my_call (va_runSN (As := av.map (mv a)) (rest := rest.map (mv a)) ⟨hx, hbb, hml, hown, hts⟩ hM ⟨hcs', hts _ (hw _ List.mem_cons_self), trivial⟩ ⟨pcm_blind, hpc⟩ rfl ?_ hsizes rfl (lv_room h8') (by rw [hii] at hd; exact hd) ⟨hcm, hcs⟩) hsub hS hnA go T hT X
      rw [List.length_map]
      have : kOf 5 = 1 := by decide
      rw [if_pos this] at hr
      omega
end SND6
end
section
/-! SOUNDNESS, 7: throws, and the whole -/
section SND7
variable {l : Launch} {D : va_G} {cA : Nat → ClassId} {a : Nat → Nat}
def nmL : List String := ["java/lang/RuntimeException", "java/lang/Exception"]
/-- the words of a throw -/
def thw (t : Nat × Nat × Nat × Nat) : List Cond := Cond.classLink (cn t.1) t.2.1 (ex t.2.2.2) :: Cond.initialized (ex t.2.2.2) :: vx_at0 (cn t.1) t.2.2.1 (ex t.2.2.2) nmL
set_option maxRecDepth 100000 in
theorem th_in : ∀ t ∈ thL, t.2.2.2 < 5 ∧ (thw t).all (fun w => vx_ot w && decide (w ∈ lw_tbl)) = true := by decide +kernel
set_option maxRecDepth 100000 in
theorem th_sp : ∀ t ∈ thL, (thw t).all (fun w => goodWord w || decide (w = .castable (ex t.2.2.2) (ex t.2.2.2)) || dcL.any (fun n => decide (w = .declares n))) = true := by decide +kernel
theorem ex_fit : ∀ e, e < 5 → Bundle.fit (ex e) = true := by decide +kernel
theorem nm_fit : ∀ n ∈ nmL, Bundle.fit n = true := by decide +kernel
theorem th_words {s : State} {args : Array Value} {t : Nat × Nat × Nat × Nat} (ht : t ∈ thL) (hts : ∀ w ∈ GW, w.before args s = true) (hK : KN s) : ∀ w ∈ thw t, w.before args s = true := by
  intro w hw
  obtain ⟨h5, h1⟩ := th_in t ht
  have h2 := List.all_eq_true.mp h1 w hw
  have h3 := List.all_eq_true.mp (th_sp t ht) w hw
  simp only [Bool.and_eq_true, decide_eq_true_eq, Bool.or_eq_true] at h2 h3
  rcases h3 with (h3 | h3) | h3
  · exact hts w (List.mem_filter.mpr ⟨h2.2, h3⟩)
  · rw [h3]
    exact va_Nw.use rfl (hK.2.1 _ h5)
  · obtain ⟨n, hn, he⟩ := List.any_eq_true.mp h3
    rw [decide_eq_true_eq] at he
    rw [he]
    exact va_Nw.use rfl (hK.2.2.1 n hn)
theorem s_throw : cl_throw (SP l D cA a) := by
  intro z pc ls st M κ out nx ei q r x ix h1 h2 hr0 hz6 h3 h4
  subst h2
  obtain ⟨hd, -, hv⟩ := dec h1 (by simp [ilen])
  refine ⟨⟨Nat.le_succ _, Nat.le_add_right _ _, fun h => ?_⟩, fun p e s m args below meth c hF A hK hA hb H locs arr cells slots mc ms hR hS hL hc hu hz => ?_⟩
  · have h' : kR κ = false := h
    rw [hr0] at h'
    cases h'
  · dsimp only [kC, kU] at hc hu
    obtain ⟨hx, hbb, hml, -, hlk, hown, -, hts, hex, hstt⟩ := hF
    have hv2 : (1 == 1 && thL.any (fun t => t.1 == oc z && t.2.1 == ix && t.2.2.2 == ei && decide (decode (cc z) (pc + 4) = .ok (.invokespecial t.2.2.1, 3))) && decide (decode (cc z) (pc + 3) = .ok (.dup, 1)) && decide (decode (cc z) (pc + 7) = .ok (.athrow, 1)) && decide (6 ≤ rf z) && decide (89 ≤ rl z)) = true := hv
    simp only [Bool.and_eq_true, decide_eq_true_eq] at hv2
    obtain ⟨⟨⟨⟨⟨-, v1⟩, d3⟩, d7⟩, v4⟩, v5⟩ := hv2
    obtain ⟨t, ht, htt⟩ := List.any_eq_true.mp v1
    simp only [Bool.and_eq_true, decide_eq_true_eq, beq_iff_eq] at htt
    obtain ⟨⟨⟨t1, t2⟩, t3⟩, d4⟩ := htt
    have hw := th_words ht hts hK.2.1
    obtain ⟨h5, hg⟩ := th_in t ht
    have hgood : ∀ w ∈ thw t, vx_ot w = true := fun w hw2 => by
      have := List.all_eq_true.mp hg w hw2
      simp only [Bool.and_eq_true] at this
      exact this.1
    unfold thw at hw hgood
    rw [t1, t2, t3] at hw hgood
    rw [t3] at h5
    have hrest : ((st.map (mv a)).map fun v => v.category).sum ≤ 8 := by rw [mv_cats]; exact h4
    have hnl : nmL.length = 2 := rfl
    refine vx_throw0 (A := A) hx hbb hstt (own := cn (oc z)) (cls := ex ei) (names := nmL) (ik := ix) (ic := t.2.2.1) hown (ex_fit _ h5) nm_fit (hw _ List.mem_cons_self) (hw _ (List.mem_cons_of_mem _ List.mem_cons_self)) (fun w hw2 => hw _ (List.mem_cons_of_mem _ (List.mem_cons_of_mem _ hw2))) hgood hK.2.2.1 hK.2.2.2 hS (hL.2.1.trans hml.symm) hd d3 d4 d7 ?_ (show nmL.length + 3 < rf z by omega) (show _ ≤ rl z from Nat.le_trans (Nat.add_le_add_right hrest _) (by rw [hnl]; omega)) (show cells + 1 ≤ mc by omega) (show slots + 6 ≤ ms by omega) hlk ?_ hS.2.2 (by omega) (by omega)
    · rw [hex hz6, h3]
      intro x hx2
      cases hx2
    · intro t9 hvm hsz hkeep
      have hR2 := hR.warm (t := t9) hvm
      have hb9 : a 999 < H.size := Nat.lt_of_lt_of_le hb hS.1
      refine ⟨⟨ei, rfl, rfl, h5⟩, ⟨hR2.1.kept (fun k q hq => hkeep _ ((hR2.1 k q hq).lt)), hR2.2.1, hR2.2.2.1.kept (hkeep _ hb9), hR2.2.2.2⟩, Nat.le_trans hS.1 hsz, fun q h1 h2 => ?_⟩
      rw [hkeep q (Nat.lt_of_lt_of_le h1 hS.1)]
      exact hS.2.1 q h1 h2
/-- a call that throws: as far as the throw -/
theorem callT_core (ha : ∀ n, n < 180 → a (n + 1) = a n + 1) {z pc nx y r : Nat} {i : Instr} {x : Int32} {ls st av rest : List Value} {M M1 : Mem} {κ κ1 : Kp} {ee : Nat} (h1 : ins z pc = some (i, nx, y, 0, r, x)) (hi : ik i ≠ 3) (hy : y < 164) (hst : st = av.reverse ++ rest) (h5 : av.length = r) (hc1 : c1s av = true) (h8 : rm8 rest) (hrecv : kOf 0 ≠ 1 → ∃ k as, av = .ref k :: as ∧ kd k = oc y ∧ k < kN κ)
    (kc : SP l D cA a y (0, entL y av, [], M, κ) (.inr ee, M1, κ1))
    {p : Program} {e : Env} {s : State} {m : MethodId} {args : Array Value} {below : List Frame} {meth : Method} {c0 : Code} (hF : FX z p l s m args meth c0) {A : Nat → Prop} (hK : KS D cA s A) (hA : ∀ q, s.heap.size ≤ q → A q) (hb : a 999 < s.heap.size) {H : Heap} {locs : List Loc} {arr : Array Slot} {cells slots mc ms : Nat} (hR : RW D cA a M κ A s H) (hS : va_S A s.heap H locs) (hL : LV a ls (mL z) arr) (hc : cells + kC κ1 = mc + kC κ) (hu : slots + kU κ1 = ms + kU κ) (hz : kR κ = false → s.heap.size + cells = a (kN κ) ∧ (kN κ = 0 → cells = 0)) {Q : State → Prop}
    (kk : ∀ (H1 : Heap) (locs1 : List Loc) (ce : Cell) (q9 : Addr), ee < 5 → RW D cA a M1 κ1 A s H1 → va_S A s.heap H1 locs1 → H1[q9]? = some ce → ce.vm = .none → s.vm.findClass (ex ee) = some ce.cls → vx_W p l e { frames := rf z, cells := mc, slots := ms, locals := rl z } s m args below meth c0 H1 locs1 mc ms Q (F0 m pc arr (rest.map (mv a))) q9) :
    W p l e { frames := rf z, cells := mc, slots := ms, locals := rl z } s m args below meth c0 H locs cells slots Q (F0 m pc arr (st.map (mv a))) := by
  obtain ⟨hd, -, hm, hk, hr, hf, hl⟩ := inv_row h1 hi (by omega)
  obtain ⟨m1, m2, m3, m4⟩ := m_ok _ hm
  dsimp only at m1 m2
  have kc1 := kc.1
  dsimp only at kc1
  intro T hT X
  have hub : H.size ≤ s.heap.size + cells := by rw [← hT]; exact X.heapSize
  have hbH : a 999 < H.size := Nat.lt_of_lt_of_le hb hS.1
  obtain ⟨hx, hbb, hml, -, -, hown, -, hts, -, hstt⟩ := id hF
  have hnA := hR.2.2.2.1
  have hsub := aa_sub hR hS hA
  have hsz : kR κ = false → H.size = a (kN κ) := fun h => hsize ha hR hS (hz h) hub
  obtain ⟨mc1, hmc1⟩ : ∃ d, kC κ1 = d + kC κ := ⟨kC κ1 - kC κ, by omega⟩
  obtain ⟨ms1, hms1⟩ : ∃ d, kU κ1 = d + kU κ := ⟨kU κ1 - kU κ, by omega⟩
  have hcm : cells + mc1 = mc := by omega
  have hcs : slots + ms1 = ms := by omega
  have hct := ct_of hstt hy hc1 (show av.length ≤ mL y by omega) kc hmc1 hms1 hbH
  have hpc : ∀ U : State, U.heap = H → s.WarmedH U.vm → PcM D cA a av M κ H.size (av.map (mv a)).toArray U := fun U hU hW => pcm_of av hK hR hS hA hsz hU hW
  have hsizes : arr.size = mL z := hL.2.1
  have h8' : ((rest.map (mv a)).map fun v => v.category).sum ≤ 8 := by rw [mv_cats]; exact h8
  obtain ⟨k0, as, rfl, hkd, hkn⟩ := hrecv (by decide)
  have hii : i = .invokevirtual (ia i) := (inv_of hi).2.2.1 hk
  subst hst
  rw [stk_v]
  have he := wld_get (cA := cA) (a := a) (M := M) (X := kX κ) hkn
  have hk8 : kd k0 ≤ 7 := by
    have : oc y ≤ 10 := (show ∀ y, y < 167 → oc y ≤ 10 by decide +kernel) y (by omega)
    have h19 : ∀ k, k < 180 → kd k ≤ 10 → kd k ≤ 7 := by decide +kernel
    exact h19 k0 (Nat.lt_of_lt_of_le hkn hR.2.2.2.2.2) (by omega)
  rw [eE_obj hk8] at he
  have hrec := va_recv hK.1 hR.1 (cl8_get _ (by omega)) he
  rw [hkd] at hrec
  have hrec2 : ∃ cell : Cell, H[a k0]? = some cell ∧ cell.vm.isStatics = false ∧ s.vm.findClass (cn (oc y)) = some cell.cls := hrec
  refine my_callT (mc := mc1) (ms := ms1) (vx_runV (As := as.map (mv a)) (rest := rest.map (mv a)) ⟨hx, hbb, hml, hown, hts⟩ hct (cwv_of hts hy hm hf hl) ⟨pcm_blind, hrec2, hpc⟩ rfl ?_ hsizes rfl (lv_room h8') (by rw [hii] at hd; exact hd) ⟨Nat.le_of_eq hcm, Nat.le_of_eq hcs⟩) hsub hS hnA (fun H1 locs1 ce q9 h5e hR1 hS1 g1 g2 g3 => ?_) T hT X
  · rw [List.length_map]
    simp only [List.length_cons] at h5
    have : kOf 0 ≠ 1 := by decide
    rw [if_neg this] at hr
    omega
  · rw [hcm, hcs]
    exact kk H1 locs1 ce q9 h5e hR1 hS1 g1 g2 g3
theorem s_callT (ha : ∀ n, n < 180 → a (n + 1) = a n + 1) : cl_callT (SP l D cA a) := by
  intro z pc ls st M κ out i nx y q r x av rest ee M1 κ1 h1 hi hy hq hst h5 hc1 h8 hrecv hq0 hz6 hh0 kc
  subst hq0
  refine ⟨kc.1, fun p e s m args below meth c0 hF A hK hA hb H locs arr cells slots mc ms hR hS hL hc hu hz => ?_⟩
  refine callT_core ha h1 hi hy hst h5 hc1 h8 hrecv kc hF hK hA hb hR hS hL hc hu hz fun H1 locs1 ce q9 h5e hR1 hS1 g1 g2 g3 => ?_
  obtain ⟨hx, hbb, hml, -, hlk, hown, -, hts, hex, hstt⟩ := hF
  refine vx_out (E := ex ee) ?_ hlk g1 g2 g3 ?_ hS1.2.2 (Nat.le_refl _) (Nat.le_refl _)
  · rw [hex hz6, hh0]
    intro x hx2
    cases hx2
  · intro t ht hvm
    exact ⟨⟨ee, rfl, rfl, h5e⟩, by rw [ht]; exact hR1.warm hvm, hS1.F ht⟩
/-! the handlers -/
def hcL : List (Nat × Nat) := [(13, 0), (19, 1), (29, 2), (34, 3), (50, 4)]
def hcW : List Cond := hcL.map (fun q => Cond.classLink (cn 9) q.1 (ex q.2))
set_option maxRecDepth 100000 in
theorem hcW_ok : hcW.all (fun w => goodWord w && decide (w ∈ lw_tbl)) = true := by decide +kernel
theorem hcW_in : ∀ w ∈ hcW, w ∈ GW := fun w hw => by
  have := List.all_eq_true.mp hcW_ok w hw
  simp only [Bool.and_eq_true, decide_eq_true_eq] at this
  exact List.mem_filter.mpr ⟨this.2, this.1⟩
def isAst : Instr → Bool
  | .astore _ => true
  | .astore_n _ => true
  | _ => false
def hcode (z hp : Nat) (w : Int32) : Bool := match ins z hp with
  | some (i, nx, p, _, _, _) => isAst i && decide (p < mL z) && (match ins z nx with
    | some (.iconst _, nx2, _, _, _, x) => x == w && (match ins z nx2 with
      | some (.ireturn, _) => true
      | _ => false)
    | _ => false)
  | none => false
def hchk (h : Nat × Nat × Int32 × Nat × Nat) : Bool :=
  decide (h.1 < 164) && oc h.1 == 9 && decide (h.2.1 < 5) && decide (rt h.1 = some .int) &&
  (match (hh h.1)[h.2.2.2.1]? with | some q => q.2.2.1 == h.2.2.2.2 && hcL.contains (q.2.2.2, h.2.1) && q.2.2.2 != 0 | none => false) &&
  ((hh h.1).take h.2.2.2.1).all (fun q => q.2.2.2 != 0 && hcL.any (fun c => c.1 == q.2.2.2 && c.2 != h.2.1 && decide (c.2 < 5))) &&
  (tb h.1).all (fun t => ik t.2.1 != 0 || (hh h.1).all (fun q => decide (q.1 ≤ t.1) && decide (t.1 < q.2.1))) && hcode h.1 h.2.2.2.2 h.2.2.1
set_option maxRecDepth 100000 in
theorem hchk_ok : hdL.all hchk = true := by decide +kernel
end SND7
end
section
/-! SOUNDNESS, 8: caught throws, and every run -/
section SND8
variable {l : Launch} {D : va_G} {cA : Nat → ClassId} {a : Nat → Nat}
theorem split_at {α : Type} {L : List α} {n : Nat} {x : α} (h : L[n]? = some x) : L = L.take n ++ x :: L.drop (n + 1) := by
  obtain ⟨hn, hx⟩ := List.getElem?_eq_some_iff.mp h
  have h1 := (List.take_append_drop n L).symm
  rw [List.drop_eq_getElem_cons hn, hx] at h1
  exact h1
/-- a handler's code: away with the exception, a constant, the answer -/
theorem hcode_row {z hp : Nat} {w : Int32} (h : hcode z hp w = true) (hrt : rt z = some .int) {p : Program} {e : Env} {s : State} {m : MethodId} {args : Array Value} {below : List Frame} {meth : Method} {c : Code} {R : Room} {H : Heap} {locs : List Loc} {arr : Array Slot} {ls : List Value} {mc ms : Nat} {q9 : Addr} {Qc : Array Value → State → Outcome → State → Prop} {XC : String → State → State → Prop} {free : Addr → Prop} (hF : FX z p l s m args meth c) (hL : LV a ls (mL z) arr)
    (hq : ∀ t : State, t.heap = H → s.WarmedH t.vm → Qc args s (.returned (some (.int w))) t) (hf : ∀ q ∈ locs, free q.base) : W p l e R s m args below meth c H locs mc ms (vx_MQ below Qc XC args s mc ms free) (F0 m hp arr [.ref q9]) := by
  obtain ⟨hx, hbb, hml, hr, hlk, -⟩ := hF
  unfold hcode at h
  split at h
  · rename_i i nx p0 q0 r0 x0 h1
    simp only [Bool.and_eq_true, decide_eq_true_eq] at h
    obtain ⟨⟨ha, hp0⟩, h2⟩ := h
    split at h2
    · rename_i n0 nx2 p1 q1 r1 x1 h3
      simp only [Bool.and_eq_true, beq_iff_eq] at h2
      obtain ⟨rfl, h4⟩ := h2
      split at h4
      · rename_i e2 h5
        obtain ⟨nx3, p2, q2, r2, x2⟩ := e2
        have fin : ∀ arr', W p l e R s m args below meth c H locs mc ms (vx_MQ below Qc XC args s mc ms free) (F0 m nx arr' []) := by
          intro arr'
          obtain ⟨hd, hnx, hv⟩ := dec h3 (by simp [ilen])
          refine lv_iconst hx hbb hd (by simpa [vld1] using hv) ?_
          have hnx' : nx2 = nx + 1 := hnx
          rw [← hnx']
          obtain ⟨hd5, -, -⟩ := dec h5 (by simp [ilen])
          exact vx_ret (W.iret hx hbb (hr.trans hrt) hq hf hd5 hlk)
        cases i <;> simp only [isAst] at ha <;> try cases ha
        · obtain ⟨hd, rfl, hv⟩ := dec h1 (by simp [ilen])
          simp only [vld1, isLd, beq_iff_eq] at hv
          subst hv
          exact lv_astore hx hbb hd hL.2 hp0 rfl (fun ls' _ => fin ls')
        · obtain ⟨hd, rfl, hv⟩ := dec h1 (by simp [ilen])
          simp only [vld1, isLd, beq_iff_eq] at hv
          subst hv
          exact lv_astore_n hx hbb hd rfl hL.2 hp0 rfl (fun ls' _ => fin ls')
      · cases h4
    · cases h2
  · cases h
theorem s_callC (ha : ∀ n, n < 180 → a (n + 1) = a n + 1) : cl_callC (SP l D cA a) := by
  intro z pc ls st M κ out i nx y q r x av rest ee n hp M1 κ1 w h1 hi hy hq hst h5 hc1 h8 hrecv hq0 hz6 hmem kc
  subst hq0
  have hck := List.all_eq_true.mp hchk_ok _ hmem
  unfold hchk at hck
  simp only [Bool.and_eq_true, decide_eq_true_eq, beq_iff_eq] at hck
  obtain ⟨⟨⟨⟨⟨⟨⟨c1, c2⟩, c3⟩, c4⟩, c5⟩, c6⟩, c7⟩, c8⟩ := hck
  refine ⟨kc.1, fun p e s m args below meth c0 hF A hK hA hb H locs arr cells slots mc ms hR hS hL hc hu hz => ?_⟩
  refine callT_core ha h1 hi hy hst h5 hc1 h8 hrecv kc hF hK hA hb hR hS hL hc hu hz fun H1 locs1 ce q9 h5e hR1 hS1 g1 g2 g3 => ?_
  obtain ⟨hx, hbb, hml, hr, hlk, hown, -, hts, hex, hstt⟩ := id hF
  rw [c2] at hown
  split at c5
  · rename_i qh hqh
    simp only [Bool.and_eq_true, beq_iff_eq, bne_iff_ne] at c5
    obtain ⟨⟨d1, d2⟩, d3⟩ := c5
    have hlink : ∀ q ∈ hcL, (Cond.classLink (cn 9) q.1 (ex q.2)).before args s = true := fun q hq => hts _ (hcW_in _ (List.mem_map.mpr ⟨q, hq, rfl⟩))
    have hsp := split_at hqh
    have htab : c0.exceptionTable.toList = ((hh z).take n).map (fun q => (⟨q.1, q.2.1, q.2.2.1, q.2.2.2⟩ : ExceptionTableEntry)) ++ (⟨qh.1, qh.2.1, qh.2.2.1, qh.2.2.2⟩ : ExceptionTableEntry) :: ((hh z).drop (n + 1)).map (fun q => (⟨q.1, q.2.1, q.2.2.1, q.2.2.2⟩ : ExceptionTableEntry)) := by
      rw [hex hz6]
      unfold tableOf
      conv => lhs; rw [hsp]
      rw [List.map_append, List.map_cons]
    have hcov : ∀ q ∈ hh z, q.1 ≤ pc ∧ pc < q.2.1 := by
      have h2 : (tb z).lookup pc = some (i, nx, y, 0, r, x) := h1
      have h3 := List.all_eq_true.mp c7 (pc, i, nx, y, 0, r, x) (lookup_mem h2)
      have hk0 : ik i = 0 := (inv_row h1 hi (by omega)).2.2.2.1
      intro q hq
      simp only [Bool.or_eq_true, bne_iff_ne, hk0] at h3
      rcases h3 with h3 | h3
      · exact absurd rfl h3
      · have h4 := List.all_eq_true.mp h3 q hq
        simpa using h4
    have hqm : qh ∈ hh z := List.mem_of_getElem? hqh
    refine vx_catch (name := ex ee) hown _ _ _ htab ?_ ?_ d3 (hlink (qh.2.2.2, ee) (by simpa using d2)) (va_Nw.use rfl (hK.2.1.2.1 _ h5e)) g1 g2 g3 ?_
    · intro x9 hx9
      obtain ⟨q, hq, rfl⟩ := List.mem_map.mp hx9
      have h6 := List.all_eq_true.mp c6 q hq
      simp only [Bool.and_eq_true, bne_iff_ne] at h6
      obtain ⟨f1, f2⟩ := h6
      obtain ⟨cc9, f3, f4⟩ := List.any_eq_true.mp f2
      simp only [Bool.and_eq_true, beq_iff_eq, bne_iff_ne, decide_eq_true_eq] at f4
      obtain ⟨⟨f5, f6⟩, f7⟩ := f4
      refine Or.inr ⟨f1, ex cc9.2, ?_, hK.2.1.2.2.2.1 _ h5e _ f7 (Ne.symm f6)⟩
      rw [← f5]
      exact hlink cc9 f3
    · obtain ⟨k1, k2⟩ := hcov qh hqm
      simp [covers, k1, k2]
    · show W p l e _ s m args below meth c0 H1 locs1 mc ms _ (F0 m qh.2.2.1 arr [.ref q9])
      rw [d1]
      exact hcode_row c8 c4 hF hL (fun t ht hW => ⟨⟨_, rfl, rfl⟩, by rw [ht]; exact hR1.warm hW.alike, hS1.F ht⟩) hS1.2.2
  · cases c5
theorem s_alen : cl_alen (SP l D cA a) := by
  intro z pc ls st M κ out nx p q r x k h1 h2 h3 kp
  obtain ⟨hd, rfl, hv⟩ := dec h1 (by simp [ilen])
  refine sp1 kp fun p e s m args below meth c R A H locs arr cells slots Q hF hK hR hS hL hb hRf hRl kk => ?_
  have he := wld_get (cA := cA) (a := a) (M := M) (X := kX κ) h3
  unfold eE at he
  rw [if_neg (by omega), if_pos h2] at he
  exact va_alen hF.1 hF.2.1 hK.1 hR.1 k 0 he rfl rfl hd (kk arr hL)
theorem cl_all (ha : ∀ n, n < 180 → a (n + 1) = a n + 1) : Cl (SP l D cA a) := ⟨s_push, s_lpush, s_dpush, s_load, s_store, s_iinc, s_bin, s_div, s_neg, s_i2l, s_i2d, s_lcmp, s_lor, s_lshl, s_dcmp, s_dmul, s_ddiv, s_dup, s_dup2, s_if0, s_if2, s_goto, s_table, s_getI, s_getR, s_getD, s_putI, s_putR, s_putD, s_iald, s_sald, s_slen, s_alen, s_zald, s_aald, s_lald, s_dald, s_iast, s_zast, s_aast, s_last, s_dast, s_new ha, s_newa ha, s_anew ha, s_oinit, s_ready, s_weak, s_call ha, s_callT ha, s_callC ha, s_mmax, s_mabs, s_throw, s_iret, s_lret, s_dret, s_vret⟩
theorem run_sound (ha : ∀ n, n < 180 → a (n + 1) = a n + 1) {z : Nat} {st : St} {out : Ou} (h : Run z st out) : SP l D cA a z st out := h _ (cl_all ha)
end SND8
end
section
/-! THE CLAIM OUT OF ONE WALK OF THE LAW'S BODY. Your part is whole_start (and what it stands on); all else here is the same for every law, but numbers. -/
def R_law : String := "BundleMillLaw"
def lw_P (b : Addr) (xs : List Int32) (args : Array Value) (s : State) : Prop := args = #[.ref b] ∧ s.IntsAt b xs ∧ xs.length ≤ 3584 ∧ (Jvm.Cond.and given_1 narrow_1).before args s = true
/-- what a walk over the start with the record d0 says of its end, said of the start itself -/
theorem lw_closed {s t : State} {o : Outcome} {d0 : Drawn} {L : List Loc} {k n : Nat} (hd0 : s.drawn.sameBut d0 lw_cs) (hv : ∃ v, o = .returned v) (hW : (s.setDrawn d0).WarmedH t.vm) (hs : (s.setDrawn d0).sameButNew ({ t with vm := s.vm } : State) L k n) : State.butDraws s t lw_cs (fun t1 => Framed s o t1 L k n) := by
  have h2 : t.drawn = d0 := congrArg State.drawn hs.1
  refine ⟨⟨hv, hW, State.sameButNew.setDrawn hs s.drawn⟩, ?_, by decide⟩
  rw [h2]
  exact hd0
def lw_Q (_ : Array Value) (s : State) (o : Outcome) (t : State) : Prop := o = .returned (some (.int 1)) ∧ State.butDraws s t lw_cs (fun t1 => Framed s o t1 [] 601024 7293034)
def lw_Z (below : List Frame) (a : Array Value) (s : State) : State → Prop := fun t => ∃ o, t.status = .running ∧ Ended t below o ∧ lw_Q a s o t
/-- the law's own end, with 1 on the stack, nothing written that was there before, its room as the claim has it; d0: the record of draws at this point (at the entry s.drawn: begin with 'refine W.base ?_' and 'have hd0 := Drawn.sameBut.refl s.drawn lw_cs') -/
theorem lw_ret {p : Program} {l : Launch} {e : Env} {s : State} {m : MethodId} {below : List Frame} {meth : Method} {c : Code} {b : Nat} {d0 : Drawn} (hd0 : s.drawn.sameBut d0 lw_cs) (hx : p.tables.exec = Jvm.exec) (hb : c.code = code) (hr : meth.sig.returnType = ret) (hlocks : meth.locks = false) {pc : Nat} {H : Heap} {ls : Array Slot} (hdg : decode code pc = .ok (.ireturn, 1)) : W p l e room_1 (s.setDrawn d0) m #[Value.ref b] below meth c H [] 601024 7293034 (lw_Z below #[Value.ref b] s) (F0 m pc ls [.int 1]) := by
  intro T hT X
  obtain ⟨fs, hret, hrun, hended, hW, hframe⟩ := X.leave (v := some (.int 1)) (hlocks := hlocks) (fun h => by rw [hr] at h; cases h)
  have hmeth' : T.vm.method? m = some meth := X.method'
  refine ⟨T.setFrames fs, ?_, .returned (some (.int 1)), hrun, hended, rfl, lw_closed hd0 ⟨_, rfl⟩ hW hframe⟩
  jvm_step X.here [X.here.top, hx, hb, hdg, hmeth', hr, ret, narrow_b1]
  (try refine ⟨rfl, ?_⟩); (try refine ⟨rfl, ?_⟩)
  first | (intro acts; rw [hret _ acts rfl rfl rfl]) | rw [hret _ _ rfl rfl rfl]
  exact Steps.refl _
/-- what holds at the law's entry: the machine, the code, the tables' words (any of lw_tbl by 'hts w (by decide +kernel)'), the script of L ints xs at the cell b, what the Statement gives of the start (any of its parts by flat_of_before) -/
def lw_At (p : Program) (s : State) (m : MethodId) (meth : Method) (c : Code) (b L : Nat) (xs : Nat → Int32) : Prop :=
  p.tables.exec = Jvm.exec ∧ c.code = code ∧ meth.sig.returnType = ret ∧ c.maxLocals = 9 ∧ s.vm.findClass R_law = some m.cls ∧ (∀ w ∈ lw_tbl, w.before #[Value.ref b] s = true) ∧ va_X b L xs s s.heap ∧ b < s.heap.size ∧ meth.locks = false ∧ (Jvm.Cond.and given_1 narrow_1).before #[Value.ref b] s = true
end
section
/-! THE LAW'S ENTRY: from a run of the small machine to the walk of the law -/
section START
def M0 (xs : Nat → Int32) : Mem := fun k j => if k = 999 then xs j else 0
def K0 (L : Nat) : Kp := (L, fun _ => 0, false, 0, 0, 0)
theorem known_all {s : State} {args : Array Value} (hts : ∀ w ∈ GW, w.before args s = true) : ∃ D : va_G, ∀ c, c < 8 → u_Kn s (cn c) (tF c) (nf c) (D.1 c) (D.2 c) := by
  have h : ∀ c, ∃ (cC : ClassId) (iS : Nat → Nat), c < 8 → u_Kn s (cn c) (tF c) (nf c) cC iS := by
    intro c
    by_cases hc : c < 8
    · have hin := fun w hw => inW_in w (List.mem_flatMap.mpr ⟨c, List.mem_range.mpr hc, hw⟩)
      obtain ⟨cC, iS, hk⟩ := u_known (C := cn c) (T := tF c) (N := nf c) (n := nf c) hts (uw_in hc) (hts _ (hin _ List.mem_cons_self))
      exact ⟨cC, iS, fun _ => hk⟩
    · exact ⟨0, fun _ => 0, fun h => absurd h hc⟩
  exact ⟨(fun c => Classical.choose (h c), fun c => Classical.choose (Classical.choose_spec (h c))), fun c hc => Classical.choose_spec (Classical.choose_spec (h c)) hc⟩
theorem arr_known {s : State} {args : Array Value} {ty : FieldType} (h : (Cond.arrayClass ty).before args s = true) : ∃ c, ArrOfT s c ty ∧ s.vm.findClass ("[" ++ ty.toString) = some c := by
  obtain ⟨c, k, comp, h1, h2, h3⟩ := Cond.arrayClass_spec h
  exact ⟨c, fun n z => ⟨fun k9 h9 => (by cases h9), k, h2, comp, h3⟩, h1⟩
theorem arr_knownO {s : State} {args : Array Value} {C : String} (h : (Cond.arrayOver (.object C)).before args s = true) : ∃ c, ArrOfT s c (.object C) ∧ va_RA s c (.object C) := by
  obtain ⟨comp, c, k, h1, h2, h3, h4, h5⟩ := Cond.arrayOver_spec h
  exact ⟨c, fun n z => ⟨fun k9 h9 => (by cases h9), k, h3, comp, h4⟩, k, comp, h3, h4, h1, h5⟩
theorem nc_ok : ∀ e, e < 5 → ∀ e', e' < 5 → e ≠ e' → Jvm.Cond.not (.castable (ex e) (ex e')) ∈ flatC (Jvm.Cond.and given_1 narrow_1) := by decide +kernel
theorem ca_ok : ∀ e, e < 5 → Jvm.Cond.castable (ex e) (ex e) ∈ lw_tbl := by decide +kernel
theorem dc_ok : ∀ n ∈ dcL, Jvm.Cond.declares n ∈ lw_tbl := by decide +kernel
theorem st_ok : Jvm.Cond.laysStatic Bundle.tN "UNASSIGNED_STACK" Bundle.steD ∈ lw_tbl ∧ Jvm.Cond.laysStatic Bundle.tN "SUPPRESSED_SENTINEL" Bundle.listD ∈ lw_tbl ∧ Jvm.Cond.initialized Bundle.tN ∈ lw_tbl := by decide +kernel
theorem rf_ok : Jvm.Cond.isRef (.static Bundle.tN "UNASSIGNED_STACK" Bundle.steD) ∈ flatC (Jvm.Cond.and given_1 narrow_1) ∧ Jvm.Cond.isRef (.static Bundle.tN "SUPPRESSED_SENTINEL" Bundle.listD) ∈ flatC (Jvm.Cond.and given_1 narrow_1) := by decide +kernel
theorem start_facts {p : Program} {s : State} {m : MethodId} {meth : Method} {c : Code} {l : Launch} {b L : Nat} {xs : Nat → Int32} (C0 : lw_At p s m meth c b L xs) : ∃ (D : va_G) (cA : Nat → ClassId), KS D cA s (fun q => s.heap.size ≤ q) := by
  obtain ⟨hx, hb, hr, hml, hown, hts0, hX, hbl, hlocks, hgv⟩ := C0
  have hts : ∀ w ∈ GW, w.before #[Value.ref b] s = true := fun w hw => hts0 w (List.mem_filter.mp hw).1
  have hfl := flat_of_before _ hgv
  obtain ⟨D, hD⟩ := known_all hts
  have har : ∀ w ∈ arW, w.before #[Value.ref b] s = true := fun w hw => hts w (arW_in w hw)
  obtain ⟨cI, i1, i2⟩ := arr_known (har (.arrayClass .int) List.mem_cons_self)
  obtain ⟨cZ, z1, z2⟩ := arr_known (har (.arrayClass .boolean) (List.mem_cons_of_mem _ List.mem_cons_self))
  obtain ⟨cJ, j1, j2⟩ := arr_known (har (.arrayClass .long) (List.mem_cons_of_mem _ (List.mem_cons_of_mem _ List.mem_cons_self)))
  obtain ⟨cD, d1, d2⟩ := arr_known (har (.arrayClass .double) (List.mem_cons_of_mem _ (List.mem_cons_of_mem _ (List.mem_cons_of_mem _ List.mem_cons_self))))
  have ao1 := hts0 _ (aoW_in (.arrayOver (.object "BundleMill$Block")) List.mem_cons_self)
  have ao2 := hts0 _ (aoW_in (.arrayOver (.object "BundleMill$Plan")) (List.mem_cons_of_mem _ List.mem_cons_self))
  obtain ⟨cB, b1, b2⟩ := arr_knownO ao1
  obtain ⟨cP, p1, p2⟩ := arr_knownO ao2
  refine ⟨D, fun k => if k = 20 then cI else if k = 21 then cZ else if k = 22 then cB else if k = 23 then cP else if k = 24 then cJ else cD, ⟨fun k q hq => ?_, fun k q hq => ?_⟩, ⟨fun q hq => ?_, fun e he => ?_, fun n hn => ?_, fun e he e' he' hne => ?_, va_AO.of ao1, va_AO.of ao2⟩, ?_, ?_⟩
  · by_cases hk : k < 8
    · rw [cl8_get k hk] at hq
      cases hq
      exact hD k hk
    · rw [List.getElem?_eq_none (by simp; omega)] at hq
      cases hq
  · match k, hq with
    | 0, hq => cases hq; exact ⟨i1, i2⟩
    | 1, hq => cases hq; exact ⟨z1, z2⟩
    | 2, hq => cases hq; exact ⟨b1, b2⟩
    | 3, hq => cases hq; exact ⟨p1, p2⟩
    | 4, hq => cases hq; exact ⟨j1, j2⟩
    | 5, hq => cases hq; exact ⟨d1, d2⟩
    | k + 6, hq => simp at hq
  · exact va_Nw.of rfl (hts0 _ (nsW_in _ (List.mem_map.mpr ⟨q, hq, rfl⟩)))
  · exact va_Nw.of rfl (hts0 _ (ca_ok e he))
  · exact va_Nw.of rfl (hts0 _ (dc_ok n hn))
  · exact va_Nc.of (hfl _ (nc_ok e he e' he' hne))
  · exact vx_Zqof (hts0 _ st_ok.1) (hts0 _ st_ok.2.2) (hfl _ rf_ok.1) (fun q h1 h2 => absurd h1 (Nat.not_lt.mpr h2))
  · exact vx_Zqof (hts0 _ st_ok.2.1) (hts0 _ st_ok.2.2) (hfl _ rf_ok.2) (fun q h1 h2 => absurd h1 (Nat.not_lt.mpr h2))
theorem W_room {p : Program} {l : Launch} {e : Env} {R R' : Room} {s : State} {m : MethodId} {args : Array Value} {below : List Frame} {meth : Method} {c : Code} {H : Heap} {locs : List Loc} {cells slots : Nat} {Q : State → Prop} {g : JFrame} (h1 : R.frames ≤ R'.frames) (h2 : R.cells ≤ R'.cells) (h3 : R.slots ≤ R'.slots) (h4 : R.locals ≤ R'.locals) (k : W p l e R s m args below meth c H locs cells slots Q g) : W p l e R' s m args below meth c H locs cells slots Q g := by
  intro T hT X
  refine k T hT ⟨X.admits, X.cas, X.clock, X.frames, ?_, X.hears, X.method, X.code, X.here, X.tail, X.warmed, X.limits, X.bytes, X.same⟩
  have h := X.room
  simp only [State.hasRoom, Bool.and_eq_true, decide_eq_true_eq] at h ⊢
  obtain ⟨⟨⟨⟨g1, g2, g3, g4, g5, g6⟩, g7⟩, g8⟩, g9⟩ := h
  exact ⟨⟨⟨⟨by omega, by omega, by omega, by omega, by omega, g6⟩, by omega⟩, by omega⟩, g9⟩
/-- what is wanted of the small machine -/
def LawRun : Prop := ∀ (L : Nat) (xs : Nat → Int32), L ≤ 3584 → ∃ (M' : Mem) (κ' : Kp), Run 166 (0, entL 166 [.ref 999], [], M0 xs, K0 L) (.inl (some (.int 1)), M', κ') ∧ kC κ' ≤ 601024 ∧ kU κ' ≤ 7293034
theorem start_of_run (hrun : LawRun) {p : Program} {e : Env} {s : State} {m : MethodId} {below : List Frame} {meth : Method} {c : Code} (l : Launch) (hflags : l.flags = flags0) {b L : Nat} {xs : Nat → Int32} (hL : L ≤ 3584) (C0 : lw_At p s m meth c b L xs) : W p l e room_1 s m #[Value.ref b] below meth c s.heap [] 0 0 (lw_Z below #[Value.ref b] s) (entryFrame m ([Value.ref b] : List Value).toArray 9) := by
  obtain ⟨M', κ', hR, hc, hu⟩ := hrun L xs hL
  obtain ⟨D, cA, hK⟩ := start_facts (l := l) C0
  obtain ⟨hx, hb, hr, hml, hown, hts0, hX, hbl, hlocks, hgv⟩ := C0
  have hts : ∀ w ∈ GW, w.before #[Value.ref b] s = true := fun w hw => hts0 w (List.mem_filter.mp hw).1
  have hst : l.stackTraces = false := by
    unfold Launch.stackTraces
    rw [hflags]
    decide +kernel
  obtain ⟨a, ha⟩ : ∃ a : Nat → Nat, a = fun k => if k = 999 then b else s.heap.size + k := ⟨_, rfl⟩
  have ha1 : ∀ n, n < 180 → a (n + 1) = a n + 1 := by
    intro n hn
    rw [ha]
    dsimp only
    rw [if_neg (by omega), if_neg (by omega)]
    omega
  have ha9 : a 999 = b := by rw [ha]; rfl
  have ha0 : a 0 = s.heap.size := by rw [ha]; rfl
  have hS := run_sound (l := l) (D := D) (cA := cA) (a := a) ha1 hR
  have hF : FX 166 p l s m #[Value.ref b] meth c := ⟨hx, hb, hml, hr, hlocks, hown, fun h => absurd h (by decide), hts, fun h => absurd h (by decide), hst⟩
  have hM : M0 xs 999 = xs := by
    funext j
    simp [M0]
  have hRW : RW D cA a (M0 xs) (K0 L) (fun q => s.heap.size ≤ q) s s.heap := by
    refine ⟨fun k q h => ?_, ⟨fun i j p q h => ?_, fun k q h => ?_⟩, ?_, ?_, fun h => ?_, Nat.zero_le _⟩
    · have h9 : ([] : va_W)[k]? = some q := h; rw [List.getElem?_nil] at h9; cases h9
    · have h9 : ([] : va_W)[i]? = some p := h; rw [List.getElem?_nil] at h9; cases h9
    · have h9 : ([] : va_W)[k]? = some q := h; rw [List.getElem?_nil] at h9; cases h9
    · rw [ha9, hM]
      exact hX
    · rw [ha9]
      exact Nat.not_le.mpr hbl
    · cases h
  have hLV : LV a (entL 166 [.ref 999]) (mL 166) ((lg_sl ([.ref 999].map (mv a)) ++ List.replicate (mL 166 - (lg_sl ([.ref 999].map (mv a))).length) Slot.unset).toArray) := LV_entry (by decide) (by decide)
  have hW := hS.2 p e s m #[Value.ref b] below meth c hF (fun q => s.heap.size ≤ q) hK (fun q h => h) (by rw [ha9]; exact hbl) s.heap [] _ 0 0 (kC κ') (kU κ') hRW va_S.rf hLV (by dsimp only; simp [K0]) (by dsimp only; simp [K0]) (fun _ => ⟨by rw [Nat.add_zero]; exact ha0.symm, fun _ => rfl⟩)
  have hmv : ([.ref 999] : List Value).map (mv a) = [.ref b] := by
    simp [mv, ha9]
  rw [hmv] at hW
  rw [lg_entry_eq]
  have hW2 := W_room (R' := room_1) (show rf 166 ≤ 11 by decide) (show kC κ' ≤ 601024 from hc) (show kU κ' ≤ 7293034 from hu) (show rl 166 ≤ 392 by decide) hW
  intro T hT X
  obtain ⟨t, st, o, g1, g2, g3⟩ := hW2 T hT X
  refine ⟨t, st, o, g1, g2, ?_⟩
  rcases g3 with ⟨⟨⟨v, hv1, hv2⟩, -, -⟩, L9, ⟨f1, f2, f3⟩, f4⟩ | ⟨q, -, E, ce, L9, ⟨⟨⟨x9, hx9, -⟩, -⟩, -⟩⟩
  · cases hv1
    refine ⟨hv2, ?_⟩
    have f5 : s.sameButNew ({ t with vm := s.vm } : State) ([] ++ L9) (kC κ') (kU κ') := by rw [List.nil_append]; exact f3
    have f6 := (f5.drop_fresh (fun x hx => f4 x hx)).mono hc hu
    exact lw_closed (d0 := s.drawn) (Drawn.sameBut.refl s.drawn lw_cs) f1 f2 f6
  · cases hx9
end START
end
section
/-! THE PURE WALK: Run, with its end told by a predicate -/
section WALK
def RT (z : Nat) (s : St) (Q : Ou → Prop) : Prop := ∃ out, Run z s out ∧ Q out
/-- all objects are made -/
def Rd (κ : Kp) : Prop := kN κ = 180 ∧ kR κ = true
def isOb (k c : Nat) : Prop := kd k = c ∧ k < 180
def isAr (k n : Nat) : Prop := kd k = 20 ∧ ln k = n ∧ k < 180
def isZr (k n : Nat) : Prop := kd k = 21 ∧ ln k = n ∧ k < 180
def bI (b : Bool) : Int32 := if b then 1 else 0
def mx (a b : Int32) : Int32 := if a < b then b else a
def ab (a : Int32) : Int32 := if 0 ≤ a then a else 0 - a
def rm (x y : Int32) : Int32 := x - x / y * y
variable {z pc nx p q r y k n a e d : Nat} {x u v w : Int32} {ls st l1 : List Value} {M M1 : Mem} {κ κ1 : Kp} {Q Q' : Ou → Prop} {i : Instr} {out : Ou}
theorem RT_mono (h : RT z (pc, ls, st, M, κ) Q') (hq : ∀ o, Q' o → Q o) : RT z (pc, ls, st, M, κ) Q := h.elim fun o k => ⟨o, k.1, hq o k.2⟩
theorem RT_run (h : RT z (pc, ls, st, M, κ) (fun o => o = out)) : Run z (pc, ls, st, M, κ) out := h.elim fun o k => k.2 ▸ k.1
theorem RT_of (h : Run z (pc, ls, st, M, κ) out) (hq : Q out) : RT z (pc, ls, st, M, κ) Q := ⟨out, h, hq⟩
theorem RT_step {z' pc' : Nat} {ls' st' : List Value} (f : ∀ o, Run z' (pc', ls', st', M1, κ1) o → Run z (pc, ls, st, M, κ) o) (K : RT z' (pc', ls', st', M1, κ1) Q) : RT z (pc, ls, st, M, κ) Q := K.elim fun o k => ⟨o, f o k.1, k.2⟩
theorem bI_t : bI true = 1 := rfl
theorem bI_f : bI false = 0 := rfl
theorem isB_bI (b : Bool) : isB (bI b) = true := by cases b <;> rfl
theorem bI_z {b : Bool} : bI b = 0 ↔ ¬ b = true := by cases b <;> decide
theorem bI_inj {b c : Bool} (h : bI b = bI c) : b = c := by revert h; cases b <;> cases c <;> decide
theorem stM_o {j k' j' : Nat} (h : k' ≠ k) : stM M k j v k' j' = M k' j' := if_neg fun c => h c.1
theorem stM_j {j k' j' : Nat} (h : j' ≠ j) : stM M k j v k' j' = M k' j' := if_neg fun c => h c.2
theorem stM_s {j : Nat} : stM M k j v k j = v := if_pos ⟨rfl, rfl⟩
theorem stM_ob {j k' : Nat} (h : k' ≠ k) : stM M k j v k' = M k' := funext fun _ => stM_o h
theorem w_push (h : ins z pc = some (i, nx, p, q, r, x)) (hi : isPush i = true) (K : RT z (nx, ls, .int x :: st, M, κ) Q) : RT z (pc, ls, st, M, κ) Q := RT_step (fun o => Run_push _ _ _ _ _ _ _ _ _ _ _ _ _ h hi) K
theorem w_lpush (h : ins z pc = some (.lconst 0, nx, p, q, r, x)) (K : RT z (nx, ls, .long 0 :: st, M, κ) Q) : RT z (pc, ls, st, M, κ) Q := RT_step (fun o => Run_lpush _ _ _ _ _ _ _ _ _ _ _ _ h) K
theorem w_dpush (h : ins z pc = some (.dconst 0, nx, p, q, r, x)) (K : RT z (nx, ls, .double 0 :: st, M, κ) Q) : RT z (pc, ls, st, M, κ) Q := RT_step (fun o => Run_dpush _ _ _ _ _ _ _ _ _ _ _ _ h) K
theorem w_load {v : Value} (h : ins z pc = some (i, nx, p, q, r, x)) (hi : ldOk i v = true) (hl : ls[p]? = some v) (K : RT z (nx, ls, v :: st, M, κ) Q) : RT z (pc, ls, st, M, κ) Q := RT_step (fun o => Run_load _ _ _ _ _ _ _ _ _ _ _ _ _ _ h hi hl) K
theorem w_store {v : Value} (h : ins z pc = some (i, nx, p, q, r, x)) (hi : stOk i v = true) (hl : p + v.category ≤ ls.length) (hs : setl ls p v = l1) (K : RT z (nx, l1, st, M, κ) Q) : RT z (pc, ls, v :: st, M, κ) Q := RT_step (fun o => Run_store _ _ _ _ _ _ _ _ _ _ _ _ _ _ h hi hl) (hs ▸ K)
theorem w_iinc {b : Int} (h : ins z pc = some (.iinc a b, nx, p, q, r, x)) (hl : ls[p]? = some (.int u)) (hs : setl ls p (.int (u + x)) = l1) (K : RT z (nx, l1, st, M, κ) Q) : RT z (pc, ls, st, M, κ) Q := RT_step (fun o => Run_iinc _ _ _ _ _ _ _ _ _ _ _ _ _ _ _ h hl) (hs ▸ K)
theorem w_iincN {b : Int} (c : Nat) (h : ins z pc = some (.iinc a b, nx, p, q, r, nI c)) (hl : ls[p]? = some (.int (nI n))) (hs : setl ls p (.int (nI (n + c))) = l1) (K : RT z (nx, l1, st, M, κ) Q) : RT z (pc, ls, st, M, κ) Q := w_iinc h hl (by rw [nI_add]; exact hs) K
theorem w_bin {f : Int32 → Int32 → Int32} (h : ins z pc = some (i, nx, p, q, r, x)) (hf : bop i = some f) (hw : f u v = w) (K : RT z (nx, ls, .int w :: st, M, κ) Q) : RT z (pc, ls, .int v :: .int u :: st, M, κ) Q := RT_step (fun o => Run_bin _ _ _ _ _ _ _ _ _ _ _ _ _ f u v h hf) (hw ▸ K)
theorem nI_mul (a b : Nat) : nI a * nI b = nI (a * b) := by
  apply Int32.toInt_inj.mp
  simp [nI]
theorem w_div {f : Int32 → Int32 → Int32} (h : ins z pc = some (i, nx, p, q, r, x)) (hf : dop i = some f) (h0 : ¬ v = 0) (hw : f u v = w) (K : RT z (nx, ls, .int w :: st, M, κ) Q) : RT z (pc, ls, .int v :: .int u :: st, M, κ) Q := RT_step (fun o => Run_div _ _ _ _ _ _ _ _ _ _ _ _ _ f u v h hf h0) (hw ▸ K)
theorem w_neg (h : ins z pc = some (.ineg, nx, p, q, r, x)) (K : RT z (nx, ls, .int (-u) :: st, M, κ) Q) : RT z (pc, ls, .int u :: st, M, κ) Q := RT_step (fun o => Run_neg _ _ _ _ _ _ _ _ _ _ _ _ u h) K
theorem w_i2l (h : ins z pc = some (.i2l, nx, p, q, r, x)) (K : RT z (nx, ls, .long u.toInt64 :: st, M, κ) Q) : RT z (pc, ls, .int u :: st, M, κ) Q := RT_step (fun o => Run_i2l _ _ _ _ _ _ _ _ _ _ _ _ u h) K
theorem w_i2d (h : ins z pc = some (.i2d, nx, p, q, r, x)) (K : RT z (nx, ls, .double (FP.i2d u) :: st, M, κ) Q) : RT z (pc, ls, .int u :: st, M, κ) Q := RT_step (fun o => Run_i2d _ _ _ _ _ _ _ _ _ _ _ _ u h) K
theorem w_lcmp {a b : Int64} (h : ins z pc = some (.lcmp, nx, p, q, r, x)) (K : RT z (nx, ls, .int (lg_cmp a b) :: st, M, κ) Q) : RT z (pc, ls, .long b :: .long a :: st, M, κ) Q := RT_step (fun o => Run_lcmp _ _ _ _ _ _ _ _ _ _ _ _ a b h) K
theorem w_lor {a b : Int64} (h : ins z pc = some (.lor, nx, p, q, r, x)) (K : RT z (nx, ls, .long (a ||| b) :: st, M, κ) Q) : RT z (pc, ls, .long b :: .long a :: st, M, κ) Q := RT_step (fun o => Run_lor _ _ _ _ _ _ _ _ _ _ _ _ a b h) K
theorem w_lshl {a : Int64} (h : ins z pc = some (.lshl, nx, p, q, r, x)) (K : RT z (nx, ls, .long (a <<< (u.toInt64 &&& 63)) :: st, M, κ) Q) : RT z (pc, ls, .int u :: .long a :: st, M, κ) Q := RT_step (fun o => Run_lshl _ _ _ _ _ _ _ _ _ _ _ _ a u h) K
theorem w_dcmp {a b : UInt64} {c : CmpOp} (h : ins z pc = some (.dcmp c, nx, p, q, r, x)) (K : RT z (nx, ls, .int (Op.cmpValue (FP.dcmp a b) c) :: st, M, κ) Q) : RT z (pc, ls, .double b :: .double a :: st, M, κ) Q := RT_step (fun o => Run_dcmp _ _ _ _ _ _ _ _ _ _ _ _ c a b h) K
theorem w_dmul {a b : UInt64} (h : ins z pc = some (.dmul, nx, p, q, r, x)) (hn : vf_n64 (FP.dmul a b)) (K : RT z (nx, ls, .double (FP.dmul a b) :: st, M, κ) Q) : RT z (pc, ls, .double b :: .double a :: st, M, κ) Q := RT_step (fun o => Run_dmul _ _ _ _ _ _ _ _ _ _ _ _ a b h hn) K
theorem w_ddiv {a b : UInt64} (h : ins z pc = some (.ddiv, nx, p, q, r, x)) (hn : vf_n64 (FP.ddiv a b)) (K : RT z (nx, ls, .double (FP.ddiv a b) :: st, M, κ) Q) : RT z (pc, ls, .double b :: .double a :: st, M, κ) Q := RT_step (fun o => Run_ddiv _ _ _ _ _ _ _ _ _ _ _ _ a b h hn) K
theorem w_dup {v : Value} (h : ins z pc = some (.dup, nx, p, q, r, x)) (hc : v.category = 1) (K : RT z (nx, ls, v :: v :: st, M, κ) Q) : RT z (pc, ls, v :: st, M, κ) Q := RT_step (fun o => Run_dup _ _ _ _ _ _ _ _ _ _ _ _ v h hc) K
theorem w_dup2 {v w : Value} (h : ins z pc = some (.dup2, nx, p, q, r, x)) (hc : v.category = 1) (hd : w.category = 1) (K : RT z (nx, ls, v :: w :: v :: w :: st, M, κ) Q) : RT z (pc, ls, v :: w :: st, M, κ) Q := RT_step (fun o => Run_dup2 _ _ _ _ _ _ _ _ _ _ _ _ v w h hc hd) K
theorem w_if0 {c : Jvm.ClassFile.Cond} {o : Int} (P : Prop) (h : ins z pc = some (.ifCond c o, nx, p, q, r, x)) (h1 : cnd0 c u ↔ P) (K1 : P → RT z (p, ls, st, M, κ) Q) (K2 : ¬ P → RT z (nx, ls, st, M, κ) Q) : RT z (pc, ls, .int u :: st, M, κ) Q := by
  by_cases c : P
  · obtain ⟨o, k1, k2⟩ := K1 c
    exact ⟨o, Run_if0 _ _ _ _ _ _ _ _ _ _ _ _ _ _ _ h (fun _ => k1) (fun e => absurd (h1.mpr c) e), k2⟩
  · obtain ⟨o, k1, k2⟩ := K2 c
    exact ⟨o, Run_if0 _ _ _ _ _ _ _ _ _ _ _ _ _ _ _ h (fun e => absurd (h1.mp e) c) (fun _ => k1), k2⟩
theorem w_if2 {c : Jvm.ClassFile.Cond} {o : Int} (P : Prop) (h : ins z pc = some (.if_icmp c o, nx, p, q, r, x)) (h1 : cnd2 c u v ↔ P) (K1 : P → RT z (p, ls, st, M, κ) Q) (K2 : ¬ P → RT z (nx, ls, st, M, κ) Q) : RT z (pc, ls, .int v :: .int u :: st, M, κ) Q := by
  by_cases c : P
  · obtain ⟨o, k1, k2⟩ := K1 c
    exact ⟨o, Run_if2 _ _ _ _ _ _ _ _ _ _ _ _ _ _ _ _ h (fun _ => k1) (fun e => absurd (h1.mpr c) e), k2⟩
  · obtain ⟨o, k1, k2⟩ := K2 c
    exact ⟨o, Run_if2 _ _ _ _ _ _ _ _ _ _ _ _ _ _ _ _ h (fun e => absurd (h1.mp e) c) (fun _ => k1), k2⟩
/-- jump when the canonical condition fails -/
theorem w_if0n {c : Jvm.ClassFile.Cond} {o : Int} (P : Prop) (h : ins z pc = some (.ifCond c o, nx, p, q, r, x)) (h1 : cnd0 c u ↔ ¬ P) (K1 : P → RT z (nx, ls, st, M, κ) Q) (K2 : ¬ P → RT z (p, ls, st, M, κ) Q) : RT z (pc, ls, .int u :: st, M, κ) Q := w_if0 (¬ P) h h1 K2 (fun e => K1 (Classical.byContradiction e))
theorem w_if2n {c : Jvm.ClassFile.Cond} {o : Int} (P : Prop) (h : ins z pc = some (.if_icmp c o, nx, p, q, r, x)) (h1 : cnd2 c u v ↔ ¬ P) (K1 : P → RT z (nx, ls, st, M, κ) Q) (K2 : ¬ P → RT z (p, ls, st, M, κ) Q) : RT z (pc, ls, .int v :: .int u :: st, M, κ) Q := w_if2 (¬ P) h h1 K2 (fun e => K1 (Classical.byContradiction e))
theorem w_goto {o : Int} (h : ins z pc = some (.goto o, nx, p, q, r, x)) (K : RT z (p, ls, st, M, κ) Q) : RT z (pc, ls, st, M, κ) Q := RT_step (fun o => Run_goto _ _ _ _ _ _ _ _ _ _ _ _ _ h) K
theorem w_table (t : Nat) (h : ins z pc = some (i, nx, p, q, r, x)) (ht : tgtOk pc i u t = true) (K : RT z (t, ls, st, M, κ) Q) : RT z (pc, ls, .int u :: st, M, κ) Q := RT_step (fun o => Run_table _ _ _ _ _ _ _ _ _ _ _ _ _ u t h ht) K
theorem w_getI (h : ins z pc = some (.getfield a, nx, p, q, r, x)) (hκ : Rd κ) (ho : isOb k p) (hf : fty p q = 0) (hv : M k q = v) (K : RT z (nx, ls, .int v :: st, M, κ) Q) : RT z (pc, ls, .ref k :: st, M, κ) Q := RT_step (fun o => Run_getI _ _ _ _ _ _ _ _ _ _ _ _ _ _ h ho.1 hf (hκ.1 ▸ ho.2)) (hv ▸ K)
theorem w_getR (d : Nat) (h : ins z pc = some (.getfield a, nx, p, q, r, x)) (hκ : Rd κ) (ho : isOb k p) (hf : fty p q = 1) (hd : k + off p q = d) (K : RT z (nx, ls, .ref d :: st, M, κ) Q) : RT z (pc, ls, .ref k :: st, M, κ) Q := RT_step (fun o => Run_getR _ _ _ _ _ _ _ _ _ _ _ _ _ _ h ho.1 hf (hκ.1 ▸ ho.2) (.inl hκ.2)) (hd ▸ K)
theorem w_getD (d : Nat) (h : ins z pc = some (.getfield a, nx, p, q, r, x)) (hκ : Rd κ) (ho : isOb k p) (hf : fty p q = 2) (hd : M k q = nI d) (h0 : 0 < d ∧ d < 200) (K : RT z (nx, ls, .ref d :: st, M, κ) Q) : RT z (pc, ls, .ref k :: st, M, κ) Q := RT_step (fun o => Run_getD _ _ _ _ _ _ _ _ _ _ _ _ _ _ _ h ho.1 hf (hκ.1 ▸ ho.2) hd h0.1 h0.2) K
theorem w_putI (h : ins z pc = some (.putfield a, nx, p, q, r, x)) (hκ : Rd κ) (ho : isOb k p) (hf : fty p q = 0) (hb : fbo p q = 1 → isB v = true) (K : RT z (nx, ls, st, stM M k q v, κ) Q) : RT z (pc, ls, .int v :: .ref k :: st, M, κ) Q := RT_step (fun o => Run_putI _ _ _ _ _ _ _ _ _ _ _ _ _ _ _ h ho.1 hf (hκ.1 ▸ ho.2) hb) K
theorem w_putD (h : ins z pc = some (.putfield a, nx, p, q, r, x)) (hκ : Rd κ) (ho : isOb k p) (hf : fty p q = 2) (h0 : 0 < d ∧ d < 200) (K : RT z (nx, ls, st, stM M k q (nI d), κ) Q) : RT z (pc, ls, .ref d :: .ref k :: st, M, κ) Q := RT_step (fun o => Run_putD _ _ _ _ _ _ _ _ _ _ _ _ _ _ _ h ho.1 hf (hκ.1 ▸ ho.2) h0.1 h0.2) K
theorem w_iald (h : ins z pc = some (.iaload, nx, p, q, r, x)) (hκ : Rd κ) (ho : isAr k n) (hi : vp_in u n) (hv : M k u.toNatClampNeg = v) (K : RT z (nx, ls, .int v :: st, M, κ) Q) : RT z (pc, ls, .int u :: .ref k :: st, M, κ) Q := RT_step (fun o => Run_iald _ _ _ _ _ _ _ _ _ _ _ _ _ _ h ho.1 (hκ.1 ▸ ho.2.2) (ho.2.1 ▸ hi)) (hv ▸ K)
theorem w_ialdN (h : ins z pc = some (.iaload, nx, p, q, r, x)) (hκ : Rd κ) (ho : isAr k n) (hi : e < n) (hn : n ≤ 200) (hv : M k e = v) (K : RT z (nx, ls, .int v :: st, M, κ) Q) : RT z (pc, ls, .int (nI e) :: .ref k :: st, M, κ) Q := w_iald h hκ ho (vp_in_nI hi (by omega)) (by rw [nI_clamp (by omega)]; exact hv) K
theorem w_zald (h : ins z pc = some (.baload, nx, p, q, r, x)) (hκ : Rd κ) (ho : isZr k n) (hi : vp_in u n) (hv : M k u.toNatClampNeg = v) (K : RT z (nx, ls, .int v :: st, M, κ) Q) : RT z (pc, ls, .int u :: .ref k :: st, M, κ) Q := RT_step (fun o => Run_zald _ _ _ _ _ _ _ _ _ _ _ _ _ _ h ho.1 (hκ.1 ▸ ho.2.2) (ho.2.1 ▸ hi)) (hv ▸ K)
theorem w_zaldN (h : ins z pc = some (.baload, nx, p, q, r, x)) (hκ : Rd κ) (ho : isZr k n) (hi : e < n) (hn : n ≤ 200) (hv : M k e = v) (K : RT z (nx, ls, .int v :: st, M, κ) Q) : RT z (pc, ls, .int (nI e) :: .ref k :: st, M, κ) Q := w_zald h hκ ho (vp_in_nI hi (by omega)) (by rw [nI_clamp (by omega)]; exact hv) K
theorem w_iast (h : ins z pc = some (.iastore, nx, p, q, r, x)) (hκ : Rd κ) (ho : isAr k n) (hi : vp_in u n) (K : RT z (nx, ls, st, stM M k u.toNatClampNeg v, κ) Q) : RT z (pc, ls, .int v :: .int u :: .ref k :: st, M, κ) Q := RT_step (fun o => Run_iast _ _ _ _ _ _ _ _ _ _ _ _ _ _ _ h ho.1 (hκ.1 ▸ ho.2.2) (ho.2.1 ▸ hi)) K
theorem w_iastN (h : ins z pc = some (.iastore, nx, p, q, r, x)) (hκ : Rd κ) (ho : isAr k n) (hi : e < n) (hn : n ≤ 200) (K : RT z (nx, ls, st, stM M k e v, κ) Q) : RT z (pc, ls, .int v :: .int (nI e) :: .ref k :: st, M, κ) Q := w_iast h hκ ho (vp_in_nI hi (by omega)) (by rw [nI_clamp (by omega)]; exact K)
theorem w_zast (h : ins z pc = some (.bastore, nx, p, q, r, x)) (hκ : Rd κ) (ho : isZr k n) (hi : vp_in u n) (hb : isB v = true) (K : RT z (nx, ls, st, stM M k u.toNatClampNeg v, κ) Q) : RT z (pc, ls, .int v :: .int u :: .ref k :: st, M, κ) Q := RT_step (fun o => Run_zast _ _ _ _ _ _ _ _ _ _ _ _ _ _ _ h ho.1 (hκ.1 ▸ ho.2.2) (ho.2.1 ▸ hi) hb) K
theorem w_zastN (h : ins z pc = some (.bastore, nx, p, q, r, x)) (hκ : Rd κ) (ho : isZr k n) (hi : e < n) (hn : n ≤ 200) (hb : isB v = true) (K : RT z (nx, ls, st, stM M k e v, κ) Q) : RT z (pc, ls, .int v :: .int (nI e) :: .ref k :: st, M, κ) Q := w_zast h hκ ho (vp_in_nI hi (by omega)) hb (by rw [nI_clamp (by omega)]; exact K)
theorem w_aald (d : Nat) (h : ins z pc = some (.aaload, nx, p, q, r, x)) (hκ : Rd κ) (ho : (kd k = 22 ∨ kd k = 23) ∧ k < 180) (hi : vp_in u 6) (hd : elb k + 18 * u.toNatClampNeg = d) (K : RT z (nx, ls, .ref d :: st, M, κ) Q) : RT z (pc, ls, .int u :: .ref k :: st, M, κ) Q := RT_step (fun o => Run_aald _ _ _ _ _ _ _ _ _ _ _ _ _ _ h ho.1 (hκ.1 ▸ ho.2) hi (.inl hκ.2)) (hd ▸ K)
theorem w_aaldN (d : Nat) (h : ins z pc = some (.aaload, nx, p, q, r, x)) (hκ : Rd κ) (ho : (kd k = 22 ∨ kd k = 23) ∧ k < 180) (hi : e < 6) (hd : elb k + 18 * e = d) (K : RT z (nx, ls, .ref d :: st, M, κ) Q) : RT z (pc, ls, .int (nI e) :: .ref k :: st, M, κ) Q := w_aald d h hκ ho (vp_in_nI hi (by omega)) (by rw [nI_clamp (by omega)]; exact hd) K
theorem w_slen (h : ins z pc = some (.arraylength, nx, p, q, r, x)) (K : RT z (nx, ls, .int (Int32.ofNat (kL κ)) :: st, M, κ) Q) : RT z (pc, ls, .ref 999 :: st, M, κ) Q := RT_step (fun o => Run_slen _ _ _ _ _ _ _ _ _ _ _ _ h) K
theorem w_sald (h : ins z pc = some (.iaload, nx, p, q, r, x)) (hi : vp_in u (kL κ)) (K : RT z (nx, ls, .int (M 999 u.toNatClampNeg) :: st, M, κ) Q) : RT z (pc, ls, .int u :: .ref 999 :: st, M, κ) Q := RT_step (fun o => Run_sald _ _ _ _ _ _ _ _ _ _ _ _ _ h hi) K
theorem w_lald (h : ins z pc = some (.laload, nx, p, q, r, x)) (hκ : Rd κ) (ho : kd k = 24 ∧ k < 180) (hi : vp_in u 1) (K : RT z (nx, ls, .long (kX κ k).toInt64 :: st, M, κ) Q) : RT z (pc, ls, .int u :: .ref k :: st, M, κ) Q := RT_step (fun o => Run_lald _ _ _ _ _ _ _ _ _ _ _ _ _ _ h ho.1 (hκ.1 ▸ ho.2) hi) K
theorem w_dald (h : ins z pc = some (.daload, nx, p, q, r, x)) (hκ : Rd κ) (ho : kd k = 25 ∧ k < 180) (hi : vp_in u 1) (K : RT z (nx, ls, .double (kX κ k) :: st, M, κ) Q) : RT z (pc, ls, .int u :: .ref k :: st, M, κ) Q := RT_step (fun o => Run_dald _ _ _ _ _ _ _ _ _ _ _ _ _ _ h ho.1 (hκ.1 ▸ ho.2) hi) K
theorem w_last {v : Int64} (h : ins z pc = some (.lastore, nx, p, q, r, x)) (hκ : Rd κ) (ho : kd k = 24 ∧ k < 180) (hi : vp_in u 1) (K : RT z (nx, ls, st, M, (κ.1, stX (kX κ) k v.toUInt64, κ.2.2)) Q) : RT z (pc, ls, .long v :: .int u :: .ref k :: st, M, κ) Q := RT_step (fun o => Run_last _ _ _ _ _ _ _ _ _ _ _ _ _ _ _ h ho.1 (hκ.1 ▸ ho.2) hi) K
theorem w_dast {v : UInt64} (h : ins z pc = some (.dastore, nx, p, q, r, x)) (hκ : Rd κ) (ho : kd k = 25 ∧ k < 180) (hi : vp_in u 1) (K : RT z (nx, ls, st, M, (κ.1, stX (kX κ) k v, κ.2.2)) Q) : RT z (pc, ls, .double v :: .int u :: .ref k :: st, M, κ) Q := RT_step (fun o => Run_dast _ _ _ _ _ _ _ _ _ _ _ _ _ _ _ h ho.1 (hκ.1 ▸ ho.2) hi) K
theorem w_weak (hl : lle l1 ls) (K : RT z (pc, l1, st, M, κ) Q) : RT z (pc, ls, st, M, κ) Q := RT_step (fun o => Run_weak _ _ _ _ _ _ _ _ hl) K
theorem lle_n : lle [] [] := ⟨rfl, fun i v h => by cases h⟩
theorem lle_s {v : Value} (h : lle l1 ls) : lle (v :: l1) (v :: ls) := ⟨by simp [h.1], fun i w hw => by
  match i, hw with
  | 0, hw => exact .inr hw
  | j + 1, hw => exact h.2 j w hw⟩
theorem lle_u {v : Value} (h : lle l1 ls) : lle (UU :: l1) (v :: ls) := ⟨by simp [h.1], fun i w hw => by
  match i, hw with
  | 0, hw => exact .inl (Option.some.inj hw).symm
  | j + 1, hw => exact h.2 j w hw⟩
theorem w_mmax (h : ins z pc = some (i, nx, 164, q, r, x)) (hi : ik i = 1) (hq : q < 6) (hr : (st.map fun v => v.category).sum ≤ 4) (K : RT z (nx, ls, .int (mx u v) :: st, M, κ) Q) : RT z (pc, ls, .int v :: .int u :: st, M, κ) Q := RT_step (fun o => Run_mmax _ _ _ _ _ _ _ _ _ _ _ _ u v h hi hq hr) K
theorem w_mabs (h : ins z pc = some (i, nx, 165, q, r, x)) (hi : ik i = 1) (hq : q < 6) (hr : (st.map fun v => v.category).sum ≤ 4) (K : RT z (nx, ls, .int (ab u) :: st, M, κ) Q) : RT z (pc, ls, .int u :: st, M, κ) Q := RT_step (fun o => Run_mabs _ _ _ _ _ _ _ _ _ _ _ _ u h hi hq hr) K
theorem w_iret (h : ins z pc = some (.ireturn, nx, p, q, r, x)) (ht : rt z = some .int ∨ (rt z = some .boolean ∧ isB v = true)) (K : Q (.inl (some (.int v)), M, κ)) : RT z (pc, ls, [.int v], M, κ) Q := ⟨_, Run_iret _ _ _ [] _ _ (.inr 0, M, κ) _ _ _ _ _ v h ht, K⟩
theorem w_lret {v : Int64} (h : ins z pc = some (.lreturn, nx, p, q, r, x)) (ht : rt z = some .long) (K : Q (.inl (some (.long v)), M, κ)) : RT z (pc, ls, [.long v], M, κ) Q := ⟨_, Run_lret _ _ _ [] _ _ (.inr 0, M, κ) _ _ _ _ _ v h ht, K⟩
theorem w_dret {v : UInt64} (h : ins z pc = some (.dreturn, nx, p, q, r, x)) (ht : rt z = some .double) (K : Q (.inl (some (.double v)), M, κ)) : RT z (pc, ls, [.double v], M, κ) Q := ⟨_, Run_dret _ _ _ [] _ _ (.inr 0, M, κ) _ _ _ _ _ v h ht, K⟩
theorem w_vret (h : ins z pc = some (.return_, nx, p, q, r, x)) (ht : rt z = none) (K : Q (.inl none, M, κ)) : RT z (pc, ls, [], M, κ) Q := ⟨_, Run_vret _ _ _ [] _ _ (.inr 0, M, κ) _ _ _ _ _ h ht, K⟩
theorem w_throw (h : ins z pc = some (.new a, nx, p, q, r, x)) (hq : q = 1) (hκ : Rd κ) (hz : z < 166) (hh0 : hh z = []) (hr : rm8 st) (K : Q (.inr p, M, (κ.1, κ.2.1, κ.2.2.1, kN κ, kC κ + 1, kU κ + 6))) : RT z (pc, ls, st, M, κ) Q := ⟨_, Run_throw _ _ _ _ _ _ (.inr 0, M, κ) _ _ _ _ _ a h hq hκ.2 hz hh0 hr, K⟩
theorem c1s_r {av : List Value} (h : c1s av = true) : c1s (Value.ref k :: av) = true := h
/-- a call of a static method that leaves the memory -/
theorem w_callS {av rest : List Value} {v : Option Value} (h : ins z pc = some (i, nx, y, q, r, x)) (hi : ik i ≠ 3 ∧ y < 164 ∧ q < 6 ∧ av.length = r ∧ kOf q = 1) (hs : st = av.reverse ++ rest) (hc : c1s av = true) (hr : rm8 rest) (C : Run y (0, entL y av, [], M, κ) (.inl v, M1, κ1)) (K : RT z (nx, ls, v.toList ++ rest, M1, κ1) Q) : RT z (pc, ls, st, M, κ) Q := RT_step (fun o k => Run_call _ _ _ _ _ _ _ _ _ _ _ _ _ av rest v M1 κ1 h hi.1 hi.2.1 hi.2.2.1 hs hi.2.2.2.1 hc hr (fun e => absurd hi.2.2.2.2 e) C k) K
theorem w_callV {av rest : List Value} {v : Option Value} (h : ins z pc = some (i, nx, y, q, r, x)) (hi : ik i ≠ 3 ∧ y < 164 ∧ q < 6 ∧ av.length + 1 = r) (hκ : Rd κ) (ho : isOb k (oc y)) (hs : st = (Value.ref k :: av).reverse ++ rest) (hc : c1s av = true) (hr : rm8 rest) (C : Run y (0, entL y (.ref k :: av), [], M, κ) (.inl v, M1, κ1)) (K : RT z (nx, ls, v.toList ++ rest, M1, κ1) Q) : RT z (pc, ls, st, M, κ) Q := RT_step (fun o k' => Run_call _ _ _ _ _ _ _ _ _ _ _ _ _ (.ref k :: av) rest v M1 κ1 h hi.1 hi.2.1 hi.2.2.1 hs hi.2.2.2 (c1s_r hc) hr (fun _ => ⟨k, av, rfl, ho.1, hκ.1 ▸ ho.2⟩) C k') K
theorem w_callSI {av rest : List Value} (h : ins z pc = some (i, nx, y, q, r, x)) (hi : ik i ≠ 3 ∧ y < 164 ∧ q < 6 ∧ av.length = r ∧ kOf q = 1) (hs : st = av.reverse ++ rest) (hc : c1s av = true) (hr : rm8 rest) (C : RT y (0, entL y av, [], M, κ) (fun o => ∃ v M1 κ1, o = (.inl v, M1, κ1) ∧ RT z (nx, ls, v.toList ++ rest, M1, κ1) Q)) : RT z (pc, ls, st, M, κ) Q := by
  obtain ⟨o, k1, v, M1, κ1, rfl, k2⟩ := C
  exact w_callS h hi hs hc hr k1 k2
theorem w_callVI {av rest : List Value} (h : ins z pc = some (i, nx, y, q, r, x)) (hi : ik i ≠ 3 ∧ y < 164 ∧ q < 6 ∧ av.length + 1 = r) (hκ : Rd κ) (ho : isOb k (oc y)) (hs : st = (Value.ref k :: av).reverse ++ rest) (hc : c1s av = true) (hr : rm8 rest) (C : RT y (0, entL y (.ref k :: av), [], M, κ) (fun o => ∃ v M1 κ1, o = (.inl v, M1, κ1) ∧ RT z (nx, ls, v.toList ++ rest, M1, κ1) Q)) : RT z (pc, ls, st, M, κ) Q := by
  obtain ⟨o, k1, v, M1, κ1, rfl, k2⟩ := C
  exact w_callV h hi hκ ho hs hc hr k1 k2
/-- a call that may throw through us -/
theorem w_callVT {av rest : List Value} (h : ins z pc = some (i, nx, y, q, r, x)) (hi : ik i ≠ 3 ∧ y < 164 ∧ q < 6 ∧ av.length + 1 = r) (h0 : q = 0 ∧ z < 166 ∧ hh z = []) (hκ : Rd κ) (ho : isOb k (oc y)) (hs : st = (Value.ref k :: av).reverse ++ rest) (hc : c1s av = true) (hr : rm8 rest) (C : RT y (0, entL y (.ref k :: av), [], M, κ) (fun o => (∃ v M1 κ1, o = (.inl v, M1, κ1) ∧ RT z (nx, ls, v.toList ++ rest, M1, κ1) Q) ∨ ∃ f M1 κ1, o = (.inr f, M1, κ1) ∧ Q (.inr f, M1, κ1))) : RT z (pc, ls, st, M, κ) Q := by
  obtain ⟨o, k1, ⟨v, M1, κ1, rfl, k2⟩ | ⟨f, M1, κ1, rfl, k2⟩⟩ := C
  · exact w_callV h hi hκ ho hs hc hr k1 k2
  · exact ⟨_, Run_callT _ _ _ _ _ _ (.inr 0, M, κ) _ _ _ _ _ _ (.ref k :: av) rest f M1 κ1 h hi.1 hi.2.1 hi.2.2.1 hs hi.2.2.2 (c1s_r hc) hr (fun _ => ⟨k, av, rfl, ho.1, hκ.1 ▸ ho.2⟩) h0.1 h0.2.1 h0.2.2 k1, k2⟩
/-- a call of one that has handlers -/
theorem w_callVC {av rest : List Value} (h : ins z pc = some (i, nx, y, q, r, x)) (hi : ik i ≠ 3 ∧ y < 164 ∧ q < 6 ∧ av.length + 1 = r) (h0 : q = 0 ∧ z < 166) (hκ : Rd κ) (ho : isOb k (oc y)) (hs : st = (Value.ref k :: av).reverse ++ rest) (hc : c1s av = true) (hr : rm8 rest) (C : RT y (0, entL y (.ref k :: av), [], M, κ) (fun o => (∃ v M1 κ1, o = (.inl v, M1, κ1) ∧ RT z (nx, ls, v.toList ++ rest, M1, κ1) Q) ∨ ∃ f M1 κ1 w n hp, o = (.inr f, M1, κ1) ∧ (z, f, w, n, hp) ∈ hdL ∧ Q (.inl (some (.int w)), M1, κ1))) : RT z (pc, ls, st, M, κ) Q := by
  obtain ⟨o, k1, ⟨v, M1, κ1, rfl, k2⟩ | ⟨f, M1, κ1, w, n, hp, rfl, hm, k2⟩⟩ := C
  · exact w_callV h hi hκ ho hs hc hr k1 k2
  · exact ⟨_, Run_callC _ _ _ _ _ _ (.inr 0, M, κ) _ _ _ _ _ _ (.ref k :: av) rest f n hp M1 κ1 w h hi.1 hi.2.1 hi.2.2.1 hs hi.2.2.2 (c1s_r hc) hr (fun _ => ⟨k, av, rfl, ho.1, hκ.1 ▸ ho.2⟩) h0.1 h0.2 hm k1, k2⟩
end WALK
end
section
/-! OBJECTS AND CONDITIONS of the pure walk -/
section WBASE
def isBl (b : Nat) : Prop := ∃ x, x < 6 ∧ (b = 5 + 18 * x ∨ b = 12 + 18 * x)
def isPl (b : Nat) : Prop := ∃ x, x < 6 ∧ b = 19 + 18 * x
def isOc (o : Nat) : Prop := o = 126 ∨ o = 130
theorem bl_g {x : Nat} (h : x < 6) : isBl (5 + 18 * x) := ⟨x, h, .inl rfl⟩
theorem bl_b {x : Nat} (h : x < 6) : isBl (12 + 18 * x) := ⟨x, h, .inr rfl⟩
theorem pl_of {x : Nat} (h : x < 6) : isPl (19 + 18 * x) := ⟨x, h, rfl⟩
theorem bl_rng {b : Nat} (h : isBl b) : 5 ≤ b ∧ b ≤ 102 := by
  obtain ⟨x, hx, h | h⟩ := h <;> omega
theorem pl_rng {b : Nat} (h : isPl b) : 19 ≤ b ∧ b ≤ 109 := by
  obtain ⟨x, hx, h⟩ := h
  omega
theorem oc_rng {b : Nat} (h : isOc b) : 126 ≤ b ∧ b ≤ 130 := by
  obtain h | h := h <;> omega
theorem kd_bl : ∀ x, x < 6 → ∀ f, f < 7 → kd (5 + 18 * x + f) = (if f = 0 then 0 else 20) ∧ ln (5 + 18 * x + f) = (if f = 0 then 0 else 10) ∧ kd (12 + 18 * x + f) = (if f = 0 then 0 else 20) ∧ ln (12 + 18 * x + f) = (if f = 0 then 0 else 10) := by decide +kernel
theorem kd_pl : ∀ x, x < 6 → ∀ f, f < 4 → kd (19 + 18 * x + f) = (if f = 0 then 5 else 20) ∧ ln (19 + 18 * x + f) = (if f = 0 then 0 else 10) := by decide +kernel
theorem bl_ob {b : Nat} (h : isBl b) : isOb b 0 := by
  obtain ⟨x, hx, h⟩ := h
  have k := kd_bl x hx 0 (by decide)
  refine ⟨?_, by omega⟩
  obtain rfl | rfl := h
  · exact k.1
  · exact k.2.2.1
theorem bl_ar {b : Nat} (h : isBl b) (f : Nat) (hf : 1 ≤ f ∧ f ≤ 6) : isAr (b + f) 10 := by
  obtain ⟨x, hx, h⟩ := h
  have k := kd_bl x hx f (by omega)
  rw [if_neg (by omega), if_neg (by omega)] at k
  obtain rfl | rfl := h
  · exact ⟨k.1, k.2.1, by omega⟩
  · exact ⟨k.2.2.1, k.2.2.2, by omega⟩
theorem pl_ob {b : Nat} (h : isPl b) : isOb b 5 := by
  obtain ⟨x, hx, rfl⟩ := h
  exact ⟨(kd_pl x hx 0 (by decide)).1, by omega⟩
theorem pl_ar {b : Nat} (h : isPl b) (f : Nat) (hf : 1 ≤ f ∧ f ≤ 3) : isAr (b + f) 10 := by
  obtain ⟨x, hx, rfl⟩ := h
  have k := kd_pl x hx f (by omega)
  rw [if_neg (by omega), if_neg (by omega)] at k
  exact ⟨k.1, k.2, by omega⟩
theorem oc_ob {b : Nat} (h : isOc b) : isOb b 4 := by
  obtain rfl | rfl := h <;> exact ⟨by decide, by decide⟩
theorem oc_ar1 {b : Nat} (h : isOc b) : isAr (b + 1) 64 := by
  obtain rfl | rfl := h <;> exact ⟨by decide, by decide, by decide⟩
theorem oc_ar2 {b : Nat} (h : isOc b) : isAr (b + 2) 12 := by
  obtain rfl | rfl := h <;> exact ⟨by decide, by decide, by decide⟩
theorem oc_ar3 {b : Nat} (h : isOc b) : isAr (b + 3) 64 := by
  obtain rfl | rfl := h <;> exact ⟨by decide, by decide, by decide⟩
theorem oc_pos {b : Nat} (h : isOc b) : 0 < b ∧ b < 200 := by
  obtain rfl | rfl := h <;> decide
theorem vp_lt6 {x : Int32} {n : Nat} (h : vp_in x n) : x.toNatClampNeg < n := Nat.not_le.mp (fun c => h (.inr c))
theorem w_alen {z pc nx p q r k n : Nat} {x : Int32} {ls st : List Value} {M : Mem} {κ : Kp} {Q : Ou → Prop} (h : ins z pc = some (.arraylength, nx, p, q, r, x)) (hκ : Rd κ) (ho : isAr k n) (K : RT z (nx, ls, .int (Int32.ofNat n) :: st, M, κ) Q) : RT z (pc, ls, .ref k :: st, M, κ) Q := RT_step (fun o => Run_alen _ _ _ _ _ _ _ _ _ _ _ _ _ h ho.1 (hκ.1 ▸ ho.2.2)) (ho.2.1 ▸ K)
variable {a b : Nat} {x y : Int32}
theorem cN_lt (ha : a < 2147483648) (hb : b < 2147483648) : cnd2 .lt (nI a) (nI b) ↔ a < b := nI_ltI ha hb
theorem cN_ge (ha : a < 2147483648) (hb : b < 2147483648) : cnd2 .ge (nI a) (nI b) ↔ ¬ a < b := (nI_leI hb ha).trans (by omega)
theorem cN_gt (ha : a < 2147483648) (hb : b < 2147483648) : cnd2 .gt (nI a) (nI b) ↔ b < a := nI_ltI hb ha
theorem cN_le (ha : a < 2147483648) (hb : b < 2147483648) : cnd2 .le (nI a) (nI b) ↔ ¬ b < a := (nI_leI ha hb).trans (by omega)
theorem cN_eq (ha : a < 2147483648) (hb : b < 2147483648) : cnd2 .eq (nI a) (nI b) ↔ a = b := nI_eq ha hb
theorem cN_ne (ha : a < 2147483648) (hb : b < 2147483648) : cnd2 .ne (nI a) (nI b) ↔ ¬ a = b := not_congr (nI_eq ha hb)
theorem cZ_lt (ha : a < 2147483648) (hb : 0 < 2147483648) : cnd0 .lt (nI a) ↔ a < 0 := cN_lt ha hb
theorem cZ_ge (ha : a < 2147483648) (hb : 0 < 2147483648) : cnd0 .ge (nI a) ↔ ¬ a < 0 := cN_ge ha hb
theorem cZ_gt (ha : a < 2147483648) (hb : 0 < 2147483648) : cnd0 .gt (nI a) ↔ 0 < a := cN_gt ha hb
theorem cZ_le (ha : a < 2147483648) (hb : 0 < 2147483648) : cnd0 .le (nI a) ↔ ¬ 0 < a := cN_le ha hb
theorem cZ_eq (ha : a < 2147483648) (hb : 0 < 2147483648) : cnd0 .eq (nI a) ↔ a = 0 := cN_eq ha hb
theorem cZ_ne (ha : a < 2147483648) (hb : 0 < 2147483648) : cnd0 .ne (nI a) ↔ ¬ a = 0 := cN_ne ha hb
theorem cI_lt : cnd2 .lt x y ↔ x < y := Iff.rfl
theorem cI_ge : cnd2 .ge x y ↔ ¬ x < y := Int32.not_lt.symm
theorem cI_gt : cnd2 .gt x y ↔ y < x := Iff.rfl
theorem cI_le : cnd2 .le x y ↔ ¬ y < x := Int32.not_lt.symm
theorem cI_eq : cnd2 .eq x y ↔ x = y := Iff.rfl
theorem cI_ne : cnd2 .ne x y ↔ ¬ x = y := Iff.rfl
theorem cI0_lt : cnd0 .lt x ↔ x < 0 := Iff.rfl
theorem cI0_ge : cnd0 .ge x ↔ ¬ x < 0 := Int32.not_lt.symm
theorem cI0_gt : cnd0 .gt x ↔ 0 < x := Iff.rfl
theorem cI0_le : cnd0 .le x ↔ ¬ 0 < x := Int32.not_lt.symm
theorem cI0_eq : cnd0 .eq x ↔ x = 0 := Iff.rfl
theorem cI0_ne : cnd0 .ne x ↔ ¬ x = 0 := Iff.rfl
theorem cB_ne {e : Bool} : cnd0 .ne (bI e) ↔ e = true := (not_congr (Iff.rfl.trans bI_z)).trans (by cases e <;> decide)
theorem cB_eq {e : Bool} : cnd0 .eq (bI e) ↔ ¬ e = true := bI_z
end WBASE
end
section
/-! LEAF METHODS: what they answer -/
section P_20_leaf
theorem tgd {x : Int32} {pc t : Nat} {d lo hi : Int} {offs : Array Int} (h : x.toInt < lo ∨ hi < x.toInt) (h2 : decide ((pc : Int) + d = (t : Int)) = true) : tgtOk pc (.tableswitch d lo hi offs) x t = true := by
  show (if x.toInt < lo ∨ hi < x.toInt then decide ((pc : Int) + d = (t : Int)) else _) = true
  rw [if_pos h]
  exact h2
def inR (l x m : Int32) : Bool := if x < l then false else if m < x then false else true
def outR (v l h : Int32) : Bool := if v < l then true else if h < v then true else false
def isP (c : Int32) : Bool := if c < 7 then false else true
def isW (c : Int32) : Bool := if 7 < c then false else true
def goes (c : Int32) : Bool := if c = 0 then false else true
def forks (c : Int32) : Bool := if c = 2 then true else false
def sbt (c : Int32) : Bool := if c = 6 then true else if c = 9 then true else if c = 8 then true else false
def ordF (c d : Int32) : Bool := decide ((c = 9 ∧ d = 9) ∨ (c = 6 ∧ (d = 6 ∨ d = 9 ∨ d = 8)) ∨ (d = 6 ∧ (c = 6 ∨ c = 9 ∨ c = 8)))
def latF (pl mu di lo c : Int32) : Int32 := if c = 4 then mu else if c = 5 then pl else if c = 6 then di else if c = 7 then lo else if c = 8 then 1 else if c = 9 then 1 else pl
def wrF (c d : Int32) : Int32 := if c < 8 then d else -1
def rdF (c a b g v : Int32) : Bool := decide (¬ v = -1 ∧ ((¬ c = 0 ∧ a = v) ∨ (((¬ c < 2 ∧ ¬ 6 < c) ∨ c = 8) ∧ b = v) ∨ ab g - 1 = v))
def rdM (c a b g v : Int32) : Bool := decide ((¬ c = 0 ∧ a = v) ∨ ((c = 2 ∨ c = 3 ∨ c = 4 ∨ c = 5 ∨ c = 6 ∨ c = 8) ∧ b = v) ∨ g = 1 + v ∨ g = -1 - v)
def wsM (c d v : Int32) : Bool := decide (¬ 7 < c ∧ d = v)
def memF (c : Int32) : Bool := decide (c = 7 ∨ c = 8)
def stpF (c d a g : Int32) : Bool := decide (c = 1 ∧ d = a ∧ g = 0)
def comF (e t f y : Int32) : Bool := decide ((¬ e = 0 ∧ t = y) ∨ (e = 2 ∧ f = y))
def dvF (c r : Int32) : Int32 := if 0 < r then c / r else 0
def rmF (c r : Int32) : Int32 := if 0 < r then rm c r else 0
variable {Q : Ou → Prop} {M : Mem} {κ : Kp}
theorem lt0_ne {r : Int32} (h : 0 < r) : ¬ r = 0 := fun e => by rw [e] at h; exact absurd h (by decide)
theorem i_81_0 : ins 81 0 = some (.iload_n 1, 1, 1, 0, 0, 0) := rfl
theorem i_81_1 : ins 81 1 = some (.iload_n 0, 2, 0, 0, 0, 0) := rfl
theorem i_81_2 : ins 81 2 = some (.if_icmp .lt 12, 5, 14, 0, 0, 0) := rfl
theorem i_81_5 : ins 81 5 = some (.iload_n 1, 6, 1, 0, 0, 0) := rfl
theorem i_81_6 : ins 81 6 = some (.iload_n 2, 7, 2, 0, 0, 0) := rfl
theorem i_81_7 : ins 81 7 = some (.if_icmp .gt 7, 10, 14, 0, 0, 0) := rfl
theorem i_81_10 : ins 81 10 = some (.iconst 1, 11, 0, 0, 0, 1) := rfl
theorem i_81_11 : ins 81 11 = some (.goto 4, 14, 15, 0, 0, 0) := rfl
theorem i_81_14 : ins 81 14 = some (.iconst 0, 15, 0, 0, 0, 0) := rfl
theorem i_81_15 : ins 81 15 = some (.ireturn, 16, 0, 0, 0, 0) := rfl
theorem S81_0 {Q : Ou → Prop} {M : Mem} {κ : Kp} (hκ : Rd κ)  {l : Int32} {x : Int32} {m : Int32}
    (k1 : Q (.inl (some (.int (bI (if x < l then false else (if m < x then false else true))))), M, κ))
    : RT 81 (0, [.int l, .int x, .int m], [], M, κ) Q := by
  refine w_load i_81_0 rfl rfl ?_
  refine w_load i_81_1 rfl rfl ?_
  have K1 : RT 81 (15, [.int l, .int x, .int m], [.int (bI (if x < l then false else (if m < x then false else true)))], M, κ) Q := by
    exact w_iret i_81_15 (.inr ⟨rfl, isB_bI _⟩) (k1)
  refine w_if2 (x < l) i_81_2 cI_lt ?_ ?_
  · intro h2
    refine w_push i_81_14 rfl ?_
    exact (by first | exact (K1) | (have K9 := K1; simp only [↓if_pos h2] at K9 ⊢; exact (K9)))
  · intro h3
    refine w_load i_81_5 rfl rfl ?_
    refine w_load i_81_6 rfl rfl ?_
    refine w_if2 (m < x) i_81_7 cI_gt ?_ ?_
    · intro h4
      refine w_push i_81_14 rfl ?_
      exact (by first | exact (K1) | (have K9 := K1; simp only [↓if_neg h3, ↓if_pos h4] at K9 ⊢; exact (K9)))
    · intro h5
      refine w_push i_81_10 rfl ?_
      refine w_goto i_81_11 ?_
      exact (by first | exact (K1) | (have K9 := K1; simp only [↓if_neg h3, ↓if_neg h5] at K9 ⊢; exact (K9)))
theorem c81 (hκ : Rd κ) {l : Int32} {x : Int32} {m : Int32} : Run 81 (0, entL 81 [.int l, .int x, .int m], [], M, κ) (.inl (some (.int (bI (inR l x m)))), M, κ) := RT_run (S81_0 hκ rfl)
theorem i_83_0 : ins 83 0 = some (.iload_n 0, 1, 0, 0, 0, 0) := rfl
theorem i_83_1 : ins 83 1 = some (.bipush 7, 3, 0, 0, 0, 7) := rfl
theorem i_83_3 : ins 83 3 = some (.if_icmp .lt 7, 6, 10, 0, 0, 0) := rfl
theorem i_83_6 : ins 83 6 = some (.iconst 1, 7, 0, 0, 0, 1) := rfl
theorem i_83_7 : ins 83 7 = some (.goto 4, 10, 11, 0, 0, 0) := rfl
theorem i_83_10 : ins 83 10 = some (.iconst 0, 11, 0, 0, 0, 0) := rfl
theorem i_83_11 : ins 83 11 = some (.ireturn, 12, 0, 0, 0, 0) := rfl
theorem S83_0 {Q : Ou → Prop} {M : Mem} {κ : Kp} (hκ : Rd κ)  {c : Int32}
    (k1 : Q (.inl (some (.int (bI (if c < 7 then false else true)))), M, κ))
    : RT 83 (0, [.int c], [], M, κ) Q := by
  refine w_load i_83_0 rfl rfl ?_
  refine w_push i_83_1 rfl ?_
  have K1 : RT 83 (11, [.int c], [.int (bI (if c < 7 then false else true))], M, κ) Q := by
    exact w_iret i_83_11 (.inr ⟨rfl, isB_bI _⟩) (k1)
  refine w_if2 (c < 7) i_83_3 cI_lt ?_ ?_
  · intro h2
    refine w_push i_83_10 rfl ?_
    exact (by first | exact (K1) | (have K9 := K1; simp only [↓if_pos h2] at K9 ⊢; exact (K9)))
  · intro h3
    refine w_push i_83_6 rfl ?_
    refine w_goto i_83_7 ?_
    exact (by first | exact (K1) | (have K9 := K1; simp only [↓if_neg h3] at K9 ⊢; exact (K9)))
theorem c83 (hκ : Rd κ) {c : Int32} : Run 83 (0, entL 83 [.int c], [], M, κ) (.inl (some (.int (bI (isP c)))), M, κ) := RT_run (S83_0 hκ rfl)
theorem i_84_0 : ins 84 0 = some (.iload_n 0, 1, 0, 0, 0, 0) := rfl
theorem i_84_1 : ins 84 1 = some (.bipush 63, 3, 0, 0, 0, 63) := rfl
theorem i_84_3 : ins 84 3 = some (.iand, 4, 0, 0, 0, 0) := rfl
theorem i_84_4 : ins 84 4 = some (.ireturn, 5, 0, 0, 0, 0) := rfl
theorem S84_0 {Q : Ou → Prop} {M : Mem} {κ : Kp} (hκ : Rd κ)  {a : Int32}
    (k1 : Q (.inl (some (.int (a &&& 63))), M, κ))
    : RT 84 (0, [.int a], [], M, κ) Q := by
  refine w_load i_84_0 rfl rfl ?_
  refine w_push i_84_1 rfl ?_
  refine w_bin (w := (a &&& 63)) i_84_3 rfl rfl ?_
  exact w_iret i_84_4 (.inl rfl) (k1)
theorem c84 (hκ : Rd κ) {a : Int32} : Run 84 (0, entL 84 [.int a], [], M, κ) (.inl (some (.int (a &&& 63))), M, κ) := RT_run (S84_0 hκ rfl)
theorem i_21_0 : ins 21 0 = some (.iload_n 0, 1, 0, 0, 0, 0) := rfl
theorem i_21_1 : ins 21 1 = some (.bipush 6, 3, 0, 0, 0, 6) := rfl
theorem i_21_3 : ins 21 3 = some (.if_icmp .eq 15, 6, 18, 0, 0, 0) := rfl
theorem i_21_6 : ins 21 6 = some (.iload_n 0, 7, 0, 0, 0, 0) := rfl
theorem i_21_7 : ins 21 7 = some (.bipush 9, 9, 0, 0, 0, 9) := rfl
theorem i_21_9 : ins 21 9 = some (.if_icmp .eq 9, 12, 18, 0, 0, 0) := rfl
theorem i_21_12 : ins 21 12 = some (.iload_n 0, 13, 0, 0, 0, 0) := rfl
theorem i_21_13 : ins 21 13 = some (.bipush 8, 15, 0, 0, 0, 8) := rfl
theorem i_21_15 : ins 21 15 = some (.if_icmp .ne 7, 18, 22, 0, 0, 0) := rfl
theorem i_21_18 : ins 21 18 = some (.iconst 1, 19, 0, 0, 0, 1) := rfl
theorem i_21_19 : ins 21 19 = some (.goto 4, 22, 23, 0, 0, 0) := rfl
theorem i_21_22 : ins 21 22 = some (.iconst 0, 23, 0, 0, 0, 0) := rfl
theorem i_21_23 : ins 21 23 = some (.ireturn, 24, 0, 0, 0, 0) := rfl
theorem S21_0 {Q : Ou → Prop} {M : Mem} {κ : Kp} (hκ : Rd κ)  {c : Int32}
    (k1 : Q (.inl (some (.int (bI (if c = 6 then true else (if c = 9 then true else (if c = 8 then true else false)))))), M, κ))
    : RT 21 (0, [.int c], [], M, κ) Q := by
  refine w_load i_21_0 rfl rfl ?_
  refine w_push i_21_1 rfl ?_
  have K1 : RT 21 (23, [.int c], [.int (bI (if c = 6 then true else (if c = 9 then true else (if c = 8 then true else false))))], M, κ) Q := by
    exact w_iret i_21_23 (.inr ⟨rfl, isB_bI _⟩) (k1)
  refine w_if2 (c = 6) i_21_3 cI_eq ?_ ?_
  · intro h2
    refine w_push i_21_18 rfl ?_
    refine w_goto i_21_19 ?_
    exact (by first | exact (K1) | (have K9 := K1; simp only [↓if_pos h2] at K9 ⊢; exact (K9)))
  · intro h3
    refine w_load i_21_6 rfl rfl ?_
    refine w_push i_21_7 rfl ?_
    refine w_if2 (c = 9) i_21_9 cI_eq ?_ ?_
    · intro h4
      refine w_push i_21_18 rfl ?_
      refine w_goto i_21_19 ?_
      exact (by first | exact (K1) | (have K9 := K1; simp only [↓if_neg h3, ↓if_pos h4] at K9 ⊢; exact (K9)))
    · intro h5
      refine w_load i_21_12 rfl rfl ?_
      refine w_push i_21_13 rfl ?_
      refine w_if2n (c = 8) i_21_15 cI_ne ?_ ?_
      · intro h6
        refine w_push i_21_18 rfl ?_
        refine w_goto i_21_19 ?_
        exact (by first | exact (K1) | (have K9 := K1; simp only [↓if_neg h3, ↓if_neg h5, ↓if_pos h6] at K9 ⊢; exact (K9)))
      · intro h7
        refine w_push i_21_22 rfl ?_
        exact (by first | exact (K1) | (have K9 := K1; simp only [↓if_neg h3, ↓if_neg h5, ↓if_neg h7] at K9 ⊢; exact (K9)))
theorem c21 (hκ : Rd κ) {c : Int32} : Run 21 (0, entL 21 [.int c], [], M, κ) (.inl (some (.int (bI (sbt c)))), M, κ) := RT_run (S21_0 hκ rfl)
theorem i_95_0 : ins 95 0 = some (.iload_n 0, 1, 0, 0, 0, 0) := rfl
theorem i_95_1 : ins 95 1 = some (.iload_n 1, 2, 1, 0, 0, 0) := rfl
theorem i_95_2 : ins 95 2 = some (.if_icmp .lt 8, 5, 10, 0, 0, 0) := rfl
theorem i_95_5 : ins 95 5 = some (.iload_n 0, 6, 0, 0, 0, 0) := rfl
theorem i_95_6 : ins 95 6 = some (.iload_n 2, 7, 2, 0, 0, 0) := rfl
theorem i_95_7 : ins 95 7 = some (.if_icmp .le 7, 10, 14, 0, 0, 0) := rfl
theorem i_95_10 : ins 95 10 = some (.iconst 1, 11, 0, 0, 0, 1) := rfl
theorem i_95_11 : ins 95 11 = some (.goto 4, 14, 15, 0, 0, 0) := rfl
theorem i_95_14 : ins 95 14 = some (.iconst 0, 15, 0, 0, 0, 0) := rfl
theorem i_95_15 : ins 95 15 = some (.ireturn, 16, 0, 0, 0, 0) := rfl
theorem S95_0 {Q : Ou → Prop} {M : Mem} {κ : Kp} (hκ : Rd κ)  {v : Int32} {l : Int32} {h : Int32}
    (k1 : Q (.inl (some (.int (bI (if v < l then true else (if h < v then true else false))))), M, κ))
    : RT 95 (0, [.int v, .int l, .int h], [], M, κ) Q := by
  refine w_load i_95_0 rfl rfl ?_
  refine w_load i_95_1 rfl rfl ?_
  have K1 : RT 95 (15, [.int v, .int l, .int h], [.int (bI (if v < l then true else (if h < v then true else false)))], M, κ) Q := by
    exact w_iret i_95_15 (.inr ⟨rfl, isB_bI _⟩) (k1)
  refine w_if2 (v < l) i_95_2 cI_lt ?_ ?_
  · intro h2
    refine w_push i_95_10 rfl ?_
    refine w_goto i_95_11 ?_
    exact (by first | exact (K1) | (have K9 := K1; simp only [↓if_pos h2] at K9 ⊢; exact (K9)))
  · intro h3
    refine w_load i_95_5 rfl rfl ?_
    refine w_load i_95_6 rfl rfl ?_
    refine w_if2n (h < v) i_95_7 cI_le ?_ ?_
    · intro h4
      refine w_push i_95_10 rfl ?_
      refine w_goto i_95_11 ?_
      exact (by first | exact (K1) | (have K9 := K1; simp only [↓if_neg h3, ↓if_pos h4] at K9 ⊢; exact (K9)))
    · intro h5
      refine w_push i_95_14 rfl ?_
      exact (by first | exact (K1) | (have K9 := K1; simp only [↓if_neg h3, ↓if_neg h5] at K9 ⊢; exact (K9)))
theorem c95 (hκ : Rd κ) {v : Int32} {l : Int32} {h : Int32} : Run 95 (0, entL 95 [.int v, .int l, .int h], [], M, κ) (.inl (some (.int (bI (outR v l h)))), M, κ) := RT_run (S95_0 hκ rfl)
theorem i_103_0 : ins 103 0 = some (.iload_n 0, 1, 0, 0, 0, 0) := rfl
theorem i_103_1 : ins 103 1 = some (.ifCond .eq 7, 4, 8, 0, 0, 0) := rfl
theorem i_103_4 : ins 103 4 = some (.iconst 1, 5, 0, 0, 0, 1) := rfl
theorem i_103_5 : ins 103 5 = some (.goto 4, 8, 9, 0, 0, 0) := rfl
theorem i_103_8 : ins 103 8 = some (.iconst 0, 9, 0, 0, 0, 0) := rfl
theorem i_103_9 : ins 103 9 = some (.ireturn, 10, 0, 0, 0, 0) := rfl
theorem S103_0 {Q : Ou → Prop} {M : Mem} {κ : Kp} (hκ : Rd κ)  {v : Int32}
    (k1 : Q (.inl (some (.int (bI (if v = 0 then false else true)))), M, κ))
    : RT 103 (0, [.int v], [], M, κ) Q := by
  refine w_load i_103_0 rfl rfl ?_
  have K1 : RT 103 (9, [.int v], [.int (bI (if v = 0 then false else true))], M, κ) Q := by
    exact w_iret i_103_9 (.inr ⟨rfl, isB_bI _⟩) (k1)
  refine w_if0 (v = 0) i_103_1 cI0_eq ?_ ?_
  · intro h2
    refine w_push i_103_8 rfl ?_
    exact (by first | exact (K1) | (have K9 := K1; simp only [↓if_pos h2] at K9 ⊢; exact (K9)))
  · intro h3
    refine w_push i_103_4 rfl ?_
    refine w_goto i_103_5 ?_
    exact (by first | exact (K1) | (have K9 := K1; simp only [↓if_neg h3] at K9 ⊢; exact (K9)))
theorem c103 (hκ : Rd κ) {v : Int32} : Run 103 (0, entL 103 [.int v], [], M, κ) (.inl (some (.int (bI (goes v)))), M, κ) := RT_run (S103_0 hκ rfl)
theorem i_104_0 : ins 104 0 = some (.iload_n 0, 1, 0, 0, 0, 0) := rfl
theorem i_104_1 : ins 104 1 = some (.iconst 2, 2, 0, 0, 0, 2) := rfl
theorem i_104_2 : ins 104 2 = some (.if_icmp .ne 7, 5, 9, 0, 0, 0) := rfl
theorem i_104_5 : ins 104 5 = some (.iconst 1, 6, 0, 0, 0, 1) := rfl
theorem i_104_6 : ins 104 6 = some (.goto 4, 9, 10, 0, 0, 0) := rfl
theorem i_104_9 : ins 104 9 = some (.iconst 0, 10, 0, 0, 0, 0) := rfl
theorem i_104_10 : ins 104 10 = some (.ireturn, 11, 0, 0, 0, 0) := rfl
theorem S104_0 {Q : Ou → Prop} {M : Mem} {κ : Kp} (hκ : Rd κ)  {v : Int32}
    (k1 : Q (.inl (some (.int (bI (if v = 2 then true else false)))), M, κ))
    : RT 104 (0, [.int v], [], M, κ) Q := by
  refine w_load i_104_0 rfl rfl ?_
  refine w_push i_104_1 rfl ?_
  have K1 : RT 104 (10, [.int v], [.int (bI (if v = 2 then true else false))], M, κ) Q := by
    exact w_iret i_104_10 (.inr ⟨rfl, isB_bI _⟩) (k1)
  refine w_if2n (v = 2) i_104_2 cI_ne ?_ ?_
  · intro h2
    refine w_push i_104_5 rfl ?_
    refine w_goto i_104_6 ?_
    exact (by first | exact (K1) | (have K9 := K1; simp only [↓if_pos h2] at K9 ⊢; exact (K9)))
  · intro h3
    refine w_push i_104_9 rfl ?_
    exact (by first | exact (K1) | (have K9 := K1; simp only [↓if_neg h3] at K9 ⊢; exact (K9)))
theorem c104 (hκ : Rd κ) {v : Int32} : Run 104 (0, entL 104 [.int v], [], M, κ) (.inl (some (.int (bI (forks v)))), M, κ) := RT_run (S104_0 hκ rfl)
theorem i_105_0 : ins 105 0 = some (.iload_n 0, 1, 0, 0, 0, 0) := rfl
theorem i_105_1 : ins 105 1 = some (.bipush 7, 3, 0, 0, 0, 7) := rfl
theorem i_105_3 : ins 105 3 = some (.if_icmp .gt 7, 6, 10, 0, 0, 0) := rfl
theorem i_105_6 : ins 105 6 = some (.iconst 1, 7, 0, 0, 0, 1) := rfl
theorem i_105_7 : ins 105 7 = some (.goto 4, 10, 11, 0, 0, 0) := rfl
theorem i_105_10 : ins 105 10 = some (.iconst 0, 11, 0, 0, 0, 0) := rfl
theorem i_105_11 : ins 105 11 = some (.ireturn, 12, 0, 0, 0, 0) := rfl
theorem S105_0 {Q : Ou → Prop} {M : Mem} {κ : Kp} (hκ : Rd κ)  {v : Int32}
    (k1 : Q (.inl (some (.int (bI (if 7 < v then false else true)))), M, κ))
    : RT 105 (0, [.int v], [], M, κ) Q := by
  refine w_load i_105_0 rfl rfl ?_
  refine w_push i_105_1 rfl ?_
  have K1 : RT 105 (11, [.int v], [.int (bI (if 7 < v then false else true))], M, κ) Q := by
    exact w_iret i_105_11 (.inr ⟨rfl, isB_bI _⟩) (k1)
  refine w_if2 (7 < v) i_105_3 cI_gt ?_ ?_
  · intro h2
    refine w_push i_105_10 rfl ?_
    exact (by first | exact (K1) | (have K9 := K1; simp only [↓if_pos h2] at K9 ⊢; exact (K9)))
  · intro h3
    refine w_push i_105_6 rfl ?_
    refine w_goto i_105_7 ?_
    exact (by first | exact (K1) | (have K9 := K1; simp only [↓if_neg h3] at K9 ⊢; exact (K9)))
theorem c105 (hκ : Rd κ) {v : Int32} : Run 105 (0, entL 105 [.int v], [], M, κ) (.inl (some (.int (bI (isW v)))), M, κ) := RT_run (S105_0 hκ rfl)
theorem i_15_0 : ins 15 0 = some (.iload_n 0, 1, 0, 0, 0, 0) := rfl
theorem i_15_1 : ins 15 1 = some (.bipush 10, 3, 0, 0, 0, 10) := rfl
theorem i_15_3 : ins 15 3 = some (.imul, 4, 0, 0, 0, 0) := rfl
theorem i_15_4 : ins 15 4 = some (.iload_n 1, 5, 1, 0, 0, 0) := rfl
theorem i_15_5 : ins 15 5 = some (.iadd, 6, 0, 0, 0, 0) := rfl
theorem i_15_6 : ins 15 6 = some (.ireturn, 7, 0, 0, 0, 0) := rfl
theorem S15_0 {Q : Ou → Prop} {M : Mem} {κ : Kp} (hκ : Rd κ)  {a : Int32} {b : Int32}
    (k1 : Q (.inl (some (.int ((a * 10) + b))), M, κ))
    : RT 15 (0, [.int a, .int b], [], M, κ) Q := by
  refine w_load i_15_0 rfl rfl ?_
  refine w_push i_15_1 rfl ?_
  refine w_bin (w := (a * 10)) i_15_3 rfl rfl ?_
  refine w_load i_15_4 rfl rfl ?_
  refine w_bin (w := ((a * 10) + b)) i_15_5 rfl rfl ?_
  exact w_iret i_15_6 (.inl rfl) (k1)
theorem c15 (hκ : Rd κ) {a : Int32} {b : Int32} : Run 15 (0, entL 15 [.int a, .int b], [], M, κ) (.inl (some (.int (a * 10 + b))), M, κ) := RT_run (S15_0 hκ rfl)
theorem c15N (hκ : Rd κ) {a b : Nat} : Run 15 (0, entL 15 [.int (nI a), .int (nI b)], [], M, κ) (.inl (some (.int (nI (a * 10 + b)))), M, κ) := by rw [← nI_add, ← nI_mul]; exact c15 hκ
theorem i_82_0 : ins 82 0 = some (.iconst 0, 1, 0, 0, 0, 0) := rfl
theorem i_82_1 : ins 82 1 = some (.iload_n 0, 2, 0, 0, 0, 0) := rfl
theorem i_82_2 : ins 82 2 = some (.bipush 11, 4, 0, 0, 0, 11) := rfl
theorem i_82_4 : ins 82 4 = some (.invokestatic 65, 7, 81, 1, 3, 0) := rfl
theorem i_82_7 : ins 82 7 = some (.ireturn, 8, 0, 0, 0, 0) := rfl
theorem S82_0 {Q : Ou → Prop} {M : Mem} {κ : Kp} (hκ : Rd κ)  {v : Int32}
    (k1 : Q (.inl (some (.int (bI (inR 0 v 11)))), M, κ))
    : RT 82 (0, [.int v], [], M, κ) Q := by
  refine w_push i_82_0 rfl ?_
  refine w_load i_82_1 rfl rfl ?_
  refine w_push i_82_2 rfl ?_
  refine w_callS i_82_4 ⟨by decide, by decide, by decide, rfl, rfl⟩ (av := [.int 0, .int v, .int 11]) (rest := []) rfl rfl (Nat.le_of_ble_eq_true rfl) (v := some (.int (bI (inR 0 v 11)))) (c81 hκ) ?_
  exact w_iret i_82_7 (.inr ⟨rfl, isB_bI _⟩) (k1)
theorem c82 (hκ : Rd κ) {v : Int32} : Run 82 (0, entL 82 [.int v], [], M, κ) (.inl (some (.int (bI (inR 0 v 11)))), M, κ) := RT_run (S82_0 hκ rfl)
theorem i_96_0 : ins 96 0 = some (.iload_n 0, 1, 0, 0, 0, 0) := rfl
theorem i_96_1 : ins 96 1 = some (.iconst 1, 2, 0, 0, 0, 1) := rfl
theorem i_96_2 : ins 96 2 = some (.bipush 8, 4, 0, 0, 0, 8) := rfl
theorem i_96_4 : ins 96 4 = some (.invokestatic 162, 7, 95, 1, 3, 0) := rfl
theorem i_96_7 : ins 96 7 = some (.ifCond .ne 7, 10, 14, 0, 0, 0) := rfl
theorem i_96_10 : ins 96 10 = some (.iconst 1, 11, 0, 0, 0, 1) := rfl
theorem i_96_11 : ins 96 11 = some (.goto 4, 14, 15, 0, 0, 0) := rfl
theorem i_96_14 : ins 96 14 = some (.iconst 0, 15, 0, 0, 0, 0) := rfl
theorem i_96_15 : ins 96 15 = some (.ireturn, 16, 0, 0, 0, 0) := rfl
theorem S96_0 {Q : Ou → Prop} {M : Mem} {κ : Kp} (hκ : Rd κ)  {v : Int32}
    (k1 : Q (.inl (some (.int (bI (if (outR v 1 8) = true then false else true)))), M, κ))
    : RT 96 (0, [.int v], [], M, κ) Q := by
  refine w_load i_96_0 rfl rfl ?_
  refine w_push i_96_1 rfl ?_
  refine w_push i_96_2 rfl ?_
  refine w_callS i_96_4 ⟨by decide, by decide, by decide, rfl, rfl⟩ (av := [.int v, .int 1, .int 8]) (rest := []) rfl rfl (Nat.le_of_ble_eq_true rfl) (v := some (.int (bI (outR v 1 8)))) (c95 hκ) ?_
  have K1 : RT 96 (15, [.int v], [.int (bI (if (outR v 1 8) = true then false else true))], M, κ) Q := by
    exact w_iret i_96_15 (.inr ⟨rfl, isB_bI _⟩) (k1)
  refine w_if0 ((outR v 1 8) = true) i_96_7 cB_ne ?_ ?_
  · intro h2
    refine w_push i_96_14 rfl ?_
    exact (by first | exact (K1) | (have K9 := K1; simp only [↓if_pos h2] at K9 ⊢; exact (K9)))
  · intro h3
    refine w_push i_96_10 rfl ?_
    refine w_goto i_96_11 ?_
    exact (by first | exact (K1) | (have K9 := K1; simp only [↓if_neg h3] at K9 ⊢; exact (K9)))
theorem c96 (hκ : Rd κ) {v : Int32} : Run 96 (0, entL 96 [.int v], [], M, κ) (.inl (some (.int (bI (!outR v 1 8)))), M, κ) := RT_run (S96_0 hκ (by cases outR v 1 8 <;> rfl))
theorem i_62_0 : ins 62 0 = some (.iload_n 1, 1, 1, 0, 0, 0) := rfl
theorem i_62_1 : ins 62 1 = some (.ifCond .le 9, 4, 10, 0, 0, 0) := rfl
theorem i_62_4 : ins 62 4 = some (.iload_n 0, 5, 0, 0, 0, 0) := rfl
theorem i_62_5 : ins 62 5 = some (.iload_n 1, 6, 1, 0, 0, 0) := rfl
theorem i_62_6 : ins 62 6 = some (.idiv, 7, 0, 0, 0, 0) := rfl
theorem i_62_7 : ins 62 7 = some (.goto 4, 10, 11, 0, 0, 0) := rfl
theorem i_62_10 : ins 62 10 = some (.iconst 0, 11, 0, 0, 0, 0) := rfl
theorem i_62_11 : ins 62 11 = some (.ireturn, 12, 0, 0, 0, 0) := rfl
theorem S62_0 {Q : Ou → Prop} {M : Mem} {κ : Kp} (hκ : Rd κ)  {c : Int32} {r : Int32}
    (o1 : 0 < r → ¬ r = 0)
    (k1 : Q (.inl (some (.int (if 0 < r then (c / r) else 0))), M, κ))
    : RT 62 (0, [.int c, .int r], [], M, κ) Q := by
  refine w_load i_62_0 rfl rfl ?_
  have K1 : RT 62 (11, [.int c, .int r], [.int (if 0 < r then (c / r) else 0)], M, κ) Q := by
    exact w_iret i_62_11 (.inl rfl) (k1)
  refine w_if0n (0 < r) i_62_1 cI0_le ?_ ?_
  · intro h2
    refine w_load i_62_4 rfl rfl ?_
    refine w_load i_62_5 rfl rfl ?_
    refine w_div (w := (c / r)) i_62_6 rfl (o1 h2) rfl ?_
    refine w_goto i_62_7 ?_
    exact (by first | exact (K1) | (have K9 := K1; simp only [↓if_pos h2] at K9 ⊢; exact (K9)))
  · intro h3
    refine w_push i_62_10 rfl ?_
    exact (by first | exact (K1) | (have K9 := K1; simp only [↓if_neg h3] at K9 ⊢; exact (K9)))
theorem c62 (hκ : Rd κ) {c r : Int32} : Run 62 (0, entL 62 [.int c, .int r], [], M, κ) (.inl (some (.int (dvF c r))), M, κ) := RT_run (S62_0 hκ lt0_ne rfl)
theorem i_63_0 : ins 63 0 = some (.iload_n 1, 1, 1, 0, 0, 0) := rfl
theorem i_63_1 : ins 63 1 = some (.ifCond .le 9, 4, 10, 0, 0, 0) := rfl
theorem i_63_4 : ins 63 4 = some (.iload_n 0, 5, 0, 0, 0, 0) := rfl
theorem i_63_5 : ins 63 5 = some (.iload_n 1, 6, 1, 0, 0, 0) := rfl
theorem i_63_6 : ins 63 6 = some (.irem, 7, 0, 0, 0, 0) := rfl
theorem i_63_7 : ins 63 7 = some (.goto 4, 10, 11, 0, 0, 0) := rfl
theorem i_63_10 : ins 63 10 = some (.iconst 0, 11, 0, 0, 0, 0) := rfl
theorem i_63_11 : ins 63 11 = some (.ireturn, 12, 0, 0, 0, 0) := rfl
theorem S63_0 {Q : Ou → Prop} {M : Mem} {κ : Kp} (hκ : Rd κ)  {c : Int32} {r : Int32}
    (o1 : 0 < r → ¬ r = 0)
    (k1 : Q (.inl (some (.int (if 0 < r then (rm c r) else 0))), M, κ))
    : RT 63 (0, [.int c, .int r], [], M, κ) Q := by
  refine w_load i_63_0 rfl rfl ?_
  have K1 : RT 63 (11, [.int c, .int r], [.int (if 0 < r then (rm c r) else 0)], M, κ) Q := by
    exact w_iret i_63_11 (.inl rfl) (k1)
  refine w_if0n (0 < r) i_63_1 cI0_le ?_ ?_
  · intro h2
    refine w_load i_63_4 rfl rfl ?_
    refine w_load i_63_5 rfl rfl ?_
    refine w_div (w := (rm c r)) i_63_6 rfl (o1 h2) rfl ?_
    refine w_goto i_63_7 ?_
    exact (by first | exact (K1) | (have K9 := K1; simp only [↓if_pos h2] at K9 ⊢; exact (K9)))
  · intro h3
    refine w_push i_63_10 rfl ?_
    exact (by first | exact (K1) | (have K9 := K1; simp only [↓if_neg h3] at K9 ⊢; exact (K9)))
theorem c63 (hκ : Rd κ) {c r : Int32} : Run 63 (0, entL 63 [.int c, .int r], [], M, κ) (.inl (some (.int (rmF c r))), M, κ) := RT_run (S63_0 hκ lt0_ne rfl)
theorem i_20_0 : ins 20 0 = some (.iload_n 0, 1, 0, 0, 0, 0) := rfl
theorem i_20_1 : ins 20 1 = some (.bipush 9, 3, 0, 0, 0, 9) := rfl
theorem i_20_3 : ins 20 3 = some (.if_icmp .ne 9, 6, 12, 0, 0, 0) := rfl
theorem i_20_6 : ins 20 6 = some (.iload_n 1, 7, 1, 0, 0, 0) := rfl
theorem i_20_7 : ins 20 7 = some (.bipush 9, 9, 0, 0, 0, 9) := rfl
theorem i_20_9 : ins 20 9 = some (.if_icmp .eq 29, 12, 38, 0, 0, 0) := rfl
theorem i_20_12 : ins 20 12 = some (.iload_n 0, 13, 0, 0, 0, 0) := rfl
theorem i_20_13 : ins 20 13 = some (.bipush 6, 15, 0, 0, 0, 6) := rfl
theorem i_20_15 : ins 20 15 = some (.if_icmp .ne 10, 18, 25, 0, 0, 0) := rfl
theorem i_20_18 : ins 20 18 = some (.iload_n 1, 19, 1, 0, 0, 0) := rfl
theorem i_20_19 : ins 20 19 = some (.invokestatic 101, 22, 21, 1, 1, 0) := rfl
theorem i_20_22 : ins 20 22 = some (.ifCond .ne 16, 25, 38, 0, 0, 0) := rfl
theorem i_20_25 : ins 20 25 = some (.iload_n 1, 26, 1, 0, 0, 0) := rfl
theorem i_20_26 : ins 20 26 = some (.bipush 6, 28, 0, 0, 0, 6) := rfl
theorem i_20_28 : ins 20 28 = some (.if_icmp .ne 14, 31, 42, 0, 0, 0) := rfl
theorem i_20_31 : ins 20 31 = some (.iload_n 0, 32, 0, 0, 0, 0) := rfl
theorem i_20_32 : ins 20 32 = some (.invokestatic 101, 35, 21, 1, 1, 0) := rfl
theorem i_20_35 : ins 20 35 = some (.ifCond .eq 7, 38, 42, 0, 0, 0) := rfl
theorem i_20_38 : ins 20 38 = some (.iconst 1, 39, 0, 0, 0, 1) := rfl
theorem i_20_39 : ins 20 39 = some (.goto 4, 42, 43, 0, 0, 0) := rfl
theorem i_20_42 : ins 20 42 = some (.iconst 0, 43, 0, 0, 0, 0) := rfl
theorem i_20_43 : ins 20 43 = some (.ireturn, 44, 0, 0, 0, 0) := rfl
theorem S20_0 {Q : Ou → Prop} {M : Mem} {κ : Kp} (hκ : Rd κ)  {c : Int32} {d : Int32}
    (k1 : Q (.inl (some (.int (bI (if c = 9 then (if d = 9 then true else (if c = 6 then (if (sbt d) = true then true else (if d = 6 then (if (sbt c) = true then true else false) else false)) else (if d = 6 then (if (sbt c) = true then true else false) else false))) else (if c = 6 then (if (sbt d) = true then true else (if d = 6 then (if (sbt c) = true then true else false) else false)) else (if d = 6 then (if (sbt c) = true then true else false) else false)))))), M, κ))
    : RT 20 (0, [.int c, .int d], [], M, κ) Q := by
  refine w_load i_20_0 rfl rfl ?_
  refine w_push i_20_1 rfl ?_
  have K1 : RT 20 (43, [.int c, .int d], [.int (bI (if c = 9 then (if d = 9 then true else (if c = 6 then (if (sbt d) = true then true else (if d = 6 then (if (sbt c) = true then true else false) else false)) else (if d = 6 then (if (sbt c) = true then true else false) else false))) else (if c = 6 then (if (sbt d) = true then true else (if d = 6 then (if (sbt c) = true then true else false) else false)) else (if d = 6 then (if (sbt c) = true then true else false) else false))))], M, κ) Q := by
    exact w_iret i_20_43 (.inr ⟨rfl, isB_bI _⟩) (k1)
  refine w_if2n (c = 9) i_20_3 cI_ne ?_ ?_
  · intro h2
    refine w_load i_20_6 rfl rfl ?_
    refine w_push i_20_7 rfl ?_
    refine w_if2 (d = 9) i_20_9 cI_eq ?_ ?_
    · intro h3
      refine w_push i_20_38 rfl ?_
      refine w_goto i_20_39 ?_
      exact (by first | exact (K1) | (have K9 := K1; simp only [↓if_pos h2, ↓if_pos h3] at K9 ⊢; exact (K9)))
    · intro h4
      refine w_load i_20_12 rfl rfl ?_
      refine w_push i_20_13 rfl ?_
      refine w_if2n (c = 6) i_20_15 cI_ne ?_ ?_
      · intro h5
        refine w_load i_20_18 rfl rfl ?_
        refine w_callS i_20_19 ⟨by decide, by decide, by decide, rfl, rfl⟩ (av := [.int d]) (rest := []) rfl rfl (Nat.le_of_ble_eq_true rfl) (v := some (.int (bI (sbt d)))) (c21 hκ) ?_
        refine w_if0 ((sbt d) = true) i_20_22 cB_ne ?_ ?_
        · intro h6
          refine w_push i_20_38 rfl ?_
          refine w_goto i_20_39 ?_
          exact (by first | exact (K1) | (have K9 := K1; simp only [↓if_pos h2, ↓if_neg h4, ↓if_pos h5, ↓if_pos h6] at K9 ⊢; exact (K9)))
        · intro h7
          refine w_load i_20_25 rfl rfl ?_
          refine w_push i_20_26 rfl ?_
          refine w_if2n (d = 6) i_20_28 cI_ne ?_ ?_
          · intro h8
            refine w_load i_20_31 rfl rfl ?_
            refine w_callS i_20_32 ⟨by decide, by decide, by decide, rfl, rfl⟩ (av := [.int c]) (rest := []) rfl rfl (Nat.le_of_ble_eq_true rfl) (v := some (.int (bI (sbt c)))) (c21 hκ) ?_
            refine w_if0n ((sbt c) = true) i_20_35 cB_eq ?_ ?_
            · intro h9
              refine w_push i_20_38 rfl ?_
              refine w_goto i_20_39 ?_
              exact (by first | exact (K1) | (have K9 := K1; simp only [↓if_pos h2, ↓if_neg h4, ↓if_pos h5, ↓if_neg h7, ↓if_pos h8, ↓if_pos h9] at K9 ⊢; exact (K9)))
            · intro h10
              refine w_push i_20_42 rfl ?_
              exact (by first | exact (K1) | (have K9 := K1; simp only [↓if_pos h2, ↓if_neg h4, ↓if_pos h5, ↓if_neg h7, ↓if_pos h8, ↓if_neg h10] at K9 ⊢; exact (K9)))
          · intro h11
            refine w_push i_20_42 rfl ?_
            exact (by first | exact (K1) | (have K9 := K1; simp only [↓if_pos h2, ↓if_neg h4, ↓if_pos h5, ↓if_neg h7, ↓if_neg h11] at K9 ⊢; exact (K9)))
      · intro h12
        refine w_load i_20_25 rfl rfl ?_
        refine w_push i_20_26 rfl ?_
        refine w_if2n (d = 6) i_20_28 cI_ne ?_ ?_
        · intro h13
          refine w_load i_20_31 rfl rfl ?_
          refine w_callS i_20_32 ⟨by decide, by decide, by decide, rfl, rfl⟩ (av := [.int c]) (rest := []) rfl rfl (Nat.le_of_ble_eq_true rfl) (v := some (.int (bI (sbt c)))) (c21 hκ) ?_
          refine w_if0n ((sbt c) = true) i_20_35 cB_eq ?_ ?_
          · intro h14
            refine w_push i_20_38 rfl ?_
            refine w_goto i_20_39 ?_
            exact (by first | exact (K1) | (have K9 := K1; simp only [↓if_pos h2, ↓if_neg h4, ↓if_neg h12, ↓if_pos h13, ↓if_pos h14] at K9 ⊢; exact (K9)))
          · intro h15
            refine w_push i_20_42 rfl ?_
            exact (by first | exact (K1) | (have K9 := K1; simp only [↓if_pos h2, ↓if_neg h4, ↓if_neg h12, ↓if_pos h13, ↓if_neg h15] at K9 ⊢; exact (K9)))
        · intro h16
          refine w_push i_20_42 rfl ?_
          exact (by first | exact (K1) | (have K9 := K1; simp only [↓if_pos h2, ↓if_neg h4, ↓if_neg h12, ↓if_neg h16] at K9 ⊢; exact (K9)))
  · intro h17
    refine w_load i_20_12 rfl rfl ?_
    refine w_push i_20_13 rfl ?_
    refine w_if2n (c = 6) i_20_15 cI_ne ?_ ?_
    · intro h18
      refine w_load i_20_18 rfl rfl ?_
      refine w_callS i_20_19 ⟨by decide, by decide, by decide, rfl, rfl⟩ (av := [.int d]) (rest := []) rfl rfl (Nat.le_of_ble_eq_true rfl) (v := some (.int (bI (sbt d)))) (c21 hκ) ?_
      refine w_if0 ((sbt d) = true) i_20_22 cB_ne ?_ ?_
      · intro h19
        refine w_push i_20_38 rfl ?_
        refine w_goto i_20_39 ?_
        exact (by first | exact (K1) | (have K9 := K1; simp only [↓if_neg h17, ↓if_pos h18, ↓if_pos h19] at K9 ⊢; exact (K9)))
      · intro h20
        refine w_load i_20_25 rfl rfl ?_
        refine w_push i_20_26 rfl ?_
        refine w_if2n (d = 6) i_20_28 cI_ne ?_ ?_
        · intro h21
          refine w_load i_20_31 rfl rfl ?_
          refine w_callS i_20_32 ⟨by decide, by decide, by decide, rfl, rfl⟩ (av := [.int c]) (rest := []) rfl rfl (Nat.le_of_ble_eq_true rfl) (v := some (.int (bI (sbt c)))) (c21 hκ) ?_
          refine w_if0n ((sbt c) = true) i_20_35 cB_eq ?_ ?_
          · intro h22
            refine w_push i_20_38 rfl ?_
            refine w_goto i_20_39 ?_
            exact (by first | exact (K1) | (have K9 := K1; simp only [↓if_neg h17, ↓if_pos h18, ↓if_neg h20, ↓if_pos h21, ↓if_pos h22] at K9 ⊢; exact (K9)))
          · intro h23
            refine w_push i_20_42 rfl ?_
            exact (by first | exact (K1) | (have K9 := K1; simp only [↓if_neg h17, ↓if_pos h18, ↓if_neg h20, ↓if_pos h21, ↓if_neg h23] at K9 ⊢; exact (K9)))
        · intro h24
          refine w_push i_20_42 rfl ?_
          exact (by first | exact (K1) | (have K9 := K1; simp only [↓if_neg h17, ↓if_pos h18, ↓if_neg h20, ↓if_neg h24] at K9 ⊢; exact (K9)))
    · intro h25
      refine w_load i_20_25 rfl rfl ?_
      refine w_push i_20_26 rfl ?_
      refine w_if2n (d = 6) i_20_28 cI_ne ?_ ?_
      · intro h26
        refine w_load i_20_31 rfl rfl ?_
        refine w_callS i_20_32 ⟨by decide, by decide, by decide, rfl, rfl⟩ (av := [.int c]) (rest := []) rfl rfl (Nat.le_of_ble_eq_true rfl) (v := some (.int (bI (sbt c)))) (c21 hκ) ?_
        refine w_if0n ((sbt c) = true) i_20_35 cB_eq ?_ ?_
        · intro h27
          refine w_push i_20_38 rfl ?_
          refine w_goto i_20_39 ?_
          exact (by first | exact (K1) | (have K9 := K1; simp only [↓if_neg h17, ↓if_neg h25, ↓if_pos h26, ↓if_pos h27] at K9 ⊢; exact (K9)))
        · intro h28
          refine w_push i_20_42 rfl ?_
          exact (by first | exact (K1) | (have K9 := K1; simp only [↓if_neg h17, ↓if_neg h25, ↓if_pos h26, ↓if_neg h28] at K9 ⊢; exact (K9)))
      · intro h29
        refine w_push i_20_42 rfl ?_
        exact (by first | exact (K1) | (have K9 := K1; simp only [↓if_neg h17, ↓if_neg h25, ↓if_neg h29] at K9 ⊢; exact (K9)))
theorem c20 (hκ : Rd κ) {c d : Int32} : Run 20 (0, entL 20 [.int c, .int d], [], M, κ) (.inl (some (.int (bI (ordF c d)))), M, κ) := RT_run (S20_0 hκ (by simp only [sbt, ordF]; congr 5; grind))
theorem i_121_0 : ins 121 0 = some (.iload_n 1, 1, 1, 0, 0, 0) := rfl
theorem i_121_1 : ins 121 1 = some (.iload_n 2, 2, 2, 0, 0, 0) := rfl
theorem i_121_2 : ins 121 2 = some (.if_icmp .le 7, 5, 9, 0, 0, 0) := rfl
theorem i_121_5 : ins 121 5 = some (.iload_n 1, 6, 1, 0, 0, 0) := rfl
theorem i_121_6 : ins 121 6 = some (.goto 4, 9, 10, 0, 0, 0) := rfl
theorem i_121_9 : ins 121 9 = some (.iload_n 2, 10, 2, 0, 0, 0) := rfl
theorem i_121_10 : ins 121 10 = some (.ireturn, 11, 0, 0, 0, 0) := rfl
theorem S121_0 {Q : Ou → Prop} {M : Mem} {κ : Kp} (hκ : Rd κ)  {x : Int32} {y : Int32}
    (k1 : Q (.inl (some (.int (if y < x then x else y))), M, κ))
    : RT 121 (0, [.ref 134, .int x, .int y], [], M, κ) Q := by
  refine w_load i_121_0 rfl rfl ?_
  refine w_load i_121_1 rfl rfl ?_
  have K1 : RT 121 (10, [.ref 134, .int x, .int y], [.int (if y < x then x else y)], M, κ) Q := by
    exact w_iret i_121_10 (.inl rfl) (k1)
  refine w_if2n (y < x) i_121_2 cI_le ?_ ?_
  · intro h2
    refine w_load i_121_5 rfl rfl ?_
    refine w_goto i_121_6 ?_
    exact (by first | exact (K1) | (have K9 := K1; simp only [↓if_pos h2] at K9 ⊢; exact (K9)))
  · intro h3
    refine w_load i_121_9 rfl rfl ?_
    exact (by first | exact (K1) | (have K9 := K1; simp only [↓if_neg h3] at K9 ⊢; exact (K9)))
theorem gt_mx {x y : Int32} : (if y < x then x else y) = mx x y := by
  unfold mx
  split <;> split <;> first | rfl | skip
  · exact absurd ‹x < y› (Int32.not_lt.mpr (Int32.le_of_lt ‹y < x›))
  · exact Int32.le_antisymm (Int32.not_lt.mp ‹¬ x < y›) (Int32.not_lt.mp ‹¬ y < x›)
theorem c121 (hκ : Rd κ) {x y : Int32} : Run 121 (0, entL 121 [.ref 134, .int x, .int y], [], M, κ) (.inl (some (.int (mx x y))), M, κ) := RT_run (S121_0 hκ (by rw [gt_mx]))
theorem i_35_0 : ins 35 0 = some (.iload_n 1, 1, 1, 0, 0, 0) := rfl
theorem i_35_1 : ins 35 1 = some (.tableswitch 56 4 9 #[39, 56, 44, 49, 54, 54], 40, 0, 0, 0, 0) := rfl
theorem i_35_40 : ins 35 40 = some (.aload_n 0, 41, 0, 0, 0, 0) := rfl
theorem i_35_41 : ins 35 41 = some (.getfield 21, 44, 2, 3, 0, 0) := rfl
theorem i_35_44 : ins 35 44 = some (.ireturn, 45, 0, 0, 0, 0) := rfl
theorem i_35_45 : ins 35 45 = some (.aload_n 0, 46, 0, 0, 0, 0) := rfl
theorem i_35_46 : ins 35 46 = some (.getfield 24, 49, 2, 4, 0, 0) := rfl
theorem i_35_49 : ins 35 49 = some (.ireturn, 50, 0, 0, 0, 0) := rfl
theorem i_35_50 : ins 35 50 = some (.aload_n 0, 51, 0, 0, 0, 0) := rfl
theorem i_35_51 : ins 35 51 = some (.getfield 27, 54, 2, 5, 0, 0) := rfl
theorem i_35_54 : ins 35 54 = some (.ireturn, 55, 0, 0, 0, 0) := rfl
theorem i_35_55 : ins 35 55 = some (.iconst 1, 56, 0, 0, 0, 1) := rfl
theorem i_35_56 : ins 35 56 = some (.ireturn, 57, 0, 0, 0, 0) := rfl
theorem i_35_57 : ins 35 57 = some (.aload_n 0, 58, 0, 0, 0, 0) := rfl
theorem i_35_58 : ins 35 58 = some (.getfield 18, 61, 2, 2, 0, 0) := rfl
theorem i_35_61 : ins 35 61 = some (.ireturn, 62, 0, 0, 0, 0) := rfl
theorem tg_35_1 {x : Int32} (h0 : ¬ x = 4) (h1 : ¬ x = 5) (h2 : ¬ x = 6) (h3 : ¬ x = 7) (h4 : ¬ x = 8) (h5 : ¬ x = 9) : tgtOk 1 (.tableswitch 56 4 9 #[39, 56, 44, 49, 54, 54]) x 57 = true := tgd (by have e0 : x.toInt ≠ 4 := fun e => h0 (Int32.toInt_inj.mp e); have e1 : x.toInt ≠ 5 := fun e => h1 (Int32.toInt_inj.mp e); have e2 : x.toInt ≠ 6 := fun e => h2 (Int32.toInt_inj.mp e); have e3 : x.toInt ≠ 7 := fun e => h3 (Int32.toInt_inj.mp e); have e4 : x.toInt ≠ 8 := fun e => h4 (Int32.toInt_inj.mp e); have e5 : x.toInt ≠ 9 := fun e => h5 (Int32.toInt_inj.mp e); omega) (by decide)
theorem S35_0 {Q : Ou → Prop} {M : Mem} {κ : Kp} (hκ : Rd κ)  {c : Int32}
    (k1 : c = 4 → Q (.inl (some (.int (M 1 3))), M, κ))
    (k2 : ¬ (c = 4) → c = 5 → Q (.inl (some (.int (M 1 2))), M, κ))
    (k3 : ¬ (c = 4) → ¬ (c = 5) → c = 6 → Q (.inl (some (.int (M 1 4))), M, κ))
    (k4 : ¬ (c = 4) → ¬ (c = 5) → ¬ (c = 6) → c = 7 → Q (.inl (some (.int (M 1 5))), M, κ))
    (k5 : ¬ (c = 4) → ¬ (c = 5) → ¬ (c = 6) → ¬ (c = 7) → c = 8 → Q (.inl (some (.int 1)), M, κ))
    (k6 : ¬ (c = 4) → ¬ (c = 5) → ¬ (c = 6) → ¬ (c = 7) → ¬ (c = 8) → c = 9 → Q (.inl (some (.int 1)), M, κ))
    (k7 : ¬ (c = 4) → ¬ (c = 5) → ¬ (c = 6) → ¬ (c = 7) → ¬ (c = 8) → ¬ (c = 9) → Q (.inl (some (.int (M 1 2))), M, κ))
    : RT 35 (0, [.ref 1, .int c], [], M, κ) Q := by
  refine w_load i_35_0 rfl rfl ?_
  by_cases h1 : c = 4
  · refine w_table 40 i_35_1 (by rw [h1]; rfl) ?_
    refine w_load i_35_40 rfl rfl ?_
    refine w_getI (v := (M 1 3)) i_35_41 hκ (⟨rfl, by decide⟩ : isOb 1 2) rfl (rfl) ?_
    exact w_iret i_35_44 (.inl rfl) (k1 h1)
  · have h2 := h1
    by_cases h3 : c = 5
    · refine w_table 57 i_35_1 (by rw [h3]; rfl) ?_
      refine w_load i_35_57 rfl rfl ?_
      refine w_getI (v := (M 1 2)) i_35_58 hκ (⟨rfl, by decide⟩ : isOb 1 2) rfl (rfl) ?_
      exact w_iret i_35_61 (.inl rfl) (k2 h2 h3)
    · have h4 := h3
      by_cases h5 : c = 6
      · refine w_table 45 i_35_1 (by rw [h5]; rfl) ?_
        refine w_load i_35_45 rfl rfl ?_
        refine w_getI (v := (M 1 4)) i_35_46 hκ (⟨rfl, by decide⟩ : isOb 1 2) rfl (rfl) ?_
        exact w_iret i_35_49 (.inl rfl) (k3 h2 h4 h5)
      · have h6 := h5
        by_cases h7 : c = 7
        · refine w_table 50 i_35_1 (by rw [h7]; rfl) ?_
          refine w_load i_35_50 rfl rfl ?_
          refine w_getI (v := (M 1 5)) i_35_51 hκ (⟨rfl, by decide⟩ : isOb 1 2) rfl (rfl) ?_
          exact w_iret i_35_54 (.inl rfl) (k4 h2 h4 h6 h7)
        · have h8 := h7
          by_cases h9 : c = 8
          · refine w_table 55 i_35_1 (by rw [h9]; rfl) ?_
            refine w_push i_35_55 rfl ?_
            exact w_iret i_35_56 (.inl rfl) (k5 h2 h4 h6 h8 h9)
          · have h10 := h9
            by_cases h11 : c = 9
            · refine w_table 55 i_35_1 (by rw [h11]; rfl) ?_
              refine w_push i_35_55 rfl ?_
              exact w_iret i_35_56 (.inl rfl) (k6 h2 h4 h6 h8 h10 h11)
            · have h12 := h11
              refine w_table 57 i_35_1 (tg_35_1 h2 h4 h6 h8 h10 h12) ?_
              refine w_load i_35_57 rfl rfl ?_
              refine w_getI (v := (M 1 2)) i_35_58 hκ (⟨rfl, by decide⟩ : isOb 1 2) rfl (rfl) ?_
              exact w_iret i_35_61 (.inl rfl) (k7 h2 h4 h6 h8 h10 h12)
theorem c35 (hκ : Rd κ)  {pl : Int32} {mu : Int32} {di : Int32} {lo : Int32} {c : Int32} (e0 : M 1 2 = pl) (e1 : M 1 3 = mu) (e2 : M 1 4 = di) (e3 : M 1 5 = lo) : Run 35 (0, entL 35 [.ref 1, .int c], [], M, κ) (.inl (some (.int (latF pl mu di lo c))), M, κ) := by
  subst e0 e1 e2 e3
  exact RT_run (S35_0 hκ (by intros; simp only [latF]; simp [*]) (by intros; simp only [latF]; simp [*]) (by intros; simp only [latF]; simp [*]) (by intros; simp only [latF]; simp [*]) (by intros; simp only [latF]; simp [*]) (by intros; simp only [latF]; simp [*]) (by intros; simp only [latF]; simp [*]))
theorem i_115_0 : ins 115 0 = some (.aload_n 0, 1, 0, 0, 0, 0) := rfl
theorem i_115_1 : ins 115 1 = some (.getfield 81, 4, 7, 27, 0, 0) := rfl
theorem i_115_4 : ins 115 4 = some (.iload_n 1, 5, 1, 0, 0, 0) := rfl
theorem i_115_5 : ins 115 5 = some (.iaload, 6, 0, 0, 0, 0) := rfl
theorem i_115_6 : ins 115 6 = some (.tableswitch 55 4 9 #[43, 55, 38, 48, 53, 53], 44, 0, 0, 0, 0) := rfl
theorem i_115_44 : ins 115 44 = some (.aload_n 0, 45, 0, 0, 0, 0) := rfl
theorem i_115_45 : ins 115 45 = some (.getfield 22, 48, 7, 5, 0, 0) := rfl
theorem i_115_48 : ins 115 48 = some (.ireturn, 49, 0, 0, 0, 0) := rfl
theorem i_115_49 : ins 115 49 = some (.aload_n 0, 50, 0, 0, 0, 0) := rfl
theorem i_115_50 : ins 115 50 = some (.getfield 19, 53, 7, 4, 0, 0) := rfl
theorem i_115_53 : ins 115 53 = some (.ireturn, 54, 0, 0, 0, 0) := rfl
theorem i_115_54 : ins 115 54 = some (.aload_n 0, 55, 0, 0, 0, 0) := rfl
theorem i_115_55 : ins 115 55 = some (.getfield 25, 58, 7, 6, 0, 0) := rfl
theorem i_115_58 : ins 115 58 = some (.ireturn, 59, 0, 0, 0, 0) := rfl
theorem i_115_59 : ins 115 59 = some (.iconst 1, 60, 0, 0, 0, 1) := rfl
theorem i_115_60 : ins 115 60 = some (.ireturn, 61, 0, 0, 0, 0) := rfl
theorem i_115_61 : ins 115 61 = some (.aload_n 0, 62, 0, 0, 0, 0) := rfl
theorem i_115_62 : ins 115 62 = some (.getfield 16, 65, 7, 3, 0, 0) := rfl
theorem i_115_65 : ins 115 65 = some (.ireturn, 66, 0, 0, 0, 0) := rfl
theorem tg_115_6 {x : Int32} (h0 : ¬ x = 4) (h1 : ¬ x = 5) (h2 : ¬ x = 6) (h3 : ¬ x = 7) (h4 : ¬ x = 8) (h5 : ¬ x = 9) : tgtOk 6 (.tableswitch 55 4 9 #[43, 55, 38, 48, 53, 53]) x 61 = true := tgd (by have e0 : x.toInt ≠ 4 := fun e => h0 (Int32.toInt_inj.mp e); have e1 : x.toInt ≠ 5 := fun e => h1 (Int32.toInt_inj.mp e); have e2 : x.toInt ≠ 6 := fun e => h2 (Int32.toInt_inj.mp e); have e3 : x.toInt ≠ 7 := fun e => h3 (Int32.toInt_inj.mp e); have e4 : x.toInt ≠ 8 := fun e => h4 (Int32.toInt_inj.mp e); have e5 : x.toInt ≠ 9 := fun e => h5 (Int32.toInt_inj.mp e); omega) (by decide)
theorem S115_0 {Q : Ou → Prop} {M : Mem} {κ : Kp} (hκ : Rd κ) {k : Nat} (hk : k < 60) 
    (k1 : (M 152 k) = 4 → Q (.inl (some (.int (M 134 4))), M, κ))
    (k2 : ¬ ((M 152 k) = 4) → (M 152 k) = 5 → Q (.inl (some (.int (M 134 3))), M, κ))
    (k3 : ¬ ((M 152 k) = 4) → ¬ ((M 152 k) = 5) → (M 152 k) = 6 → Q (.inl (some (.int (M 134 5))), M, κ))
    (k4 : ¬ ((M 152 k) = 4) → ¬ ((M 152 k) = 5) → ¬ ((M 152 k) = 6) → (M 152 k) = 7 → Q (.inl (some (.int (M 134 6))), M, κ))
    (k5 : ¬ ((M 152 k) = 4) → ¬ ((M 152 k) = 5) → ¬ ((M 152 k) = 6) → ¬ ((M 152 k) = 7) → (M 152 k) = 8 → Q (.inl (some (.int 1)), M, κ))
    (k6 : ¬ ((M 152 k) = 4) → ¬ ((M 152 k) = 5) → ¬ ((M 152 k) = 6) → ¬ ((M 152 k) = 7) → ¬ ((M 152 k) = 8) → (M 152 k) = 9 → Q (.inl (some (.int 1)), M, κ))
    (k7 : ¬ ((M 152 k) = 4) → ¬ ((M 152 k) = 5) → ¬ ((M 152 k) = 6) → ¬ ((M 152 k) = 7) → ¬ ((M 152 k) = 8) → ¬ ((M 152 k) = 9) → Q (.inl (some (.int (M 134 3))), M, κ))
    : RT 115 (0, [.ref 134, .int (nI k)], [], M, κ) Q := by
  refine w_load i_115_0 rfl rfl ?_
  refine w_getR 152 i_115_1 hκ (⟨rfl, by decide⟩ : isOb 134 7) rfl rfl ?_
  refine w_load i_115_4 rfl rfl ?_
  refine w_ialdN (e := k) (v := (M 152 k)) i_115_5 hκ (⟨rfl, rfl, by decide⟩ : isAr 152 60) (by omega) (by decide) (rfl) ?_
  by_cases h1 : (M 152 k) = 4
  · refine w_table 49 i_115_6 (by rw [h1]; rfl) ?_
    refine w_load i_115_49 rfl rfl ?_
    refine w_getI (v := (M 134 4)) i_115_50 hκ (⟨rfl, by decide⟩ : isOb 134 7) rfl (rfl) ?_
    exact w_iret i_115_53 (.inl rfl) (k1 h1)
  · have h2 := h1
    by_cases h3 : (M 152 k) = 5
    · refine w_table 61 i_115_6 (by rw [h3]; rfl) ?_
      refine w_load i_115_61 rfl rfl ?_
      refine w_getI (v := (M 134 3)) i_115_62 hκ (⟨rfl, by decide⟩ : isOb 134 7) rfl (rfl) ?_
      exact w_iret i_115_65 (.inl rfl) (k2 h2 h3)
    · have h4 := h3
      by_cases h5 : (M 152 k) = 6
      · refine w_table 44 i_115_6 (by rw [h5]; rfl) ?_
        refine w_load i_115_44 rfl rfl ?_
        refine w_getI (v := (M 134 5)) i_115_45 hκ (⟨rfl, by decide⟩ : isOb 134 7) rfl (rfl) ?_
        exact w_iret i_115_48 (.inl rfl) (k3 h2 h4 h5)
      · have h6 := h5
        by_cases h7 : (M 152 k) = 7
        · refine w_table 54 i_115_6 (by rw [h7]; rfl) ?_
          refine w_load i_115_54 rfl rfl ?_
          refine w_getI (v := (M 134 6)) i_115_55 hκ (⟨rfl, by decide⟩ : isOb 134 7) rfl (rfl) ?_
          exact w_iret i_115_58 (.inl rfl) (k4 h2 h4 h6 h7)
        · have h8 := h7
          by_cases h9 : (M 152 k) = 8
          · refine w_table 59 i_115_6 (by rw [h9]; rfl) ?_
            refine w_push i_115_59 rfl ?_
            exact w_iret i_115_60 (.inl rfl) (k5 h2 h4 h6 h8 h9)
          · have h10 := h9
            by_cases h11 : (M 152 k) = 9
            · refine w_table 59 i_115_6 (by rw [h11]; rfl) ?_
              refine w_push i_115_59 rfl ?_
              exact w_iret i_115_60 (.inl rfl) (k6 h2 h4 h6 h8 h10 h11)
            · have h12 := h11
              refine w_table 61 i_115_6 (tg_115_6 h2 h4 h6 h8 h10 h12) ?_
              refine w_load i_115_61 rfl rfl ?_
              refine w_getI (v := (M 134 3)) i_115_62 hκ (⟨rfl, by decide⟩ : isOb 134 7) rfl (rfl) ?_
              exact w_iret i_115_65 (.inl rfl) (k7 h2 h4 h6 h8 h10 h12)
theorem c115 (hκ : Rd κ) {k : Nat} (hk : k < 60) {c : Int32} {pl : Int32} {mu : Int32} {di : Int32} {lo : Int32} (e0 : M 152 k = c) (e1 : M 134 3 = pl) (e2 : M 134 4 = mu) (e3 : M 134 5 = di) (e4 : M 134 6 = lo) : Run 115 (0, entL 115 [.ref 134, .int (nI k)], [], M, κ) (.inl (some (.int (latF pl mu di lo c))), M, κ) := by
  subst e0 e1 e2 e3 e4
  exact RT_run (S115_0 hκ hk (by intros; simp only [latF]; simp [*]) (by intros; simp only [latF]; simp [*]) (by intros; simp only [latF]; simp [*]) (by intros; simp only [latF]; simp [*]) (by intros; simp only [latF]; simp [*]) (by intros; simp only [latF]; simp [*]) (by intros; simp only [latF]; simp [*]))
theorem i_9_0 : ins 9 0 = some (.aload_n 0, 1, 0, 0, 0, 0) := rfl
theorem i_9_1 : ins 9 1 = some (.getfield 31, 4, 0, 6, 0, 0) := rfl
theorem i_9_4 : ins 9 4 = some (.iload_n 1, 5, 1, 0, 0, 0) := rfl
theorem i_9_5 : ins 9 5 = some (.iaload, 6, 0, 0, 0, 0) := rfl
theorem i_9_6 : ins 9 6 = some (.bipush 8, 8, 0, 0, 0, 8) := rfl
theorem i_9_8 : ins 9 8 = some (.if_icmp .ge 12, 11, 20, 0, 0, 0) := rfl
theorem i_9_11 : ins 9 11 = some (.aload_n 0, 12, 0, 0, 0, 0) := rfl
theorem i_9_12 : ins 9 12 = some (.getfield 35, 15, 0, 7, 0, 0) := rfl
theorem i_9_15 : ins 9 15 = some (.iload_n 1, 16, 1, 0, 0, 0) := rfl
theorem i_9_16 : ins 9 16 = some (.iaload, 17, 0, 0, 0, 0) := rfl
theorem i_9_17 : ins 9 17 = some (.goto 4, 20, 21, 0, 0, 0) := rfl
theorem i_9_20 : ins 9 20 = some (.iconst (-1), 21, 0, 0, 0, (-1)) := rfl
theorem i_9_21 : ins 9 21 = some (.ireturn, 22, 0, 0, 0, 0) := rfl
theorem S9_0 {Q : Ou → Prop} {M : Mem} {κ : Kp} (hκ : Rd κ) {b : Nat} (hb : isBl b) {k : Nat} (hk : k < 10) 
    (k1 : Q (.inl (some (.int (if (M (b + 1) k) < 8 then (M (b + 2) k) else (-1)))), M, κ))
    : RT 9 (0, [.ref b, .int (nI k)], [], M, κ) Q := by
  refine w_load i_9_0 rfl rfl ?_
  refine w_getR (b + 1) i_9_1 hκ (bl_ob hb) rfl rfl ?_
  refine w_load i_9_4 rfl rfl ?_
  refine w_ialdN (e := k) (v := (M (b + 1) k)) i_9_5 hκ (bl_ar hb 1 (by decide)) (by omega) (by decide) (rfl) ?_
  refine w_push i_9_6 rfl ?_
  have K1 : RT 9 (21, [.ref b, .int (nI k)], [.int (if (M (b + 1) k) < 8 then (M (b + 2) k) else (-1))], M, κ) Q := by
    exact w_iret i_9_21 (.inl rfl) (k1)
  refine w_if2n ((M (b + 1) k) < 8) i_9_8 cI_ge ?_ ?_
  · intro h2
    refine w_load i_9_11 rfl rfl ?_
    refine w_getR (b + 2) i_9_12 hκ (bl_ob hb) rfl rfl ?_
    refine w_load i_9_15 rfl rfl ?_
    refine w_ialdN (e := k) (v := (M (b + 2) k)) i_9_16 hκ (bl_ar hb 2 (by decide)) (by omega) (by decide) (rfl) ?_
    refine w_goto i_9_17 ?_
    exact (by first | exact (K1) | (have K9 := K1; simp only [↓if_pos h2] at K9 ⊢; exact (K9)))
  · intro h3
    refine w_push i_9_20 rfl ?_
    exact (by first | exact (K1) | (have K9 := K1; simp only [↓if_neg h3] at K9 ⊢; exact (K9)))
theorem c9 (hκ : Rd κ) {b : Nat} (hb : isBl b) {k : Nat} (hk : k < 10) {c : Int32} {d : Int32} (e0 : M (b + 1) k = c) (e1 : M (b + 2) k = d) : Run 9 (0, entL 9 [.ref b, .int (nI k)], [], M, κ) (.inl (some (.int (wrF c d))), M, κ) := by
  subst e0 e1
  exact RT_run (S9_0 hκ hb hk rfl)
theorem i_10_0 : ins 10 0 = some (.aload_n 0, 1, 0, 0, 0, 0) := rfl
theorem i_10_1 : ins 10 1 = some (.getfield 47, 4, 0, 11, 0, 0) := rfl
theorem i_10_4 : ins 10 4 = some (.iload_n 1, 5, 1, 0, 0, 0) := rfl
theorem i_10_5 : ins 10 5 = some (.iaload, 6, 0, 0, 0, 0) := rfl
theorem i_10_6 : ins 10 6 = some (.invokestatic 62, 9, 165, 1, 1, 0) := rfl
theorem i_10_9 : ins 10 9 = some (.iconst 1, 10, 0, 0, 0, 1) := rfl
theorem i_10_10 : ins 10 10 = some (.isub, 11, 0, 0, 0, 0) := rfl
theorem i_10_11 : ins 10 11 = some (.ireturn, 12, 0, 0, 0, 0) := rfl
theorem S10_0 {Q : Ou → Prop} {M : Mem} {κ : Kp} (hκ : Rd κ) {b : Nat} (hb : isBl b) {k : Nat} (hk : k < 10) 
    (k1 : Q (.inl (some (.int ((ab (M (b + 6) k)) - 1))), M, κ))
    : RT 10 (0, [.ref b, .int (nI k)], [], M, κ) Q := by
  refine w_load i_10_0 rfl rfl ?_
  refine w_getR (b + 6) i_10_1 hκ (bl_ob hb) rfl rfl ?_
  refine w_load i_10_4 rfl rfl ?_
  refine w_ialdN (e := k) (v := (M (b + 6) k)) i_10_5 hκ (bl_ar hb 6 (by decide)) (by omega) (by decide) (rfl) ?_
  refine w_mabs i_10_6 rfl (by decide) (Nat.le_of_ble_eq_true rfl) ?_
  refine w_push i_10_9 rfl ?_
  refine w_bin (w := ((ab (M (b + 6) k)) - 1)) i_10_10 rfl rfl ?_
  exact w_iret i_10_11 (.inl rfl) (k1)
theorem c10 (hκ : Rd κ) {b : Nat} (hb : isBl b) {k : Nat} (hk : k < 10) {g : Int32} (e0 : M (b + 6) k = g) : Run 10 (0, entL 10 [.ref b, .int (nI k)], [], M, κ) (.inl (some (.int (ab g - 1))), M, κ) := by
  subst e0
  exact RT_run (S10_0 hκ hb hk rfl)
theorem i_11_0 : ins 11 0 = some (.iload_n 2, 1, 2, 0, 0, 0) := rfl
theorem i_11_1 : ins 11 1 = some (.iconst (-1), 2, 0, 0, 0, (-1)) := rfl
theorem i_11_2 : ins 11 2 = some (.if_icmp .ne 5, 5, 7, 0, 0, 0) := rfl
theorem i_11_5 : ins 11 5 = some (.iconst 0, 6, 0, 0, 0, 0) := rfl
theorem i_11_6 : ins 11 6 = some (.ireturn, 7, 0, 0, 0, 0) := rfl
theorem i_11_7 : ins 11 7 = some (.aload_n 0, 8, 0, 0, 0, 0) := rfl
theorem i_11_8 : ins 11 8 = some (.getfield 31, 11, 0, 6, 0, 0) := rfl
theorem i_11_11 : ins 11 11 = some (.iload_n 1, 12, 1, 0, 0, 0) := rfl
theorem i_11_12 : ins 11 12 = some (.iaload, 13, 0, 0, 0, 0) := rfl
theorem i_11_13 : ins 11 13 = some (.ifCond .eq 7, 16, 20, 0, 0, 0) := rfl
theorem i_11_16 : ins 11 16 = some (.iconst 1, 17, 0, 0, 0, 1) := rfl
theorem i_11_17 : ins 11 17 = some (.goto 4, 20, 21, 0, 0, 0) := rfl
theorem i_11_20 : ins 11 20 = some (.iconst 0, 21, 0, 0, 0, 0) := rfl
theorem i_11_21 : ins 11 21 = some (.istore_n 3, 22, 3, 0, 0, 0) := rfl
theorem i_11_22 : ins 11 22 = some (.aload_n 0, 23, 0, 0, 0, 0) := rfl
theorem i_11_23 : ins 11 23 = some (.getfield 31, 26, 0, 6, 0, 0) := rfl
theorem i_11_26 : ins 11 26 = some (.iload_n 1, 27, 1, 0, 0, 0) := rfl
theorem i_11_27 : ins 11 27 = some (.iaload, 28, 0, 0, 0, 0) := rfl
theorem i_11_28 : ins 11 28 = some (.iconst 2, 29, 0, 0, 0, 2) := rfl
theorem i_11_29 : ins 11 29 = some (.if_icmp .lt 14, 32, 43, 0, 0, 0) := rfl
theorem i_11_32 : ins 11 32 = some (.aload_n 0, 33, 0, 0, 0, 0) := rfl
theorem i_11_33 : ins 11 33 = some (.getfield 31, 36, 0, 6, 0, 0) := rfl
theorem i_11_36 : ins 11 36 = some (.iload_n 1, 37, 1, 0, 0, 0) := rfl
theorem i_11_37 : ins 11 37 = some (.iaload, 38, 0, 0, 0, 0) := rfl
theorem i_11_38 : ins 11 38 = some (.bipush 6, 40, 0, 0, 0, 6) := rfl
theorem i_11_40 : ins 11 40 = some (.if_icmp .le 14, 43, 54, 0, 0, 0) := rfl
theorem i_11_43 : ins 11 43 = some (.aload_n 0, 44, 0, 0, 0, 0) := rfl
theorem i_11_44 : ins 11 44 = some (.getfield 31, 47, 0, 6, 0, 0) := rfl
theorem i_11_47 : ins 11 47 = some (.iload_n 1, 48, 1, 0, 0, 0) := rfl
theorem i_11_48 : ins 11 48 = some (.iaload, 49, 0, 0, 0, 0) := rfl
theorem i_11_49 : ins 11 49 = some (.bipush 8, 51, 0, 0, 0, 8) := rfl
theorem i_11_51 : ins 11 51 = some (.if_icmp .ne 7, 54, 58, 0, 0, 0) := rfl
theorem i_11_54 : ins 11 54 = some (.iconst 1, 55, 0, 0, 0, 1) := rfl
theorem i_11_55 : ins 11 55 = some (.goto 4, 58, 59, 0, 0, 0) := rfl
theorem i_11_58 : ins 11 58 = some (.iconst 0, 59, 0, 0, 0, 0) := rfl
theorem i_11_59 : ins 11 59 = some (.istore 4, 61, 4, 0, 0, 0) := rfl
theorem i_11_61 : ins 11 61 = some (.iload_n 3, 62, 3, 0, 0, 0) := rfl
theorem i_11_62 : ins 11 62 = some (.ifCond .eq 13, 65, 75, 0, 0, 0) := rfl
theorem i_11_65 : ins 11 65 = some (.aload_n 0, 66, 0, 0, 0, 0) := rfl
theorem i_11_66 : ins 11 66 = some (.getfield 38, 69, 0, 8, 0, 0) := rfl
theorem i_11_69 : ins 11 69 = some (.iload_n 1, 70, 1, 0, 0, 0) := rfl
theorem i_11_70 : ins 11 70 = some (.iaload, 71, 0, 0, 0, 0) := rfl
theorem i_11_71 : ins 11 71 = some (.iload_n 2, 72, 2, 0, 0, 0) := rfl
theorem i_11_72 : ins 11 72 = some (.if_icmp .eq 27, 75, 99, 0, 0, 0) := rfl
theorem i_11_75 : ins 11 75 = some (.iload 4, 77, 4, 0, 0, 0) := rfl
theorem i_11_77 : ins 11 77 = some (.ifCond .eq 13, 80, 90, 0, 0, 0) := rfl
theorem i_11_80 : ins 11 80 = some (.aload_n 0, 81, 0, 0, 0, 0) := rfl
theorem i_11_81 : ins 11 81 = some (.getfield 41, 84, 0, 9, 0, 0) := rfl
theorem i_11_84 : ins 11 84 = some (.iload_n 1, 85, 1, 0, 0, 0) := rfl
theorem i_11_85 : ins 11 85 = some (.iaload, 86, 0, 0, 0, 0) := rfl
theorem i_11_86 : ins 11 86 = some (.iload_n 2, 87, 2, 0, 0, 0) := rfl
theorem i_11_87 : ins 11 87 = some (.if_icmp .eq 12, 90, 99, 0, 0, 0) := rfl
theorem i_11_90 : ins 11 90 = some (.aload_n 0, 91, 0, 0, 0, 0) := rfl
theorem i_11_91 : ins 11 91 = some (.iload_n 1, 92, 1, 0, 0, 0) := rfl
theorem i_11_92 : ins 11 92 = some (.invokevirtual 67, 95, 10, 0, 2, 0) := rfl
theorem i_11_95 : ins 11 95 = some (.iload_n 2, 96, 2, 0, 0, 0) := rfl
theorem i_11_96 : ins 11 96 = some (.if_icmp .ne 7, 99, 103, 0, 0, 0) := rfl
theorem i_11_99 : ins 11 99 = some (.iconst 1, 100, 0, 0, 0, 1) := rfl
theorem i_11_100 : ins 11 100 = some (.goto 4, 103, 104, 0, 0, 0) := rfl
theorem i_11_103 : ins 11 103 = some (.iconst 0, 104, 0, 0, 0, 0) := rfl
theorem i_11_104 : ins 11 104 = some (.ireturn, 105, 0, 0, 0, 0) := rfl
theorem S11_0 {Q : Ou → Prop} {M : Mem} {κ : Kp} (hκ : Rd κ) {b : Nat} (hb : isBl b) {k : Nat} (hk : k < 10) {v : Int32}
    (k1 : v = (-1) → Q (.inl (some (.int 0)), M, κ))
    (k2 : ¬ (v = (-1)) → Q (.inl (some (.int (bI (if (if (M (b + 1) k) = 0 then false else true) = true then (if (M (b + 3) k) = v then true else (if (if (M (b + 1) k) < 2 then (if (M (b + 1) k) = 8 then true else false) else (if 6 < (M (b + 1) k) then (if (M (b + 1) k) = 8 then true else false) else true)) = true then (if (M (b + 4) k) = v then true else (if (ab (M (b + 6) k) - 1) = v then true else false)) else (if (ab (M (b + 6) k) - 1) = v then true else false))) else (if (if (M (b + 1) k) < 2 then (if (M (b + 1) k) = 8 then true else false) else (if 6 < (M (b + 1) k) then (if (M (b + 1) k) = 8 then true else false) else true)) = true then (if (M (b + 4) k) = v then true else (if (ab (M (b + 6) k) - 1) = v then true else false)) else (if (ab (M (b + 6) k) - 1) = v then true else false)))))), M, κ))
    : RT 11 (0, [.ref b, .int (nI k), .int v, UU, UU], [], M, κ) Q := by
  refine w_load i_11_0 rfl rfl ?_
  refine w_push i_11_1 rfl ?_
  refine w_if2n (v = (-1)) i_11_2 cI_ne ?_ ?_
  · intro h1
    refine w_push i_11_5 rfl ?_
    exact w_iret i_11_6 (.inr ⟨rfl, rfl⟩) (k1 h1)
  · intro h2
    refine w_load i_11_7 rfl rfl ?_
    refine w_getR (b + 1) i_11_8 hκ (bl_ob hb) rfl rfl ?_
    refine w_load i_11_11 rfl rfl ?_
    refine w_ialdN (e := k) (v := (M (b + 1) k)) i_11_12 hκ (bl_ar hb 1 (by decide)) (by omega) (by decide) (rfl) ?_
    have K3 : RT 11 (21, [.ref b, .int (nI k), .int v, UU, UU], [.int (bI (if (M (b + 1) k) = 0 then false else true))], M, κ) Q := by
      refine w_store (l1 := [.ref b, .int (nI k), .int v, .int (bI (if (M (b + 1) k) = 0 then false else true)), UU]) i_11_21 rfl (Nat.le_of_ble_eq_true rfl) rfl ?_
      refine w_load i_11_22 rfl rfl ?_
      refine w_getR (b + 1) i_11_23 hκ (bl_ob hb) rfl rfl ?_
      refine w_load i_11_26 rfl rfl ?_
      refine w_ialdN (e := k) (v := (M (b + 1) k)) i_11_27 hκ (bl_ar hb 1 (by decide)) (by omega) (by decide) (rfl) ?_
      refine w_push i_11_28 rfl ?_
      have K4 : RT 11 (59, [.ref b, .int (nI k), .int v, .int (bI (if (M (b + 1) k) = 0 then false else true)), UU], [.int (bI (if (M (b + 1) k) < 2 then (if (M (b + 1) k) = 8 then true else false) else (if 6 < (M (b + 1) k) then (if (M (b + 1) k) = 8 then true else false) else true)))], M, κ) Q := by
        refine w_store (l1 := [.ref b, .int (nI k), .int v, .int (bI (if (M (b + 1) k) = 0 then false else true)), .int (bI (if (M (b + 1) k) < 2 then (if (M (b + 1) k) = 8 then true else false) else (if 6 < (M (b + 1) k) then (if (M (b + 1) k) = 8 then true else false) else true)))]) i_11_59 rfl (Nat.le_of_ble_eq_true rfl) rfl ?_
        refine w_load i_11_61 rfl rfl ?_
        have K5 : RT 11 (104, [.ref b, .int (nI k), .int v, .int (bI (if (M (b + 1) k) = 0 then false else true)), .int (bI (if (M (b + 1) k) < 2 then (if (M (b + 1) k) = 8 then true else false) else (if 6 < (M (b + 1) k) then (if (M (b + 1) k) = 8 then true else false) else true)))], [.int (bI (if (if (M (b + 1) k) = 0 then false else true) = true then (if (M (b + 3) k) = v then true else (if (if (M (b + 1) k) < 2 then (if (M (b + 1) k) = 8 then true else false) else (if 6 < (M (b + 1) k) then (if (M (b + 1) k) = 8 then true else false) else true)) = true then (if (M (b + 4) k) = v then true else (if (ab (M (b + 6) k) - 1) = v then true else false)) else (if (ab (M (b + 6) k) - 1) = v then true else false))) else (if (if (M (b + 1) k) < 2 then (if (M (b + 1) k) = 8 then true else false) else (if 6 < (M (b + 1) k) then (if (M (b + 1) k) = 8 then true else false) else true)) = true then (if (M (b + 4) k) = v then true else (if (ab (M (b + 6) k) - 1) = v then true else false)) else (if (ab (M (b + 6) k) - 1) = v then true else false))))], M, κ) Q := by
          exact w_iret i_11_104 (.inr ⟨rfl, isB_bI _⟩) (k2 h2)
        refine w_if0n ((if (M (b + 1) k) = 0 then false else true) = true) i_11_62 cB_eq ?_ ?_
        · intro h6
          refine w_load i_11_65 rfl rfl ?_
          refine w_getR (b + 3) i_11_66 hκ (bl_ob hb) rfl rfl ?_
          refine w_load i_11_69 rfl rfl ?_
          refine w_ialdN (e := k) (v := (M (b + 3) k)) i_11_70 hκ (bl_ar hb 3 (by decide)) (by omega) (by decide) (rfl) ?_
          refine w_load i_11_71 rfl rfl ?_
          refine w_if2 ((M (b + 3) k) = v) i_11_72 cI_eq ?_ ?_
          · intro h7
            refine w_push i_11_99 rfl ?_
            refine w_goto i_11_100 ?_
            exact (by first | exact (K5) | (have K9 := K5; simp only [↓if_pos h6, ↓if_pos h7] at K9 ⊢; exact (K9)))
          · intro h8
            refine w_load i_11_75 rfl rfl ?_
            refine w_if0n ((if (M (b + 1) k) < 2 then (if (M (b + 1) k) = 8 then true else false) else (if 6 < (M (b + 1) k) then (if (M (b + 1) k) = 8 then true else false) else true)) = true) i_11_77 cB_eq ?_ ?_
            · intro h9
              refine w_load i_11_80 rfl rfl ?_
              refine w_getR (b + 4) i_11_81 hκ (bl_ob hb) rfl rfl ?_
              refine w_load i_11_84 rfl rfl ?_
              refine w_ialdN (e := k) (v := (M (b + 4) k)) i_11_85 hκ (bl_ar hb 4 (by decide)) (by omega) (by decide) (rfl) ?_
              refine w_load i_11_86 rfl rfl ?_
              refine w_if2 ((M (b + 4) k) = v) i_11_87 cI_eq ?_ ?_
              · intro h10
                refine w_push i_11_99 rfl ?_
                refine w_goto i_11_100 ?_
                exact (by first | exact (K5) | (have K9 := K5; simp only [↓if_pos h6, ↓if_neg h8, ↓if_pos h9, ↓if_pos h10] at K9 ⊢; exact (K9)))
              · intro h11
                refine w_load i_11_90 rfl rfl ?_
                refine w_load i_11_91 rfl rfl ?_
                refine w_callV (i := _) i_11_92 ⟨by decide, by decide, by decide, rfl⟩ hκ (bl_ob hb) (av := [.int (nI k)]) (rest := []) rfl rfl (Nat.le_of_ble_eq_true rfl) (v := some (.int (ab (M (b + 6) k) - 1))) (c10 hκ hb (by omega) (rfl)) ?_
                refine w_load i_11_95 rfl rfl ?_
                refine w_if2n ((ab (M (b + 6) k) - 1) = v) i_11_96 cI_ne ?_ ?_
                · intro h12
                  refine w_push i_11_99 rfl ?_
                  refine w_goto i_11_100 ?_
                  exact (by first | exact (K5) | (have K9 := K5; simp only [↓if_pos h6, ↓if_neg h8, ↓if_pos h9, ↓if_neg h11, ↓if_pos h12] at K9 ⊢; exact (K9)))
                · intro h13
                  refine w_push i_11_103 rfl ?_
                  exact (by first | exact (K5) | (have K9 := K5; simp only [↓if_pos h6, ↓if_neg h8, ↓if_pos h9, ↓if_neg h11, ↓if_neg h13] at K9 ⊢; exact (K9)))
            · intro h14
              refine w_load i_11_90 rfl rfl ?_
              refine w_load i_11_91 rfl rfl ?_
              refine w_callV (i := _) i_11_92 ⟨by decide, by decide, by decide, rfl⟩ hκ (bl_ob hb) (av := [.int (nI k)]) (rest := []) rfl rfl (Nat.le_of_ble_eq_true rfl) (v := some (.int (ab (M (b + 6) k) - 1))) (c10 hκ hb (by omega) (rfl)) ?_
              refine w_load i_11_95 rfl rfl ?_
              refine w_if2n ((ab (M (b + 6) k) - 1) = v) i_11_96 cI_ne ?_ ?_
              · intro h15
                refine w_push i_11_99 rfl ?_
                refine w_goto i_11_100 ?_
                exact (by first | exact (K5) | (have K9 := K5; simp only [↓if_pos h6, ↓if_neg h8, ↓if_neg h14, ↓if_pos h15] at K9 ⊢; exact (K9)))
              · intro h16
                refine w_push i_11_103 rfl ?_
                exact (by first | exact (K5) | (have K9 := K5; simp only [↓if_pos h6, ↓if_neg h8, ↓if_neg h14, ↓if_neg h16] at K9 ⊢; exact (K9)))
        · intro h17
          refine w_load i_11_75 rfl rfl ?_
          refine w_if0n ((if (M (b + 1) k) < 2 then (if (M (b + 1) k) = 8 then true else false) else (if 6 < (M (b + 1) k) then (if (M (b + 1) k) = 8 then true else false) else true)) = true) i_11_77 cB_eq ?_ ?_
          · intro h18
            refine w_load i_11_80 rfl rfl ?_
            refine w_getR (b + 4) i_11_81 hκ (bl_ob hb) rfl rfl ?_
            refine w_load i_11_84 rfl rfl ?_
            refine w_ialdN (e := k) (v := (M (b + 4) k)) i_11_85 hκ (bl_ar hb 4 (by decide)) (by omega) (by decide) (rfl) ?_
            refine w_load i_11_86 rfl rfl ?_
            refine w_if2 ((M (b + 4) k) = v) i_11_87 cI_eq ?_ ?_
            · intro h19
              refine w_push i_11_99 rfl ?_
              refine w_goto i_11_100 ?_
              exact (by first | exact (K5) | (have K9 := K5; simp only [↓if_neg h17, ↓if_pos h18, ↓if_pos h19] at K9 ⊢; exact (K9)))
            · intro h20
              refine w_load i_11_90 rfl rfl ?_
              refine w_load i_11_91 rfl rfl ?_
              refine w_callV (i := _) i_11_92 ⟨by decide, by decide, by decide, rfl⟩ hκ (bl_ob hb) (av := [.int (nI k)]) (rest := []) rfl rfl (Nat.le_of_ble_eq_true rfl) (v := some (.int (ab (M (b + 6) k) - 1))) (c10 hκ hb (by omega) (rfl)) ?_
              refine w_load i_11_95 rfl rfl ?_
              refine w_if2n ((ab (M (b + 6) k) - 1) = v) i_11_96 cI_ne ?_ ?_
              · intro h21
                refine w_push i_11_99 rfl ?_
                refine w_goto i_11_100 ?_
                exact (by first | exact (K5) | (have K9 := K5; simp only [↓if_neg h17, ↓if_pos h18, ↓if_neg h20, ↓if_pos h21] at K9 ⊢; exact (K9)))
              · intro h22
                refine w_push i_11_103 rfl ?_
                exact (by first | exact (K5) | (have K9 := K5; simp only [↓if_neg h17, ↓if_pos h18, ↓if_neg h20, ↓if_neg h22] at K9 ⊢; exact (K9)))
          · intro h23
            refine w_load i_11_90 rfl rfl ?_
            refine w_load i_11_91 rfl rfl ?_
            refine w_callV (i := _) i_11_92 ⟨by decide, by decide, by decide, rfl⟩ hκ (bl_ob hb) (av := [.int (nI k)]) (rest := []) rfl rfl (Nat.le_of_ble_eq_true rfl) (v := some (.int (ab (M (b + 6) k) - 1))) (c10 hκ hb (by omega) (rfl)) ?_
            refine w_load i_11_95 rfl rfl ?_
            refine w_if2n ((ab (M (b + 6) k) - 1) = v) i_11_96 cI_ne ?_ ?_
            · intro h24
              refine w_push i_11_99 rfl ?_
              refine w_goto i_11_100 ?_
              exact (by first | exact (K5) | (have K9 := K5; simp only [↓if_neg h17, ↓if_neg h23, ↓if_pos h24] at K9 ⊢; exact (K9)))
            · intro h25
              refine w_push i_11_103 rfl ?_
              exact (by first | exact (K5) | (have K9 := K5; simp only [↓if_neg h17, ↓if_neg h23, ↓if_neg h25] at K9 ⊢; exact (K9)))
      refine w_if2 ((M (b + 1) k) < 2) i_11_29 cI_lt ?_ ?_
      · intro h26
        refine w_load i_11_43 rfl rfl ?_
        refine w_getR (b + 1) i_11_44 hκ (bl_ob hb) rfl rfl ?_
        refine w_load i_11_47 rfl rfl ?_
        refine w_ialdN (e := k) (v := (M (b + 1) k)) i_11_48 hκ (bl_ar hb 1 (by decide)) (by omega) (by decide) (rfl) ?_
        refine w_push i_11_49 rfl ?_
        refine w_if2n ((M (b + 1) k) = 8) i_11_51 cI_ne ?_ ?_
        · intro h27
          refine w_push i_11_54 rfl ?_
          refine w_goto i_11_55 ?_
          exact (by first | exact (K4) | (have K9 := K4; simp only [↓if_pos h26, ↓if_pos h27] at K9 ⊢; exact (K9)))
        · intro h28
          refine w_push i_11_58 rfl ?_
          exact (by first | exact (K4) | (have K9 := K4; simp only [↓if_pos h26, ↓if_neg h28] at K9 ⊢; exact (K9)))
      · intro h29
        refine w_load i_11_32 rfl rfl ?_
        refine w_getR (b + 1) i_11_33 hκ (bl_ob hb) rfl rfl ?_
        refine w_load i_11_36 rfl rfl ?_
        refine w_ialdN (e := k) (v := (M (b + 1) k)) i_11_37 hκ (bl_ar hb 1 (by decide)) (by omega) (by decide) (rfl) ?_
        refine w_push i_11_38 rfl ?_
        refine w_if2n (6 < (M (b + 1) k)) i_11_40 cI_le ?_ ?_
        · intro h30
          refine w_load i_11_43 rfl rfl ?_
          refine w_getR (b + 1) i_11_44 hκ (bl_ob hb) rfl rfl ?_
          refine w_load i_11_47 rfl rfl ?_
          refine w_ialdN (e := k) (v := (M (b + 1) k)) i_11_48 hκ (bl_ar hb 1 (by decide)) (by omega) (by decide) (rfl) ?_
          refine w_push i_11_49 rfl ?_
          refine w_if2n ((M (b + 1) k) = 8) i_11_51 cI_ne ?_ ?_
          · intro h31
            refine w_push i_11_54 rfl ?_
            refine w_goto i_11_55 ?_
            exact (by first | exact (K4) | (have K9 := K4; simp only [↓if_neg h29, ↓if_pos h30, ↓if_pos h31] at K9 ⊢; exact (K9)))
          · intro h32
            refine w_push i_11_58 rfl ?_
            exact (by first | exact (K4) | (have K9 := K4; simp only [↓if_neg h29, ↓if_pos h30, ↓if_neg h32] at K9 ⊢; exact (K9)))
        · intro h33
          refine w_push i_11_54 rfl ?_
          refine w_goto i_11_55 ?_
          exact (by first | exact (K4) | (have K9 := K4; simp only [↓if_neg h29, ↓if_neg h33] at K9 ⊢; exact (K9)))
    refine w_if0 ((M (b + 1) k) = 0) i_11_13 cI0_eq ?_ ?_
    · intro h34
      refine w_push i_11_20 rfl ?_
      exact (by first | exact (K3) | (have K9 := K3; simp only [↓if_pos h34] at K9 ⊢; exact (K9)))
    · intro h35
      refine w_push i_11_16 rfl ?_
      refine w_goto i_11_17 ?_
      exact (by first | exact (K3) | (have K9 := K3; simp only [↓if_neg h35] at K9 ⊢; exact (K9)))
theorem c11 (hκ : Rd κ) {b : Nat} (hb : isBl b) {k : Nat} (hk : k < 10) {c : Int32} {a : Int32} {d : Int32} {g : Int32} {v : Int32} (e0 : M (b + 1) k = c) (e1 : M (b + 3) k = a) (e2 : M (b + 4) k = d) (e3 : M (b + 6) k = g) : Run 11 (0, entL 11 [.ref b, .int (nI k), .int v], [], M, κ) (.inl (some (.int (bI (rdF c a d g v)))), M, κ) := by
  subst e0 e1 e2 e3
  exact RT_run (S11_0 hκ hb hk (by intro h; simp only [rdF]; simp [h, bI]) (by intro h; simp only [rdF]; congr 5; grind))
theorem i_12_0 : ins 12 0 = some (.aload_n 0, 1, 0, 0, 0, 0) := rfl
theorem i_12_1 : ins 12 1 = some (.getfield 31, 4, 0, 6, 0, 0) := rfl
theorem i_12_4 : ins 12 4 = some (.iload_n 1, 5, 1, 0, 0, 0) := rfl
theorem i_12_5 : ins 12 5 = some (.iaload, 6, 0, 0, 0, 0) := rfl
theorem i_12_6 : ins 12 6 = some (.bipush 7, 8, 0, 0, 0, 7) := rfl
theorem i_12_8 : ins 12 8 = some (.if_icmp .eq 14, 11, 22, 0, 0, 0) := rfl
theorem i_12_11 : ins 12 11 = some (.aload_n 0, 12, 0, 0, 0, 0) := rfl
theorem i_12_12 : ins 12 12 = some (.getfield 31, 15, 0, 6, 0, 0) := rfl
theorem i_12_15 : ins 12 15 = some (.iload_n 1, 16, 1, 0, 0, 0) := rfl
theorem i_12_16 : ins 12 16 = some (.iaload, 17, 0, 0, 0, 0) := rfl
theorem i_12_17 : ins 12 17 = some (.bipush 8, 19, 0, 0, 0, 8) := rfl
theorem i_12_19 : ins 12 19 = some (.if_icmp .ne 7, 22, 26, 0, 0, 0) := rfl
theorem i_12_22 : ins 12 22 = some (.iconst 1, 23, 0, 0, 0, 1) := rfl
theorem i_12_23 : ins 12 23 = some (.goto 4, 26, 27, 0, 0, 0) := rfl
theorem i_12_26 : ins 12 26 = some (.iconst 0, 27, 0, 0, 0, 0) := rfl
theorem i_12_27 : ins 12 27 = some (.ireturn, 28, 0, 0, 0, 0) := rfl
theorem S12_0 {Q : Ou → Prop} {M : Mem} {κ : Kp} (hκ : Rd κ) {b : Nat} (hb : isBl b) {k : Nat} (hk : k < 10) 
    (k1 : Q (.inl (some (.int (bI (if (M (b + 1) k) = 7 then true else (if (M (b + 1) k) = 8 then true else false))))), M, κ))
    : RT 12 (0, [.ref b, .int (nI k)], [], M, κ) Q := by
  refine w_load i_12_0 rfl rfl ?_
  refine w_getR (b + 1) i_12_1 hκ (bl_ob hb) rfl rfl ?_
  refine w_load i_12_4 rfl rfl ?_
  refine w_ialdN (e := k) (v := (M (b + 1) k)) i_12_5 hκ (bl_ar hb 1 (by decide)) (by omega) (by decide) (rfl) ?_
  refine w_push i_12_6 rfl ?_
  have K1 : RT 12 (27, [.ref b, .int (nI k)], [.int (bI (if (M (b + 1) k) = 7 then true else (if (M (b + 1) k) = 8 then true else false)))], M, κ) Q := by
    exact w_iret i_12_27 (.inr ⟨rfl, isB_bI _⟩) (k1)
  refine w_if2 ((M (b + 1) k) = 7) i_12_8 cI_eq ?_ ?_
  · intro h2
    refine w_push i_12_22 rfl ?_
    refine w_goto i_12_23 ?_
    exact (by first | exact (K1) | (have K9 := K1; simp only [↓if_pos h2] at K9 ⊢; exact (K9)))
  · intro h3
    refine w_load i_12_11 rfl rfl ?_
    refine w_getR (b + 1) i_12_12 hκ (bl_ob hb) rfl rfl ?_
    refine w_load i_12_15 rfl rfl ?_
    refine w_ialdN (e := k) (v := (M (b + 1) k)) i_12_16 hκ (bl_ar hb 1 (by decide)) (by omega) (by decide) (rfl) ?_
    refine w_push i_12_17 rfl ?_
    refine w_if2n ((M (b + 1) k) = 8) i_12_19 cI_ne ?_ ?_
    · intro h4
      refine w_push i_12_22 rfl ?_
      refine w_goto i_12_23 ?_
      exact (by first | exact (K1) | (have K9 := K1; simp only [↓if_neg h3, ↓if_pos h4] at K9 ⊢; exact (K9)))
    · intro h5
      refine w_push i_12_26 rfl ?_
      exact (by first | exact (K1) | (have K9 := K1; simp only [↓if_neg h3, ↓if_neg h5] at K9 ⊢; exact (K9)))
theorem c12 (hκ : Rd κ) {b : Nat} (hb : isBl b) {k : Nat} (hk : k < 10) {c : Int32} (e0 : M (b + 1) k = c) : Run 12 (0, entL 12 [.ref b, .int (nI k)], [], M, κ) (.inl (some (.int (bI (memF c)))), M, κ) := by
  subst e0
  exact RT_run (S12_0 hκ hb hk (by simp only [memF]; congr 5; grind))
theorem i_13_0 : ins 13 0 = some (.aload_n 0, 1, 0, 0, 0, 0) := rfl
theorem i_13_1 : ins 13 1 = some (.getfield 31, 4, 0, 6, 0, 0) := rfl
theorem i_13_4 : ins 13 4 = some (.iload_n 1, 5, 1, 0, 0, 0) := rfl
theorem i_13_5 : ins 13 5 = some (.iaload, 6, 0, 0, 0, 0) := rfl
theorem i_13_6 : ins 13 6 = some (.iconst 1, 7, 0, 0, 0, 1) := rfl
theorem i_13_7 : ins 13 7 = some (.if_icmp .ne 31, 10, 38, 0, 0, 0) := rfl
theorem i_13_10 : ins 13 10 = some (.aload_n 0, 11, 0, 0, 0, 0) := rfl
theorem i_13_11 : ins 13 11 = some (.getfield 35, 14, 0, 7, 0, 0) := rfl
theorem i_13_14 : ins 13 14 = some (.iload_n 1, 15, 1, 0, 0, 0) := rfl
theorem i_13_15 : ins 13 15 = some (.iaload, 16, 0, 0, 0, 0) := rfl
theorem i_13_16 : ins 13 16 = some (.aload_n 0, 17, 0, 0, 0, 0) := rfl
theorem i_13_17 : ins 13 17 = some (.getfield 38, 20, 0, 8, 0, 0) := rfl
theorem i_13_20 : ins 13 20 = some (.iload_n 1, 21, 1, 0, 0, 0) := rfl
theorem i_13_21 : ins 13 21 = some (.iaload, 22, 0, 0, 0, 0) := rfl
theorem i_13_22 : ins 13 22 = some (.if_icmp .ne 16, 25, 38, 0, 0, 0) := rfl
theorem i_13_25 : ins 13 25 = some (.aload_n 0, 26, 0, 0, 0, 0) := rfl
theorem i_13_26 : ins 13 26 = some (.getfield 47, 29, 0, 11, 0, 0) := rfl
theorem i_13_29 : ins 13 29 = some (.iload_n 1, 30, 1, 0, 0, 0) := rfl
theorem i_13_30 : ins 13 30 = some (.iaload, 31, 0, 0, 0, 0) := rfl
theorem i_13_31 : ins 13 31 = some (.ifCond .ne 7, 34, 38, 0, 0, 0) := rfl
theorem i_13_34 : ins 13 34 = some (.iconst 1, 35, 0, 0, 0, 1) := rfl
theorem i_13_35 : ins 13 35 = some (.goto 4, 38, 39, 0, 0, 0) := rfl
theorem i_13_38 : ins 13 38 = some (.iconst 0, 39, 0, 0, 0, 0) := rfl
theorem i_13_39 : ins 13 39 = some (.ireturn, 40, 0, 0, 0, 0) := rfl
theorem S13_0 {Q : Ou → Prop} {M : Mem} {κ : Kp} (hκ : Rd κ) {b : Nat} (hb : isBl b) {k : Nat} (hk : k < 10) 
    (k1 : Q (.inl (some (.int (bI (if (M (b + 1) k) = 1 then (if (M (b + 2) k) = (M (b + 3) k) then (if (M (b + 6) k) = 0 then true else false) else false) else false)))), M, κ))
    : RT 13 (0, [.ref b, .int (nI k)], [], M, κ) Q := by
  refine w_load i_13_0 rfl rfl ?_
  refine w_getR (b + 1) i_13_1 hκ (bl_ob hb) rfl rfl ?_
  refine w_load i_13_4 rfl rfl ?_
  refine w_ialdN (e := k) (v := (M (b + 1) k)) i_13_5 hκ (bl_ar hb 1 (by decide)) (by omega) (by decide) (rfl) ?_
  refine w_push i_13_6 rfl ?_
  have K1 : RT 13 (39, [.ref b, .int (nI k)], [.int (bI (if (M (b + 1) k) = 1 then (if (M (b + 2) k) = (M (b + 3) k) then (if (M (b + 6) k) = 0 then true else false) else false) else false))], M, κ) Q := by
    exact w_iret i_13_39 (.inr ⟨rfl, isB_bI _⟩) (k1)
  refine w_if2n ((M (b + 1) k) = 1) i_13_7 cI_ne ?_ ?_
  · intro h2
    refine w_load i_13_10 rfl rfl ?_
    refine w_getR (b + 2) i_13_11 hκ (bl_ob hb) rfl rfl ?_
    refine w_load i_13_14 rfl rfl ?_
    refine w_ialdN (e := k) (v := (M (b + 2) k)) i_13_15 hκ (bl_ar hb 2 (by decide)) (by omega) (by decide) (rfl) ?_
    refine w_load i_13_16 rfl rfl ?_
    refine w_getR (b + 3) i_13_17 hκ (bl_ob hb) rfl rfl ?_
    refine w_load i_13_20 rfl rfl ?_
    refine w_ialdN (e := k) (v := (M (b + 3) k)) i_13_21 hκ (bl_ar hb 3 (by decide)) (by omega) (by decide) (rfl) ?_
    refine w_if2n ((M (b + 2) k) = (M (b + 3) k)) i_13_22 cI_ne ?_ ?_
    · intro h3
      refine w_load i_13_25 rfl rfl ?_
      refine w_getR (b + 6) i_13_26 hκ (bl_ob hb) rfl rfl ?_
      refine w_load i_13_29 rfl rfl ?_
      refine w_ialdN (e := k) (v := (M (b + 6) k)) i_13_30 hκ (bl_ar hb 6 (by decide)) (by omega) (by decide) (rfl) ?_
      refine w_if0n ((M (b + 6) k) = 0) i_13_31 cI0_ne ?_ ?_
      · intro h4
        refine w_push i_13_34 rfl ?_
        refine w_goto i_13_35 ?_
        exact (by first | exact (K1) | (have K9 := K1; simp only [↓if_pos h2, ↓if_pos h3, ↓if_pos h4] at K9 ⊢; exact (K9)))
      · intro h5
        refine w_push i_13_38 rfl ?_
        exact (by first | exact (K1) | (have K9 := K1; simp only [↓if_pos h2, ↓if_pos h3, ↓if_neg h5] at K9 ⊢; exact (K9)))
    · intro h6
      refine w_push i_13_38 rfl ?_
      exact (by first | exact (K1) | (have K9 := K1; simp only [↓if_pos h2, ↓if_neg h6] at K9 ⊢; exact (K9)))
  · intro h7
    refine w_push i_13_38 rfl ?_
    exact (by first | exact (K1) | (have K9 := K1; simp only [↓if_neg h7] at K9 ⊢; exact (K9)))
theorem c13 (hκ : Rd κ) {b : Nat} (hb : isBl b) {k : Nat} (hk : k < 10) {c : Int32} {d : Int32} {a : Int32} {g : Int32} (e0 : M (b + 1) k = c) (e1 : M (b + 2) k = d) (e2 : M (b + 3) k = a) (e3 : M (b + 6) k = g) : Run 13 (0, entL 13 [.ref b, .int (nI k)], [], M, κ) (.inl (some (.int (bI (stpF c d a g)))), M, κ) := by
  subst e0 e1 e2 e3
  exact RT_run (S13_0 hκ hb hk (by simp only [stpF]; congr 5; grind))
theorem i_6_0 : ins 6 0 = some (.aload_n 0, 1, 0, 0, 0, 0) := rfl
theorem i_6_1 : ins 6 1 = some (.getfield 9, 4, 0, 0, 0, 0) := rfl
theorem i_6_4 : ins 6 4 = some (.ifCond .eq 11, 7, 15, 0, 0, 0) := rfl
theorem i_6_7 : ins 6 7 = some (.aload_n 0, 8, 0, 0, 0, 0) := rfl
theorem i_6_8 : ins 6 8 = some (.getfield 18, 11, 0, 2, 0, 0) := rfl
theorem i_6_11 : ins 6 11 = some (.iload_n 1, 12, 1, 0, 0, 0) := rfl
theorem i_6_12 : ins 6 12 = some (.if_icmp .eq 19, 15, 31, 0, 0, 0) := rfl
theorem i_6_15 : ins 6 15 = some (.aload_n 0, 16, 0, 0, 0, 0) := rfl
theorem i_6_16 : ins 6 16 = some (.getfield 9, 19, 0, 0, 0, 0) := rfl
theorem i_6_19 : ins 6 19 = some (.iconst 2, 20, 0, 0, 0, 2) := rfl
theorem i_6_20 : ins 6 20 = some (.if_icmp .ne 15, 23, 35, 0, 0, 0) := rfl
theorem i_6_23 : ins 6 23 = some (.aload_n 0, 24, 0, 0, 0, 0) := rfl
theorem i_6_24 : ins 6 24 = some (.getfield 21, 27, 0, 3, 0, 0) := rfl
theorem i_6_27 : ins 6 27 = some (.iload_n 1, 28, 1, 0, 0, 0) := rfl
theorem i_6_28 : ins 6 28 = some (.if_icmp .ne 7, 31, 35, 0, 0, 0) := rfl
theorem i_6_31 : ins 6 31 = some (.iconst 1, 32, 0, 0, 0, 1) := rfl
theorem i_6_32 : ins 6 32 = some (.goto 4, 35, 36, 0, 0, 0) := rfl
theorem i_6_35 : ins 6 35 = some (.iconst 0, 36, 0, 0, 0, 0) := rfl
theorem i_6_36 : ins 6 36 = some (.ireturn, 37, 0, 0, 0, 0) := rfl
theorem S6_0 {Q : Ou → Prop} {M : Mem} {κ : Kp} (hκ : Rd κ) {b : Nat} (hb : isBl b) {y : Int32}
    (k1 : Q (.inl (some (.int (bI (if (M b 0) = 0 then (if (M b 0) = 2 then (if (M b 3) = y then true else false) else false) else (if (M b 2) = y then true else (if (M b 0) = 2 then (if (M b 3) = y then true else false) else false)))))), M, κ))
    : RT 6 (0, [.ref b, .int y], [], M, κ) Q := by
  refine w_load i_6_0 rfl rfl ?_
  refine w_getI (v := (M b 0)) i_6_1 hκ (bl_ob hb) rfl (rfl) ?_
  have K1 : RT 6 (36, [.ref b, .int y], [.int (bI (if (M b 0) = 0 then (if (M b 0) = 2 then (if (M b 3) = y then true else false) else false) else (if (M b 2) = y then true else (if (M b 0) = 2 then (if (M b 3) = y then true else false) else false))))], M, κ) Q := by
    exact w_iret i_6_36 (.inr ⟨rfl, isB_bI _⟩) (k1)
  refine w_if0 ((M b 0) = 0) i_6_4 cI0_eq ?_ ?_
  · intro h2
    refine w_load i_6_15 rfl rfl ?_
    refine w_getI (v := (M b 0)) i_6_16 hκ (bl_ob hb) rfl (rfl) ?_
    refine w_push i_6_19 rfl ?_
    refine w_if2n ((M b 0) = 2) i_6_20 cI_ne ?_ ?_
    · intro h3
      refine w_load i_6_23 rfl rfl ?_
      refine w_getI (v := (M b 3)) i_6_24 hκ (bl_ob hb) rfl (rfl) ?_
      refine w_load i_6_27 rfl rfl ?_
      refine w_if2n ((M b 3) = y) i_6_28 cI_ne ?_ ?_
      · intro h4
        refine w_push i_6_31 rfl ?_
        refine w_goto i_6_32 ?_
        exact (by first | exact (K1) | (have K9 := K1; simp only [↓if_pos h2, ↓if_pos h3, ↓if_pos h4] at K9 ⊢; exact (K9)))
      · intro h5
        refine w_push i_6_35 rfl ?_
        exact (by first | exact (K1) | (have K9 := K1; simp only [↓if_pos h2, ↓if_pos h3, ↓if_neg h5] at K9 ⊢; exact (K9)))
    · intro h6
      refine w_push i_6_35 rfl ?_
      exact (by first | exact (K1) | (have K9 := K1; simp only [↓if_pos h2, ↓if_neg h6] at K9 ⊢; exact (K9)))
  · intro h7
    refine w_load i_6_7 rfl rfl ?_
    refine w_getI (v := (M b 2)) i_6_8 hκ (bl_ob hb) rfl (rfl) ?_
    refine w_load i_6_11 rfl rfl ?_
    refine w_if2 ((M b 2) = y) i_6_12 cI_eq ?_ ?_
    · intro h8
      refine w_push i_6_31 rfl ?_
      refine w_goto i_6_32 ?_
      exact (by first | exact (K1) | (have K9 := K1; simp only [↓if_neg h7, ↓if_pos h8] at K9 ⊢; exact (K9)))
    · intro h9
      refine w_load i_6_15 rfl rfl ?_
      refine w_getI (v := (M b 0)) i_6_16 hκ (bl_ob hb) rfl (rfl) ?_
      refine w_push i_6_19 rfl ?_
      refine w_if2n ((M b 0) = 2) i_6_20 cI_ne ?_ ?_
      · intro h10
        refine w_load i_6_23 rfl rfl ?_
        refine w_getI (v := (M b 3)) i_6_24 hκ (bl_ob hb) rfl (rfl) ?_
        refine w_load i_6_27 rfl rfl ?_
        refine w_if2n ((M b 3) = y) i_6_28 cI_ne ?_ ?_
        · intro h11
          refine w_push i_6_31 rfl ?_
          refine w_goto i_6_32 ?_
          exact (by first | exact (K1) | (have K9 := K1; simp only [↓if_neg h7, ↓if_neg h9, ↓if_pos h10, ↓if_pos h11] at K9 ⊢; exact (K9)))
        · intro h12
          refine w_push i_6_35 rfl ?_
          exact (by first | exact (K1) | (have K9 := K1; simp only [↓if_neg h7, ↓if_neg h9, ↓if_pos h10, ↓if_neg h12] at K9 ⊢; exact (K9)))
      · intro h13
        refine w_push i_6_35 rfl ?_
        exact (by first | exact (K1) | (have K9 := K1; simp only [↓if_neg h7, ↓if_neg h9, ↓if_neg h13] at K9 ⊢; exact (K9)))
theorem c6 (hκ : Rd κ) {b : Nat} (hb : isBl b) {u : Int32} {t : Int32} {f : Int32} {y : Int32} (e0 : M b 0 = u) (e1 : M b 2 = t) (e2 : M b 3 = f) : Run 6 (0, entL 6 [.ref b, .int y], [], M, κ) (.inl (some (.int (bI (comF u t f y)))), M, κ) := by
  subst e0 e1 e2
  exact RT_run (S6_0 hκ hb (by simp only [comF]; congr 5; grind))
theorem i_16_0 : ins 16 0 = some (.aload_n 0, 1, 0, 0, 0, 0) := rfl
theorem i_16_1 : ins 16 1 = some (.getfield 25, 4, 1, 4, 0, 0) := rfl
theorem i_16_4 : ins 16 4 = some (.iload_n 1, 5, 1, 0, 0, 0) := rfl
theorem i_16_5 : ins 16 5 = some (.baload, 6, 0, 0, 0, 0) := rfl
theorem i_16_6 : ins 16 6 = some (.ifCond .eq 10, 9, 16, 0, 0, 0) := rfl
theorem i_16_9 : ins 16 9 = some (.aload_n 0, 10, 0, 0, 0, 0) := rfl
theorem i_16_10 : ins 16 10 = some (.getfield 22, 13, 1, 3, 0, 0) := rfl
theorem i_16_13 : ins 16 13 = some (.goto 7, 16, 20, 0, 0, 0) := rfl
theorem i_16_16 : ins 16 16 = some (.aload_n 0, 17, 0, 0, 0, 0) := rfl
theorem i_16_17 : ins 16 17 = some (.getfield 19, 20, 1, 2, 0, 0) := rfl
theorem i_16_20 : ins 16 20 = some (.ireturn, 21, 0, 0, 0, 0) := rfl
theorem S16_0 {Q : Ou → Prop} {M : Mem} {κ : Kp} (hκ : Rd κ) {k : Nat} (hk : k < 10) 
    (k1 : Q (.inl (some (.int (if (M 114 k) = 0 then (M 113 2) else (M 113 3)))), M, κ))
    : RT 16 (0, [.ref 113, .int (nI k)], [], M, κ) Q := by
  refine w_load i_16_0 rfl rfl ?_
  refine w_getR 114 i_16_1 hκ (⟨rfl, by decide⟩ : isOb 113 1) rfl rfl ?_
  refine w_load i_16_4 rfl rfl ?_
  refine w_zaldN (e := k) (v := (M 114 k)) i_16_5 hκ (⟨rfl, rfl, by decide⟩ : isZr 114 10) (by omega) (by decide) (rfl) ?_
  have K1 : RT 16 (20, [.ref 113, .int (nI k)], [.int (if (M 114 k) = 0 then (M 113 2) else (M 113 3))], M, κ) Q := by
    exact w_iret i_16_20 (.inl rfl) (k1)
  refine w_if0 ((M 114 k) = 0) i_16_6 cI0_eq ?_ ?_
  · intro h2
    refine w_load i_16_16 rfl rfl ?_
    refine w_getI (v := (M 113 2)) i_16_17 hκ (⟨rfl, by decide⟩ : isOb 113 1) rfl (rfl) ?_
    exact (by first | exact (K1) | (have K9 := K1; simp only [↓if_pos h2] at K9 ⊢; exact (K9)))
  · intro h3
    refine w_load i_16_9 rfl rfl ?_
    refine w_getI (v := (M 113 3)) i_16_10 hκ (⟨rfl, by decide⟩ : isOb 113 1) rfl (rfl) ?_
    refine w_goto i_16_13 ?_
    exact (by first | exact (K1) | (have K9 := K1; simp only [↓if_neg h3] at K9 ⊢; exact (K9)))
theorem c16 (hκ : Rd κ) {k : Nat} (hk : k < 10) {w : Int32} {al : Int32} {po : Int32} (e0 : M 114 k = w) (e1 : M 113 2 = al) (e2 : M 113 3 = po) : Run 16 (0, entL 16 [.ref 113, .int (nI k)], [], M, κ) (.inl (some (.int (if w = 0 then al else po))), M, κ) := by
  subst e0 e1 e2
  exact RT_run (S16_0 hκ hk rfl)
theorem i_116_0 : ins 116 0 = some (.aload_n 0, 1, 0, 0, 0, 0) := rfl
theorem i_116_1 : ins 116 1 = some (.getfield 81, 4, 7, 27, 0, 0) := rfl
theorem i_116_4 : ins 116 4 = some (.iload_n 1, 5, 1, 0, 0, 0) := rfl
theorem i_116_5 : ins 116 5 = some (.iaload, 6, 0, 0, 0, 0) := rfl
theorem i_116_6 : ins 116 6 = some (.bipush 7, 8, 0, 0, 0, 7) := rfl
theorem i_116_8 : ins 116 8 = some (.if_icmp .lt 7, 11, 15, 0, 0, 0) := rfl
theorem i_116_11 : ins 116 11 = some (.iconst 1, 12, 0, 0, 0, 1) := rfl
theorem i_116_12 : ins 116 12 = some (.goto 4, 15, 16, 0, 0, 0) := rfl
theorem i_116_15 : ins 116 15 = some (.iconst 0, 16, 0, 0, 0, 0) := rfl
theorem i_116_16 : ins 116 16 = some (.ireturn, 17, 0, 0, 0, 0) := rfl
theorem S116_0 {Q : Ou → Prop} {M : Mem} {κ : Kp} (hκ : Rd κ) {k : Nat} (hk : k < 60) 
    (k1 : Q (.inl (some (.int (bI (if (M 152 k) < 7 then false else true)))), M, κ))
    : RT 116 (0, [.ref 134, .int (nI k)], [], M, κ) Q := by
  refine w_load i_116_0 rfl rfl ?_
  refine w_getR 152 i_116_1 hκ (⟨rfl, by decide⟩ : isOb 134 7) rfl rfl ?_
  refine w_load i_116_4 rfl rfl ?_
  refine w_ialdN (e := k) (v := (M 152 k)) i_116_5 hκ (⟨rfl, rfl, by decide⟩ : isAr 152 60) (by omega) (by decide) (rfl) ?_
  refine w_push i_116_6 rfl ?_
  have K1 : RT 116 (16, [.ref 134, .int (nI k)], [.int (bI (if (M 152 k) < 7 then false else true))], M, κ) Q := by
    exact w_iret i_116_16 (.inr ⟨rfl, isB_bI _⟩) (k1)
  refine w_if2 ((M 152 k) < 7) i_116_8 cI_lt ?_ ?_
  · intro h2
    refine w_push i_116_15 rfl ?_
    exact (by first | exact (K1) | (have K9 := K1; simp only [↓if_pos h2] at K9 ⊢; exact (K9)))
  · intro h3
    refine w_push i_116_11 rfl ?_
    refine w_goto i_116_12 ?_
    exact (by first | exact (K1) | (have K9 := K1; simp only [↓if_neg h3] at K9 ⊢; exact (K9)))
theorem c116 (hκ : Rd κ) {k : Nat} (hk : k < 60) {c : Int32} (e0 : M 152 k = c) : Run 116 (0, entL 116 [.ref 134, .int (nI k)], [], M, κ) (.inl (some (.int (bI (isP c)))), M, κ) := by
  subst e0
  exact RT_run (S116_0 hκ hk rfl)
theorem i_117_0 : ins 117 0 = some (.aload_n 0, 1, 0, 0, 0, 0) := rfl
theorem i_117_1 : ins 117 1 = some (.getfield 81, 4, 7, 27, 0, 0) := rfl
theorem i_117_4 : ins 117 4 = some (.iload_n 1, 5, 1, 0, 0, 0) := rfl
theorem i_117_5 : ins 117 5 = some (.iaload, 6, 0, 0, 0, 0) := rfl
theorem i_117_6 : ins 117 6 = some (.invokestatic 183, 9, 105, 1, 1, 0) := rfl
theorem i_117_9 : ins 117 9 = some (.ifCond .eq 17, 12, 26, 0, 0, 0) := rfl
theorem i_117_12 : ins 117 12 = some (.aload_n 0, 13, 0, 0, 0, 0) := rfl
theorem i_117_13 : ins 117 13 = some (.getfield 84, 16, 7, 28, 0, 0) := rfl
theorem i_117_16 : ins 117 16 = some (.iload_n 1, 17, 1, 0, 0, 0) := rfl
theorem i_117_17 : ins 117 17 = some (.iaload, 18, 0, 0, 0, 0) := rfl
theorem i_117_18 : ins 117 18 = some (.iload_n 2, 19, 2, 0, 0, 0) := rfl
theorem i_117_19 : ins 117 19 = some (.if_icmp .ne 7, 22, 26, 0, 0, 0) := rfl
theorem i_117_22 : ins 117 22 = some (.iconst 1, 23, 0, 0, 0, 1) := rfl
theorem i_117_23 : ins 117 23 = some (.goto 4, 26, 27, 0, 0, 0) := rfl
theorem i_117_26 : ins 117 26 = some (.iconst 0, 27, 0, 0, 0, 0) := rfl
theorem i_117_27 : ins 117 27 = some (.ireturn, 28, 0, 0, 0, 0) := rfl
theorem S117_0 {Q : Ou → Prop} {M : Mem} {κ : Kp} (hκ : Rd κ) {k : Nat} (hk : k < 60) {v : Int32}
    (k1 : Q (.inl (some (.int (bI (if (isW (M 152 k)) = true then (if (M 153 k) = v then true else false) else false)))), M, κ))
    : RT 117 (0, [.ref 134, .int (nI k), .int v], [], M, κ) Q := by
  refine w_load i_117_0 rfl rfl ?_
  refine w_getR 152 i_117_1 hκ (⟨rfl, by decide⟩ : isOb 134 7) rfl rfl ?_
  refine w_load i_117_4 rfl rfl ?_
  refine w_ialdN (e := k) (v := (M 152 k)) i_117_5 hκ (⟨rfl, rfl, by decide⟩ : isAr 152 60) (by omega) (by decide) (rfl) ?_
  refine w_callS i_117_6 ⟨by decide, by decide, by decide, rfl, rfl⟩ (av := [.int (M 152 k)]) (rest := []) rfl rfl (Nat.le_of_ble_eq_true rfl) (v := some (.int (bI (isW (M 152 k))))) (c105 hκ) ?_
  have K1 : RT 117 (27, [.ref 134, .int (nI k), .int v], [.int (bI (if (isW (M 152 k)) = true then (if (M 153 k) = v then true else false) else false))], M, κ) Q := by
    exact w_iret i_117_27 (.inr ⟨rfl, isB_bI _⟩) (k1)
  refine w_if0n ((isW (M 152 k)) = true) i_117_9 cB_eq ?_ ?_
  · intro h2
    refine w_load i_117_12 rfl rfl ?_
    refine w_getR 153 i_117_13 hκ (⟨rfl, by decide⟩ : isOb 134 7) rfl rfl ?_
    refine w_load i_117_16 rfl rfl ?_
    refine w_ialdN (e := k) (v := (M 153 k)) i_117_17 hκ (⟨rfl, rfl, by decide⟩ : isAr 153 60) (by omega) (by decide) (rfl) ?_
    refine w_load i_117_18 rfl rfl ?_
    refine w_if2n ((M 153 k) = v) i_117_19 cI_ne ?_ ?_
    · intro h3
      refine w_push i_117_22 rfl ?_
      refine w_goto i_117_23 ?_
      exact (by first | exact (K1) | (have K9 := K1; simp only [↓if_pos h2, ↓if_pos h3] at K9 ⊢; exact (K9)))
    · intro h4
      refine w_push i_117_26 rfl ?_
      exact (by first | exact (K1) | (have K9 := K1; simp only [↓if_pos h2, ↓if_neg h4] at K9 ⊢; exact (K9)))
  · intro h5
    refine w_push i_117_26 rfl ?_
    exact (by first | exact (K1) | (have K9 := K1; simp only [↓if_neg h5] at K9 ⊢; exact (K9)))
theorem c117 (hκ : Rd κ) {k : Nat} (hk : k < 60) {c : Int32} {d : Int32} {v : Int32} (e0 : M 152 k = c) (e1 : M 153 k = d) : Run 117 (0, entL 117 [.ref 134, .int (nI k), .int v], [], M, κ) (.inl (some (.int (bI (wsM c d v)))), M, κ) := by
  subst e0 e1
  exact RT_run (S117_0 hκ hk (by simp only [wsM, isW]; congr 5; grind))
theorem i_118_0 : ins 118 0 = some (.aload_n 0, 1, 0, 0, 0, 0) := rfl
theorem i_118_1 : ins 118 1 = some (.getfield 81, 4, 7, 27, 0, 0) := rfl
theorem i_118_4 : ins 118 4 = some (.iload_n 1, 5, 1, 0, 0, 0) := rfl
theorem i_118_5 : ins 118 5 = some (.iaload, 6, 0, 0, 0, 0) := rfl
theorem i_118_6 : ins 118 6 = some (.istore_n 3, 7, 3, 0, 0, 0) := rfl
theorem i_118_7 : ins 118 7 = some (.iload_n 3, 8, 3, 0, 0, 0) := rfl
theorem i_118_8 : ins 118 8 = some (.ifCond .eq 17, 11, 25, 0, 0, 0) := rfl
theorem i_118_11 : ins 118 11 = some (.aload_n 0, 12, 0, 0, 0, 0) := rfl
theorem i_118_12 : ins 118 12 = some (.getfield 87, 15, 7, 29, 0, 0) := rfl
theorem i_118_15 : ins 118 15 = some (.iload_n 1, 16, 1, 0, 0, 0) := rfl
theorem i_118_16 : ins 118 16 = some (.iaload, 17, 0, 0, 0, 0) := rfl
theorem i_118_17 : ins 118 17 = some (.iload_n 2, 18, 2, 0, 0, 0) := rfl
theorem i_118_18 : ins 118 18 = some (.if_icmp .ne 7, 21, 25, 0, 0, 0) := rfl
theorem i_118_21 : ins 118 21 = some (.iconst 1, 22, 0, 0, 0, 1) := rfl
theorem i_118_22 : ins 118 22 = some (.goto 4, 25, 26, 0, 0, 0) := rfl
theorem i_118_25 : ins 118 25 = some (.iconst 0, 26, 0, 0, 0, 0) := rfl
theorem i_118_26 : ins 118 26 = some (.istore 4, 28, 4, 0, 0, 0) := rfl
theorem i_118_28 : ins 118 28 = some (.iload_n 3, 29, 3, 0, 0, 0) := rfl
theorem i_118_29 : ins 118 29 = some (.iconst 2, 30, 0, 0, 0, 2) := rfl
theorem i_118_30 : ins 118 30 = some (.if_icmp .eq 30, 33, 60, 0, 0, 0) := rfl
theorem i_118_33 : ins 118 33 = some (.iload_n 3, 34, 3, 0, 0, 0) := rfl
theorem i_118_34 : ins 118 34 = some (.iconst 3, 35, 0, 0, 0, 3) := rfl
theorem i_118_35 : ins 118 35 = some (.if_icmp .eq 25, 38, 60, 0, 0, 0) := rfl
theorem i_118_38 : ins 118 38 = some (.iload_n 3, 39, 3, 0, 0, 0) := rfl
theorem i_118_39 : ins 118 39 = some (.iconst 4, 40, 0, 0, 0, 4) := rfl
theorem i_118_40 : ins 118 40 = some (.if_icmp .eq 20, 43, 60, 0, 0, 0) := rfl
theorem i_118_43 : ins 118 43 = some (.iload_n 3, 44, 3, 0, 0, 0) := rfl
theorem i_118_44 : ins 118 44 = some (.iconst 5, 45, 0, 0, 0, 5) := rfl
theorem i_118_45 : ins 118 45 = some (.if_icmp .eq 15, 48, 60, 0, 0, 0) := rfl
theorem i_118_48 : ins 118 48 = some (.iload_n 3, 49, 3, 0, 0, 0) := rfl
theorem i_118_49 : ins 118 49 = some (.bipush 6, 51, 0, 0, 0, 6) := rfl
theorem i_118_51 : ins 118 51 = some (.if_icmp .eq 9, 54, 60, 0, 0, 0) := rfl
theorem i_118_54 : ins 118 54 = some (.iload_n 3, 55, 3, 0, 0, 0) := rfl
theorem i_118_55 : ins 118 55 = some (.bipush 8, 57, 0, 0, 0, 8) := rfl
theorem i_118_57 : ins 118 57 = some (.if_icmp .ne 17, 60, 74, 0, 0, 0) := rfl
theorem i_118_60 : ins 118 60 = some (.aload_n 0, 61, 0, 0, 0, 0) := rfl
theorem i_118_61 : ins 118 61 = some (.getfield 90, 64, 7, 30, 0, 0) := rfl
theorem i_118_64 : ins 118 64 = some (.iload_n 1, 65, 1, 0, 0, 0) := rfl
theorem i_118_65 : ins 118 65 = some (.iaload, 66, 0, 0, 0, 0) := rfl
theorem i_118_66 : ins 118 66 = some (.iload_n 2, 67, 2, 0, 0, 0) := rfl
theorem i_118_67 : ins 118 67 = some (.if_icmp .ne 7, 70, 74, 0, 0, 0) := rfl
theorem i_118_70 : ins 118 70 = some (.iconst 1, 71, 0, 0, 0, 1) := rfl
theorem i_118_71 : ins 118 71 = some (.goto 4, 74, 75, 0, 0, 0) := rfl
theorem i_118_74 : ins 118 74 = some (.iconst 0, 75, 0, 0, 0, 0) := rfl
theorem i_118_75 : ins 118 75 = some (.istore 5, 77, 5, 0, 0, 0) := rfl
theorem i_118_77 : ins 118 77 = some (.iload 4, 79, 4, 0, 0, 0) := rfl
theorem i_118_79 : ins 118 79 = some (.ifCond .ne 32, 82, 111, 0, 0, 0) := rfl
theorem i_118_82 : ins 118 82 = some (.iload 5, 84, 5, 0, 0, 0) := rfl
theorem i_118_84 : ins 118 84 = some (.ifCond .ne 27, 87, 111, 0, 0, 0) := rfl
theorem i_118_87 : ins 118 87 = some (.aload_n 0, 88, 0, 0, 0, 0) := rfl
theorem i_118_88 : ins 118 88 = some (.getfield 96, 91, 7, 32, 0, 0) := rfl
theorem i_118_91 : ins 118 91 = some (.iload_n 1, 92, 1, 0, 0, 0) := rfl
theorem i_118_92 : ins 118 92 = some (.iaload, 93, 0, 0, 0, 0) := rfl
theorem i_118_93 : ins 118 93 = some (.iconst 1, 94, 0, 0, 0, 1) := rfl
theorem i_118_94 : ins 118 94 = some (.iload_n 2, 95, 2, 0, 0, 0) := rfl
theorem i_118_95 : ins 118 95 = some (.iadd, 96, 0, 0, 0, 0) := rfl
theorem i_118_96 : ins 118 96 = some (.if_icmp .eq 15, 99, 111, 0, 0, 0) := rfl
theorem i_118_99 : ins 118 99 = some (.aload_n 0, 100, 0, 0, 0, 0) := rfl
theorem i_118_100 : ins 118 100 = some (.getfield 96, 103, 7, 32, 0, 0) := rfl
theorem i_118_103 : ins 118 103 = some (.iload_n 1, 104, 1, 0, 0, 0) := rfl
theorem i_118_104 : ins 118 104 = some (.iaload, 105, 0, 0, 0, 0) := rfl
theorem i_118_105 : ins 118 105 = some (.iconst (-1), 106, 0, 0, 0, (-1)) := rfl
theorem i_118_106 : ins 118 106 = some (.iload_n 2, 107, 2, 0, 0, 0) := rfl
theorem i_118_107 : ins 118 107 = some (.isub, 108, 0, 0, 0, 0) := rfl
theorem i_118_108 : ins 118 108 = some (.if_icmp .ne 7, 111, 115, 0, 0, 0) := rfl
theorem i_118_111 : ins 118 111 = some (.iconst 1, 112, 0, 0, 0, 1) := rfl
theorem i_118_112 : ins 118 112 = some (.goto 4, 115, 116, 0, 0, 0) := rfl
theorem i_118_115 : ins 118 115 = some (.iconst 0, 116, 0, 0, 0, 0) := rfl
theorem i_118_116 : ins 118 116 = some (.ireturn, 117, 0, 0, 0, 0) := rfl
theorem S118_0 {Q : Ou → Prop} {M : Mem} {κ : Kp} (hκ : Rd κ) {k : Nat} (hk : k < 60) {v : Int32}
    (k1 : Q (.inl (some (.int (bI (if (if (M 152 k) = 0 then false else (if (M 154 k) = v then true else false)) = true then true else (if (if (M 152 k) = 2 then (if (M 155 k) = v then true else false) else (if (M 152 k) = 3 then (if (M 155 k) = v then true else false) else (if (M 152 k) = 4 then (if (M 155 k) = v then true else false) else (if (M 152 k) = 5 then (if (M 155 k) = v then true else false) else (if (M 152 k) = 6 then (if (M 155 k) = v then true else false) else (if (M 152 k) = 8 then (if (M 155 k) = v then true else false) else false)))))) = true then true else (if (M 157 k) = (1 + v) then true else (if (M 157 k) = ((-1) - v) then true else false))))))), M, κ))
    : RT 118 (0, [.ref 134, .int (nI k), .int v, UU, UU, UU], [], M, κ) Q := by
  refine w_load i_118_0 rfl rfl ?_
  refine w_getR 152 i_118_1 hκ (⟨rfl, by decide⟩ : isOb 134 7) rfl rfl ?_
  refine w_load i_118_4 rfl rfl ?_
  refine w_ialdN (e := k) (v := (M 152 k)) i_118_5 hκ (⟨rfl, rfl, by decide⟩ : isAr 152 60) (by omega) (by decide) (rfl) ?_
  refine w_store (l1 := [.ref 134, .int (nI k), .int v, .int (M 152 k), UU, UU]) i_118_6 rfl (Nat.le_of_ble_eq_true rfl) rfl ?_
  refine w_load i_118_7 rfl rfl ?_
  have K1 : RT 118 (26, [.ref 134, .int (nI k), .int v, .int (M 152 k), UU, UU], [.int (bI (if (M 152 k) = 0 then false else (if (M 154 k) = v then true else false)))], M, κ) Q := by
    refine w_store (l1 := [.ref 134, .int (nI k), .int v, .int (M 152 k), .int (bI (if (M 152 k) = 0 then false else (if (M 154 k) = v then true else false))), UU]) i_118_26 rfl (Nat.le_of_ble_eq_true rfl) rfl ?_
    refine w_load i_118_28 rfl rfl ?_
    refine w_push i_118_29 rfl ?_
    have K2 : RT 118 (75, [.ref 134, .int (nI k), .int v, .int (M 152 k), .int (bI (if (M 152 k) = 0 then false else (if (M 154 k) = v then true else false))), UU], [.int (bI (if (M 152 k) = 2 then (if (M 155 k) = v then true else false) else (if (M 152 k) = 3 then (if (M 155 k) = v then true else false) else (if (M 152 k) = 4 then (if (M 155 k) = v then true else false) else (if (M 152 k) = 5 then (if (M 155 k) = v then true else false) else (if (M 152 k) = 6 then (if (M 155 k) = v then true else false) else (if (M 152 k) = 8 then (if (M 155 k) = v then true else false) else false)))))))], M, κ) Q := by
      refine w_store (l1 := [.ref 134, .int (nI k), .int v, .int (M 152 k), .int (bI (if (M 152 k) = 0 then false else (if (M 154 k) = v then true else false))), .int (bI (if (M 152 k) = 2 then (if (M 155 k) = v then true else false) else (if (M 152 k) = 3 then (if (M 155 k) = v then true else false) else (if (M 152 k) = 4 then (if (M 155 k) = v then true else false) else (if (M 152 k) = 5 then (if (M 155 k) = v then true else false) else (if (M 152 k) = 6 then (if (M 155 k) = v then true else false) else (if (M 152 k) = 8 then (if (M 155 k) = v then true else false) else false)))))))]) i_118_75 rfl (Nat.le_of_ble_eq_true rfl) rfl ?_
      refine w_load i_118_77 rfl rfl ?_
      have K3 : RT 118 (116, [.ref 134, .int (nI k), .int v, .int (M 152 k), .int (bI (if (M 152 k) = 0 then false else (if (M 154 k) = v then true else false))), .int (bI (if (M 152 k) = 2 then (if (M 155 k) = v then true else false) else (if (M 152 k) = 3 then (if (M 155 k) = v then true else false) else (if (M 152 k) = 4 then (if (M 155 k) = v then true else false) else (if (M 152 k) = 5 then (if (M 155 k) = v then true else false) else (if (M 152 k) = 6 then (if (M 155 k) = v then true else false) else (if (M 152 k) = 8 then (if (M 155 k) = v then true else false) else false)))))))], [.int (bI (if (if (M 152 k) = 0 then false else (if (M 154 k) = v then true else false)) = true then true else (if (if (M 152 k) = 2 then (if (M 155 k) = v then true else false) else (if (M 152 k) = 3 then (if (M 155 k) = v then true else false) else (if (M 152 k) = 4 then (if (M 155 k) = v then true else false) else (if (M 152 k) = 5 then (if (M 155 k) = v then true else false) else (if (M 152 k) = 6 then (if (M 155 k) = v then true else false) else (if (M 152 k) = 8 then (if (M 155 k) = v then true else false) else false)))))) = true then true else (if (M 157 k) = (1 + v) then true else (if (M 157 k) = ((-1) - v) then true else false)))))], M, κ) Q := by
        exact w_iret i_118_116 (.inr ⟨rfl, isB_bI _⟩) (k1)
      refine w_if0 ((if (M 152 k) = 0 then false else (if (M 154 k) = v then true else false)) = true) i_118_79 cB_ne ?_ ?_
      · intro h4
        refine w_push i_118_111 rfl ?_
        refine w_goto i_118_112 ?_
        exact (by first | exact (K3) | (have K9 := K3; simp only [↓if_pos h4] at K9 ⊢; exact (K9)))
      · intro h5
        refine w_load i_118_82 rfl rfl ?_
        refine w_if0 ((if (M 152 k) = 2 then (if (M 155 k) = v then true else false) else (if (M 152 k) = 3 then (if (M 155 k) = v then true else false) else (if (M 152 k) = 4 then (if (M 155 k) = v then true else false) else (if (M 152 k) = 5 then (if (M 155 k) = v then true else false) else (if (M 152 k) = 6 then (if (M 155 k) = v then true else false) else (if (M 152 k) = 8 then (if (M 155 k) = v then true else false) else false)))))) = true) i_118_84 cB_ne ?_ ?_
        · intro h6
          refine w_push i_118_111 rfl ?_
          refine w_goto i_118_112 ?_
          exact (by first | exact (K3) | (have K9 := K3; simp only [↓if_neg h5, ↓if_pos h6] at K9 ⊢; exact (K9)))
        · intro h7
          refine w_load i_118_87 rfl rfl ?_
          refine w_getR 157 i_118_88 hκ (⟨rfl, by decide⟩ : isOb 134 7) rfl rfl ?_
          refine w_load i_118_91 rfl rfl ?_
          refine w_ialdN (e := k) (v := (M 157 k)) i_118_92 hκ (⟨rfl, rfl, by decide⟩ : isAr 157 60) (by omega) (by decide) (rfl) ?_
          refine w_push i_118_93 rfl ?_
          refine w_load i_118_94 rfl rfl ?_
          refine w_bin (w := (1 + v)) i_118_95 rfl rfl ?_
          refine w_if2 ((M 157 k) = (1 + v)) i_118_96 cI_eq ?_ ?_
          · intro h8
            refine w_push i_118_111 rfl ?_
            refine w_goto i_118_112 ?_
            exact (by first | exact (K3) | (have K9 := K3; simp only [↓if_neg h5, ↓if_neg h7, ↓if_pos h8] at K9 ⊢; exact (K9)))
          · intro h9
            refine w_load i_118_99 rfl rfl ?_
            refine w_getR 157 i_118_100 hκ (⟨rfl, by decide⟩ : isOb 134 7) rfl rfl ?_
            refine w_load i_118_103 rfl rfl ?_
            refine w_ialdN (e := k) (v := (M 157 k)) i_118_104 hκ (⟨rfl, rfl, by decide⟩ : isAr 157 60) (by omega) (by decide) (rfl) ?_
            refine w_push i_118_105 rfl ?_
            refine w_load i_118_106 rfl rfl ?_
            refine w_bin (w := ((-1) - v)) i_118_107 rfl rfl ?_
            refine w_if2n ((M 157 k) = ((-1) - v)) i_118_108 cI_ne ?_ ?_
            · intro h10
              refine w_push i_118_111 rfl ?_
              refine w_goto i_118_112 ?_
              exact (by first | exact (K3) | (have K9 := K3; simp only [↓if_neg h5, ↓if_neg h7, ↓if_neg h9, ↓if_pos h10] at K9 ⊢; exact (K9)))
            · intro h11
              refine w_push i_118_115 rfl ?_
              exact (by first | exact (K3) | (have K9 := K3; simp only [↓if_neg h5, ↓if_neg h7, ↓if_neg h9, ↓if_neg h11] at K9 ⊢; exact (K9)))
    refine w_if2 ((M 152 k) = 2) i_118_30 cI_eq ?_ ?_
    · intro h12
      refine w_load i_118_60 rfl rfl ?_
      refine w_getR 155 i_118_61 hκ (⟨rfl, by decide⟩ : isOb 134 7) rfl rfl ?_
      refine w_load i_118_64 rfl rfl ?_
      refine w_ialdN (e := k) (v := (M 155 k)) i_118_65 hκ (⟨rfl, rfl, by decide⟩ : isAr 155 60) (by omega) (by decide) (rfl) ?_
      refine w_load i_118_66 rfl rfl ?_
      refine w_if2n ((M 155 k) = v) i_118_67 cI_ne ?_ ?_
      · intro h13
        refine w_push i_118_70 rfl ?_
        refine w_goto i_118_71 ?_
        exact (by first | exact (K2) | (have K9 := K2; simp only [↓if_pos h12, ↓if_pos h13] at K9 ⊢; exact (K9)))
      · intro h14
        refine w_push i_118_74 rfl ?_
        exact (by first | exact (K2) | (have K9 := K2; simp only [↓if_pos h12, ↓if_neg h14] at K9 ⊢; exact (K9)))
    · intro h15
      refine w_load i_118_33 rfl rfl ?_
      refine w_push i_118_34 rfl ?_
      refine w_if2 ((M 152 k) = 3) i_118_35 cI_eq ?_ ?_
      · intro h16
        refine w_load i_118_60 rfl rfl ?_
        refine w_getR 155 i_118_61 hκ (⟨rfl, by decide⟩ : isOb 134 7) rfl rfl ?_
        refine w_load i_118_64 rfl rfl ?_
        refine w_ialdN (e := k) (v := (M 155 k)) i_118_65 hκ (⟨rfl, rfl, by decide⟩ : isAr 155 60) (by omega) (by decide) (rfl) ?_
        refine w_load i_118_66 rfl rfl ?_
        refine w_if2n ((M 155 k) = v) i_118_67 cI_ne ?_ ?_
        · intro h17
          refine w_push i_118_70 rfl ?_
          refine w_goto i_118_71 ?_
          exact (by first | exact (K2) | (have K9 := K2; simp only [↓if_neg h15, ↓if_pos h16, ↓if_pos h17] at K9 ⊢; exact (K9)))
        · intro h18
          refine w_push i_118_74 rfl ?_
          exact (by first | exact (K2) | (have K9 := K2; simp only [↓if_neg h15, ↓if_pos h16, ↓if_neg h18] at K9 ⊢; exact (K9)))
      · intro h19
        refine w_load i_118_38 rfl rfl ?_
        refine w_push i_118_39 rfl ?_
        refine w_if2 ((M 152 k) = 4) i_118_40 cI_eq ?_ ?_
        · intro h20
          refine w_load i_118_60 rfl rfl ?_
          refine w_getR 155 i_118_61 hκ (⟨rfl, by decide⟩ : isOb 134 7) rfl rfl ?_
          refine w_load i_118_64 rfl rfl ?_
          refine w_ialdN (e := k) (v := (M 155 k)) i_118_65 hκ (⟨rfl, rfl, by decide⟩ : isAr 155 60) (by omega) (by decide) (rfl) ?_
          refine w_load i_118_66 rfl rfl ?_
          refine w_if2n ((M 155 k) = v) i_118_67 cI_ne ?_ ?_
          · intro h21
            refine w_push i_118_70 rfl ?_
            refine w_goto i_118_71 ?_
            exact (by first | exact (K2) | (have K9 := K2; simp only [↓if_neg h15, ↓if_neg h19, ↓if_pos h20, ↓if_pos h21] at K9 ⊢; exact (K9)))
          · intro h22
            refine w_push i_118_74 rfl ?_
            exact (by first | exact (K2) | (have K9 := K2; simp only [↓if_neg h15, ↓if_neg h19, ↓if_pos h20, ↓if_neg h22] at K9 ⊢; exact (K9)))
        · intro h23
          refine w_load i_118_43 rfl rfl ?_
          refine w_push i_118_44 rfl ?_
          refine w_if2 ((M 152 k) = 5) i_118_45 cI_eq ?_ ?_
          · intro h24
            refine w_load i_118_60 rfl rfl ?_
            refine w_getR 155 i_118_61 hκ (⟨rfl, by decide⟩ : isOb 134 7) rfl rfl ?_
            refine w_load i_118_64 rfl rfl ?_
            refine w_ialdN (e := k) (v := (M 155 k)) i_118_65 hκ (⟨rfl, rfl, by decide⟩ : isAr 155 60) (by omega) (by decide) (rfl) ?_
            refine w_load i_118_66 rfl rfl ?_
            refine w_if2n ((M 155 k) = v) i_118_67 cI_ne ?_ ?_
            · intro h25
              refine w_push i_118_70 rfl ?_
              refine w_goto i_118_71 ?_
              exact (by first | exact (K2) | (have K9 := K2; simp only [↓if_neg h15, ↓if_neg h19, ↓if_neg h23, ↓if_pos h24, ↓if_pos h25] at K9 ⊢; exact (K9)))
            · intro h26
              refine w_push i_118_74 rfl ?_
              exact (by first | exact (K2) | (have K9 := K2; simp only [↓if_neg h15, ↓if_neg h19, ↓if_neg h23, ↓if_pos h24, ↓if_neg h26] at K9 ⊢; exact (K9)))
          · intro h27
            refine w_load i_118_48 rfl rfl ?_
            refine w_push i_118_49 rfl ?_
            refine w_if2 ((M 152 k) = 6) i_118_51 cI_eq ?_ ?_
            · intro h28
              refine w_load i_118_60 rfl rfl ?_
              refine w_getR 155 i_118_61 hκ (⟨rfl, by decide⟩ : isOb 134 7) rfl rfl ?_
              refine w_load i_118_64 rfl rfl ?_
              refine w_ialdN (e := k) (v := (M 155 k)) i_118_65 hκ (⟨rfl, rfl, by decide⟩ : isAr 155 60) (by omega) (by decide) (rfl) ?_
              refine w_load i_118_66 rfl rfl ?_
              refine w_if2n ((M 155 k) = v) i_118_67 cI_ne ?_ ?_
              · intro h29
                refine w_push i_118_70 rfl ?_
                refine w_goto i_118_71 ?_
                exact (by first | exact (K2) | (have K9 := K2; simp only [↓if_neg h15, ↓if_neg h19, ↓if_neg h23, ↓if_neg h27, ↓if_pos h28, ↓if_pos h29] at K9 ⊢; exact (K9)))
              · intro h30
                refine w_push i_118_74 rfl ?_
                exact (by first | exact (K2) | (have K9 := K2; simp only [↓if_neg h15, ↓if_neg h19, ↓if_neg h23, ↓if_neg h27, ↓if_pos h28, ↓if_neg h30] at K9 ⊢; exact (K9)))
            · intro h31
              refine w_load i_118_54 rfl rfl ?_
              refine w_push i_118_55 rfl ?_
              refine w_if2n ((M 152 k) = 8) i_118_57 cI_ne ?_ ?_
              · intro h32
                refine w_load i_118_60 rfl rfl ?_
                refine w_getR 155 i_118_61 hκ (⟨rfl, by decide⟩ : isOb 134 7) rfl rfl ?_
                refine w_load i_118_64 rfl rfl ?_
                refine w_ialdN (e := k) (v := (M 155 k)) i_118_65 hκ (⟨rfl, rfl, by decide⟩ : isAr 155 60) (by omega) (by decide) (rfl) ?_
                refine w_load i_118_66 rfl rfl ?_
                refine w_if2n ((M 155 k) = v) i_118_67 cI_ne ?_ ?_
                · intro h33
                  refine w_push i_118_70 rfl ?_
                  refine w_goto i_118_71 ?_
                  exact (by first | exact (K2) | (have K9 := K2; simp only [↓if_neg h15, ↓if_neg h19, ↓if_neg h23, ↓if_neg h27, ↓if_neg h31, ↓if_pos h32, ↓if_pos h33] at K9 ⊢; exact (K9)))
                · intro h34
                  refine w_push i_118_74 rfl ?_
                  exact (by first | exact (K2) | (have K9 := K2; simp only [↓if_neg h15, ↓if_neg h19, ↓if_neg h23, ↓if_neg h27, ↓if_neg h31, ↓if_pos h32, ↓if_neg h34] at K9 ⊢; exact (K9)))
              · intro h35
                refine w_push i_118_74 rfl ?_
                exact (by first | exact (K2) | (have K9 := K2; simp only [↓if_neg h15, ↓if_neg h19, ↓if_neg h23, ↓if_neg h27, ↓if_neg h31, ↓if_neg h35] at K9 ⊢; exact (K9)))
  refine w_if0 ((M 152 k) = 0) i_118_8 cI0_eq ?_ ?_
  · intro h36
    refine w_push i_118_25 rfl ?_
    exact (by first | exact (K1) | (have K9 := K1; simp only [↓if_pos h36] at K9 ⊢; exact (K9)))
  · intro h37
    refine w_load i_118_11 rfl rfl ?_
    refine w_getR 154 i_118_12 hκ (⟨rfl, by decide⟩ : isOb 134 7) rfl rfl ?_
    refine w_load i_118_15 rfl rfl ?_
    refine w_ialdN (e := k) (v := (M 154 k)) i_118_16 hκ (⟨rfl, rfl, by decide⟩ : isAr 154 60) (by omega) (by decide) (rfl) ?_
    refine w_load i_118_17 rfl rfl ?_
    refine w_if2n ((M 154 k) = v) i_118_18 cI_ne ?_ ?_
    · intro h38
      refine w_push i_118_21 rfl ?_
      refine w_goto i_118_22 ?_
      exact (by first | exact (K1) | (have K9 := K1; simp only [↓if_neg h37, ↓if_pos h38] at K9 ⊢; exact (K9)))
    · intro h39
      refine w_push i_118_25 rfl ?_
      exact (by first | exact (K1) | (have K9 := K1; simp only [↓if_neg h37, ↓if_neg h39] at K9 ⊢; exact (K9)))
theorem c118 (hκ : Rd κ) {k : Nat} (hk : k < 60) {c : Int32} {a : Int32} {d : Int32} {g : Int32} {v : Int32} (e0 : M 152 k = c) (e1 : M 154 k = a) (e2 : M 155 k = d) (e3 : M 157 k = g) : Run 118 (0, entL 118 [.ref 134, .int (nI k), .int v], [], M, κ) (.inl (some (.int (bI (rdM c a d g v)))), M, κ) := by
  subst e0 e1 e2 e3
  exact RT_run (S118_0 hκ hk (by simp only [rdM]; congr 5; grind))
theorem i_119_0 : ins 119 0 = some (.aload_n 0, 1, 0, 0, 0, 0) := rfl
theorem i_119_1 : ins 119 1 = some (.getfield 81, 4, 7, 27, 0, 0) := rfl
theorem i_119_4 : ins 119 4 = some (.iload_n 1, 5, 1, 0, 0, 0) := rfl
theorem i_119_5 : ins 119 5 = some (.iaload, 6, 0, 0, 0, 0) := rfl
theorem i_119_6 : ins 119 6 = some (.bipush 7, 8, 0, 0, 0, 7) := rfl
theorem i_119_8 : ins 119 8 = some (.if_icmp .eq 14, 11, 22, 0, 0, 0) := rfl
theorem i_119_11 : ins 119 11 = some (.aload_n 0, 12, 0, 0, 0, 0) := rfl
theorem i_119_12 : ins 119 12 = some (.getfield 81, 15, 7, 27, 0, 0) := rfl
theorem i_119_15 : ins 119 15 = some (.iload_n 1, 16, 1, 0, 0, 0) := rfl
theorem i_119_16 : ins 119 16 = some (.iaload, 17, 0, 0, 0, 0) := rfl
theorem i_119_17 : ins 119 17 = some (.bipush 8, 19, 0, 0, 0, 8) := rfl
theorem i_119_19 : ins 119 19 = some (.if_icmp .ne 7, 22, 26, 0, 0, 0) := rfl
theorem i_119_22 : ins 119 22 = some (.iconst 1, 23, 0, 0, 0, 1) := rfl
theorem i_119_23 : ins 119 23 = some (.goto 4, 26, 27, 0, 0, 0) := rfl
theorem i_119_26 : ins 119 26 = some (.iconst 0, 27, 0, 0, 0, 0) := rfl
theorem i_119_27 : ins 119 27 = some (.ireturn, 28, 0, 0, 0, 0) := rfl
theorem S119_0 {Q : Ou → Prop} {M : Mem} {κ : Kp} (hκ : Rd κ) {k : Nat} (hk : k < 60) 
    (k1 : Q (.inl (some (.int (bI (if (M 152 k) = 7 then true else (if (M 152 k) = 8 then true else false))))), M, κ))
    : RT 119 (0, [.ref 134, .int (nI k)], [], M, κ) Q := by
  refine w_load i_119_0 rfl rfl ?_
  refine w_getR 152 i_119_1 hκ (⟨rfl, by decide⟩ : isOb 134 7) rfl rfl ?_
  refine w_load i_119_4 rfl rfl ?_
  refine w_ialdN (e := k) (v := (M 152 k)) i_119_5 hκ (⟨rfl, rfl, by decide⟩ : isAr 152 60) (by omega) (by decide) (rfl) ?_
  refine w_push i_119_6 rfl ?_
  have K1 : RT 119 (27, [.ref 134, .int (nI k)], [.int (bI (if (M 152 k) = 7 then true else (if (M 152 k) = 8 then true else false)))], M, κ) Q := by
    exact w_iret i_119_27 (.inr ⟨rfl, isB_bI _⟩) (k1)
  refine w_if2 ((M 152 k) = 7) i_119_8 cI_eq ?_ ?_
  · intro h2
    refine w_push i_119_22 rfl ?_
    refine w_goto i_119_23 ?_
    exact (by first | exact (K1) | (have K9 := K1; simp only [↓if_pos h2] at K9 ⊢; exact (K9)))
  · intro h3
    refine w_load i_119_11 rfl rfl ?_
    refine w_getR 152 i_119_12 hκ (⟨rfl, by decide⟩ : isOb 134 7) rfl rfl ?_
    refine w_load i_119_15 rfl rfl ?_
    refine w_ialdN (e := k) (v := (M 152 k)) i_119_16 hκ (⟨rfl, rfl, by decide⟩ : isAr 152 60) (by omega) (by decide) (rfl) ?_
    refine w_push i_119_17 rfl ?_
    refine w_if2n ((M 152 k) = 8) i_119_19 cI_ne ?_ ?_
    · intro h4
      refine w_push i_119_22 rfl ?_
      refine w_goto i_119_23 ?_
      exact (by first | exact (K1) | (have K9 := K1; simp only [↓if_neg h3, ↓if_pos h4] at K9 ⊢; exact (K9)))
    · intro h5
      refine w_push i_119_26 rfl ?_
      exact (by first | exact (K1) | (have K9 := K1; simp only [↓if_neg h3, ↓if_neg h5] at K9 ⊢; exact (K9)))
theorem c119 (hκ : Rd κ) {k : Nat} (hk : k < 60) {c : Int32} (e0 : M 152 k = c) : Run 119 (0, entL 119 [.ref 134, .int (nI k)], [], M, κ) (.inl (some (.int (bI (memF c)))), M, κ) := by
  subst e0
  exact RT_run (S119_0 hκ hk (by simp only [memF]; congr 5; grind))
theorem i_120_0 : ins 120 0 = some (.aload_n 0, 1, 0, 0, 0, 0) := rfl
theorem i_120_1 : ins 120 1 = some (.getfield 81, 4, 7, 27, 0, 0) := rfl
theorem i_120_4 : ins 120 4 = some (.iload_n 1, 5, 1, 0, 0, 0) := rfl
theorem i_120_5 : ins 120 5 = some (.iaload, 6, 0, 0, 0, 0) := rfl
theorem i_120_6 : ins 120 6 = some (.bipush 6, 8, 0, 0, 0, 6) := rfl
theorem i_120_8 : ins 120 8 = some (.if_icmp .ne 40, 11, 48, 0, 0, 0) := rfl
theorem i_120_11 : ins 120 11 = some (.aload_n 0, 12, 0, 0, 0, 0) := rfl
theorem i_120_12 : ins 120 12 = some (.getfield 81, 15, 7, 27, 0, 0) := rfl
theorem i_120_15 : ins 120 15 = some (.iload_n 2, 16, 2, 0, 0, 0) := rfl
theorem i_120_16 : ins 120 16 = some (.iaload, 17, 0, 0, 0, 0) := rfl
theorem i_120_17 : ins 120 17 = some (.bipush 6, 19, 0, 0, 0, 6) := rfl
theorem i_120_19 : ins 120 19 = some (.if_icmp .eq 25, 22, 44, 0, 0, 0) := rfl
theorem i_120_22 : ins 120 22 = some (.aload_n 0, 23, 0, 0, 0, 0) := rfl
theorem i_120_23 : ins 120 23 = some (.getfield 81, 26, 7, 27, 0, 0) := rfl
theorem i_120_26 : ins 120 26 = some (.iload_n 2, 27, 2, 0, 0, 0) := rfl
theorem i_120_27 : ins 120 27 = some (.iaload, 28, 0, 0, 0, 0) := rfl
theorem i_120_28 : ins 120 28 = some (.bipush 9, 30, 0, 0, 0, 9) := rfl
theorem i_120_30 : ins 120 30 = some (.if_icmp .eq 14, 33, 44, 0, 0, 0) := rfl
theorem i_120_33 : ins 120 33 = some (.aload_n 0, 34, 0, 0, 0, 0) := rfl
theorem i_120_34 : ins 120 34 = some (.getfield 81, 37, 7, 27, 0, 0) := rfl
theorem i_120_37 : ins 120 37 = some (.iload_n 2, 38, 2, 0, 0, 0) := rfl
theorem i_120_38 : ins 120 38 = some (.iaload, 39, 0, 0, 0, 0) := rfl
theorem i_120_39 : ins 120 39 = some (.bipush 8, 41, 0, 0, 0, 8) := rfl
theorem i_120_41 : ins 120 41 = some (.if_icmp .ne 7, 44, 48, 0, 0, 0) := rfl
theorem i_120_44 : ins 120 44 = some (.iconst 1, 45, 0, 0, 0, 1) := rfl
theorem i_120_45 : ins 120 45 = some (.goto 4, 48, 49, 0, 0, 0) := rfl
theorem i_120_48 : ins 120 48 = some (.iconst 0, 49, 0, 0, 0, 0) := rfl
theorem i_120_49 : ins 120 49 = some (.istore_n 3, 50, 3, 0, 0, 0) := rfl
theorem i_120_50 : ins 120 50 = some (.aload_n 0, 51, 0, 0, 0, 0) := rfl
theorem i_120_51 : ins 120 51 = some (.getfield 81, 54, 7, 27, 0, 0) := rfl
theorem i_120_54 : ins 120 54 = some (.iload_n 2, 55, 2, 0, 0, 0) := rfl
theorem i_120_55 : ins 120 55 = some (.iaload, 56, 0, 0, 0, 0) := rfl
theorem i_120_56 : ins 120 56 = some (.bipush 6, 58, 0, 0, 0, 6) := rfl
theorem i_120_58 : ins 120 58 = some (.if_icmp .ne 29, 61, 87, 0, 0, 0) := rfl
theorem i_120_61 : ins 120 61 = some (.aload_n 0, 62, 0, 0, 0, 0) := rfl
theorem i_120_62 : ins 120 62 = some (.getfield 81, 65, 7, 27, 0, 0) := rfl
theorem i_120_65 : ins 120 65 = some (.iload_n 1, 66, 1, 0, 0, 0) := rfl
theorem i_120_66 : ins 120 66 = some (.iaload, 67, 0, 0, 0, 0) := rfl
theorem i_120_67 : ins 120 67 = some (.bipush 9, 69, 0, 0, 0, 9) := rfl
theorem i_120_69 : ins 120 69 = some (.if_icmp .eq 14, 72, 83, 0, 0, 0) := rfl
theorem i_120_72 : ins 120 72 = some (.aload_n 0, 73, 0, 0, 0, 0) := rfl
theorem i_120_73 : ins 120 73 = some (.getfield 81, 76, 7, 27, 0, 0) := rfl
theorem i_120_76 : ins 120 76 = some (.iload_n 1, 77, 1, 0, 0, 0) := rfl
theorem i_120_77 : ins 120 77 = some (.iaload, 78, 0, 0, 0, 0) := rfl
theorem i_120_78 : ins 120 78 = some (.bipush 8, 80, 0, 0, 0, 8) := rfl
theorem i_120_80 : ins 120 80 = some (.if_icmp .ne 7, 83, 87, 0, 0, 0) := rfl
theorem i_120_83 : ins 120 83 = some (.iconst 1, 84, 0, 0, 0, 1) := rfl
theorem i_120_84 : ins 120 84 = some (.goto 4, 87, 88, 0, 0, 0) := rfl
theorem i_120_87 : ins 120 87 = some (.iconst 0, 88, 0, 0, 0, 0) := rfl
theorem i_120_88 : ins 120 88 = some (.istore 4, 90, 4, 0, 0, 0) := rfl
theorem i_120_90 : ins 120 90 = some (.iload_n 3, 91, 3, 0, 0, 0) := rfl
theorem i_120_91 : ins 120 91 = some (.ifCond .ne 30, 94, 121, 0, 0, 0) := rfl
theorem i_120_94 : ins 120 94 = some (.iload 4, 96, 4, 0, 0, 0) := rfl
theorem i_120_96 : ins 120 96 = some (.ifCond .ne 25, 99, 121, 0, 0, 0) := rfl
theorem i_120_99 : ins 120 99 = some (.aload_n 0, 100, 0, 0, 0, 0) := rfl
theorem i_120_100 : ins 120 100 = some (.getfield 81, 103, 7, 27, 0, 0) := rfl
theorem i_120_103 : ins 120 103 = some (.iload_n 1, 104, 1, 0, 0, 0) := rfl
theorem i_120_104 : ins 120 104 = some (.iaload, 105, 0, 0, 0, 0) := rfl
theorem i_120_105 : ins 120 105 = some (.bipush 9, 107, 0, 0, 0, 9) := rfl
theorem i_120_107 : ins 120 107 = some (.if_icmp .ne 18, 110, 125, 0, 0, 0) := rfl
theorem i_120_110 : ins 120 110 = some (.aload_n 0, 111, 0, 0, 0, 0) := rfl
theorem i_120_111 : ins 120 111 = some (.getfield 81, 114, 7, 27, 0, 0) := rfl
theorem i_120_114 : ins 120 114 = some (.iload_n 2, 115, 2, 0, 0, 0) := rfl
theorem i_120_115 : ins 120 115 = some (.iaload, 116, 0, 0, 0, 0) := rfl
theorem i_120_116 : ins 120 116 = some (.bipush 9, 118, 0, 0, 0, 9) := rfl
theorem i_120_118 : ins 120 118 = some (.if_icmp .ne 7, 121, 125, 0, 0, 0) := rfl
theorem i_120_121 : ins 120 121 = some (.iconst 1, 122, 0, 0, 0, 1) := rfl
theorem i_120_122 : ins 120 122 = some (.goto 4, 125, 126, 0, 0, 0) := rfl
theorem i_120_125 : ins 120 125 = some (.iconst 0, 126, 0, 0, 0, 0) := rfl
theorem i_120_126 : ins 120 126 = some (.ireturn, 127, 0, 0, 0, 0) := rfl
theorem S120_0 {Q : Ou → Prop} {M : Mem} {κ : Kp} (hκ : Rd κ) {i j : Nat} (hi : i < 60) (hj : j < 60) 
    (k1 : Q (.inl (some (.int (bI (if (if (M 152 i) = 6 then (if (M 152 j) = 6 then true else (if (M 152 j) = 9 then true else (if (M 152 j) = 8 then true else false))) else false) = true then true else (if (if (M 152 j) = 6 then (if (M 152 i) = 9 then true else (if (M 152 i) = 8 then true else false)) else false) = true then true else (if (M 152 i) = 9 then (if (M 152 j) = 9 then true else false) else false)))))), M, κ))
    : RT 120 (0, [.ref 134, .int (nI i), .int (nI j), UU, UU], [], M, κ) Q := by
  refine w_load i_120_0 rfl rfl ?_
  refine w_getR 152 i_120_1 hκ (⟨rfl, by decide⟩ : isOb 134 7) rfl rfl ?_
  refine w_load i_120_4 rfl rfl ?_
  refine w_ialdN (e := i) (v := (M 152 i)) i_120_5 hκ (⟨rfl, rfl, by decide⟩ : isAr 152 60) (by omega) (by decide) (rfl) ?_
  refine w_push i_120_6 rfl ?_
  have K1 : RT 120 (49, [.ref 134, .int (nI i), .int (nI j), UU, UU], [.int (bI (if (M 152 i) = 6 then (if (M 152 j) = 6 then true else (if (M 152 j) = 9 then true else (if (M 152 j) = 8 then true else false))) else false))], M, κ) Q := by
    refine w_store (l1 := [.ref 134, .int (nI i), .int (nI j), .int (bI (if (M 152 i) = 6 then (if (M 152 j) = 6 then true else (if (M 152 j) = 9 then true else (if (M 152 j) = 8 then true else false))) else false)), UU]) i_120_49 rfl (Nat.le_of_ble_eq_true rfl) rfl ?_
    refine w_load i_120_50 rfl rfl ?_
    refine w_getR 152 i_120_51 hκ (⟨rfl, by decide⟩ : isOb 134 7) rfl rfl ?_
    refine w_load i_120_54 rfl rfl ?_
    refine w_ialdN (e := j) (v := (M 152 j)) i_120_55 hκ (⟨rfl, rfl, by decide⟩ : isAr 152 60) (by omega) (by decide) (rfl) ?_
    refine w_push i_120_56 rfl ?_
    have K2 : RT 120 (88, [.ref 134, .int (nI i), .int (nI j), .int (bI (if (M 152 i) = 6 then (if (M 152 j) = 6 then true else (if (M 152 j) = 9 then true else (if (M 152 j) = 8 then true else false))) else false)), UU], [.int (bI (if (M 152 j) = 6 then (if (M 152 i) = 9 then true else (if (M 152 i) = 8 then true else false)) else false))], M, κ) Q := by
      refine w_store (l1 := [.ref 134, .int (nI i), .int (nI j), .int (bI (if (M 152 i) = 6 then (if (M 152 j) = 6 then true else (if (M 152 j) = 9 then true else (if (M 152 j) = 8 then true else false))) else false)), .int (bI (if (M 152 j) = 6 then (if (M 152 i) = 9 then true else (if (M 152 i) = 8 then true else false)) else false))]) i_120_88 rfl (Nat.le_of_ble_eq_true rfl) rfl ?_
      refine w_load i_120_90 rfl rfl ?_
      have K3 : RT 120 (126, [.ref 134, .int (nI i), .int (nI j), .int (bI (if (M 152 i) = 6 then (if (M 152 j) = 6 then true else (if (M 152 j) = 9 then true else (if (M 152 j) = 8 then true else false))) else false)), .int (bI (if (M 152 j) = 6 then (if (M 152 i) = 9 then true else (if (M 152 i) = 8 then true else false)) else false))], [.int (bI (if (if (M 152 i) = 6 then (if (M 152 j) = 6 then true else (if (M 152 j) = 9 then true else (if (M 152 j) = 8 then true else false))) else false) = true then true else (if (if (M 152 j) = 6 then (if (M 152 i) = 9 then true else (if (M 152 i) = 8 then true else false)) else false) = true then true else (if (M 152 i) = 9 then (if (M 152 j) = 9 then true else false) else false))))], M, κ) Q := by
        exact w_iret i_120_126 (.inr ⟨rfl, isB_bI _⟩) (k1)
      refine w_if0 ((if (M 152 i) = 6 then (if (M 152 j) = 6 then true else (if (M 152 j) = 9 then true else (if (M 152 j) = 8 then true else false))) else false) = true) i_120_91 cB_ne ?_ ?_
      · intro h4
        refine w_push i_120_121 rfl ?_
        refine w_goto i_120_122 ?_
        exact (by first | exact (K3) | (have K9 := K3; simp only [↓if_pos h4] at K9 ⊢; exact (K9)))
      · intro h5
        refine w_load i_120_94 rfl rfl ?_
        refine w_if0 ((if (M 152 j) = 6 then (if (M 152 i) = 9 then true else (if (M 152 i) = 8 then true else false)) else false) = true) i_120_96 cB_ne ?_ ?_
        · intro h6
          refine w_push i_120_121 rfl ?_
          refine w_goto i_120_122 ?_
          exact (by first | exact (K3) | (have K9 := K3; simp only [↓if_neg h5, ↓if_pos h6] at K9 ⊢; exact (K9)))
        · intro h7
          refine w_load i_120_99 rfl rfl ?_
          refine w_getR 152 i_120_100 hκ (⟨rfl, by decide⟩ : isOb 134 7) rfl rfl ?_
          refine w_load i_120_103 rfl rfl ?_
          refine w_ialdN (e := i) (v := (M 152 i)) i_120_104 hκ (⟨rfl, rfl, by decide⟩ : isAr 152 60) (by omega) (by decide) (rfl) ?_
          refine w_push i_120_105 rfl ?_
          refine w_if2n ((M 152 i) = 9) i_120_107 cI_ne ?_ ?_
          · intro h8
            refine w_load i_120_110 rfl rfl ?_
            refine w_getR 152 i_120_111 hκ (⟨rfl, by decide⟩ : isOb 134 7) rfl rfl ?_
            refine w_load i_120_114 rfl rfl ?_
            refine w_ialdN (e := j) (v := (M 152 j)) i_120_115 hκ (⟨rfl, rfl, by decide⟩ : isAr 152 60) (by omega) (by decide) (rfl) ?_
            refine w_push i_120_116 rfl ?_
            refine w_if2n ((M 152 j) = 9) i_120_118 cI_ne ?_ ?_
            · intro h9
              refine w_push i_120_121 rfl ?_
              refine w_goto i_120_122 ?_
              exact (by first | exact (K3) | (have K9 := K3; simp only [↓if_neg h5, ↓if_neg h7, ↓if_pos h8, ↓if_pos h9] at K9 ⊢; exact (K9)))
            · intro h10
              refine w_push i_120_125 rfl ?_
              exact (by first | exact (K3) | (have K9 := K3; simp only [↓if_neg h5, ↓if_neg h7, ↓if_pos h8, ↓if_neg h10] at K9 ⊢; exact (K9)))
          · intro h11
            refine w_push i_120_125 rfl ?_
            exact (by first | exact (K3) | (have K9 := K3; simp only [↓if_neg h5, ↓if_neg h7, ↓if_neg h11] at K9 ⊢; exact (K9)))
    refine w_if2n ((M 152 j) = 6) i_120_58 cI_ne ?_ ?_
    · intro h12
      refine w_load i_120_61 rfl rfl ?_
      refine w_getR 152 i_120_62 hκ (⟨rfl, by decide⟩ : isOb 134 7) rfl rfl ?_
      refine w_load i_120_65 rfl rfl ?_
      refine w_ialdN (e := i) (v := (M 152 i)) i_120_66 hκ (⟨rfl, rfl, by decide⟩ : isAr 152 60) (by omega) (by decide) (rfl) ?_
      refine w_push i_120_67 rfl ?_
      refine w_if2 ((M 152 i) = 9) i_120_69 cI_eq ?_ ?_
      · intro h13
        refine w_push i_120_83 rfl ?_
        refine w_goto i_120_84 ?_
        exact (by first | exact (K2) | (have K9 := K2; simp only [↓if_pos h12, ↓if_pos h13] at K9 ⊢; exact (K9)))
      · intro h14
        refine w_load i_120_72 rfl rfl ?_
        refine w_getR 152 i_120_73 hκ (⟨rfl, by decide⟩ : isOb 134 7) rfl rfl ?_
        refine w_load i_120_76 rfl rfl ?_
        refine w_ialdN (e := i) (v := (M 152 i)) i_120_77 hκ (⟨rfl, rfl, by decide⟩ : isAr 152 60) (by omega) (by decide) (rfl) ?_
        refine w_push i_120_78 rfl ?_
        refine w_if2n ((M 152 i) = 8) i_120_80 cI_ne ?_ ?_
        · intro h15
          refine w_push i_120_83 rfl ?_
          refine w_goto i_120_84 ?_
          exact (by first | exact (K2) | (have K9 := K2; simp only [↓if_pos h12, ↓if_neg h14, ↓if_pos h15] at K9 ⊢; exact (K9)))
        · intro h16
          refine w_push i_120_87 rfl ?_
          exact (by first | exact (K2) | (have K9 := K2; simp only [↓if_pos h12, ↓if_neg h14, ↓if_neg h16] at K9 ⊢; exact (K9)))
    · intro h17
      refine w_push i_120_87 rfl ?_
      exact (by first | exact (K2) | (have K9 := K2; simp only [↓if_neg h17] at K9 ⊢; exact (K9)))
  refine w_if2n ((M 152 i) = 6) i_120_8 cI_ne ?_ ?_
  · intro h18
    refine w_load i_120_11 rfl rfl ?_
    refine w_getR 152 i_120_12 hκ (⟨rfl, by decide⟩ : isOb 134 7) rfl rfl ?_
    refine w_load i_120_15 rfl rfl ?_
    refine w_ialdN (e := j) (v := (M 152 j)) i_120_16 hκ (⟨rfl, rfl, by decide⟩ : isAr 152 60) (by omega) (by decide) (rfl) ?_
    refine w_push i_120_17 rfl ?_
    refine w_if2 ((M 152 j) = 6) i_120_19 cI_eq ?_ ?_
    · intro h19
      refine w_push i_120_44 rfl ?_
      refine w_goto i_120_45 ?_
      exact (by first | exact (K1) | (have K9 := K1; simp only [↓if_pos h18, ↓if_pos h19] at K9 ⊢; exact (K9)))
    · intro h20
      refine w_load i_120_22 rfl rfl ?_
      refine w_getR 152 i_120_23 hκ (⟨rfl, by decide⟩ : isOb 134 7) rfl rfl ?_
      refine w_load i_120_26 rfl rfl ?_
      refine w_ialdN (e := j) (v := (M 152 j)) i_120_27 hκ (⟨rfl, rfl, by decide⟩ : isAr 152 60) (by omega) (by decide) (rfl) ?_
      refine w_push i_120_28 rfl ?_
      refine w_if2 ((M 152 j) = 9) i_120_30 cI_eq ?_ ?_
      · intro h21
        refine w_push i_120_44 rfl ?_
        refine w_goto i_120_45 ?_
        exact (by first | exact (K1) | (have K9 := K1; simp only [↓if_pos h18, ↓if_neg h20, ↓if_pos h21] at K9 ⊢; exact (K9)))
      · intro h22
        refine w_load i_120_33 rfl rfl ?_
        refine w_getR 152 i_120_34 hκ (⟨rfl, by decide⟩ : isOb 134 7) rfl rfl ?_
        refine w_load i_120_37 rfl rfl ?_
        refine w_ialdN (e := j) (v := (M 152 j)) i_120_38 hκ (⟨rfl, rfl, by decide⟩ : isAr 152 60) (by omega) (by decide) (rfl) ?_
        refine w_push i_120_39 rfl ?_
        refine w_if2n ((M 152 j) = 8) i_120_41 cI_ne ?_ ?_
        · intro h23
          refine w_push i_120_44 rfl ?_
          refine w_goto i_120_45 ?_
          exact (by first | exact (K1) | (have K9 := K1; simp only [↓if_pos h18, ↓if_neg h20, ↓if_neg h22, ↓if_pos h23] at K9 ⊢; exact (K9)))
        · intro h24
          refine w_push i_120_48 rfl ?_
          exact (by first | exact (K1) | (have K9 := K1; simp only [↓if_pos h18, ↓if_neg h20, ↓if_neg h22, ↓if_neg h24] at K9 ⊢; exact (K9)))
  · intro h25
    refine w_push i_120_48 rfl ?_
    exact (by first | exact (K1) | (have K9 := K1; simp only [↓if_neg h25] at K9 ⊢; exact (K9)))
theorem c120 (hκ : Rd κ) {i j : Nat} (hi : i < 60) (hj : j < 60) {c : Int32} {d : Int32} (e0 : M 152 i = c) (e1 : M 152 j = d) : Run 120 (0, entL 120 [.ref 134, .int (nI i), .int (nI j)], [], M, κ) (.inl (some (.int (bI (ordF c d)))), M, κ) := by
  subst e0 e1
  exact RT_run (S120_0 hκ hi hj (by simp only [ordF]; congr 5; grind))
theorem i_130_0 : ins 130 0 = some (.aload_n 0, 1, 0, 0, 0, 0) := rfl
theorem i_130_1 : ins 130 1 = some (.iload_n 1, 2, 1, 0, 0, 0) := rfl
theorem i_130_2 : ins 130 2 = some (.invokevirtual 259, 5, 116, 0, 2, 0) := rfl
theorem i_130_5 : ins 130 5 = some (.ifCond .eq 10, 8, 15, 0, 0, 0) := rfl
theorem i_130_8 : ins 130 8 = some (.aload_n 0, 9, 0, 0, 0, 0) := rfl
theorem i_130_9 : ins 130 9 = some (.getfield 13, 12, 7, 2, 0, 0) := rfl
theorem i_130_12 : ins 130 12 = some (.goto 7, 15, 19, 0, 0, 0) := rfl
theorem i_130_15 : ins 130 15 = some (.aload_n 0, 16, 0, 0, 0, 0) := rfl
theorem i_130_16 : ins 130 16 = some (.getfield 7, 19, 7, 1, 0, 0) := rfl
theorem i_130_19 : ins 130 19 = some (.ireturn, 20, 0, 0, 0, 0) := rfl
theorem S130_0 {Q : Ou → Prop} {M : Mem} {κ : Kp} (hκ : Rd κ) {k : Nat} (hk : k < 60) 
    (k1 : Q (.inl (some (.int (if (isP (M 152 k)) = true then (M 134 2) else (M 134 1)))), M, κ))
    : RT 130 (0, [.ref 134, .int (nI k)], [], M, κ) Q := by
  refine w_load i_130_0 rfl rfl ?_
  refine w_load i_130_1 rfl rfl ?_
  refine w_callV (i := _) i_130_2 ⟨by decide, by decide, by decide, rfl⟩ hκ (⟨rfl, by decide⟩ : isOb 134 7) (av := [.int (nI k)]) (rest := []) rfl rfl (Nat.le_of_ble_eq_true rfl) (v := some (.int (bI (isP (M 152 k))))) (c116 hκ (by omega) (rfl)) ?_
  have K1 : RT 130 (19, [.ref 134, .int (nI k)], [.int (if (isP (M 152 k)) = true then (M 134 2) else (M 134 1))], M, κ) Q := by
    exact w_iret i_130_19 (.inl rfl) (k1)
  refine w_if0n ((isP (M 152 k)) = true) i_130_5 cB_eq ?_ ?_
  · intro h2
    refine w_load i_130_8 rfl rfl ?_
    refine w_getI (v := (M 134 2)) i_130_9 hκ (⟨rfl, by decide⟩ : isOb 134 7) rfl (rfl) ?_
    refine w_goto i_130_12 ?_
    exact (by first | exact (K1) | (have K9 := K1; simp only [↓if_pos h2] at K9 ⊢; exact (K9)))
  · intro h3
    refine w_load i_130_15 rfl rfl ?_
    refine w_getI (v := (M 134 1)) i_130_16 hκ (⟨rfl, by decide⟩ : isOb 134 7) rfl (rfl) ?_
    exact (by first | exact (K1) | (have K9 := K1; simp only [↓if_neg h3] at K9 ⊢; exact (K9)))
theorem c130 (hκ : Rd κ) {k : Nat} (hk : k < 60) {c : Int32} {po : Int32} {al : Int32} (e0 : M 152 k = c) (e1 : M 134 2 = po) (e2 : M 134 1 = al) : Run 130 (0, entL 130 [.ref 134, .int (nI k)], [], M, κ) (.inl (some (.int (if isP c = true then po else al))), M, κ) := by
  subst e0 e1 e2
  exact RT_run (S130_0 hκ hk rfl)
end P_20_leaf
end
section
/-! THE GRAPH: offsets -/
section P_21_graph1
variable {Q : Ou → Prop} {M M0 : Mem} {κ : Kp}
theorem stM_n {k j k' j' : Nat} {v : Int32} (h : ¬ (k' = k ∧ j' = j)) : stM M k j v k' j' = M k' j' := if_neg h
abbrev Op : Type := Nat → Nat → Int32
def wr (O : Op) (k : Nat) : Int32 := wrF (O 0 k) (O 1 k)
def rd (O : Op) (k : Nat) (v : Int32) : Bool := rdF (O 0 k) (O 2 k) (O 3 k) (O 5 k) v
def stp (O : Op) (k : Nat) : Bool := stpF (O 0 k) (O 1 k) (O 2 k) (O 5 k)
/-- how many write v, and the last that does -/
def cwt (O : Op) (v : Int32) : Nat → Nat
  | 0 => 0
  | m + 1 => if wr O m = v then cwt O v m + 1 else cwt O v m
def lw (O : Op) (v : Int32) : Nat → Nat
  | 0 => 0
  | m + 1 => if wr O m = v then m else lw O v m
def sw (O : Op) (v : Int32) (k : Nat) : Nat → Int32
  | 0 => O 4 k
  | m + 1 => if wr O m = v then sw O v k m + (if m < k then O 4 m else 0) else sw O v k m
def loo (O : Op) (v : Int32) (m : Nat) : Int32 := if cwt O v m = 0 then 0 else bI (decide (1 < cwt O v m) || !stp O (lw O v m))
def amo (O : Op) (v : Int32) (m : Nat) : Int32 := if cwt O v m = 0 then 0 else O 4 (lw O v m)
theorem cwt_le (O : Op) (v : Int32) : ∀ m, cwt O v m ≤ m
  | 0 => Nat.le_refl 0
  | m + 1 => by
    have := cwt_le O v m
    unfold cwt
    split <;> omega
theorem i_24_0 : ins 24 0 = some (.aload_n 0, 1, 0, 0, 0, 0) := rfl
theorem i_24_1 : ins 24 1 = some (.getfield 42, 4, 1, 9, 0, 0) := rfl
theorem i_24_4 : ins 24 4 = some (.iload_n 2, 5, 2, 0, 0, 0) := rfl
theorem i_24_5 : ins 24 5 = some (.iconst 0, 6, 0, 0, 0, 0) := rfl
theorem i_24_6 : ins 24 6 = some (.bastore, 7, 0, 0, 0, 0) := rfl
theorem i_24_7 : ins 24 7 = some (.aload_n 0, 8, 0, 0, 0, 0) := rfl
theorem i_24_8 : ins 24 8 = some (.getfield 45, 11, 1, 10, 0, 0) := rfl
theorem i_24_11 : ins 24 11 = some (.iload_n 2, 12, 2, 0, 0, 0) := rfl
theorem i_24_12 : ins 24 12 = some (.aload_n 1, 13, 1, 0, 0, 0) := rfl
theorem i_24_13 : ins 24 13 = some (.getfield 117, 16, 0, 10, 0, 0) := rfl
theorem i_24_16 : ins 24 16 = some (.iload_n 2, 17, 2, 0, 0, 0) := rfl
theorem i_24_17 : ins 24 17 = some (.iaload, 18, 0, 0, 0, 0) := rfl
theorem i_24_18 : ins 24 18 = some (.iastore, 19, 0, 0, 0, 0) := rfl
theorem i_24_19 : ins 24 19 = some (.aload_n 0, 20, 0, 0, 0, 0) := rfl
theorem i_24_20 : ins 24 20 = some (.getfield 48, 23, 1, 11, 0, 0) := rfl
theorem i_24_23 : ins 24 23 = some (.iload_n 2, 24, 2, 0, 0, 0) := rfl
theorem i_24_24 : ins 24 24 = some (.iconst 0, 25, 0, 0, 0, 0) := rfl
theorem i_24_25 : ins 24 25 = some (.iastore, 26, 0, 0, 0, 0) := rfl
theorem i_24_26 : ins 24 26 = some (.iconst 0, 27, 0, 0, 0, 0) := rfl
theorem i_24_27 : ins 24 27 = some (.istore_n 3, 28, 3, 0, 0, 0) := rfl
theorem i_24_28 : ins 24 28 = some (.iconst 0, 29, 0, 0, 0, 0) := rfl
theorem i_24_29 : ins 24 29 = some (.istore 4, 31, 4, 0, 0, 0) := rfl
theorem i_24_31 : ins 24 31 = some (.iload 4, 33, 4, 0, 0, 0) := rfl
theorem i_24_33 : ins 24 33 = some (.aload_n 1, 34, 1, 0, 0, 0) := rfl
theorem i_24_34 : ins 24 34 = some (.getfield 51, 37, 0, 4, 0, 0) := rfl
theorem i_24_37 : ins 24 37 = some (.if_icmp .ge 91, 40, 128, 0, 0, 0) := rfl
theorem i_24_40 : ins 24 40 = some (.aload_n 1, 41, 1, 0, 0, 0) := rfl
theorem i_24_41 : ins 24 41 = some (.iload 4, 43, 4, 0, 0, 0) := rfl
theorem i_24_43 : ins 24 43 = some (.invokevirtual 86, 46, 9, 0, 2, 0) := rfl
theorem i_24_46 : ins 24 46 = some (.aload_n 1, 47, 1, 0, 0, 0) := rfl
theorem i_24_47 : ins 24 47 = some (.getfield 111, 50, 0, 8, 0, 0) := rfl
theorem i_24_50 : ins 24 50 = some (.iload_n 2, 51, 2, 0, 0, 0) := rfl
theorem i_24_51 : ins 24 51 = some (.iaload, 52, 0, 0, 0, 0) := rfl
theorem i_24_52 : ins 24 52 = some (.if_icmp .ne 70, 55, 122, 0, 0, 0) := rfl
theorem i_24_55 : ins 24 55 = some (.iinc 3 1, 58, 3, 0, 0, 1) := rfl
theorem i_24_58 : ins 24 58 = some (.aload_n 0, 59, 0, 0, 0, 0) := rfl
theorem i_24_59 : ins 24 59 = some (.getfield 42, 62, 1, 9, 0, 0) := rfl
theorem i_24_62 : ins 24 62 = some (.iload_n 2, 63, 2, 0, 0, 0) := rfl
theorem i_24_63 : ins 24 63 = some (.iload_n 3, 64, 3, 0, 0, 0) := rfl
theorem i_24_64 : ins 24 64 = some (.iconst 1, 65, 0, 0, 0, 1) := rfl
theorem i_24_65 : ins 24 65 = some (.if_icmp .gt 12, 68, 77, 0, 0, 0) := rfl
theorem i_24_68 : ins 24 68 = some (.aload_n 1, 69, 1, 0, 0, 0) := rfl
theorem i_24_69 : ins 24 69 = some (.iload 4, 71, 4, 0, 0, 0) := rfl
theorem i_24_71 : ins 24 71 = some (.invokevirtual 120, 74, 13, 0, 2, 0) := rfl
theorem i_24_74 : ins 24 74 = some (.ifCond .ne 7, 77, 81, 0, 0, 0) := rfl
theorem i_24_77 : ins 24 77 = some (.iconst 1, 78, 0, 0, 0, 1) := rfl
theorem i_24_78 : ins 24 78 = some (.goto 4, 81, 82, 0, 0, 0) := rfl
theorem i_24_81 : ins 24 81 = some (.iconst 0, 82, 0, 0, 0, 0) := rfl
theorem i_24_82 : ins 24 82 = some (.bastore, 83, 0, 0, 0, 0) := rfl
theorem i_24_83 : ins 24 83 = some (.aload_n 0, 84, 0, 0, 0, 0) := rfl
theorem i_24_84 : ins 24 84 = some (.getfield 48, 87, 1, 11, 0, 0) := rfl
theorem i_24_87 : ins 24 87 = some (.iload_n 2, 88, 2, 0, 0, 0) := rfl
theorem i_24_88 : ins 24 88 = some (.aload_n 1, 89, 1, 0, 0, 0) := rfl
theorem i_24_89 : ins 24 89 = some (.getfield 117, 92, 0, 10, 0, 0) := rfl
theorem i_24_92 : ins 24 92 = some (.iload 4, 94, 4, 0, 0, 0) := rfl
theorem i_24_94 : ins 24 94 = some (.iaload, 95, 0, 0, 0, 0) := rfl
theorem i_24_95 : ins 24 95 = some (.iastore, 96, 0, 0, 0, 0) := rfl
theorem i_24_96 : ins 24 96 = some (.aload_n 0, 97, 0, 0, 0, 0) := rfl
theorem i_24_97 : ins 24 97 = some (.getfield 45, 100, 1, 10, 0, 0) := rfl
theorem i_24_100 : ins 24 100 = some (.iload_n 2, 101, 2, 0, 0, 0) := rfl
theorem i_24_101 : ins 24 101 = some (.dup2, 102, 0, 0, 0, 0) := rfl
theorem i_24_102 : ins 24 102 = some (.iaload, 103, 0, 0, 0, 0) := rfl
theorem i_24_103 : ins 24 103 = some (.iload 4, 105, 4, 0, 0, 0) := rfl
theorem i_24_105 : ins 24 105 = some (.iload_n 2, 106, 2, 0, 0, 0) := rfl
theorem i_24_106 : ins 24 106 = some (.if_icmp .ge 13, 109, 119, 0, 0, 0) := rfl
theorem i_24_109 : ins 24 109 = some (.aload_n 1, 110, 1, 0, 0, 0) := rfl
theorem i_24_110 : ins 24 110 = some (.getfield 117, 113, 0, 10, 0, 0) := rfl
theorem i_24_113 : ins 24 113 = some (.iload 4, 115, 4, 0, 0, 0) := rfl
theorem i_24_115 : ins 24 115 = some (.iaload, 116, 0, 0, 0, 0) := rfl
theorem i_24_116 : ins 24 116 = some (.goto 4, 119, 120, 0, 0, 0) := rfl
theorem i_24_119 : ins 24 119 = some (.iconst 0, 120, 0, 0, 0, 0) := rfl
theorem i_24_120 : ins 24 120 = some (.iadd, 121, 0, 0, 0, 0) := rfl
theorem i_24_121 : ins 24 121 = some (.iastore, 122, 0, 0, 0, 0) := rfl
theorem i_24_122 : ins 24 122 = some (.iinc 4 1, 125, 4, 0, 0, 1) := rfl
theorem i_24_125 : ins 24 125 = some (.goto (-94), 128, 31, 0, 0, 0) := rfl
theorem i_24_128 : ins 24 128 = some (.return_, 129, 0, 0, 0, 0) := rfl
theorem S24_0 {Q : Ou → Prop} {M : Mem} {κ : Kp} (hκ : Rd κ) {b n k w : Nat} {O : Op} (hb : isBl b) (hk : k < n) (hn : n ≤ 10) (hw : w ≤ n) (hc : M b 4 = nI n) (hO : ∀ f, f < 6 → ∀ j, j < n → M (b + 1 + f) j = O f j) 
    (k1 : RT 24 (31, [.ref 113, .ref b, .int (nI k), .int 0, .int (nI 0)], [], (stM (stM (stM M 119 k 0) 120 k (O 4 k)) 121 k 0), κ) Q)
    : RT 24 (0, [.ref 113, .ref b, .int (nI k), UU, UU], [], M, κ) Q := by
  refine w_load i_24_0 rfl rfl ?_
  refine w_getR 119 i_24_1 hκ (⟨rfl, by decide⟩ : isOb 113 1) rfl rfl ?_
  refine w_load i_24_4 rfl rfl ?_
  refine w_push i_24_5 rfl ?_
  refine w_zastN (e := k) i_24_6 hκ (⟨rfl, rfl, by decide⟩ : isZr 119 10) (by omega) (by decide) rfl ?_
  refine w_load i_24_7 rfl rfl ?_
  refine w_getR 120 i_24_8 hκ (⟨rfl, by decide⟩ : isOb 113 1) rfl rfl ?_
  refine w_load i_24_11 rfl rfl ?_
  refine w_load i_24_12 rfl rfl ?_
  refine w_getR (b + 5) i_24_13 hκ (bl_ob hb) rfl rfl ?_
  refine w_load i_24_16 rfl rfl ?_
  refine w_ialdN (e := k) (v := (O 4 k)) i_24_17 hκ (bl_ar hb 5 (by decide)) (by omega) (by decide) ((stM_o (by have := bl_rng hb; omega)).trans (hO 4 (by decide) k (by omega))) ?_
  refine w_iastN (e := k) i_24_18 hκ (⟨rfl, rfl, by decide⟩ : isAr 120 10) (by omega) (by decide) ?_
  refine w_load i_24_19 rfl rfl ?_
  refine w_getR 121 i_24_20 hκ (⟨rfl, by decide⟩ : isOb 113 1) rfl rfl ?_
  refine w_load i_24_23 rfl rfl ?_
  refine w_push i_24_24 rfl ?_
  refine w_iastN (e := k) i_24_25 hκ (⟨rfl, rfl, by decide⟩ : isAr 121 10) (by omega) (by decide) ?_
  refine w_push i_24_26 rfl ?_
  refine w_store (l1 := [.ref 113, .ref b, .int (nI k), .int 0, UU]) i_24_27 rfl (Nat.le_of_ble_eq_true rfl) rfl ?_
  refine w_push i_24_28 rfl ?_
  refine w_store (l1 := [.ref 113, .ref b, .int (nI k), .int 0, .int 0]) i_24_29 rfl (Nat.le_of_ble_eq_true rfl) rfl ?_
  exact (k1)
theorem S24_31 {Q : Ou → Prop} {M : Mem} {κ : Kp} (hκ : Rd κ) {b n k w : Nat} {O : Op} (hb : isBl b) (hk : k < n) (hn : n ≤ 10) (hw : w ≤ n) (hc : M b 4 = nI n) (hO : ∀ f, f < 6 → ∀ j, j < n → M (b + 1 + f) j = O f j) {ws : Int32}
    (k1 : w < n → RT 24 (31, [.ref 113, .ref b, .int (nI k), .int (if (wrF (O 0 w) (O 1 w)) = (O 2 k) then (ws + 1) else ws), .int (nI (w + 1))], [], (if (wrF (O 0 w) (O 1 w)) = (O 2 k) then (stM (stM (stM M 119 k (bI (if 1 < (ws + 1) then true else (if (stpF (O 0 w) (O 1 w) (O 2 w) (O 5 w)) = true then false else true)))) 121 k (O 4 w)) 120 k ((M 120 k) + (if w < k then (O 4 w) else 0))) else M), κ) Q)
    (k2 : ¬ (w < n) → Q (.inl none, M, κ))
    : RT 24 (31, [.ref 113, .ref b, .int (nI k), .int ws, .int (nI w)], [], M, κ) Q := by
  refine w_load i_24_31 rfl rfl ?_
  refine w_load i_24_33 rfl rfl ?_
  refine w_getI (v := (nI n)) i_24_34 hκ (bl_ob hb) rfl (hc) ?_
  refine w_if2n (w < n) i_24_37 (cN_ge (a := w) (b := n) (by omega) (by omega)) ?_ ?_
  · intro h1
    refine w_load i_24_40 rfl rfl ?_
    refine w_load i_24_41 rfl rfl ?_
    refine w_callV (i := _) i_24_43 ⟨by decide, by decide, by decide, rfl⟩ hκ (bl_ob hb) (av := [.int (nI w)]) (rest := []) rfl rfl (Nat.le_of_ble_eq_true rfl) (v := some (.int (wrF (O 0 w) (O 1 w)))) (c9 hκ hb (by omega) (hO 0 (by decide) w (by omega)) (hO 1 (by decide) w (by omega))) ?_
    refine w_load i_24_46 rfl rfl ?_
    refine w_getR (b + 3) i_24_47 hκ (bl_ob hb) rfl rfl ?_
    refine w_load i_24_50 rfl rfl ?_
    refine w_ialdN (e := k) (v := (O 2 k)) i_24_51 hκ (bl_ar hb 3 (by decide)) (by omega) (by decide) (hO 2 (by decide) k (by omega)) ?_
    have K2 : RT 24 (122, [.ref 113, .ref b, .int (nI k), .int (if (wrF (O 0 w) (O 1 w)) = (O 2 k) then (ws + 1) else ws), .int (nI w)], [], (if (wrF (O 0 w) (O 1 w)) = (O 2 k) then (stM (stM (stM M 119 k (bI (if 1 < (ws + 1) then true else (if (stpF (O 0 w) (O 1 w) (O 2 w) (O 5 w)) = true then false else true)))) 121 k (O 4 w)) 120 k ((M 120 k) + (if w < k then (O 4 w) else 0))) else M), κ) Q := by
      refine w_iincN (n := w) (l1 := [.ref 113, .ref b, .int (nI k), .int (if (wrF (O 0 w) (O 1 w)) = (O 2 k) then (ws + 1) else ws), .int (nI (w + 1))]) 1 i_24_122 rfl rfl ?_
      refine w_goto i_24_125 ?_
      exact (k1 h1)
    refine w_if2n ((wrF (O 0 w) (O 1 w)) = (O 2 k)) i_24_52 cI_ne ?_ ?_
    · intro h3
      refine w_iinc (l1 := [.ref 113, .ref b, .int (nI k), .int (ws + 1), .int (nI w)]) i_24_55 rfl rfl ?_
      refine w_load i_24_58 rfl rfl ?_
      refine w_getR 119 i_24_59 hκ (⟨rfl, by decide⟩ : isOb 113 1) rfl rfl ?_
      refine w_load i_24_62 rfl rfl ?_
      refine w_load i_24_63 rfl rfl ?_
      refine w_push i_24_64 rfl ?_
      have K4 : RT 24 (82, [.ref 113, .ref b, .int (nI k), .int (ws + 1), .int (nI w)], [.int (bI (if 1 < (ws + 1) then true else (if (stpF (O 0 w) (O 1 w) (O 2 w) (O 5 w)) = true then false else true))), .int (nI k), .ref 119], M, κ) Q := by
        refine w_zastN (e := k) i_24_82 hκ (⟨rfl, rfl, by decide⟩ : isZr 119 10) (by omega) (by decide) (isB_bI _) ?_
        refine w_load i_24_83 rfl rfl ?_
        refine w_getR 121 i_24_84 hκ (⟨rfl, by decide⟩ : isOb 113 1) rfl rfl ?_
        refine w_load i_24_87 rfl rfl ?_
        refine w_load i_24_88 rfl rfl ?_
        refine w_getR (b + 5) i_24_89 hκ (bl_ob hb) rfl rfl ?_
        refine w_load i_24_92 rfl rfl ?_
        refine w_ialdN (e := w) (v := (O 4 w)) i_24_94 hκ (bl_ar hb 5 (by decide)) (by omega) (by decide) ((stM_o (by have := bl_rng hb; omega)).trans (hO 4 (by decide) w (by omega))) ?_
        refine w_iastN (e := k) i_24_95 hκ (⟨rfl, rfl, by decide⟩ : isAr 121 10) (by omega) (by decide) ?_
        refine w_load i_24_96 rfl rfl ?_
        refine w_getR 120 i_24_97 hκ (⟨rfl, by decide⟩ : isOb 113 1) rfl rfl ?_
        refine w_load i_24_100 rfl rfl ?_
        refine w_dup2 i_24_101 rfl rfl ?_
        refine w_ialdN (e := k) (v := (M 120 k)) i_24_102 hκ (⟨rfl, rfl, by decide⟩ : isAr 120 10) (by omega) (by decide) ((stM_o (by decide)).trans ((stM_o (by decide)).trans (rfl))) ?_
        refine w_load i_24_103 rfl rfl ?_
        refine w_load i_24_105 rfl rfl ?_
        have K5 : RT 24 (120, [.ref 113, .ref b, .int (nI k), .int (ws + 1), .int (nI w)], [.int (if w < k then (O 4 w) else 0), .int (M 120 k), .int (nI k), .ref 120], (stM (stM M 119 k (bI (if 1 < (ws + 1) then true else (if (stpF (O 0 w) (O 1 w) (O 2 w) (O 5 w)) = true then false else true)))) 121 k (O 4 w)), κ) Q := by
          refine w_bin (w := ((M 120 k) + (if w < k then (O 4 w) else 0))) i_24_120 rfl rfl ?_
          refine w_iastN (e := k) i_24_121 hκ (⟨rfl, rfl, by decide⟩ : isAr 120 10) (by omega) (by decide) ?_
          exact (by first | exact (K2) | (have K9 := K2; simp only [↓if_pos h3] at K9 ⊢; exact (K9)))
        refine w_if2n (w < k) i_24_106 (cN_ge (a := w) (b := k) (by omega) (by omega)) ?_ ?_
        · intro h6
          refine w_load i_24_109 rfl rfl ?_
          refine w_getR (b + 5) i_24_110 hκ (bl_ob hb) rfl rfl ?_
          refine w_load i_24_113 rfl rfl ?_
          refine w_ialdN (e := w) (v := (O 4 w)) i_24_115 hκ (bl_ar hb 5 (by decide)) (by omega) (by decide) ((stM_o (by have := bl_rng hb; omega)).trans ((stM_o (by have := bl_rng hb; omega)).trans (hO 4 (by decide) w (by omega)))) ?_
          refine w_goto i_24_116 ?_
          exact (by first | exact (K5) | (have K9 := K5; simp only [↓if_pos h6] at K9 ⊢; exact (K9)))
        · intro h7
          refine w_push i_24_119 rfl ?_
          exact (by first | exact (K5) | (have K9 := K5; simp only [↓if_neg h7] at K9 ⊢; exact (K9)))
      refine w_if2 (1 < (ws + 1)) i_24_65 cI_gt ?_ ?_
      · intro h8
        refine w_push i_24_77 rfl ?_
        refine w_goto i_24_78 ?_
        exact (by first | exact (K4) | (have K9 := K4; simp only [↓if_pos h8] at K9 ⊢; exact (K9)))
      · intro h9
        refine w_load i_24_68 rfl rfl ?_
        refine w_load i_24_69 rfl rfl ?_
        refine w_callV (i := _) i_24_71 ⟨by decide, by decide, by decide, rfl⟩ hκ (bl_ob hb) (av := [.int (nI w)]) (rest := [.int (nI k), .ref 119]) rfl rfl (Nat.le_of_ble_eq_true rfl) (v := some (.int (bI (stpF (O 0 w) (O 1 w) (O 2 w) (O 5 w))))) (c13 hκ hb (by omega) (hO 0 (by decide) w (by omega)) (hO 1 (by decide) w (by omega)) (hO 2 (by decide) w (by omega)) (hO 5 (by decide) w (by omega))) ?_
        refine w_if0 ((stpF (O 0 w) (O 1 w) (O 2 w) (O 5 w)) = true) i_24_74 cB_ne ?_ ?_
        · intro h10
          refine w_push i_24_81 rfl ?_
          exact (by first | exact (K4) | (have K9 := K4; simp only [↓if_neg h9, ↓if_pos h10] at K9 ⊢; exact (K9)))
        · intro h11
          refine w_push i_24_77 rfl ?_
          refine w_goto i_24_78 ?_
          exact (by first | exact (K4) | (have K9 := K4; simp only [↓if_neg h9, ↓if_neg h11] at K9 ⊢; exact (K9)))
    · intro h12
      exact (by first | exact (K2) | (have K9 := K2; simp only [↓if_neg h12] at K9 ⊢; exact (K9)))
  · intro h13
    exact w_vret i_24_128 rfl (k2 h13)
def fr24 (k : Nat) (M0 M : Mem) : Prop := ∀ o j, ¬ (j = k ∧ (o = 119 ∨ o = 120 ∨ o = 121)) → M o j = M0 o j
theorem l24 (hκ : Rd κ) {b n k : Nat} {O : Op} (hb : isBl b) (hk : k < n) (hn : n ≤ 10) (hc : M0 b 4 = nI n) (hO : ∀ f, f < 6 → ∀ j, j < n → M0 (b + 1 + f) j = O f j)
    (K : ∀ M', fr24 k M0 M' → M' 119 k = loo O (O 2 k) n → M' 120 k = sw O (O 2 k) k n → M' 121 k = amo O (O 2 k) n → Q (.inl none, M', κ)) :
    ∀ d w M, w + d = n → fr24 k M0 M → M 119 k = loo O (O 2 k) w → M 120 k = sw O (O 2 k) k w → M 121 k = amo O (O 2 k) w →
    RT 24 (31, [.ref 113, .ref b, .int (nI k), .int (nI (cwt O (O 2 k) w)), .int (nI w)], [], M, κ) Q := by
  have hr := bl_rng hb
  intro d
  induction d with
  | zero =>
    intro w M hw hf h1 h2 h3
    have e : w = n := by omega
    subst e
    exact S24_31 hκ hb hk hn (Nat.le_refl _) ((hf _ _ (by omega)).trans hc) (fun f hf' j hj => (hf _ _ (by omega)).trans (hO f hf' j hj)) (fun h => absurd h (Nat.lt_irrefl _)) (fun _ => K M hf h1 h2 h3)
  | succ d ih =>
    intro w M hw hf h1 h2 h3
    have hcw := cwt_le O (O 2 k) w
    refine S24_31 hκ hb hk hn (by omega) ((hf _ _ (by omega)).trans hc) (fun f hf' j hj => (hf _ _ (by omega)).trans (hO f hf' j hj)) (fun h => ?_) (fun h => absurd (by omega : w < n) h)
    by_cases c : wr O w = O 2 k
    · have c' : wrF (O 0 w) (O 1 w) = O 2 k := c
      rw [if_pos c', if_pos c', ← nI_succ]
      have e1 : cwt O (O 2 k) w + 1 = cwt O (O 2 k) (w + 1) := by rw [cwt, if_pos c]
      have e2 : w = lw O (O 2 k) (w + 1) := by rw [lw, if_pos c]
      rw [e1]
      refine ih (w + 1) _ (by omega) ?_ ?_ ?_ ?_
      · intro o j h9
        rw [stM_n (by omega), stM_n (by omega), stM_n (by omega)]
        exact hf o j h9
      · rw [stM_n (by omega), stM_n (by omega), stM_s]
        rw [show loo O (O 2 k) (w + 1) = bI (decide (1 < cwt O (O 2 k) (w + 1)) || !stp O (lw O (O 2 k) (w + 1))) from if_neg (by omega), ← e2]
        by_cases q : 1 < cwt O (O 2 k) (w + 1)
        · have q' : (1 : Int32) < nI (cwt O (O 2 k) (w + 1)) := (nI_ltI (a := 1) (by omega) (by omega)).mpr q
          rw [if_pos q', decide_eq_true q]
          rfl
        · have q' : ¬ (1 : Int32) < nI (cwt O (O 2 k) (w + 1)) := fun z => q ((nI_ltI (a := 1) (by omega) (by omega)).mp z)
          rw [if_neg q', decide_eq_false q]
          show bI (if stp O w = true then false else true) = bI (false || !stp O w)
          cases stp O w <;> rfl
      · rw [stM_s, h2, sw, if_pos c]
      · rw [stM_n (by omega), stM_s]
        rw [show amo O (O 2 k) (w + 1) = O 4 (lw O (O 2 k) (w + 1)) from if_neg (by omega), ← e2]
    · have c' : ¬ wrF (O 0 w) (O 1 w) = O 2 k := c
      rw [if_neg c', if_neg c']
      have e1 : cwt O (O 2 k) w = cwt O (O 2 k) (w + 1) := by rw [cwt, if_neg c]
      have e2 : lw O (O 2 k) w = lw O (O 2 k) (w + 1) := by rw [lw, if_neg c]
      unfold loo at h1
      unfold amo at h3
      rw [e1, e2] at h1 h3
      rw [e1]
      refine ih (w + 1) M (by omega) hf h1 ?_ h3
      rw [h2, sw, if_neg c]
theorem f24 (hκ : Rd κ) {b n k : Nat} {O : Op} (hb : isBl b) (hk : k < n) (hn : n ≤ 10) (hc : M b 4 = nI n) (hO : ∀ f, f < 6 → ∀ j, j < n → M (b + 1 + f) j = O f j)
    (K : ∀ M', fr24 k M M' → M' 119 k = loo O (O 2 k) n → M' 120 k = sw O (O 2 k) k n → M' 121 k = amo O (O 2 k) n → Q (.inl none, M', κ)) :
    RT 24 (0, entL 24 [.ref 113, .ref b, .int (nI k)], [], M, κ) Q := by
  refine S24_0 (w := 0) hκ hb hk hn (by omega) hc hO ?_
  refine l24 (O := O) (M0 := M) hκ hb hk hn hc hO K n 0 _ (by omega) ?_ ?_ ?_ ?_
  · intro o j h9
    rw [stM_n (by omega), stM_n (by omega), stM_n (by omega)]
  · rw [stM_n (by omega), stM_n (by omega), stM_s]
    rfl
  · rw [stM_n (by omega), stM_s]
    rfl
  · rw [stM_s]
    rfl
end P_21_graph1
end
section
/-! WHERE TWO MEET: meetingDistance and the model meeting -/
section P_22_meet
variable {Q : Ou → Prop} {M M0 : Mem} {κ : Kp}
def srch (f : Nat → Bool) : Nat → Nat → Int32
  | 0, _ => -1
  | d + 1, k => if f k = true then nI k else srch f d (k + 1)
def srN (f : Nat → Bool) : Nat → Nat → Nat
  | 0, k => k
  | d + 1, k => if f k = true then k else srN f d (k + 1)
theorem srN_ge (f : Nat → Bool) : ∀ d k, k ≤ srN f d k ∧ srN f d k ≤ k + d
  | 0, k => ⟨Nat.le_refl k, Nat.le_refl k⟩
  | d + 1, k => by
    have := srN_ge f d (k + 1)
    unfold srN
    split <;> omega
theorem srch_N (f : Nat → Bool) : ∀ d k, srch f d k = if srN f d k < k + d then nI (srN f d k) else -1
  | 0, k => by simp [srch, srN]
  | d + 1, k => by
    have := srch_N f d (k + 1)
    unfold srch srN
    split
    · rw [if_pos (by omega)]
    · rw [this, show k + 1 + d = k + (d + 1) by omega]
def mtf (O : Op) (n i j : Nat) (k : Nat) : Bool := decide ((sw O (O 2 i) i n - sw O (O 2 j) j n - nI k * amo O (O 2 i) n) &&& 63 = 0)
/-- the distance at which two accesses may meet, -1 for never -/
def mtF (O : Op) (n : Nat) (lp : Bool) (i j : Nat) : Int32 := if O 2 i = O 2 j ∧ loo O (O 2 i) n = 0 then srch (mtf O n i j) ((if lp = true then 64 else 0) + 1 - (if i < j then 0 else 1)) (if i < j then 0 else 1) else nI (if i < j then 0 else 1)
theorem i_23_0 : ins 23 0 = some (.iload_n 2, 1, 2, 0, 0, 0) := rfl
theorem i_23_1 : ins 23 1 = some (.iload_n 3, 2, 3, 0, 0, 0) := rfl
theorem i_23_2 : ins 23 2 = some (.if_icmp .ge 7, 5, 9, 0, 0, 0) := rfl
theorem i_23_5 : ins 23 5 = some (.iconst 0, 6, 0, 0, 0, 0) := rfl
theorem i_23_6 : ins 23 6 = some (.goto 4, 9, 10, 0, 0, 0) := rfl
theorem i_23_9 : ins 23 9 = some (.iconst 1, 10, 0, 0, 0, 1) := rfl
theorem i_23_10 : ins 23 10 = some (.istore 4, 12, 4, 0, 0, 0) := rfl
theorem i_23_12 : ins 23 12 = some (.aload_n 1, 13, 1, 0, 0, 0) := rfl
theorem i_23_13 : ins 23 13 = some (.getfield 111, 16, 0, 8, 0, 0) := rfl
theorem i_23_16 : ins 23 16 = some (.iload_n 2, 17, 2, 0, 0, 0) := rfl
theorem i_23_17 : ins 23 17 = some (.iaload, 18, 0, 0, 0, 0) := rfl
theorem i_23_18 : ins 23 18 = some (.aload_n 1, 19, 1, 0, 0, 0) := rfl
theorem i_23_19 : ins 23 19 = some (.getfield 111, 22, 0, 8, 0, 0) := rfl
theorem i_23_22 : ins 23 22 = some (.iload_n 3, 23, 3, 0, 0, 0) := rfl
theorem i_23_23 : ins 23 23 = some (.iaload, 24, 0, 0, 0, 0) := rfl
theorem i_23_24 : ins 23 24 = some (.if_icmp .ne 12, 27, 36, 0, 0, 0) := rfl
theorem i_23_27 : ins 23 27 = some (.aload_n 0, 28, 0, 0, 0, 0) := rfl
theorem i_23_28 : ins 23 28 = some (.getfield 42, 31, 1, 9, 0, 0) := rfl
theorem i_23_31 : ins 23 31 = some (.iload_n 2, 32, 2, 0, 0, 0) := rfl
theorem i_23_32 : ins 23 32 = some (.baload, 33, 0, 0, 0, 0) := rfl
theorem i_23_33 : ins 23 33 = some (.ifCond .eq 6, 36, 39, 0, 0, 0) := rfl
theorem i_23_36 : ins 23 36 = some (.iload 4, 38, 4, 0, 0, 0) := rfl
theorem i_23_38 : ins 23 38 = some (.ireturn, 39, 0, 0, 0, 0) := rfl
theorem i_23_39 : ins 23 39 = some (.aload_n 0, 40, 0, 0, 0, 0) := rfl
theorem i_23_40 : ins 23 40 = some (.getfield 15, 43, 1, 1, 0, 0) := rfl
theorem i_23_43 : ins 23 43 = some (.ifCond .eq 8, 46, 51, 0, 0, 0) := rfl
theorem i_23_46 : ins 23 46 = some (.bipush 64, 48, 0, 0, 0, 64) := rfl
theorem i_23_48 : ins 23 48 = some (.goto 4, 51, 52, 0, 0, 0) := rfl
theorem i_23_51 : ins 23 51 = some (.iconst 0, 52, 0, 0, 0, 0) := rfl
theorem i_23_52 : ins 23 52 = some (.istore 5, 54, 5, 0, 0, 0) := rfl
theorem i_23_54 : ins 23 54 = some (.iload 4, 56, 4, 0, 0, 0) := rfl
theorem i_23_56 : ins 23 56 = some (.istore 6, 58, 6, 0, 0, 0) := rfl
theorem i_23_58 : ins 23 58 = some (.iload 6, 60, 6, 0, 0, 0) := rfl
theorem i_23_60 : ins 23 60 = some (.iload 5, 62, 5, 0, 0, 0) := rfl
theorem i_23_62 : ins 23 62 = some (.if_icmp .gt 41, 65, 103, 0, 0, 0) := rfl
theorem i_23_65 : ins 23 65 = some (.aload_n 0, 66, 0, 0, 0, 0) := rfl
theorem i_23_66 : ins 23 66 = some (.getfield 45, 69, 1, 10, 0, 0) := rfl
theorem i_23_69 : ins 23 69 = some (.iload_n 2, 70, 2, 0, 0, 0) := rfl
theorem i_23_70 : ins 23 70 = some (.iaload, 71, 0, 0, 0, 0) := rfl
theorem i_23_71 : ins 23 71 = some (.aload_n 0, 72, 0, 0, 0, 0) := rfl
theorem i_23_72 : ins 23 72 = some (.getfield 45, 75, 1, 10, 0, 0) := rfl
theorem i_23_75 : ins 23 75 = some (.iload_n 3, 76, 3, 0, 0, 0) := rfl
theorem i_23_76 : ins 23 76 = some (.iaload, 77, 0, 0, 0, 0) := rfl
theorem i_23_77 : ins 23 77 = some (.isub, 78, 0, 0, 0, 0) := rfl
theorem i_23_78 : ins 23 78 = some (.iload 6, 80, 6, 0, 0, 0) := rfl
theorem i_23_80 : ins 23 80 = some (.aload_n 0, 81, 0, 0, 0, 0) := rfl
theorem i_23_81 : ins 23 81 = some (.getfield 48, 84, 1, 11, 0, 0) := rfl
theorem i_23_84 : ins 23 84 = some (.iload_n 2, 85, 2, 0, 0, 0) := rfl
theorem i_23_85 : ins 23 85 = some (.iaload, 86, 0, 0, 0, 0) := rfl
theorem i_23_86 : ins 23 86 = some (.imul, 87, 0, 0, 0, 0) := rfl
theorem i_23_87 : ins 23 87 = some (.isub, 88, 0, 0, 0, 0) := rfl
theorem i_23_88 : ins 23 88 = some (.invokestatic 114, 91, 84, 5, 1, 0) := rfl
theorem i_23_91 : ins 23 91 = some (.ifCond .ne 6, 94, 97, 0, 0, 0) := rfl
theorem i_23_94 : ins 23 94 = some (.iload 6, 96, 6, 0, 0, 0) := rfl
theorem i_23_96 : ins 23 96 = some (.ireturn, 97, 0, 0, 0, 0) := rfl
theorem i_23_97 : ins 23 97 = some (.iinc 6 1, 100, 6, 0, 0, 1) := rfl
theorem i_23_100 : ins 23 100 = some (.goto (-42), 103, 58, 0, 0, 0) := rfl
theorem i_23_103 : ins 23 103 = some (.iconst (-1), 104, 0, 0, 0, (-1)) := rfl
theorem i_23_104 : ins 23 104 = some (.ireturn, 105, 0, 0, 0, 0) := rfl
theorem S23_0 {Q : Ou → Prop} {M : Mem} {κ : Kp} (hκ : Rd κ) {b n i j k : Nat} {O : Op} {lp : Bool} (hb : isBl b) (hi : i < n) (hj : j < n) (hn : n ≤ 10) (hk : k ≤ 65) (hO : ∀ f, f < 6 → ∀ j, j < n → M (b + 1 + f) j = O f j) (hL : M 119 i = loo O (O 2 i) n) (hfi : M 120 i = sw O (O 2 i) i n) (hfj : M 120 j = sw O (O 2 j) j n) (hmi : M 121 i = amo O (O 2 i) n) (hlp : M 113 1 = bI lp) 
    (k1 : ((((O 2 i) = (O 2 j)) ∧ (¬ ((loo O (O 2 i) n) = 0))) ∨ (¬ ((O 2 i) = (O 2 j)))) → Q (.inl (some (.int (nI (if i < j then 0 else 1)))), M, κ))
    (k2 : (O 2 i) = (O 2 j) → (loo O (O 2 i) n) = 0 → RT 23 (58, [.ref 113, UU, .int (nI i), .int (nI j), UU, .int (nI (if lp = true then 64 else 0)), .int (nI (if i < j then 0 else 1))], [], M, κ) Q)
    : RT 23 (0, [.ref 113, .ref b, .int (nI i), .int (nI j), UU, UU, UU], [], M, κ) Q := by
  refine w_load i_23_0 rfl rfl ?_
  refine w_load i_23_1 rfl rfl ?_
  have K1 : RT 23 (10, [.ref 113, .ref b, .int (nI i), .int (nI j), UU, UU, UU], [.int (nI (if i < j then 0 else 1))], M, κ) Q := by
    refine w_store (l1 := [.ref 113, .ref b, .int (nI i), .int (nI j), .int (nI (if i < j then 0 else 1)), UU, UU]) i_23_10 rfl (Nat.le_of_ble_eq_true rfl) rfl ?_
    refine w_load i_23_12 rfl rfl ?_
    refine w_getR (b + 3) i_23_13 hκ (bl_ob hb) rfl rfl ?_
    refine w_load i_23_16 rfl rfl ?_
    refine w_ialdN (e := i) (v := (O 2 i)) i_23_17 hκ (bl_ar hb 3 (by decide)) (by omega) (by decide) (hO 2 (by decide) i (by omega)) ?_
    refine w_load i_23_18 rfl rfl ?_
    refine w_getR (b + 3) i_23_19 hκ (bl_ob hb) rfl rfl ?_
    refine w_load i_23_22 rfl rfl ?_
    refine w_ialdN (e := j) (v := (O 2 j)) i_23_23 hκ (bl_ar hb 3 (by decide)) (by omega) (by decide) (hO 2 (by decide) j (by omega)) ?_
    have K2 : ((((O 2 i) = (O 2 j)) ∧ (¬ ((loo O (O 2 i) n) = 0))) ∨ (¬ ((O 2 i) = (O 2 j)))) → RT 23 (36, [.ref 113, .ref b, .int (nI i), .int (nI j), .int (nI (if i < j then 0 else 1)), UU, UU], [], M, κ) Q := by
      intro h3
      refine w_load i_23_36 rfl rfl ?_
      exact w_iret i_23_38 (.inl rfl) (k1 h3)
    refine w_if2n ((O 2 i) = (O 2 j)) i_23_24 cI_ne ?_ ?_
    · intro h4
      refine w_load i_23_27 rfl rfl ?_
      refine w_getR 119 i_23_28 hκ (⟨rfl, by decide⟩ : isOb 113 1) rfl rfl ?_
      refine w_load i_23_31 rfl rfl ?_
      refine w_zaldN (e := i) (v := (loo O (O 2 i) n)) i_23_32 hκ (⟨rfl, rfl, by decide⟩ : isZr 119 10) (by omega) (by decide) (hL) ?_
      refine w_if0 ((loo O (O 2 i) n) = 0) i_23_33 cI0_eq ?_ ?_
      · intro h5
        refine w_load i_23_39 rfl rfl ?_
        refine w_getI (v := (bI lp)) i_23_40 hκ (⟨rfl, by decide⟩ : isOb 113 1) rfl (hlp) ?_
        have K6 : RT 23 (52, [.ref 113, .ref b, .int (nI i), .int (nI j), .int (nI (if i < j then 0 else 1)), UU, UU], [.int (nI (if lp = true then 64 else 0))], M, κ) Q := by
          refine w_store (l1 := [.ref 113, .ref b, .int (nI i), .int (nI j), .int (nI (if i < j then 0 else 1)), .int (nI (if lp = true then 64 else 0)), UU]) i_23_52 rfl (Nat.le_of_ble_eq_true rfl) rfl ?_
          refine w_load i_23_54 rfl rfl ?_
          refine w_store (l1 := [.ref 113, .ref b, .int (nI i), .int (nI j), .int (nI (if i < j then 0 else 1)), .int (nI (if lp = true then 64 else 0)), .int (nI (if i < j then 0 else 1))]) i_23_56 rfl (Nat.le_of_ble_eq_true rfl) rfl ?_
          exact w_weak (lle_s (lle_u (lle_s (lle_s (lle_u (lle_s (lle_s lle_n))))))) (k2 h4 h5)
        refine w_if0n (lp = true) i_23_43 cB_eq ?_ ?_
        · intro h7
          refine w_push i_23_46 rfl ?_
          refine w_goto i_23_48 ?_
          exact (by first | exact (K6) | (have K9 := K6; simp only [↓if_pos h7] at K9 ⊢; exact (K9)))
        · intro h8
          refine w_push i_23_51 rfl ?_
          exact (by first | exact (K6) | (have K9 := K6; simp only [↓if_neg h8] at K9 ⊢; exact (K9)))
      · intro h9
        exact (by first | exact (K2 (.inl ⟨h4, h9⟩)) | (have K9 := K2 (.inl ⟨h4, h9⟩); simp only [↓if_pos h4, ↓if_neg h9] at K9 ⊢; exact (K9)))
    · intro h10
      exact (by first | exact (K2 (.inr h10)) | (have K9 := K2 (.inr h10); simp only [↓if_neg h10] at K9 ⊢; exact (K9)))
  refine w_if2n (i < j) i_23_2 (cN_ge (a := i) (b := j) (by omega) (by omega)) ?_ ?_
  · intro h11
    refine w_push i_23_5 rfl ?_
    refine w_goto i_23_6 ?_
    exact (by first | exact (K1) | (have K9 := K1; simp only [↓if_pos h11] at K9 ⊢; exact (K9)))
  · intro h12
    refine w_push i_23_9 rfl ?_
    exact (by first | exact (K1) | (have K9 := K1; simp only [↓if_neg h12] at K9 ⊢; exact (K9)))
theorem S23_58 {Q : Ou → Prop} {M : Mem} {κ : Kp} (hκ : Rd κ) {b n i j k : Nat} {O : Op} {lp : Bool} (hb : isBl b) (hi : i < n) (hj : j < n) (hn : n ≤ 10) (hk : k ≤ 65) (hO : ∀ f, f < 6 → ∀ j, j < n → M (b + 1 + f) j = O f j) (hL : M 119 i = loo O (O 2 i) n) (hfi : M 120 i = sw O (O 2 i) i n) (hfj : M 120 j = sw O (O 2 j) j n) (hmi : M 121 i = amo O (O 2 i) n) (hlp : M 113 1 = bI lp) {t : Nat} (b_t : t ≤ 100000)
    (k1 : t < k → Q (.inl (some (.int (-1))), M, κ))
    (k2 : ¬ (t < k) → ((((sw O (O 2 i) i n) - (sw O (O 2 j) j n)) - ((nI k) * (amo O (O 2 i) n))) &&& 63) = 0 → Q (.inl (some (.int (nI k))), M, κ))
    (k3 : ¬ (t < k) → ¬ (((((sw O (O 2 i) i n) - (sw O (O 2 j) j n)) - ((nI k) * (amo O (O 2 i) n))) &&& 63) = 0) → RT 23 (58, [.ref 113, UU, .int (nI i), .int (nI j), UU, .int (nI t), .int (nI (k + 1))], [], M, κ) Q)
    : RT 23 (58, [.ref 113, UU, .int (nI i), .int (nI j), UU, .int (nI t), .int (nI k)], [], M, κ) Q := by
  refine w_load i_23_58 rfl rfl ?_
  refine w_load i_23_60 rfl rfl ?_
  refine w_if2 (t < k) i_23_62 (cN_gt (a := k) (b := t) (by omega) (by omega)) ?_ ?_
  · intro h1
    refine w_push i_23_103 rfl ?_
    exact w_iret i_23_104 (.inl rfl) (k1 h1)
  · intro h2
    refine w_load i_23_65 rfl rfl ?_
    refine w_getR 120 i_23_66 hκ (⟨rfl, by decide⟩ : isOb 113 1) rfl rfl ?_
    refine w_load i_23_69 rfl rfl ?_
    refine w_ialdN (e := i) (v := (sw O (O 2 i) i n)) i_23_70 hκ (⟨rfl, rfl, by decide⟩ : isAr 120 10) (by omega) (by decide) (hfi) ?_
    refine w_load i_23_71 rfl rfl ?_
    refine w_getR 120 i_23_72 hκ (⟨rfl, by decide⟩ : isOb 113 1) rfl rfl ?_
    refine w_load i_23_75 rfl rfl ?_
    refine w_ialdN (e := j) (v := (sw O (O 2 j) j n)) i_23_76 hκ (⟨rfl, rfl, by decide⟩ : isAr 120 10) (by omega) (by decide) (hfj) ?_
    refine w_bin (w := ((sw O (O 2 i) i n) - (sw O (O 2 j) j n))) i_23_77 rfl rfl ?_
    refine w_load i_23_78 rfl rfl ?_
    refine w_load i_23_80 rfl rfl ?_
    refine w_getR 121 i_23_81 hκ (⟨rfl, by decide⟩ : isOb 113 1) rfl rfl ?_
    refine w_load i_23_84 rfl rfl ?_
    refine w_ialdN (e := i) (v := (amo O (O 2 i) n)) i_23_85 hκ (⟨rfl, rfl, by decide⟩ : isAr 121 10) (by omega) (by decide) (hmi) ?_
    refine w_bin (w := ((nI k) * (amo O (O 2 i) n))) i_23_86 rfl rfl ?_
    refine w_bin (w := (((sw O (O 2 i) i n) - (sw O (O 2 j) j n)) - ((nI k) * (amo O (O 2 i) n)))) i_23_87 rfl rfl ?_
    refine w_callS i_23_88 ⟨by decide, by decide, by decide, rfl, rfl⟩ (av := [.int (((sw O (O 2 i) i n) - (sw O (O 2 j) j n)) - ((nI k) * (amo O (O 2 i) n)))]) (rest := []) rfl rfl (Nat.le_of_ble_eq_true rfl) (v := some (.int ((((sw O (O 2 i) i n) - (sw O (O 2 j) j n)) - ((nI k) * (amo O (O 2 i) n))) &&& 63))) (c84 hκ) ?_
    refine w_if0n (((((sw O (O 2 i) i n) - (sw O (O 2 j) j n)) - ((nI k) * (amo O (O 2 i) n))) &&& 63) = 0) i_23_91 cI0_ne ?_ ?_
    · intro h3
      refine w_load i_23_94 rfl rfl ?_
      exact w_iret i_23_96 (.inl rfl) (k2 h2 h3)
    · intro h4
      refine w_iincN (n := k) (l1 := [.ref 113, UU, .int (nI i), .int (nI j), UU, .int (nI t), .int (nI (k + 1))]) 1 i_23_97 rfl rfl ?_
      refine w_goto i_23_100 ?_
      exact (k3 h2 h4)
theorem l23 (hκ : Rd κ) {b n i j t : Nat} {O : Op} {lp : Bool} (hb : isBl b) (hi : i < n) (hj : j < n) (hn : n ≤ 10) (hO : ∀ f, f < 6 → ∀ j, j < n → M (b + 1 + f) j = O f j) (hL : M 119 i = loo O (O 2 i) n) (hfi : M 120 i = sw O (O 2 i) i n) (hfj : M 120 j = sw O (O 2 j) j n) (hmi : M 121 i = amo O (O 2 i) n) (hlp : M 113 1 = bI lp) (ht : t ≤ 64) :
    ∀ d k, k + d = t + 1 → (Q (.inl (some (.int (srch (mtf O n i j) d k))), M, κ)) → RT 23 (58, [.ref 113, UU, .int (nI i), .int (nI j), UU, .int (nI t), .int (nI k)], [], M, κ) Q := by
  intro d
  induction d with
  | zero =>
    intro k hk K
    exact S23_58 hκ hb hi hj hn (by omega) hO hL hfi hfj hmi hlp (by omega) (fun _ => K) (fun h => absurd (by omega : t < k) h) (fun h => absurd (by omega : t < k) h)
  | succ d ih =>
    intro k hk K
    refine S23_58 hκ hb hi hj hn (by omega) hO hL hfi hfj hmi hlp (by omega) (fun h => absurd h (by omega)) (fun _ h => ?_) (fun _ h => ih (k + 1) (by omega) ?_)
    · rw [srch, if_pos (show mtf O n i j k = true from decide_eq_true h)] at K
      exact K
    · rw [srch, if_neg (show ¬ mtf O n i j k = true from fun z => h (of_decide_eq_true z))] at K
      exact K
theorem c23 (hκ : Rd κ) {b n i j : Nat} {O : Op} {lp : Bool} (hb : isBl b) (hi : i < n) (hj : j < n) (hn : n ≤ 10) (hO : ∀ f, f < 6 → ∀ j, j < n → M (b + 1 + f) j = O f j) (hL : M 119 i = loo O (O 2 i) n) (hfi : M 120 i = sw O (O 2 i) i n) (hfj : M 120 j = sw O (O 2 j) j n) (hmi : M 121 i = amo O (O 2 i) n) (hlp : M 113 1 = bI lp) : Run 23 (0, entL 23 [.ref 113, .ref b, .int (nI i), .int (nI j)], [], M, κ) (.inl (some (.int (mtF O n lp i j))), M, κ) := by
  refine RT_run (S23_0 (k := 0) hκ hb hi hj hn (by omega) hO hL hfi hfj hmi hlp ?_ ?_)
  · intro h
    have hn' : ¬ (O 2 i = O 2 j ∧ loo O (O 2 i) n = 0) := by
      rintro ⟨h1, h2⟩
      rcases h with h | h
      · exact h.2 h2
      · exact h h1
    show _ = (Sum.inl (some (Value.int (if _ then _ else _))), M, κ)
    rw [if_neg hn']
  · intro h1 h2
    refine l23 hκ hb hi hj hn hO hL hfi hfj hmi hlp (by split <;> omega) ((if lp = true then 64 else 0) + 1 - (if i < j then 0 else 1)) _ (by split <;> split <;> omega) ?_
    rw [show mtF O n lp i j = srch (mtf O n i j) ((if lp = true then 64 else 0) + 1 - (if i < j then 0 else 1)) (if i < j then 0 else 1) from if_pos ⟨h1, h2⟩]
theorem sw_0 {O : Op} {v : Int32} {k : Nat} : ∀ m, cwt O v m = 0 → sw O v k m = O 4 k
  | 0, _ => rfl
  | m + 1, h => by
    unfold cwt at h
    unfold sw
    split at h
    · omega
    · rw [if_neg ‹_›]
      exact sw_0 m h
theorem lw_lt {O : Op} {v : Int32} : ∀ m, ¬ cwt O v m = 0 → lw O v m < m ∧ wr O (lw O v m) = v
  | 0, h => absurd rfl h
  | m + 1, h => by
    unfold cwt at h
    unfold lw
    split at h
    · rw [if_pos ‹_›]
      exact ⟨Nat.lt_succ_self m, ‹_›⟩
    · rw [if_neg ‹_›]
      have := lw_lt m h
      exact ⟨by omega, this.2⟩
theorem sw_1 {O : Op} {v : Int32} {k : Nat} : ∀ m, cwt O v m = 1 → sw O v k m = O 4 k + (if lw O v m < k then O 4 (lw O v m) else 0)
  | 0, h => by cases h
  | m + 1, h => by
    by_cases c : wr O m = v
    · rw [cwt, if_pos c] at h
      rw [sw, if_pos c, lw, if_pos c, sw_0 m (by omega)]
    · rw [cwt, if_neg c] at h
      rw [sw, if_neg c, lw, if_neg c]
      exact sw_1 m h
/-- the model's writer -/
def wtI (O : Op) (x : Nat) (v : Int32) (n : Nat) : Int32 := if cwt O v n = 0 then -1 else if cwt O v n = 1 then nI (10 * x + lw O v n) else -2
theorem ws_wr {c d v : Int32} (hv : ¬ v = -1) : wsM c d v = true ↔ wrF c d = v := by
  unfold wsM wrF
  simp only [decide_eq_true_eq]
  have e : (¬ 7 < c) ↔ c < 8 := by
    rw [Int32.lt_iff_toInt_lt, Int32.lt_iff_toInt_lt]
    simp
    omega
  rw [e]
  split
  · simp [*]
  · constructor
    · intro h; exact absurd h.1 ‹_›
    · intro h; exact absurd h.symm hv
theorem i_123_0 : ins 123 0 = some (.iconst (-1), 1, 0, 0, 0, (-1)) := rfl
theorem i_123_1 : ins 123 1 = some (.istore_n 3, 2, 3, 0, 0, 0) := rfl
theorem i_123_2 : ins 123 2 = some (.bipush 10, 4, 0, 0, 0, 10) := rfl
theorem i_123_4 : ins 123 4 = some (.iload_n 1, 5, 1, 0, 0, 0) := rfl
theorem i_123_5 : ins 123 5 = some (.imul, 6, 0, 0, 0, 0) := rfl
theorem i_123_6 : ins 123 6 = some (.istore 4, 8, 4, 0, 0, 0) := rfl
theorem i_123_8 : ins 123 8 = some (.iload 4, 10, 4, 0, 0, 0) := rfl
theorem i_123_10 : ins 123 10 = some (.bipush 10, 12, 0, 0, 0, 10) := rfl
theorem i_123_12 : ins 123 12 = some (.iload_n 1, 13, 1, 0, 0, 0) := rfl
theorem i_123_13 : ins 123 13 = some (.imul, 14, 0, 0, 0, 0) := rfl
theorem i_123_14 : ins 123 14 = some (.aload_n 0, 15, 0, 0, 0, 0) := rfl
theorem i_123_15 : ins 123 15 = some (.getfield 78, 18, 7, 26, 0, 0) := rfl
theorem i_123_18 : ins 123 18 = some (.iload_n 1, 19, 1, 0, 0, 0) := rfl
theorem i_123_19 : ins 123 19 = some (.iaload, 20, 0, 0, 0, 0) := rfl
theorem i_123_20 : ins 123 20 = some (.iadd, 21, 0, 0, 0, 0) := rfl
theorem i_123_21 : ins 123 21 = some (.if_icmp .ge 32, 24, 53, 0, 0, 0) := rfl
theorem i_123_24 : ins 123 24 = some (.aload_n 0, 25, 0, 0, 0, 0) := rfl
theorem i_123_25 : ins 123 25 = some (.iload 4, 27, 4, 0, 0, 0) := rfl
theorem i_123_27 : ins 123 27 = some (.iload_n 2, 28, 2, 0, 0, 0) := rfl
theorem i_123_28 : ins 123 28 = some (.invokevirtual 223, 31, 117, 0, 3, 0) := rfl
theorem i_123_31 : ins 123 31 = some (.ifCond .eq 16, 34, 47, 0, 0, 0) := rfl
theorem i_123_34 : ins 123 34 = some (.iload_n 3, 35, 3, 0, 0, 0) := rfl
theorem i_123_35 : ins 123 35 = some (.iconst (-1), 36, 0, 0, 0, (-1)) := rfl
theorem i_123_36 : ins 123 36 = some (.if_icmp .ne 8, 39, 44, 0, 0, 0) := rfl
theorem i_123_39 : ins 123 39 = some (.iload 4, 41, 4, 0, 0, 0) := rfl
theorem i_123_41 : ins 123 41 = some (.goto 5, 44, 46, 0, 0, 0) := rfl
theorem i_123_44 : ins 123 44 = some (.bipush (-2), 46, 0, 0, 0, (-2)) := rfl
theorem i_123_46 : ins 123 46 = some (.istore_n 3, 47, 3, 0, 0, 0) := rfl
theorem i_123_47 : ins 123 47 = some (.iinc 4 1, 50, 4, 0, 0, 1) := rfl
theorem i_123_50 : ins 123 50 = some (.goto (-42), 53, 8, 0, 0, 0) := rfl
theorem i_123_53 : ins 123 53 = some (.iload_n 3, 54, 3, 0, 0, 0) := rfl
theorem i_123_54 : ins 123 54 = some (.ireturn, 55, 0, 0, 0, 0) := rfl
theorem S123_0 {Q : Ou → Prop} {M : Mem} {κ : Kp} (hκ : Rd κ) {x n i : Nat} {O : Op} (hx : x < 6) (hn : n ≤ 10) (hi : i ≤ n) (hc : M 151 x = nI n) (hO : ∀ f, f < 6 → ∀ j, j < n → M (152 + f) (10 * x + j) = O f j) {v : Int32}
    (k1 : RT 123 (8, [.ref 134, .int (nI x), .int v, .int (-1), .int (nI (10 * x))], [], M, κ) Q)
    : RT 123 (0, [.ref 134, .int (nI x), .int v, UU, UU], [], M, κ) Q := by
  refine w_push i_123_0 rfl ?_
  refine w_store (l1 := [.ref 134, .int (nI x), .int v, .int (-1), UU]) i_123_1 rfl (Nat.le_of_ble_eq_true rfl) rfl ?_
  refine w_push i_123_2 rfl ?_
  refine w_load i_123_4 rfl rfl ?_
  refine w_bin (w := (nI (10 * x))) i_123_5 rfl (nI_mul 10 x) ?_
  refine w_store (l1 := [.ref 134, .int (nI x), .int v, .int (-1), .int (nI (10 * x))]) i_123_6 rfl (Nat.le_of_ble_eq_true rfl) rfl ?_
  exact (k1)
theorem S123_8 {Q : Ou → Prop} {M : Mem} {κ : Kp} (hκ : Rd κ) {x n i : Nat} {O : Op} (hx : x < 6) (hn : n ≤ 10) (hi : i ≤ n) (hc : M 151 x = nI n) (hO : ∀ f, f < 6 → ∀ j, j < n → M (152 + f) (10 * x + j) = O f j) {v : Int32} {fo : Int32}
    (k1 : ((10 * x) + i) < ((10 * x) + n) → RT 123 (8, [.ref 134, .int (nI x), .int v, .int (if (wsM (O 0 i) (O 1 i) v) = true then (if fo = (-1) then (nI ((10 * x) + i)) else (-2)) else fo), .int (nI (((10 * x) + i) + 1))], [], M, κ) Q)
    (k2 : ¬ (((10 * x) + i) < ((10 * x) + n)) → Q (.inl (some (.int fo)), M, κ))
    : RT 123 (8, [.ref 134, .int (nI x), .int v, .int fo, .int (nI ((10 * x) + i))], [], M, κ) Q := by
  refine w_load i_123_8 rfl rfl ?_
  refine w_push i_123_10 rfl ?_
  refine w_load i_123_12 rfl rfl ?_
  refine w_bin (w := (nI (10 * x))) i_123_13 rfl (nI_mul 10 x) ?_
  refine w_load i_123_14 rfl rfl ?_
  refine w_getR 151 i_123_15 hκ (⟨rfl, by decide⟩ : isOb 134 7) rfl rfl ?_
  refine w_load i_123_18 rfl rfl ?_
  refine w_ialdN (e := x) (v := (nI n)) i_123_19 hκ (⟨rfl, rfl, by decide⟩ : isAr 151 6) (by omega) (by decide) (hc) ?_
  refine w_bin (w := (nI ((10 * x) + n))) i_123_20 rfl (nI_add (10 * x) n) ?_
  refine w_if2n (((10 * x) + i) < ((10 * x) + n)) i_123_21 (cN_ge (a := ((10 * x) + i)) (b := ((10 * x) + n)) (by omega) (by omega)) ?_ ?_
  · intro h1
    refine w_load i_123_24 rfl rfl ?_
    refine w_load i_123_25 rfl rfl ?_
    refine w_load i_123_27 rfl rfl ?_
    refine w_callV (i := _) i_123_28 ⟨by decide, by decide, by decide, rfl⟩ hκ (⟨rfl, by decide⟩ : isOb 134 7) (av := [.int (nI ((10 * x) + i)), .int v]) (rest := []) rfl rfl (Nat.le_of_ble_eq_true rfl) (v := some (.int (bI (wsM (O 0 i) (O 1 i) v)))) (c117 hκ (by omega) (hO 0 (by decide) i (by omega)) (hO 1 (by decide) i (by omega))) ?_
    have K2 : RT 123 (47, [.ref 134, .int (nI x), .int v, .int (if (wsM (O 0 i) (O 1 i) v) = true then (if fo = (-1) then (nI ((10 * x) + i)) else (-2)) else fo), .int (nI ((10 * x) + i))], [], M, κ) Q := by
      refine w_iincN (n := ((10 * x) + i)) (l1 := [.ref 134, .int (nI x), .int v, .int (if (wsM (O 0 i) (O 1 i) v) = true then (if fo = (-1) then (nI ((10 * x) + i)) else (-2)) else fo), .int (nI (((10 * x) + i) + 1))]) 1 i_123_47 rfl rfl ?_
      refine w_goto i_123_50 ?_
      exact (k1 h1)
    refine w_if0n ((wsM (O 0 i) (O 1 i) v) = true) i_123_31 cB_eq ?_ ?_
    · intro h3
      refine w_load i_123_34 rfl rfl ?_
      refine w_push i_123_35 rfl ?_
      have K4 : RT 123 (46, [.ref 134, .int (nI x), .int v, .int fo, .int (nI ((10 * x) + i))], [.int (if fo = (-1) then (nI ((10 * x) + i)) else (-2))], M, κ) Q := by
        refine w_store (l1 := [.ref 134, .int (nI x), .int v, .int (if fo = (-1) then (nI ((10 * x) + i)) else (-2)), .int (nI ((10 * x) + i))]) i_123_46 rfl (Nat.le_of_ble_eq_true rfl) rfl ?_
        exact (by first | exact (K2) | (have K9 := K2; simp only [↓if_pos h3] at K9 ⊢; exact (K9)))
      refine w_if2n (fo = (-1)) i_123_36 cI_ne ?_ ?_
      · intro h5
        refine w_load i_123_39 rfl rfl ?_
        refine w_goto i_123_41 ?_
        exact (by first | exact (K4) | (have K9 := K4; simp only [↓if_pos h5] at K9 ⊢; exact (K9)))
      · intro h6
        refine w_push i_123_44 rfl ?_
        exact (by first | exact (K4) | (have K9 := K4; simp only [↓if_neg h6] at K9 ⊢; exact (K9)))
    · intro h7
      exact (by first | exact (K2) | (have K9 := K2; simp only [↓if_neg h7] at K9 ⊢; exact (K9)))
  · intro h8
    refine w_load i_123_53 rfl rfl ?_
    exact w_iret i_123_54 (.inl rfl) (k2 h8)
theorem nI_m1 {a : Nat} (h : a < 2147483648) : ¬ nI a = -1 := fun e => by
  have := congrArg Int32.toInt e
  rw [nI_toInt h] at this
  have e2 : (-1 : Int32).toInt = -1 := by decide
  omega
theorem c123 (hκ : Rd κ) {x n : Nat} {O : Op} (hx : x < 6) (hn : n ≤ 10) (hc : M 151 x = nI n) (hO : ∀ f, f < 6 → ∀ j, j < n → M (152 + f) (10 * x + j) = O f j) {v : Int32} (hv : ¬ v = -1) : Run 123 (0, entL 123 [.ref 134, .int (nI x), .int v], [], M, κ) (.inl (some (.int (wtI O x v n))), M, κ) := by
  have L : ∀ d i, i + d = n → RT 123 (8, [.ref 134, .int (nI x), .int v, .int (wtI O x v i), .int (nI ((10 * x) + i))], [], M, κ) (fun o => o = (.inl (some (.int (wtI O x v n))), M, κ)) := by
    intro d
    induction d with
    | zero =>
      intro i h
      have e : i = n := by omega
      subst e
      exact S123_8 hκ hx hn (Nat.le_refl _) hc hO (fun h => absurd h (Nat.lt_irrefl _)) (fun _ => rfl)
    | succ d ih =>
      intro i h
      refine S123_8 hκ hx hn (by omega) hc hO (fun _ => ?_) (fun h => absurd (by omega) h)
      have hh := ih (i + 1) (by omega)
      have e : (if (wsM (O 0 i) (O 1 i) v) = true then (if wtI O x v i = (-1) then (nI ((10 * x) + i)) else (-2)) else wtI O x v i) = wtI O x v (i + 1) := by
        have hw : wsM (O 0 i) (O 1 i) v = true ↔ wr O i = v := ws_wr hv
        by_cases c : wr O i = v
        · rw [if_pos (hw.mpr c)]
          unfold wtI
          rw [cwt, if_pos c, lw, if_pos c]
          by_cases c0 : cwt O v i = 0
          · rw [if_pos c0, if_pos rfl, if_neg (by omega), if_pos (by omega)]
          · rw [if_neg c0, if_neg (Nat.succ_ne_zero _)]
            rw [if_neg (show ¬ cwt O v i + 1 = 1 by omega)]
            have hl := lw_lt i c0
            split
            · rw [if_neg (nI_m1 (by omega))]
            · rw [if_neg (by decide)]
        · rw [if_neg (fun z => c (hw.mp z))]
          unfold wtI
          rw [cwt, if_neg c, lw, if_neg c]
      rw [e]
      exact hh
  refine RT_run (S123_0 (i := 0) hκ hx hn (by omega) hc hO ?_)
  exact L n 0 (by omega)
theorem i_125_0 : ins 125 0 = some (.iload_n 2, 1, 2, 0, 0, 0) := rfl
theorem i_125_1 : ins 125 1 = some (.iload_n 3, 2, 3, 0, 0, 0) := rfl
theorem i_125_2 : ins 125 2 = some (.if_icmp .ge 7, 5, 9, 0, 0, 0) := rfl
theorem i_125_5 : ins 125 5 = some (.iconst 0, 6, 0, 0, 0, 0) := rfl
theorem i_125_6 : ins 125 6 = some (.goto 4, 9, 10, 0, 0, 0) := rfl
theorem i_125_9 : ins 125 9 = some (.iconst 1, 10, 0, 0, 0, 1) := rfl
theorem i_125_10 : ins 125 10 = some (.istore 4, 12, 4, 0, 0, 0) := rfl
theorem i_125_12 : ins 125 12 = some (.aload_n 0, 13, 0, 0, 0, 0) := rfl
theorem i_125_13 : ins 125 13 = some (.getfield 87, 16, 7, 29, 0, 0) := rfl
theorem i_125_16 : ins 125 16 = some (.iload_n 2, 17, 2, 0, 0, 0) := rfl
theorem i_125_17 : ins 125 17 = some (.iaload, 18, 0, 0, 0, 0) := rfl
theorem i_125_18 : ins 125 18 = some (.istore 5, 20, 5, 0, 0, 0) := rfl
theorem i_125_20 : ins 125 20 = some (.aload_n 0, 21, 0, 0, 0, 0) := rfl
theorem i_125_21 : ins 125 21 = some (.iload_n 1, 22, 1, 0, 0, 0) := rfl
theorem i_125_22 : ins 125 22 = some (.iload 5, 24, 5, 0, 0, 0) := rfl
theorem i_125_24 : ins 125 24 = some (.invokevirtual 240, 27, 123, 0, 3, 0) := rfl
theorem i_125_27 : ins 125 27 = some (.istore 6, 29, 6, 0, 0, 0) := rfl
theorem i_125_29 : ins 125 29 = some (.aload_n 0, 30, 0, 0, 0, 0) := rfl
theorem i_125_30 : ins 125 30 = some (.getfield 87, 33, 7, 29, 0, 0) := rfl
theorem i_125_33 : ins 125 33 = some (.iload_n 3, 34, 3, 0, 0, 0) := rfl
theorem i_125_34 : ins 125 34 = some (.iaload, 35, 0, 0, 0, 0) := rfl
theorem i_125_35 : ins 125 35 = some (.iload 5, 37, 5, 0, 0, 0) := rfl
theorem i_125_37 : ins 125 37 = some (.if_icmp .ne 14, 40, 51, 0, 0, 0) := rfl
theorem i_125_40 : ins 125 40 = some (.aload_n 0, 41, 0, 0, 0, 0) := rfl
theorem i_125_41 : ins 125 41 = some (.iload 6, 43, 6, 0, 0, 0) := rfl
theorem i_125_43 : ins 125 43 = some (.iload 5, 45, 5, 0, 0, 0) := rfl
theorem i_125_45 : ins 125 45 = some (.invokevirtual 243, 48, 124, 0, 3, 0) := rfl
theorem i_125_48 : ins 125 48 = some (.ifCond .ne 6, 51, 54, 0, 0, 0) := rfl
theorem i_125_51 : ins 125 51 = some (.iload 4, 53, 4, 0, 0, 0) := rfl
theorem i_125_53 : ins 125 53 = some (.ireturn, 54, 0, 0, 0, 0) := rfl
theorem i_125_54 : ins 125 54 = some (.iload 6, 56, 6, 0, 0, 0) := rfl
theorem i_125_56 : ins 125 56 = some (.iconst (-1), 57, 0, 0, 0, (-1)) := rfl
theorem i_125_57 : ins 125 57 = some (.if_icmp .ne 7, 60, 64, 0, 0, 0) := rfl
theorem i_125_60 : ins 125 60 = some (.iconst 0, 61, 0, 0, 0, 0) := rfl
theorem i_125_61 : ins 125 61 = some (.goto 10, 64, 71, 0, 0, 0) := rfl
theorem i_125_64 : ins 125 64 = some (.aload_n 0, 65, 0, 0, 0, 0) := rfl
theorem i_125_65 : ins 125 65 = some (.getfield 93, 68, 7, 31, 0, 0) := rfl
theorem i_125_68 : ins 125 68 = some (.iload 6, 70, 6, 0, 0, 0) := rfl
theorem i_125_70 : ins 125 70 = some (.iaload, 71, 0, 0, 0, 0) := rfl
theorem i_125_71 : ins 125 71 = some (.istore 7, 73, 7, 0, 0, 0) := rfl
theorem i_125_73 : ins 125 73 = some (.aload_n 0, 74, 0, 0, 0, 0) := rfl
theorem i_125_74 : ins 125 74 = some (.getfield 93, 77, 7, 31, 0, 0) := rfl
theorem i_125_77 : ins 125 77 = some (.iload_n 2, 78, 2, 0, 0, 0) := rfl
theorem i_125_78 : ins 125 78 = some (.iaload, 79, 0, 0, 0, 0) := rfl
theorem i_125_79 : ins 125 79 = some (.iload 6, 81, 6, 0, 0, 0) := rfl
theorem i_125_81 : ins 125 81 = some (.iconst (-1), 82, 0, 0, 0, (-1)) := rfl
theorem i_125_82 : ins 125 82 = some (.if_icmp .eq 14, 85, 96, 0, 0, 0) := rfl
theorem i_125_85 : ins 125 85 = some (.iload_n 2, 86, 2, 0, 0, 0) := rfl
theorem i_125_86 : ins 125 86 = some (.iload 6, 88, 6, 0, 0, 0) := rfl
theorem i_125_88 : ins 125 88 = some (.if_icmp .le 8, 91, 96, 0, 0, 0) := rfl
theorem i_125_91 : ins 125 91 = some (.iload 7, 93, 7, 0, 0, 0) := rfl
theorem i_125_93 : ins 125 93 = some (.goto 4, 96, 97, 0, 0, 0) := rfl
theorem i_125_96 : ins 125 96 = some (.iconst 0, 97, 0, 0, 0, 0) := rfl
theorem i_125_97 : ins 125 97 = some (.iadd, 98, 0, 0, 0, 0) := rfl
theorem i_125_98 : ins 125 98 = some (.istore 8, 100, 8, 0, 0, 0) := rfl
theorem i_125_100 : ins 125 100 = some (.aload_n 0, 101, 0, 0, 0, 0) := rfl
theorem i_125_101 : ins 125 101 = some (.getfield 93, 104, 7, 31, 0, 0) := rfl
theorem i_125_104 : ins 125 104 = some (.iload_n 3, 105, 3, 0, 0, 0) := rfl
theorem i_125_105 : ins 125 105 = some (.iaload, 106, 0, 0, 0, 0) := rfl
theorem i_125_106 : ins 125 106 = some (.iload 6, 108, 6, 0, 0, 0) := rfl
theorem i_125_108 : ins 125 108 = some (.iconst (-1), 109, 0, 0, 0, (-1)) := rfl
theorem i_125_109 : ins 125 109 = some (.if_icmp .eq 14, 112, 123, 0, 0, 0) := rfl
theorem i_125_112 : ins 125 112 = some (.iload_n 3, 113, 3, 0, 0, 0) := rfl
theorem i_125_113 : ins 125 113 = some (.iload 6, 115, 6, 0, 0, 0) := rfl
theorem i_125_115 : ins 125 115 = some (.if_icmp .le 8, 118, 123, 0, 0, 0) := rfl
theorem i_125_118 : ins 125 118 = some (.iload 7, 120, 7, 0, 0, 0) := rfl
theorem i_125_120 : ins 125 120 = some (.goto 4, 123, 124, 0, 0, 0) := rfl
theorem i_125_123 : ins 125 123 = some (.iconst 0, 124, 0, 0, 0, 0) := rfl
theorem i_125_124 : ins 125 124 = some (.iadd, 125, 0, 0, 0, 0) := rfl
theorem i_125_125 : ins 125 125 = some (.istore 9, 127, 9, 0, 0, 0) := rfl
theorem i_125_127 : ins 125 127 = some (.iload 4, 129, 4, 0, 0, 0) := rfl
theorem i_125_129 : ins 125 129 = some (.istore 10, 131, 10, 0, 0, 0) := rfl
theorem i_125_131 : ins 125 131 = some (.iload 10, 133, 10, 0, 0, 0) := rfl
theorem i_125_133 : ins 125 133 = some (.bipush 64, 135, 0, 0, 0, 64) := rfl
theorem i_125_135 : ins 125 135 = some (.if_icmp .gt 26, 138, 161, 0, 0, 0) := rfl
theorem i_125_138 : ins 125 138 = some (.iload 8, 140, 8, 0, 0, 0) := rfl
theorem i_125_140 : ins 125 140 = some (.iload 9, 142, 9, 0, 0, 0) := rfl
theorem i_125_142 : ins 125 142 = some (.isub, 143, 0, 0, 0, 0) := rfl
theorem i_125_143 : ins 125 143 = some (.iload 10, 145, 10, 0, 0, 0) := rfl
theorem i_125_145 : ins 125 145 = some (.iload 7, 147, 7, 0, 0, 0) := rfl
theorem i_125_147 : ins 125 147 = some (.imul, 148, 0, 0, 0, 0) := rfl
theorem i_125_148 : ins 125 148 = some (.isub, 149, 0, 0, 0, 0) := rfl
theorem i_125_149 : ins 125 149 = some (.bipush 63, 151, 0, 0, 0, 63) := rfl
theorem i_125_151 : ins 125 151 = some (.iand, 152, 0, 0, 0, 0) := rfl
theorem i_125_152 : ins 125 152 = some (.ifCond .eq 9, 155, 161, 0, 0, 0) := rfl
theorem i_125_155 : ins 125 155 = some (.iinc 10 1, 158, 10, 0, 0, 1) := rfl
theorem i_125_158 : ins 125 158 = some (.goto (-27), 161, 131, 0, 0, 0) := rfl
theorem i_125_161 : ins 125 161 = some (.iload 10, 163, 10, 0, 0, 0) := rfl
theorem i_125_163 : ins 125 163 = some (.bipush 64, 165, 0, 0, 0, 64) := rfl
theorem i_125_165 : ins 125 165 = some (.if_icmp .gt 18, 168, 183, 0, 0, 0) := rfl
theorem i_125_168 : ins 125 168 = some (.iload 10, 170, 10, 0, 0, 0) := rfl
theorem i_125_170 : ins 125 170 = some (.ifCond .le 18, 173, 188, 0, 0, 0) := rfl
theorem i_125_173 : ins 125 173 = some (.aload_n 0, 174, 0, 0, 0, 0) := rfl
theorem i_125_174 : ins 125 174 = some (.getfield 66, 177, 7, 22, 0, 0) := rfl
theorem i_125_177 : ins 125 177 = some (.iload_n 1, 178, 1, 0, 0, 0) := rfl
theorem i_125_178 : ins 125 178 = some (.iaload, 179, 0, 0, 0, 0) := rfl
theorem i_125_179 : ins 125 179 = some (.iconst 3, 180, 0, 0, 0, 3) := rfl
theorem i_125_180 : ins 125 180 = some (.if_icmp .eq 8, 183, 188, 0, 0, 0) := rfl
theorem i_125_183 : ins 125 183 = some (.ldc 222, 185, 222, 0, 0, (-100000)) := rfl
theorem i_125_185 : ins 125 185 = some (.goto 5, 188, 190, 0, 0, 0) := rfl
theorem i_125_188 : ins 125 188 = some (.iload 10, 190, 10, 0, 0, 0) := rfl
theorem i_125_190 : ins 125 190 = some (.ireturn, 191, 0, 0, 0, 0) := rfl
theorem S125_0 {Q : Ou → Prop} {M : Mem} {κ : Kp} (hκ : Rd κ) {x n i j k : Nat} {O : Op} {e : Int32} (hx : x < 6) (hn : n ≤ 10) (hi : i < n) (hj : j < n) (hk : k ≤ 65) (hc : M 151 x = nI n) (he : M 147 x = e) (hO : ∀ f, f < 6 → ∀ j, j < n → M (152 + f) (10 * x + j) = O f j)  {r_24 : Int32} {r_45 : Bool}
    (o1 : Run 123 (0, entL 123 [.ref 134, .int (nI x), .int (O 2 i)], [], M, κ) (.inl (some (.int r_24)), M, κ))
    (o2 : (O 2 j) = (O 2 i) → Run 124 (0, entL 124 [.ref 134, .int r_24, .int (O 2 i)], [], M, κ) (.inl (some (.int (bI r_45))), M, κ))
    (o3 : (O 2 j) = (O 2 i) → r_45 = true → ¬ (r_24 = (-1)) → vp_in r_24 60)
    (k1 : ((((O 2 j) = (O 2 i)) ∧ (¬ (r_45 = true))) ∨ (¬ ((O 2 j) = (O 2 i)))) → Q (.inl (some (.int (nI (if ((10 * x) + i) < ((10 * x) + j) then 0 else 1)))), M, κ))
    (k2 : (O 2 j) = (O 2 i) → r_45 = true → RT 125 (131, [.ref 134, .int (nI x), UU, UU, UU, UU, UU, .int (if r_24 = (-1) then 0 else (M 156 r_24.toNatClampNeg)), .int ((O 4 i) + (if r_24 = (-1) then 0 else (if r_24 < (nI ((10 * x) + i)) then (if r_24 = (-1) then 0 else (M 156 r_24.toNatClampNeg)) else 0))), .int ((O 4 j) + (if r_24 = (-1) then 0 else (if r_24 < (nI ((10 * x) + j)) then (if r_24 = (-1) then 0 else (M 156 r_24.toNatClampNeg)) else 0))), .int (nI (if ((10 * x) + i) < ((10 * x) + j) then 0 else 1))], [], M, κ) Q)
    : RT 125 (0, [.ref 134, .int (nI x), .int (nI ((10 * x) + i)), .int (nI ((10 * x) + j)), UU, UU, UU, UU, UU, UU, UU], [], M, κ) Q := by
  refine w_load i_125_0 rfl rfl ?_
  refine w_load i_125_1 rfl rfl ?_
  have K1 : RT 125 (10, [.ref 134, .int (nI x), .int (nI ((10 * x) + i)), .int (nI ((10 * x) + j)), UU, UU, UU, UU, UU, UU, UU], [.int (nI (if ((10 * x) + i) < ((10 * x) + j) then 0 else 1))], M, κ) Q := by
    refine w_store (l1 := [.ref 134, .int (nI x), .int (nI ((10 * x) + i)), .int (nI ((10 * x) + j)), .int (nI (if ((10 * x) + i) < ((10 * x) + j) then 0 else 1)), UU, UU, UU, UU, UU, UU]) i_125_10 rfl (Nat.le_of_ble_eq_true rfl) rfl ?_
    refine w_load i_125_12 rfl rfl ?_
    refine w_getR 154 i_125_13 hκ (⟨rfl, by decide⟩ : isOb 134 7) rfl rfl ?_
    refine w_load i_125_16 rfl rfl ?_
    refine w_ialdN (e := ((10 * x) + i)) (v := (O 2 i)) i_125_17 hκ (⟨rfl, rfl, by decide⟩ : isAr 154 60) (by omega) (by decide) (hO 2 (by decide) i (by omega)) ?_
    refine w_store (l1 := [.ref 134, .int (nI x), .int (nI ((10 * x) + i)), .int (nI ((10 * x) + j)), .int (nI (if ((10 * x) + i) < ((10 * x) + j) then 0 else 1)), .int (O 2 i), UU, UU, UU, UU, UU]) i_125_18 rfl (Nat.le_of_ble_eq_true rfl) rfl ?_
    refine w_load i_125_20 rfl rfl ?_
    refine w_load i_125_21 rfl rfl ?_
    refine w_load i_125_22 rfl rfl ?_
    refine w_callV (i := _) i_125_24 ⟨by decide, by decide, by decide, rfl⟩ hκ (⟨rfl, by decide⟩ : isOb 134 7) (av := [.int (nI x), .int (O 2 i)]) (rest := []) rfl rfl (Nat.le_of_ble_eq_true rfl) (v := some (.int r_24)) (o1) ?_
    refine w_store (l1 := [.ref 134, .int (nI x), .int (nI ((10 * x) + i)), .int (nI ((10 * x) + j)), .int (nI (if ((10 * x) + i) < ((10 * x) + j) then 0 else 1)), .int (O 2 i), .int r_24, UU, UU, UU, UU]) i_125_27 rfl (Nat.le_of_ble_eq_true rfl) rfl ?_
    refine w_load i_125_29 rfl rfl ?_
    refine w_getR 154 i_125_30 hκ (⟨rfl, by decide⟩ : isOb 134 7) rfl rfl ?_
    refine w_load i_125_33 rfl rfl ?_
    refine w_ialdN (e := ((10 * x) + j)) (v := (O 2 j)) i_125_34 hκ (⟨rfl, rfl, by decide⟩ : isAr 154 60) (by omega) (by decide) (hO 2 (by decide) j (by omega)) ?_
    refine w_load i_125_35 rfl rfl ?_
    have K2 : ((((O 2 j) = (O 2 i)) ∧ (¬ (r_45 = true))) ∨ (¬ ((O 2 j) = (O 2 i)))) → RT 125 (51, [.ref 134, .int (nI x), .int (nI ((10 * x) + i)), .int (nI ((10 * x) + j)), .int (nI (if ((10 * x) + i) < ((10 * x) + j) then 0 else 1)), .int (O 2 i), .int r_24, UU, UU, UU, UU], [], M, κ) Q := by
      intro h3
      refine w_load i_125_51 rfl rfl ?_
      exact w_iret i_125_53 (.inl rfl) (k1 h3)
    refine w_if2n ((O 2 j) = (O 2 i)) i_125_37 cI_ne ?_ ?_
    · intro h4
      refine w_load i_125_40 rfl rfl ?_
      refine w_load i_125_41 rfl rfl ?_
      refine w_load i_125_43 rfl rfl ?_
      refine w_callV (i := _) i_125_45 ⟨by decide, by decide, by decide, rfl⟩ hκ (⟨rfl, by decide⟩ : isOb 134 7) (av := [.int r_24, .int (O 2 i)]) (rest := []) rfl rfl (Nat.le_of_ble_eq_true rfl) (v := some (.int (bI r_45))) (o2 h4) ?_
      refine w_if0 (r_45 = true) i_125_48 cB_ne ?_ ?_
      · intro h5
        refine w_load i_125_54 rfl rfl ?_
        refine w_push i_125_56 rfl ?_
        have K6 : RT 125 (71, [.ref 134, .int (nI x), .int (nI ((10 * x) + i)), .int (nI ((10 * x) + j)), .int (nI (if ((10 * x) + i) < ((10 * x) + j) then 0 else 1)), .int (O 2 i), .int r_24, UU, UU, UU, UU], [.int (if r_24 = (-1) then 0 else (M 156 r_24.toNatClampNeg))], M, κ) Q := by
          refine w_store (l1 := [.ref 134, .int (nI x), .int (nI ((10 * x) + i)), .int (nI ((10 * x) + j)), .int (nI (if ((10 * x) + i) < ((10 * x) + j) then 0 else 1)), .int (O 2 i), .int r_24, .int (if r_24 = (-1) then 0 else (M 156 r_24.toNatClampNeg)), UU, UU, UU]) i_125_71 rfl (Nat.le_of_ble_eq_true rfl) rfl ?_
          refine w_load i_125_73 rfl rfl ?_
          refine w_getR 156 i_125_74 hκ (⟨rfl, by decide⟩ : isOb 134 7) rfl rfl ?_
          refine w_load i_125_77 rfl rfl ?_
          refine w_ialdN (e := ((10 * x) + i)) (v := (O 4 i)) i_125_78 hκ (⟨rfl, rfl, by decide⟩ : isAr 156 60) (by omega) (by decide) (hO 4 (by decide) i (by omega)) ?_
          refine w_load i_125_79 rfl rfl ?_
          refine w_push i_125_81 rfl ?_
          have K7 : RT 125 (97, [.ref 134, .int (nI x), .int (nI ((10 * x) + i)), .int (nI ((10 * x) + j)), .int (nI (if ((10 * x) + i) < ((10 * x) + j) then 0 else 1)), .int (O 2 i), .int r_24, .int (if r_24 = (-1) then 0 else (M 156 r_24.toNatClampNeg)), UU, UU, UU], [.int (if r_24 = (-1) then 0 else (if r_24 < (nI ((10 * x) + i)) then (if r_24 = (-1) then 0 else (M 156 r_24.toNatClampNeg)) else 0)), .int (O 4 i)], M, κ) Q := by
            refine w_bin (w := ((O 4 i) + (if r_24 = (-1) then 0 else (if r_24 < (nI ((10 * x) + i)) then (if r_24 = (-1) then 0 else (M 156 r_24.toNatClampNeg)) else 0)))) i_125_97 rfl rfl ?_
            refine w_store (l1 := [.ref 134, .int (nI x), .int (nI ((10 * x) + i)), .int (nI ((10 * x) + j)), .int (nI (if ((10 * x) + i) < ((10 * x) + j) then 0 else 1)), .int (O 2 i), .int r_24, .int (if r_24 = (-1) then 0 else (M 156 r_24.toNatClampNeg)), .int ((O 4 i) + (if r_24 = (-1) then 0 else (if r_24 < (nI ((10 * x) + i)) then (if r_24 = (-1) then 0 else (M 156 r_24.toNatClampNeg)) else 0))), UU, UU]) i_125_98 rfl (Nat.le_of_ble_eq_true rfl) rfl ?_
            refine w_load i_125_100 rfl rfl ?_
            refine w_getR 156 i_125_101 hκ (⟨rfl, by decide⟩ : isOb 134 7) rfl rfl ?_
            refine w_load i_125_104 rfl rfl ?_
            refine w_ialdN (e := ((10 * x) + j)) (v := (O 4 j)) i_125_105 hκ (⟨rfl, rfl, by decide⟩ : isAr 156 60) (by omega) (by decide) (hO 4 (by decide) j (by omega)) ?_
            refine w_load i_125_106 rfl rfl ?_
            refine w_push i_125_108 rfl ?_
            have K8 : RT 125 (124, [.ref 134, .int (nI x), .int (nI ((10 * x) + i)), .int (nI ((10 * x) + j)), .int (nI (if ((10 * x) + i) < ((10 * x) + j) then 0 else 1)), .int (O 2 i), .int r_24, .int (if r_24 = (-1) then 0 else (M 156 r_24.toNatClampNeg)), .int ((O 4 i) + (if r_24 = (-1) then 0 else (if r_24 < (nI ((10 * x) + i)) then (if r_24 = (-1) then 0 else (M 156 r_24.toNatClampNeg)) else 0))), UU, UU], [.int (if r_24 = (-1) then 0 else (if r_24 < (nI ((10 * x) + j)) then (if r_24 = (-1) then 0 else (M 156 r_24.toNatClampNeg)) else 0)), .int (O 4 j)], M, κ) Q := by
              refine w_bin (w := ((O 4 j) + (if r_24 = (-1) then 0 else (if r_24 < (nI ((10 * x) + j)) then (if r_24 = (-1) then 0 else (M 156 r_24.toNatClampNeg)) else 0)))) i_125_124 rfl rfl ?_
              refine w_store (l1 := [.ref 134, .int (nI x), .int (nI ((10 * x) + i)), .int (nI ((10 * x) + j)), .int (nI (if ((10 * x) + i) < ((10 * x) + j) then 0 else 1)), .int (O 2 i), .int r_24, .int (if r_24 = (-1) then 0 else (M 156 r_24.toNatClampNeg)), .int ((O 4 i) + (if r_24 = (-1) then 0 else (if r_24 < (nI ((10 * x) + i)) then (if r_24 = (-1) then 0 else (M 156 r_24.toNatClampNeg)) else 0))), .int ((O 4 j) + (if r_24 = (-1) then 0 else (if r_24 < (nI ((10 * x) + j)) then (if r_24 = (-1) then 0 else (M 156 r_24.toNatClampNeg)) else 0))), UU]) i_125_125 rfl (Nat.le_of_ble_eq_true rfl) rfl ?_
              refine w_load i_125_127 rfl rfl ?_
              refine w_store (l1 := [.ref 134, .int (nI x), .int (nI ((10 * x) + i)), .int (nI ((10 * x) + j)), .int (nI (if ((10 * x) + i) < ((10 * x) + j) then 0 else 1)), .int (O 2 i), .int r_24, .int (if r_24 = (-1) then 0 else (M 156 r_24.toNatClampNeg)), .int ((O 4 i) + (if r_24 = (-1) then 0 else (if r_24 < (nI ((10 * x) + i)) then (if r_24 = (-1) then 0 else (M 156 r_24.toNatClampNeg)) else 0))), .int ((O 4 j) + (if r_24 = (-1) then 0 else (if r_24 < (nI ((10 * x) + j)) then (if r_24 = (-1) then 0 else (M 156 r_24.toNatClampNeg)) else 0))), .int (nI (if ((10 * x) + i) < ((10 * x) + j) then 0 else 1))]) i_125_129 rfl (Nat.le_of_ble_eq_true rfl) rfl ?_
              exact w_weak (lle_s (lle_s (lle_u (lle_u (lle_u (lle_u (lle_u (lle_s (lle_s (lle_s (lle_s lle_n))))))))))) (k2 h4 h5)
            refine w_if2 (r_24 = (-1)) i_125_109 cI_eq ?_ ?_
            · intro h9
              refine w_push i_125_123 rfl ?_
              exact (by first | exact (K8) | (have K9 := K8; simp only [↓if_pos h9] at K9 ⊢; exact (K9)))
            · intro h10
              refine w_load i_125_112 rfl rfl ?_
              refine w_load i_125_113 rfl rfl ?_
              refine w_if2n (r_24 < (nI ((10 * x) + j))) i_125_115 cI_le ?_ ?_
              · intro h11
                refine w_load i_125_118 rfl rfl ?_
                refine w_goto i_125_120 ?_
                exact (by first | exact (K8) | (have K9 := K8; simp only [↓if_neg h10, ↓if_pos h11] at K9 ⊢; exact (K9)))
              · intro h12
                refine w_push i_125_123 rfl ?_
                exact (by first | exact (K8) | (have K9 := K8; simp only [↓if_neg h10, ↓if_neg h12] at K9 ⊢; exact (K9)))
          refine w_if2 (r_24 = (-1)) i_125_82 cI_eq ?_ ?_
          · intro h13
            refine w_push i_125_96 rfl ?_
            exact (by first | exact (K7) | (have K9 := K7; simp only [↓if_pos h13] at K9 ⊢; exact (K9)))
          · intro h14
            refine w_load i_125_85 rfl rfl ?_
            refine w_load i_125_86 rfl rfl ?_
            refine w_if2n (r_24 < (nI ((10 * x) + i))) i_125_88 cI_le ?_ ?_
            · intro h15
              refine w_load i_125_91 rfl rfl ?_
              refine w_goto i_125_93 ?_
              exact (by first | exact (K7) | (have K9 := K7; simp only [↓if_neg h14, ↓if_pos h15] at K9 ⊢; exact (K9)))
            · intro h16
              refine w_push i_125_96 rfl ?_
              exact (by first | exact (K7) | (have K9 := K7; simp only [↓if_neg h14, ↓if_neg h16] at K9 ⊢; exact (K9)))
        refine w_if2n (r_24 = (-1)) i_125_57 cI_ne ?_ ?_
        · intro h17
          refine w_push i_125_60 rfl ?_
          refine w_goto i_125_61 ?_
          exact (by first | exact (K6) | (have K9 := K6; simp only [↓if_pos h17] at K9 ⊢; exact (K9)))
        · intro h18
          refine w_load i_125_64 rfl rfl ?_
          refine w_getR 156 i_125_65 hκ (⟨rfl, by decide⟩ : isOb 134 7) rfl rfl ?_
          refine w_load i_125_68 rfl rfl ?_
          refine w_iald (v := (M 156 r_24.toNatClampNeg)) i_125_70 hκ (⟨rfl, rfl, by decide⟩ : isAr 156 60) (o3 h4 h5 h18) (rfl) ?_
          exact (by first | exact (K6) | (have K9 := K6; simp only [↓if_neg h18] at K9 ⊢; exact (K9)))
      · intro h19
        exact (by first | exact (K2 (.inl ⟨h4, h19⟩)) | (have K9 := K2 (.inl ⟨h4, h19⟩); simp only [↓if_pos h4, ↓if_neg h19] at K9 ⊢; exact (K9)))
    · intro h20
      exact (by first | exact (K2 (.inr h20)) | (have K9 := K2 (.inr h20); simp only [↓if_neg h20] at K9 ⊢; exact (K9)))
  refine w_if2n (((10 * x) + i) < ((10 * x) + j)) i_125_2 (cN_ge (a := ((10 * x) + i)) (b := ((10 * x) + j)) (by omega) (by omega)) ?_ ?_
  · intro h21
    refine w_push i_125_5 rfl ?_
    refine w_goto i_125_6 ?_
    exact (by first | exact (K1) | (have K9 := K1; simp only [↓if_pos h21] at K9 ⊢; exact (K9)))
  · intro h22
    refine w_push i_125_9 rfl ?_
    exact (by first | exact (K1) | (have K9 := K1; simp only [↓if_neg h22] at K9 ⊢; exact (K9)))
theorem S125_131 {Q : Ou → Prop} {M : Mem} {κ : Kp} (hκ : Rd κ) {x n i j k : Nat} {O : Op} {e : Int32} (hx : x < 6) (hn : n ≤ 10) (hi : i < n) (hj : j < n) (hk : k ≤ 65) (hc : M 151 x = nI n) (he : M 147 x = e) (hO : ∀ f, f < 6 → ∀ j, j < n → M (152 + f) (10 * x + j) = O f j) {am : Int32} {o1 : Int32} {o2 : Int32}
    (k1 : ((64 < k) ∨ ((¬ (64 < k)) ∧ ((((o1 - o2) - ((nI k) * am)) &&& 63) = 0))) → Q (.inl (some (.int (if 64 < k then (-100000) else (if 0 < k then (if e = 3 then (nI k) else (-100000)) else (nI k))))), M, κ))
    (k2 : ¬ (64 < k) → ¬ ((((o1 - o2) - ((nI k) * am)) &&& 63) = 0) → RT 125 (131, [.ref 134, .int (nI x), UU, UU, UU, UU, UU, .int am, .int o1, .int o2, .int (nI (k + 1))], [], M, κ) Q)
    : RT 125 (131, [.ref 134, .int (nI x), UU, UU, UU, UU, UU, .int am, .int o1, .int o2, .int (nI k)], [], M, κ) Q := by
  refine w_load i_125_131 rfl rfl ?_
  refine w_push i_125_133 rfl ?_
  have K1 : ((64 < k) ∨ ((¬ (64 < k)) ∧ ((((o1 - o2) - ((nI k) * am)) &&& 63) = 0))) → RT 125 (161, [.ref 134, .int (nI x), UU, UU, UU, UU, UU, .int am, .int o1, .int o2, .int (nI k)], [], M, κ) Q := by
    intro h2
    refine w_load i_125_161 rfl rfl ?_
    refine w_push i_125_163 rfl ?_
    have K3 : RT 125 (190, [.ref 134, .int (nI x), UU, UU, UU, UU, UU, .int am, .int o1, .int o2, .int (nI k)], [.int (if 64 < k then (-100000) else (if 0 < k then (if e = 3 then (nI k) else (-100000)) else (nI k)))], M, κ) Q := by
      exact w_iret i_125_190 (.inl rfl) (k1 h2)
    refine w_if2 (64 < k) i_125_165 (cN_gt (a := k) (b := 64) (by omega) (by omega)) ?_ ?_
    · intro h4
      refine w_push i_125_183 rfl ?_
      refine w_goto i_125_185 ?_
      exact (by first | exact (K3) | (have K9 := K3; simp only [↓if_pos h4] at K9 ⊢; exact (K9)))
    · intro h5
      refine w_load i_125_168 rfl rfl ?_
      refine w_if0n (0 < k) i_125_170 (cZ_le (a := k) (by omega) (by decide)) ?_ ?_
      · intro h6
        refine w_load i_125_173 rfl rfl ?_
        refine w_getR 147 i_125_174 hκ (⟨rfl, by decide⟩ : isOb 134 7) rfl rfl ?_
        refine w_load i_125_177 rfl rfl ?_
        refine w_ialdN (e := x) (v := e) i_125_178 hκ (⟨rfl, rfl, by decide⟩ : isAr 147 6) (by omega) (by decide) (he) ?_
        refine w_push i_125_179 rfl ?_
        refine w_if2 (e = 3) i_125_180 cI_eq ?_ ?_
        · intro h7
          refine w_load i_125_188 rfl rfl ?_
          exact (by first | exact (K3) | (have K9 := K3; simp only [↓if_neg h5, ↓if_pos h6, ↓if_pos h7] at K9 ⊢; exact (K9)))
        · intro h8
          refine w_push i_125_183 rfl ?_
          refine w_goto i_125_185 ?_
          exact (by first | exact (K3) | (have K9 := K3; simp only [↓if_neg h5, ↓if_pos h6, ↓if_neg h8] at K9 ⊢; exact (K9)))
      · intro h9
        refine w_load i_125_188 rfl rfl ?_
        exact (by first | exact (K3) | (have K9 := K3; simp only [↓if_neg h5, ↓if_neg h9] at K9 ⊢; exact (K9)))
  refine w_if2 (64 < k) i_125_135 (cN_gt (a := k) (b := 64) (by omega) (by omega)) ?_ ?_
  · intro h10
    exact (by first | exact (K1 (.inl h10)) | (have K9 := K1 (.inl h10); simp only [↓if_pos h10] at K9 ⊢; exact (K9)))
  · intro h11
    refine w_load i_125_138 rfl rfl ?_
    refine w_load i_125_140 rfl rfl ?_
    refine w_bin (w := (o1 - o2)) i_125_142 rfl rfl ?_
    refine w_load i_125_143 rfl rfl ?_
    refine w_load i_125_145 rfl rfl ?_
    refine w_bin (w := ((nI k) * am)) i_125_147 rfl rfl ?_
    refine w_bin (w := ((o1 - o2) - ((nI k) * am))) i_125_148 rfl rfl ?_
    refine w_push i_125_149 rfl ?_
    refine w_bin (w := (((o1 - o2) - ((nI k) * am)) &&& 63)) i_125_151 rfl rfl ?_
    refine w_if0 ((((o1 - o2) - ((nI k) * am)) &&& 63) = 0) i_125_152 cI0_eq ?_ ?_
    · intro h12
      exact (by first | exact (K1 (.inr ⟨h11, h12⟩)) | (have K9 := K1 (.inr ⟨h11, h12⟩); simp only [↓if_neg h11, ↓if_pos h12] at K9 ⊢; exact (K9)))
    · intro h13
      refine w_iincN (n := k) (l1 := [.ref 134, .int (nI x), UU, UU, UU, UU, UU, .int am, .int o1, .int o2, .int (nI (k + 1))]) 1 i_125_155 rfl rfl ?_
      refine w_goto i_125_158 ?_
      exact (k2 h11 h13)
theorem i_124_0 : ins 124 0 = some (.iload_n 1, 1, 1, 0, 0, 0) := rfl
theorem i_124_1 : ins 124 1 = some (.iconst (-1), 2, 0, 0, 0, (-1)) := rfl
theorem i_124_2 : ins 124 2 = some (.if_icmp .eq 36, 5, 38, 0, 0, 0) := rfl
theorem i_124_5 : ins 124 5 = some (.iload_n 1, 6, 1, 0, 0, 0) := rfl
theorem i_124_6 : ins 124 6 = some (.ifCond .lt 36, 9, 42, 0, 0, 0) := rfl
theorem i_124_9 : ins 124 9 = some (.aload_n 0, 10, 0, 0, 0, 0) := rfl
theorem i_124_10 : ins 124 10 = some (.getfield 81, 13, 7, 27, 0, 0) := rfl
theorem i_124_13 : ins 124 13 = some (.iload_n 1, 14, 1, 0, 0, 0) := rfl
theorem i_124_14 : ins 124 14 = some (.iaload, 15, 0, 0, 0, 0) := rfl
theorem i_124_15 : ins 124 15 = some (.iconst 1, 16, 0, 0, 0, 1) := rfl
theorem i_124_16 : ins 124 16 = some (.if_icmp .ne 26, 19, 42, 0, 0, 0) := rfl
theorem i_124_19 : ins 124 19 = some (.aload_n 0, 20, 0, 0, 0, 0) := rfl
theorem i_124_20 : ins 124 20 = some (.getfield 87, 23, 7, 29, 0, 0) := rfl
theorem i_124_23 : ins 124 23 = some (.iload_n 1, 24, 1, 0, 0, 0) := rfl
theorem i_124_24 : ins 124 24 = some (.iaload, 25, 0, 0, 0, 0) := rfl
theorem i_124_25 : ins 124 25 = some (.iload_n 2, 26, 2, 0, 0, 0) := rfl
theorem i_124_26 : ins 124 26 = some (.if_icmp .ne 16, 29, 42, 0, 0, 0) := rfl
theorem i_124_29 : ins 124 29 = some (.aload_n 0, 30, 0, 0, 0, 0) := rfl
theorem i_124_30 : ins 124 30 = some (.getfield 96, 33, 7, 32, 0, 0) := rfl
theorem i_124_33 : ins 124 33 = some (.iload_n 1, 34, 1, 0, 0, 0) := rfl
theorem i_124_34 : ins 124 34 = some (.iaload, 35, 0, 0, 0, 0) := rfl
theorem i_124_35 : ins 124 35 = some (.ifCond .ne 7, 38, 42, 0, 0, 0) := rfl
theorem i_124_38 : ins 124 38 = some (.iconst 1, 39, 0, 0, 0, 1) := rfl
theorem i_124_39 : ins 124 39 = some (.goto 4, 42, 43, 0, 0, 0) := rfl
theorem i_124_42 : ins 124 42 = some (.iconst 0, 43, 0, 0, 0, 0) := rfl
theorem i_124_43 : ins 124 43 = some (.ireturn, 44, 0, 0, 0, 0) := rfl
theorem S124_0 {Q : Ou → Prop} {M : Mem} {κ : Kp} (hκ : Rd κ)  {w : Int32} {v : Int32}
    (o1 : ¬ (w = (-1)) → ¬ (w < 0) → vp_in w 60)
    (k1 : Q (.inl (some (.int (bI (if w = (-1) then true else (if w < 0 then false else (if (M 152 w.toNatClampNeg) = 1 then (if (M 154 w.toNatClampNeg) = v then (if (M 157 w.toNatClampNeg) = 0 then true else false) else false) else false)))))), M, κ))
    : RT 124 (0, [.ref 134, .int w, .int v], [], M, κ) Q := by
  refine w_load i_124_0 rfl rfl ?_
  refine w_push i_124_1 rfl ?_
  have K1 : RT 124 (43, [.ref 134, .int w, .int v], [.int (bI (if w = (-1) then true else (if w < 0 then false else (if (M 152 w.toNatClampNeg) = 1 then (if (M 154 w.toNatClampNeg) = v then (if (M 157 w.toNatClampNeg) = 0 then true else false) else false) else false))))], M, κ) Q := by
    exact w_iret i_124_43 (.inr ⟨rfl, isB_bI _⟩) (k1)
  refine w_if2 (w = (-1)) i_124_2 cI_eq ?_ ?_
  · intro h2
    refine w_push i_124_38 rfl ?_
    refine w_goto i_124_39 ?_
    exact (by first | exact (K1) | (have K9 := K1; simp only [↓if_pos h2] at K9 ⊢; exact (K9)))
  · intro h3
    refine w_load i_124_5 rfl rfl ?_
    refine w_if0 (w < 0) i_124_6 cI0_lt ?_ ?_
    · intro h4
      refine w_push i_124_42 rfl ?_
      exact (by first | exact (K1) | (have K9 := K1; simp only [↓if_neg h3, ↓if_pos h4] at K9 ⊢; exact (K9)))
    · intro h5
      refine w_load i_124_9 rfl rfl ?_
      refine w_getR 152 i_124_10 hκ (⟨rfl, by decide⟩ : isOb 134 7) rfl rfl ?_
      refine w_load i_124_13 rfl rfl ?_
      refine w_iald (v := (M 152 w.toNatClampNeg)) i_124_14 hκ (⟨rfl, rfl, by decide⟩ : isAr 152 60) (o1 h3 h5) (rfl) ?_
      refine w_push i_124_15 rfl ?_
      refine w_if2n ((M 152 w.toNatClampNeg) = 1) i_124_16 cI_ne ?_ ?_
      · intro h6
        refine w_load i_124_19 rfl rfl ?_
        refine w_getR 154 i_124_20 hκ (⟨rfl, by decide⟩ : isOb 134 7) rfl rfl ?_
        refine w_load i_124_23 rfl rfl ?_
        refine w_iald (v := (M 154 w.toNatClampNeg)) i_124_24 hκ (⟨rfl, rfl, by decide⟩ : isAr 154 60) (o1 h3 h5) (rfl) ?_
        refine w_load i_124_25 rfl rfl ?_
        refine w_if2n ((M 154 w.toNatClampNeg) = v) i_124_26 cI_ne ?_ ?_
        · intro h7
          refine w_load i_124_29 rfl rfl ?_
          refine w_getR 157 i_124_30 hκ (⟨rfl, by decide⟩ : isOb 134 7) rfl rfl ?_
          refine w_load i_124_33 rfl rfl ?_
          refine w_iald (v := (M 157 w.toNatClampNeg)) i_124_34 hκ (⟨rfl, rfl, by decide⟩ : isAr 157 60) (o1 h3 h5) (rfl) ?_
          refine w_if0n ((M 157 w.toNatClampNeg) = 0) i_124_35 cI0_ne ?_ ?_
          · intro h8
            refine w_push i_124_38 rfl ?_
            refine w_goto i_124_39 ?_
            exact (by first | exact (K1) | (have K9 := K1; simp only [↓if_neg h3, ↓if_neg h5, ↓if_pos h6, ↓if_pos h7, ↓if_pos h8] at K9 ⊢; exact (K9)))
          · intro h9
            refine w_push i_124_42 rfl ?_
            exact (by first | exact (K1) | (have K9 := K1; simp only [↓if_neg h3, ↓if_neg h5, ↓if_pos h6, ↓if_pos h7, ↓if_neg h9] at K9 ⊢; exact (K9)))
        · intro h10
          refine w_push i_124_42 rfl ?_
          exact (by first | exact (K1) | (have K9 := K1; simp only [↓if_neg h3, ↓if_neg h5, ↓if_pos h6, ↓if_neg h10] at K9 ⊢; exact (K9)))
      · intro h11
        refine w_push i_124_42 rfl ?_
        exact (by first | exact (K1) | (have K9 := K1; simp only [↓if_neg h3, ↓if_neg h5, ↓if_neg h11] at K9 ⊢; exact (K9)))
end P_22_meet
end
section
/-! WHERE TWO MEET: the model -/
section P_23_meet2
variable {Q : Ou → Prop} {M M0 : Mem} {κ : Kp}
def rsM (r : Int32) : Int32 := if r = -1 then -100000 else r
def rmM (e : Int32) (k : Nat) : Int32 := if 64 < k then (-100000) else (if 0 < k then (if e = 3 then (nI k) else (-100000)) else (nI k))
theorem st124 (hκ : Rd κ) {x n : Nat} {O : Op} (hx : x < 6) (hn : n ≤ 10) (hO : ∀ f, f < 6 → ∀ j, j < n → M (152 + f) (10 * x + j) = O f j) {v : Int32} (hv : ¬ v = -1) : Run 124 (0, entL 124 [.ref 134, .int (wtI O x v n), .int v], [], M, κ) (.inl (some (.int (bI (decide (loo O v n = 0))))), M, κ) := by
  unfold wtI loo
  by_cases c0 : cwt O v n = 0
  · rw [if_pos c0, if_pos c0]
    refine RT_run (S124_0 hκ (fun h => absurd rfl h) ?_)
    rfl
  · have hl := lw_lt n c0
    rw [if_neg c0, if_neg c0]
    by_cases c1 : cwt O v n = 1
    · rw [if_pos c1]
      have hb : 10 * x + lw O v n < 2147483648 := by omega
      refine RT_run (S124_0 hκ (fun _ _ => vp_in_nI (by omega) (by decide)) ?_)
      rw [if_neg (nI_m1 hb), if_neg (nI_pos hb), nI_clamp hb]
      rw [show M 152 (10 * x + lw O v n) = O 0 (lw O v n) from hO 0 (by decide) _ hl.1, show M 154 (10 * x + lw O v n) = O 2 (lw O v n) from hO 2 (by decide) _ hl.1, show M 157 (10 * x + lw O v n) = O 5 (lw O v n) from hO 5 (by decide) _ hl.1]
      have e : (if O 0 (lw O v n) = 1 then (if O 2 (lw O v n) = v then (if O 5 (lw O v n) = 0 then true else false) else false) else false) = stp O (lw O v n) := by
        have h2 := hl.2
        unfold wr wrF at h2
        unfold stp stpF
        by_cases q : O 0 (lw O v n) = 1
        · rw [if_pos q]
          rw [if_pos (by rw [q]; decide)] at h2
          rw [h2, q]
          by_cases q2 : O 2 (lw O v n) = v
          · rw [if_pos q2, q2]
            by_cases q3 : O 5 (lw O v n) = 0 <;> simp [q3]
          · rw [if_neg q2]
            have q4 : ¬ v = O 2 (lw O v n) := fun z => q2 z.symm
            simp [q4]
        · rw [if_neg q]
          simp [q]
      rw [e]
      have e2 : stp O (lw O v n) = decide (bI (decide (1 < cwt O v n) || !stp O (lw O v n)) = 0) := by
        rw [c1]
        cases stp O (lw O v n) <;> decide
      rw [← e2]
    · rw [if_neg c1]
      refine RT_run (S124_0 hκ (fun _ h => absurd (by decide) h) ?_)
      have e2 : decide (1 < cwt O v n) = true := decide_eq_true (by omega)
      rw [e2]
      rfl
theorem l125 (hκ : Rd κ) {x n i j : Nat} {O : Op} {e am o1 o2 : Int32} (hx : x < 6) (hn : n ≤ 10) (hi : i < n) (hj : j < n) (hc : M 151 x = nI n) (he : M 147 x = e) (hO : ∀ f, f < 6 → ∀ j, j < n → M (152 + f) (10 * x + j) = O f j) (f : Nat → Bool) (hf : ∀ k, f k = true ↔ (((o1 - o2) - ((nI k) * am)) &&& 63) = 0) :
    ∀ d k, k + d = 65 → Q (.inl (some (.int (rmM e (srN f d k)))), M, κ) → RT 125 (131, [.ref 134, .int (nI x), UU, UU, UU, UU, UU, .int am, .int o1, .int o2, .int (nI k)], [], M, κ) Q := by
  intro d
  induction d with
  | zero =>
    intro k hk K
    exact S125_131 hκ hx hn hi hj (by omega) hc he hO (fun _ => K) (fun h => absurd (by omega) h)
  | succ d ih =>
    intro k hk K
    refine S125_131 hκ hx hn hi hj (by omega) hc he hO (fun h => ?_) (fun _ h => ih (k + 1) (by omega) ?_)
    · rcases h with h | h
      · exact absurd h (by omega)
      · rw [srN, if_pos ((hf k).mpr h.2)] at K
        exact K
    · rw [srN, if_neg (fun z => h ((hf k).mp z))] at K
      exact K
theorem c125 (hκ : Rd κ) {x n i j : Nat} {O : Op} {e : Int32} (hx : x < 6) (hn : n ≤ 10) (hi : i < n) (hj : j < n) (hij : i < j ∨ e = 3) (hc : M 151 x = nI n) (he : M 147 x = e) (hO : ∀ f, f < 6 → ∀ j, j < n → M (152 + f) (10 * x + j) = O f j) (hv : ¬ O 2 i = -1) : Run 125 (0, entL 125 [.ref 134, .int (nI x), .int (nI ((10 * x) + i)), .int (nI ((10 * x) + j))], [], M, κ) (.inl (some (.int (rsM (mtF O n (decide (e = 3)) i j)))), M, κ) := by
  refine RT_run (S125_0 (k := 0) (r_24 := wtI O x (O 2 i) n) (r_45 := decide (loo O (O 2 i) n = 0)) hκ hx hn hi hj (by omega) hc he hO (c123 hκ hx hn hc hO hv) (fun _ => st124 hκ hx hn hO hv) (fun _ h1 h2 => ?_) (fun h => ?_) (fun h1 h2 => ?_))
  · have h1 := of_decide_eq_true h1
    unfold wtI at h2 ⊢
    by_cases c0 : cwt O (O 2 i) n = 0
    · rw [if_pos c0] at h2
      exact absurd rfl h2
    · have hl := lw_lt n c0
      by_cases c1 : cwt O (O 2 i) n = 1
      · rw [if_neg c0, if_pos c1]
        exact vp_in_nI (by omega) (by decide)
      · exfalso
        unfold loo at h1
        rw [if_neg c0, decide_eq_true (by omega : 1 < cwt O (O 2 i) n)] at h1
        exact absurd h1 (show ¬ (1 : Int32) = 0 by decide)
  · have e1 : mtF O n (decide (e = 3)) i j = nI (if i < j then 0 else 1) := by
      unfold mtF
      rw [if_neg]
      rintro ⟨h1, h2⟩
      rcases h with h | h
      · exact h.2 (decide_eq_true h2)
      · exact h h1.symm
    rw [e1]
    unfold rsM
    rw [if_neg (nI_m1 (by split <;> omega))]
    have : ((10 * x) + i < (10 * x) + j) ↔ i < j := by omega
    simp only [this]
  · have h2 := of_decide_eq_true h2
    have hb : ∀ a, a < 10 → 10 * x + a < 2147483648 := by omega
    have key : ∀ y : Nat, y < n → (O 4 y) + (if wtI O x (O 2 i) n = (-1) then 0 else (if wtI O x (O 2 i) n < (nI ((10 * x) + y)) then (if wtI O x (O 2 i) n = (-1) then 0 else (M 156 (wtI O x (O 2 i) n).toNatClampNeg)) else 0)) = sw O (O 2 i) y n := by
      intro y hy
      unfold wtI
      by_cases c0 : cwt O (O 2 i) n = 0
      · rw [if_pos c0, if_pos rfl, sw_0 n c0]
        exact Int32.add_zero _
      · have hl := lw_lt n c0
        by_cases c1 : cwt O (O 2 i) n = 1
        · rw [if_neg c0, if_pos c1, if_neg (nI_m1 (hb _ (by omega))), if_neg (nI_m1 (hb _ (by omega))), sw_1 n c1, nI_clamp (hb _ (by omega)), show M 156 (10 * x + lw O (O 2 i) n) = O 4 (lw O (O 2 i) n) from hO 4 (by decide) _ hl.1]
          have : (nI (10 * x + lw O (O 2 i) n) < nI (10 * x + y)) ↔ lw O (O 2 i) n < y := (nI_ltI (hb _ (by omega)) (hb _ (by omega))).trans (by omega)
          simp only [this]
        · exfalso
          unfold loo at h2
          rw [if_neg c0, decide_eq_true (by omega : 1 < cwt O (O 2 i) n)] at h2
          exact absurd h2 (show ¬ (1 : Int32) = 0 by decide)
    have kam : (if wtI O x (O 2 i) n = (-1) then 0 else (M 156 (wtI O x (O 2 i) n).toNatClampNeg)) = amo O (O 2 i) n := by
      unfold wtI amo
      by_cases c0 : cwt O (O 2 i) n = 0
      · rw [if_pos c0, if_pos c0, if_pos rfl]
      · have hl := lw_lt n c0
        by_cases c1 : cwt O (O 2 i) n = 1
        · rw [if_neg c0, if_pos c1, if_neg c0, if_neg (nI_m1 (hb _ (by omega))), nI_clamp (hb _ (by omega)), show M 156 (10 * x + lw O (O 2 i) n) = O 4 (lw O (O 2 i) n) from hO 4 (by decide) _ hl.1]
        · exfalso
          unfold loo at h2
          rw [if_neg c0, decide_eq_true (by omega : 1 < cwt O (O 2 i) n)] at h2
          exact absurd h2 (show ¬ (1 : Int32) = 0 by decide)
    rw [key i hi, key j hj, kam]
    have hfi : (if ((10 * x) + i) < ((10 * x) + j) then 0 else 1) = (if i < j then 0 else 1) := by
      have : ((10 * x) + i < (10 * x) + j) ↔ i < j := by omega
      simp only [this]
    rw [hfi]
    refine l125 hκ hx hn hi hj hc he hO (mtf O n i j) (fun k => ?_) (65 - (if i < j then 0 else 1)) _ (by split <;> omega) ?_
    · unfold mtf
      rw [decide_eq_true_iff, h1]
    · have e1 : mtF O n (decide (e = 3)) i j = srch (mtf O n i j) ((if decide (e = 3) = true then 64 else 0) + 1 - (if i < j then 0 else 1)) (if i < j then 0 else 1) := if_pos ⟨h1.symm, h2⟩
      rw [e1]
      have hge := srN_ge (mtf O n i j) (65 - (if i < j then 0 else 1)) (if i < j then 0 else 1)
      by_cases q : e = 3
      · rw [if_pos (decide_eq_true q), srch_N]
        have e3 : (if i < j then 0 else 1) + (64 + 1 - (if i < j then 0 else 1)) = 65 := by split <;> omega
        rw [e3]
        unfold rmM rsM
        by_cases t : srN (mtf O n i j) (65 - (if i < j then 0 else 1)) (if i < j then 0 else 1) < 65
        · rw [if_neg (by omega), if_pos q, ite_self]
          rw [show (64 : Nat) + 1 = 65 from rfl, if_pos t, if_neg (nI_m1 (by omega))]
        · rw [if_pos (by omega)]
          rw [show (64 : Nat) + 1 = 65 from rfl, if_neg t, if_pos rfl]
      · rw [if_neg (fun z => q (of_decide_eq_true z))]
        have hl : i < j := hij.elim id (fun z => absurd z q)
        rw [if_pos hl] at hge ⊢
        show _ = (Sum.inl (some (Value.int (rsM (if mtf O n i j 0 = true then nI 0 else srch (mtf O n i j) 0 1)))), M, κ)
        show (Sum.inl (some (Value.int (rmM e (if mtf O n i j 0 = true then 0 else srN (mtf O n i j) 64 1)))), M, κ) = _
        by_cases t : mtf O n i j 0 = true
        · rw [if_pos t, if_pos t]
          rfl
        · rw [if_neg t, if_neg t]
          have h3 := (srN_ge (mtf O n i j) 64 1).1
          unfold rmM
          rw [if_pos (by omega : 0 < srN (mtf O n i j) 64 1), if_neg q, ite_self]
          rfl
end P_23_meet2
end
section
theorem law_run : LawRun := by
  sorry
theorem whole_start {p : Program} {e : Env} {s : State} {m : MethodId} {below : List Frame} {meth : Method} {c : Code} (l : Launch) (hflags : l.flags = flags0) {b L : Nat} {xs : Nat → Int32} (hL : L ≤ 3584) (C0 : lw_At p s m meth c b L xs) : W p l e room_1 s m #[Value.ref b] below meth c s.heap [] 0 0 (lw_Z below #[Value.ref b] s) (entryFrame m ([Value.ref b] : List Value).toArray 9) := start_of_run law_run l hflags hL C0
-- ===== YOUR PART ENDS =====
set_option maxHeartbeats 4000000 in
theorem lw_walk (l : Launch) (hflags : l.flags = flags0) (b : Addr) (xs : List Int32) : MetFree l x (headSpec (Jvm.Cond.code x code maxLocals ret :: tables_1) room_1) (lw_P b xs) (fun _ _ _ _ _ => True) lw_Q := by
  refine MetFree.of_bodyS (code := code) (maxLocals := maxLocals) (ret := ret) (by decide) ?_ ?_
  · intro args s m h hn
    obtain ⟨meth, c, h1, h2, h3, h4, h5, h6, -, -⟩ := Cond.code_spec hn (atoms_spec (ws := Jvm.Cond.code x code maxLocals ret :: tables_1) h _ List.mem_cons_self)
    exact ⟨meth, c, h1, h2, h3, h4, h5, h6⟩
  · intro p e s m args below meth c s₁ B hml0 hP _
    obtain ⟨rfl, hx, hbd, hgv⟩ := hP
    obtain ⟨scr, harrAt, hlist, hof, hsmall⟩ := hx
    obtain ⟨hcb, hkn, -, -⟩ := State.arrayAt?_spec harrAt
    have hown : s.vm.findClass R_law = some m.cls := findClass_of_methodNamed B.named
    have hts0 : ∀ c ∈ (Jvm.Cond.code x code maxLocals ret :: tables_1), c.before #[Value.ref b] s = true := atoms_spec (ws := Jvm.Cond.code x code maxLocals ret :: tables_1) B.pre
    have hts : ∀ w ∈ lw_tbl, w.before #[Value.ref b] s = true := k2_hts_sels lw_privs (fun w hw => hts0 w (List.mem_cons_of_mem _ hw)) lw_privs_ok
    have hml : c.maxLocals = 9 := B.maxLocals_eq (hts0 _ List.mem_cons_self)
    have X₀ : Stand p l e room_1 s m #[Value.ref b] below meth c s₁ [] 0 0 := Stand.of_body B
    have hh0 : s₁.heap = s.heap := by rw [B.state]; rfl
    have hsz : scr.slots.size = xs.length := by rw [← Array.length_toList, hlist, List.length_map]
    have hval : ∀ j : Nat, j < xs.length → scr.slots[j]? = some (.int (xs.getD j 0)) := fun j hj => by
      rw [← Array.getElem?_toList, hlist]
      simp [hj]
    have hbl : b < s.heap.size := (Array.getElem?_eq_some_iff.mp hcb).1
    have hX : va_X b xs.length (fun j => xs.getD j 0) s s.heap := ⟨scr, hcb, hof, hkn, hsz, hval⟩
    have K : W p l e room_1 s m #[Value.ref b] below meth c s₁.heap [] 0 0 (lw_Z below #[Value.ref b] s) (entryFrame m ([Value.ref b] : List Value).toArray 9) := by
      rw [hh0]
      exact whole_start l hflags hbd ⟨B.exec, B.bytes, B.returns, hml, hown, hts, hX, hbl, B.notSynchronized, hgv⟩
    obtain ⟨t, a1, o, b1, b2, b3⟩ := K s₁ rfl X₀
    exact ⟨t, o, a1, b1, b2, b3⟩
theorem lw_pre_spec {args : Array Value} {s : State} (h : (Jvm.Cond.and given_1 narrow_1).before args s = true) (hr : rest_1_c.before args s = true) : ∃ (b : Addr) (xs : List Int32), lw_P b xs args s := by
  have hs := flat_of_before _ h
  have hq := flat_of_before _ hr
  have hc : (Cond.count 1).before args s = true := hs _ (by decide +kernel)
  have harr : (Cond.arrayOf (.arg 0) .int).before args s = true := hs _ (by decide +kernel)
  have hle : (Cond.le (.length (.arg 0)) (.int 3584)).before args s = true := hs _ (by decide +kernel)
  have hlen : (Cond.isInt (.length (.arg 0))).before args s = true := hq _ (by decide +kernel)
  have hall : (Cond.all (.arg 0) (.isInt (.elem (.arg 0) (.index 0)))).before args s = true := hq _ (by decide +kernel)
  obtain ⟨b, xs, hb, hx⟩ := State.ints_of_pre rfl harr hlen hall
  have hsm : xs.length < 2 ^ 31 := hx.choose_spec.2.2.2
  have hev : (Term.length (.arg 0)).eval args s none [] s = some (.int xs.length.toInt32) := hx.length_eval hb
  have hv := Cond.le_ints hev (show (Term.int 3584).eval args s none [] s = some (.int 3584) from rfl)
  have hd : xs.length.toInt32 ≤ 3584 := by
    simpa [Cond.before, Cond.holds, hv] using hle
  have hN : xs.length ≤ 3584 := (Int32.ofNat_le_ofNat hsm (by decide)).mp (show Int32.ofNat xs.length ≤ Int32.ofNat 3584 from hd)
  exact ⟨b, xs, Cond.one_arg hc (show args[0]? = some (.ref b) from hb), hx, hN, h⟩
theorem lw_comes (l : Launch) (hflags : l.flags = flags0) : Comes l x (Jvm.Cond.code x code maxLocals ret :: tables_1) room_1 (fun tb e args s => Calls_1 tb e args s ∧ rest_1 tb e args s ∧ Pre_1 tb e args s)
    (fun _ _ args s o t => lw_Q args s o t) := by
  intro p e ha hc hk s m args below hf hfit hheap happ hpre
  obtain ⟨b, xs, hP⟩ := lw_pre_spec hpre.2.2 hpre.2.1
  obtain ⟨k, o, h1, h2, h3, hQ⟩ := lw_walk l hflags b xs p e ha hc hk s m args below hf ((Spec.applies_iff_loose hf).mp happ).1 hP trivial
  exact ⟨k, o, h1, h2, h3, hQ⟩
theorem lw_frame {s t : State} {o : Outcome} {args : Array Value} (h : State.butDraws s t lw_cs (fun t1 => Framed s o t1 [] 601024 7293034)) :
    State.butDraws s t [Jvm.Choice.named "NaN.bits"] (fun t1 => Framed s o t1 (fieldLocs frame_1_writes args s ++ arrayLocs frame_1_arrays args s ++ staticLocs frame_1_statics s) 601024 7293034) := h
theorem lw_limb (L : Cond) (hL : ∀ (args : Array Value) (s t : State), L.after args s (.returned (some (.int 1))) t = true) :
    ArmFor flags0 classFile x code maxLocals ret World_1 tables_1 room_1 Calls_1 rest_1 Pre_1
      (fun tb e a s o t => postC L tb e a s o t ∧ State.butDraws s t [Jvm.Choice.named "NaN.bits"] (fun t1 => Framed s o t1 (fieldLocs frame_1_writes a s ++ arrayLocs frame_1_arrays a s ++ staticLocs frame_1_statics s) 601024 7293034)) := by
  intro l hflags _ _ p e ha hc hk s m args below hf hfit hheap happ hpre
  obtain ⟨k, o, h1, h2, h3, rfl, hF⟩ := lw_comes l hflags p e ha hc hk s m args below hf hfit hheap happ hpre
  exact ⟨k, _, h1, h2, h3, hL args s _, lw_frame hF⟩
theorem i_vc : Claimed_1_1 ∧ Claimed_1_2 := ⟨lw_limb limb_1_1 (fun args s t => by simp [limb_1_1, Cond.after, Cond.holds, Cond.value]), lw_limb limb_1_2 (fun args s t => Cond.after_iff.mpr (by
  first | (rw [show limb_1_2 = Cond.eq .result (.int 1) from rfl, Cond.eq_ints (x := 1) (y := 1) rfl rfl]; simp; done) | (simp [limb_1_2, Cond.value, Term.eval]; done)))⟩
end
