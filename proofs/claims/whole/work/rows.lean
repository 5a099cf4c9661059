section
-- ===== PART A: goes FIRST, ahead of the names: the tables' words, and 'selects' of the private methods out of them =====
/-- a private method of a class that the tables say can be made, by its rows of tables_1 -/
def lw_okq (q : MethodName × Nat) : Prop := (q.1.cls ≠ "java/lang/invoke/MethodHandle" ∧ q.1.cls ≠ "java/lang/invoke/VarHandle") ∧ Cond.instantiable q.1.cls q.2 ∈ tables_1 ∧ Cond.privateMethod q.1 ∈ tables_1 ∧ Cond.instanceMethod q.1 ∈ tables_1
theorem lw_p0 : lw_okq (⟨"java/lang/Throwable", "fillInStackTrace", "(I)Ljava/lang/Throwable;"⟩, 6) := ⟨⟨by decide +kernel, by decide +kernel⟩, List.mem_of_getElem? (i := 395) (by decide +kernel), List.mem_of_getElem? (i := 393) (by decide +kernel), List.mem_of_getElem? (i := 394) (by decide +kernel)⟩
theorem lw_p1 : lw_okq (⟨"RollSync", "checkFile", "(I)V"⟩, 7) := ⟨⟨by decide +kernel, by decide +kernel⟩, List.mem_of_getElem? (i := 27) (by decide +kernel), List.mem_of_getElem? (i := 434) (by decide +kernel), List.mem_of_getElem? (i := 435) (by decide +kernel)⟩
theorem lw_p2 : lw_okq (⟨"RollSync", "checkBlock", "(II)V"⟩, 7) := ⟨⟨by decide +kernel, by decide +kernel⟩, List.mem_of_getElem? (i := 27) (by decide +kernel), List.mem_of_getElem? (i := 583) (by decide +kernel), List.mem_of_getElem? (i := 584) (by decide +kernel)⟩
theorem lw_p3 : lw_okq (⟨"RollSync$Delta", "goOn", "(LRollSync$Signature;I)I"⟩, 8) := ⟨⟨by decide +kernel, by decide +kernel⟩, List.mem_of_getElem? (i := 115) (by decide +kernel), List.mem_of_getElem? (i := 607) (by decide +kernel), List.mem_of_getElem? (i := 608) (by decide +kernel)⟩
theorem lw_p4 : lw_okq (⟨"RollSync$Delta", "matchingBlock", "(LRollSync$Signature;II)I"⟩, 8) := ⟨⟨by decide +kernel, by decide +kernel⟩, List.mem_of_getElem? (i := 115) (by decide +kernel), List.mem_of_getElem? (i := 619) (by decide +kernel), List.mem_of_getElem? (i := 620) (by decide +kernel)⟩
theorem lw_p5 : lw_okq (⟨"RollSync$Delta", "addLiteral", "(I)V"⟩, 8) := ⟨⟨by decide +kernel, by decide +kernel⟩, List.mem_of_getElem? (i := 115) (by decide +kernel), List.mem_of_getElem? (i := 626) (by decide +kernel), List.mem_of_getElem? (i := 627) (by decide +kernel)⟩
theorem lw_p6 : lw_okq (⟨"RollSync$Delta", "begin", "(ZII)V"⟩, 8) := ⟨⟨by decide +kernel, by decide +kernel⟩, List.mem_of_getElem? (i := 115) (by decide +kernel), List.mem_of_getElem? (i := 630) (by decide +kernel), List.mem_of_getElem? (i := 631) (by decide +kernel)⟩
theorem lw_p7 : lw_okq (⟨"RollSync$Delta", "addCopy", "(III)V"⟩, 8) := ⟨⟨by decide +kernel, by decide +kernel⟩, List.mem_of_getElem? (i := 115) (by decide +kernel), List.mem_of_getElem? (i := 634) (by decide +kernel), List.mem_of_getElem? (i := 635) (by decide +kernel)⟩
theorem lw_p8 : lw_okq (⟨"RollSync", "checkInstruction", "(II)V"⟩, 7) := ⟨⟨by decide +kernel, by decide +kernel⟩, List.mem_of_getElem? (i := 27) (by decide +kernel), List.mem_of_getElem? (i := 655) (by decide +kernel), List.mem_of_getElem? (i := 656) (by decide +kernel)⟩
theorem lw_p9 : lw_okq (⟨"RollSync", "checkRoomForVersion", "()V"⟩, 7) := ⟨⟨by decide +kernel, by decide +kernel⟩, List.mem_of_getElem? (i := 27) (by decide +kernel), List.mem_of_getElem? (i := 718) (by decide +kernel), List.mem_of_getElem? (i := 719) (by decide +kernel)⟩
theorem lw_p10 : lw_okq (⟨"RollSync", "checkNotBroken", "(I)V"⟩, 7) := ⟨⟨by decide +kernel, by decide +kernel⟩, List.mem_of_getElem? (i := 27) (by decide +kernel), List.mem_of_getElem? (i := 739) (by decide +kernel), List.mem_of_getElem? (i := 740) (by decide +kernel)⟩
theorem lw_p11 : lw_okq (⟨"RollSync$Archive", "breakAt", "(III)V"⟩, 9) := ⟨⟨by decide +kernel, by decide +kernel⟩, List.mem_of_getElem? (i := 60) (by decide +kernel), List.mem_of_getElem? (i := 747) (by decide +kernel), List.mem_of_getElem? (i := 748) (by decide +kernel)⟩
theorem lw_p12 : lw_okq (⟨"RollSync$Archive", "climb", "(I)V"⟩, 9) := ⟨⟨by decide +kernel, by decide +kernel⟩, List.mem_of_getElem? (i := 60) (by decide +kernel), List.mem_of_getElem? (i := 752) (by decide +kernel), List.mem_of_getElem? (i := 753) (by decide +kernel)⟩
theorem lw_p13 : lw_okq (⟨"RollSync$Shelf", "endsBehind", "(LRollSync$Row;II)Z"⟩, 5) := ⟨⟨by decide +kernel, by decide +kernel⟩, List.mem_of_getElem? (i := 207) (by decide +kernel), List.mem_of_getElem? (i := 843) (by decide +kernel), List.mem_of_getElem? (i := 844) (by decide +kernel)⟩
theorem lw_p14 : lw_okq (⟨"RollSync$Shelf", "chunkOf", "(LRollSync$Row;II)LRollSync$Chunk;"⟩, 5) := ⟨⟨by decide +kernel, by decide +kernel⟩, List.mem_of_getElem? (i := 207) (by decide +kernel), List.mem_of_getElem? (i := 848) (by decide +kernel), List.mem_of_getElem? (i := 849) (by decide +kernel)⟩
theorem lw_p15 : lw_okq (⟨"java/util/ArrayList", "add", "(Ljava/lang/Object;[Ljava/lang/Object;I)V"⟩, 3) := ⟨⟨by decide +kernel, by decide +kernel⟩, List.mem_of_getElem? (i := 215) (by decide +kernel), List.mem_of_getElem? (i := 881) (by decide +kernel), List.mem_of_getElem? (i := 882) (by decide +kernel)⟩
def lw_privs_1 : List (MethodName × Nat) := [(⟨"java/lang/Throwable", "fillInStackTrace", "(I)Ljava/lang/Throwable;"⟩, 6), (⟨"RollSync", "checkFile", "(I)V"⟩, 7), (⟨"RollSync", "checkBlock", "(II)V"⟩, 7), (⟨"RollSync$Delta", "goOn", "(LRollSync$Signature;I)I"⟩, 8), (⟨"RollSync$Delta", "matchingBlock", "(LRollSync$Signature;II)I"⟩, 8), (⟨"RollSync$Delta", "addLiteral", "(I)V"⟩, 8), (⟨"RollSync$Delta", "begin", "(ZII)V"⟩, 8), (⟨"RollSync$Delta", "addCopy", "(III)V"⟩, 8), (⟨"RollSync", "checkInstruction", "(II)V"⟩, 7), (⟨"RollSync", "checkRoomForVersion", "()V"⟩, 7), (⟨"RollSync", "checkNotBroken", "(I)V"⟩, 7), (⟨"RollSync$Archive", "breakAt", "(III)V"⟩, 9), (⟨"RollSync$Archive", "climb", "(I)V"⟩, 9), (⟨"RollSync$Shelf", "endsBehind", "(LRollSync$Row;II)Z"⟩, 5), (⟨"RollSync$Shelf", "chunkOf", "(LRollSync$Row;II)LRollSync$Chunk;"⟩, 5), (⟨"java/util/ArrayList", "add", "(Ljava/lang/Object;[Ljava/lang/Object;I)V"⟩, 3)]
theorem lw_r1 : ∀ q ∈ lw_privs_1, lw_okq q := List.forall_mem_cons.mpr ⟨lw_p0, List.forall_mem_cons.mpr ⟨lw_p1, List.forall_mem_cons.mpr ⟨lw_p2, List.forall_mem_cons.mpr ⟨lw_p3, List.forall_mem_cons.mpr ⟨lw_p4, List.forall_mem_cons.mpr ⟨lw_p5, List.forall_mem_cons.mpr ⟨lw_p6, List.forall_mem_cons.mpr ⟨lw_p7, List.forall_mem_cons.mpr ⟨lw_p8, List.forall_mem_cons.mpr ⟨lw_p9, List.forall_mem_cons.mpr ⟨lw_p10, List.forall_mem_cons.mpr ⟨lw_p11, List.forall_mem_cons.mpr ⟨lw_p12, List.forall_mem_cons.mpr ⟨lw_p13, List.forall_mem_cons.mpr ⟨lw_p14, List.forall_mem_cons.mpr ⟨lw_p15, fun _ h => absurd h List.not_mem_nil⟩⟩⟩⟩⟩⟩⟩⟩⟩⟩⟩⟩⟩⟩⟩⟩
theorem lw_p16 : lw_okq (⟨"java/util/ArrayList", "grow", "()[Ljava/lang/Object;"⟩, 3) := ⟨⟨by decide +kernel, by decide +kernel⟩, List.mem_of_getElem? (i := 215) (by decide +kernel), List.mem_of_getElem? (i := 885) (by decide +kernel), List.mem_of_getElem? (i := 886) (by decide +kernel)⟩
theorem lw_p17 : lw_okq (⟨"java/util/ArrayList", "grow", "(I)[Ljava/lang/Object;"⟩, 3) := ⟨⟨by decide +kernel, by decide +kernel⟩, List.mem_of_getElem? (i := 215) (by decide +kernel), List.mem_of_getElem? (i := 889) (by decide +kernel), List.mem_of_getElem? (i := 890) (by decide +kernel)⟩
theorem lw_p18 : lw_okq (⟨"RollSync", "checkPaper", "(I)V"⟩, 7) := ⟨⟨by decide +kernel, by decide +kernel⟩, List.mem_of_getElem? (i := 27) (by decide +kernel), List.mem_of_getElem? (i := 946) (by decide +kernel), List.mem_of_getElem? (i := 947) (by decide +kernel)⟩
theorem lw_p19 : lw_okq (⟨"RollSyncModel", "may", "(Z)Z"⟩, 36) := ⟨⟨by decide +kernel, by decide +kernel⟩, List.mem_of_getElem? (i := 998) (by decide +kernel), List.mem_of_getElem? (i := 1121) (by decide +kernel), List.mem_of_getElem? (i := 1122) (by decide +kernel)⟩
theorem lw_p20 : lw_okq (⟨"RollSyncModel", "isFile", "(I)Z"⟩, 36) := ⟨⟨by decide +kernel, by decide +kernel⟩, List.mem_of_getElem? (i := 998) (by decide +kernel), List.mem_of_getElem? (i := 1132) (by decide +kernel), List.mem_of_getElem? (i := 1133) (by decide +kernel)⟩
theorem lw_p21 : lw_okq (⟨"RollSyncModel", "mayAll", "(ZZZ)Z"⟩, 36) := ⟨⟨by decide +kernel, by decide +kernel⟩, List.mem_of_getElem? (i := 998) (by decide +kernel), List.mem_of_getElem? (i := 1136) (by decide +kernel), List.mem_of_getElem? (i := 1137) (by decide +kernel)⟩
theorem lw_p22 : lw_okq (⟨"RollSyncModel", "mayBoth", "(ZZ)Z"⟩, 36) := ⟨⟨by decide +kernel, by decide +kernel⟩, List.mem_of_getElem? (i := 998) (by decide +kernel), List.mem_of_getElem? (i := 1148) (by decide +kernel), List.mem_of_getElem? (i := 1149) (by decide +kernel)⟩
theorem lw_p23 : lw_okq (⟨"RollSyncModel", "bring", "(I)V"⟩, 36) := ⟨⟨by decide +kernel, by decide +kernel⟩, List.mem_of_getElem? (i := 998) (by decide +kernel), List.mem_of_getElem? (i := 1175) (by decide +kernel), List.mem_of_getElem? (i := 1176) (by decide +kernel)⟩
theorem lw_p24 : lw_okq (⟨"RollSyncModel", "signs", "(III)V"⟩, 36) := ⟨⟨by decide +kernel, by decide +kernel⟩, List.mem_of_getElem? (i := 998) (by decide +kernel), List.mem_of_getElem? (i := 1179) (by decide +kernel), List.mem_of_getElem? (i := 1180) (by decide +kernel)⟩
theorem lw_p25 : lw_okq (⟨"RollSyncModel", "lengthOf", "(II)I"⟩, 36) := ⟨⟨by decide +kernel, by decide +kernel⟩, List.mem_of_getElem? (i := 998) (by decide +kernel), List.mem_of_getElem? (i := 1183) (by decide +kernel), List.mem_of_getElem? (i := 1184) (by decide +kernel)⟩
theorem lw_p26 : lw_okq (⟨"RollSyncModel", "isBlock", "(II)Z"⟩, 36) := ⟨⟨by decide +kernel, by decide +kernel⟩, List.mem_of_getElem? (i := 998) (by decide +kernel), List.mem_of_getElem? (i := 1202) (by decide +kernel), List.mem_of_getElem? (i := 1203) (by decide +kernel)⟩
theorem lw_p27 : lw_okq (⟨"RollSyncModel", "compares", "(III)V"⟩, 36) := ⟨⟨by decide +kernel, by decide +kernel⟩, List.mem_of_getElem? (i := 998) (by decide +kernel), List.mem_of_getElem? (i := 1214) (by decide +kernel), List.mem_of_getElem? (i := 1215) (by decide +kernel)⟩
theorem lw_p28 : lw_okq (⟨"RollSyncModel", "begins", "(IZII)V"⟩, 36) := ⟨⟨by decide +kernel, by decide +kernel⟩, List.mem_of_getElem? (i := 998) (by decide +kernel), List.mem_of_getElem? (i := 1218) (by decide +kernel), List.mem_of_getElem? (i := 1219) (by decide +kernel)⟩
theorem lw_p29 : lw_okq (⟨"RollSyncModel", "isInstruction", "(II)Z"⟩, 36) := ⟨⟨by decide +kernel, by decide +kernel⟩, List.mem_of_getElem? (i := 998) (by decide +kernel), List.mem_of_getElem? (i := 1230) (by decide +kernel), List.mem_of_getElem? (i := 1231) (by decide +kernel)⟩
theorem lw_p30 : lw_okq (⟨"RollSyncModel", "costOf", "(I)I"⟩, 36) := ⟨⟨by decide +kernel, by decide +kernel⟩, List.mem_of_getElem? (i := 998) (by decide +kernel), List.mem_of_getElem? (i := 1246) (by decide +kernel), List.mem_of_getElem? (i := 1247) (by decide +kernel)⟩
theorem lw_p31 : lw_okq (⟨"RollSyncModel", "goesBeyond", "(I)Z"⟩, 36) := ⟨⟨by decide +kernel, by decide +kernel⟩, List.mem_of_getElem? (i := 998) (by decide +kernel), List.mem_of_getElem? (i := 1258) (by decide +kernel), List.mem_of_getElem? (i := 1259) (by decide +kernel)⟩
def lw_privs_2 : List (MethodName × Nat) := [(⟨"java/util/ArrayList", "grow", "()[Ljava/lang/Object;"⟩, 3), (⟨"java/util/ArrayList", "grow", "(I)[Ljava/lang/Object;"⟩, 3), (⟨"RollSync", "checkPaper", "(I)V"⟩, 7), (⟨"RollSyncModel", "may", "(Z)Z"⟩, 36), (⟨"RollSyncModel", "isFile", "(I)Z"⟩, 36), (⟨"RollSyncModel", "mayAll", "(ZZZ)Z"⟩, 36), (⟨"RollSyncModel", "mayBoth", "(ZZ)Z"⟩, 36), (⟨"RollSyncModel", "bring", "(I)V"⟩, 36), (⟨"RollSyncModel", "signs", "(III)V"⟩, 36), (⟨"RollSyncModel", "lengthOf", "(II)I"⟩, 36), (⟨"RollSyncModel", "isBlock", "(II)Z"⟩, 36), (⟨"RollSyncModel", "compares", "(III)V"⟩, 36), (⟨"RollSyncModel", "begins", "(IZII)V"⟩, 36), (⟨"RollSyncModel", "isInstruction", "(II)Z"⟩, 36), (⟨"RollSyncModel", "costOf", "(I)I"⟩, 36), (⟨"RollSyncModel", "goesBeyond", "(I)Z"⟩, 36)]
theorem lw_r2 : ∀ q ∈ lw_privs_2, lw_okq q := List.forall_mem_cons.mpr ⟨lw_p16, List.forall_mem_cons.mpr ⟨lw_p17, List.forall_mem_cons.mpr ⟨lw_p18, List.forall_mem_cons.mpr ⟨lw_p19, List.forall_mem_cons.mpr ⟨lw_p20, List.forall_mem_cons.mpr ⟨lw_p21, List.forall_mem_cons.mpr ⟨lw_p22, List.forall_mem_cons.mpr ⟨lw_p23, List.forall_mem_cons.mpr ⟨lw_p24, List.forall_mem_cons.mpr ⟨lw_p25, List.forall_mem_cons.mpr ⟨lw_p26, List.forall_mem_cons.mpr ⟨lw_p27, List.forall_mem_cons.mpr ⟨lw_p28, List.forall_mem_cons.mpr ⟨lw_p29, List.forall_mem_cons.mpr ⟨lw_p30, List.forall_mem_cons.mpr ⟨lw_p31, fun _ h => absurd h List.not_mem_nil⟩⟩⟩⟩⟩⟩⟩⟩⟩⟩⟩⟩⟩⟩⟩⟩
theorem lw_p32 : lw_okq (⟨"RollSyncModel", "applies", "(I)V"⟩, 36) := ⟨⟨by decide +kernel, by decide +kernel⟩, List.mem_of_getElem? (i := 998) (by decide +kernel), List.mem_of_getElem? (i := 1262) (by decide +kernel), List.mem_of_getElem? (i := 1263) (by decide +kernel)⟩
theorem lw_p33 : lw_okq (⟨"RollSyncModel", "give", "(I)I"⟩, 36) := ⟨⟨by decide +kernel, by decide +kernel⟩, List.mem_of_getElem? (i := 998) (by decide +kernel), List.mem_of_getElem? (i := 1266) (by decide +kernel), List.mem_of_getElem? (i := 1267) (by decide +kernel)⟩
theorem lw_p34 : lw_okq (⟨"RollSyncModel", "holds", "(II)V"⟩, 36) := ⟨⟨by decide +kernel, by decide +kernel⟩, List.mem_of_getElem? (i := 998) (by decide +kernel), List.mem_of_getElem? (i := 1274) (by decide +kernel), List.mem_of_getElem? (i := 1275) (by decide +kernel)⟩
theorem lw_p35 : lw_okq (⟨"RollSyncModel", "isVersion", "(I)Z"⟩, 36) := ⟨⟨by decide +kernel, by decide +kernel⟩, List.mem_of_getElem? (i := 998) (by decide +kernel), List.mem_of_getElem? (i := 1282) (by decide +kernel), List.mem_of_getElem? (i := 1283) (by decide +kernel)⟩
theorem lw_p36 : lw_okq (⟨"RollSyncModel", "makes", "(I)Z"⟩, 36) := ⟨⟨by decide +kernel, by decide +kernel⟩, List.mem_of_getElem? (i := 998) (by decide +kernel), List.mem_of_getElem? (i := 1286) (by decide +kernel), List.mem_of_getElem? (i := 1287) (by decide +kernel)⟩
theorem lw_p37 : lw_okq (⟨"RollSyncModel", "heldOf", "(I)I"⟩, 36) := ⟨⟨by decide +kernel, by decide +kernel⟩, List.mem_of_getElem? (i := 998) (by decide +kernel), List.mem_of_getElem? (i := 1294) (by decide +kernel), List.mem_of_getElem? (i := 1295) (by decide +kernel)⟩
theorem lw_p38 : lw_okq (⟨"RollSyncModel", "hash", "(II)I"⟩, 36) := ⟨⟨by decide +kernel, by decide +kernel⟩, List.mem_of_getElem? (i := 998) (by decide +kernel), List.mem_of_getElem? (i := 1334) (by decide +kernel), List.mem_of_getElem? (i := 1335) (by decide +kernel)⟩
theorem lw_p39 : lw_okq (⟨"RollSyncModel", "isThere", "(I)Z"⟩, 36) := ⟨⟨by decide +kernel, by decide +kernel⟩, List.mem_of_getElem? (i := 998) (by decide +kernel), List.mem_of_getElem? (i := 1342) (by decide +kernel), List.mem_of_getElem? (i := 1343) (by decide +kernel)⟩
theorem lw_p40 : lw_okq (⟨"RollSyncModel", "names", "(IIIII)I"⟩, 36) := ⟨⟨by decide +kernel, by decide +kernel⟩, List.mem_of_getElem? (i := 998) (by decide +kernel), List.mem_of_getElem? (i := 1346) (by decide +kernel), List.mem_of_getElem? (i := 1347) (by decide +kernel)⟩
theorem lw_p41 : lw_okq (⟨"RollSyncModel", "begin", "(II)I"⟩, 36) := ⟨⟨by decide +kernel, by decide +kernel⟩, List.mem_of_getElem? (i := 998) (by decide +kernel), List.mem_of_getElem? (i := 1354) (by decide +kernel), List.mem_of_getElem? (i := 1355) (by decide +kernel)⟩
theorem lw_p42 : lw_okq (⟨"RollSyncModel", "held", "(Z)I"⟩, 36) := ⟨⟨by decide +kernel, by decide +kernel⟩, List.mem_of_getElem? (i := 998) (by decide +kernel), List.mem_of_getElem? (i := 1366) (by decide +kernel), List.mem_of_getElem? (i := 1367) (by decide +kernel)⟩
theorem lw_p43 : lw_okq (⟨"RollSyncModel", "isPart", "(II)Z"⟩, 36) := ⟨⟨by decide +kernel, by decide +kernel⟩, List.mem_of_getElem? (i := 998) (by decide +kernel), List.mem_of_getElem? (i := 1382) (by decide +kernel), List.mem_of_getElem? (i := 1383) (by decide +kernel)⟩
def lw_privs_3 : List (MethodName × Nat) := [(⟨"RollSyncModel", "applies", "(I)V"⟩, 36), (⟨"RollSyncModel", "give", "(I)I"⟩, 36), (⟨"RollSyncModel", "holds", "(II)V"⟩, 36), (⟨"RollSyncModel", "isVersion", "(I)Z"⟩, 36), (⟨"RollSyncModel", "makes", "(I)Z"⟩, 36), (⟨"RollSyncModel", "heldOf", "(I)I"⟩, 36), (⟨"RollSyncModel", "hash", "(II)I"⟩, 36), (⟨"RollSyncModel", "isThere", "(I)Z"⟩, 36), (⟨"RollSyncModel", "names", "(IIIII)I"⟩, 36), (⟨"RollSyncModel", "begin", "(II)I"⟩, 36), (⟨"RollSyncModel", "held", "(Z)I"⟩, 36), (⟨"RollSyncModel", "isPart", "(II)Z"⟩, 36)]
theorem lw_r3 : ∀ q ∈ lw_privs_3, lw_okq q := List.forall_mem_cons.mpr ⟨lw_p32, List.forall_mem_cons.mpr ⟨lw_p33, List.forall_mem_cons.mpr ⟨lw_p34, List.forall_mem_cons.mpr ⟨lw_p35, List.forall_mem_cons.mpr ⟨lw_p36, List.forall_mem_cons.mpr ⟨lw_p37, List.forall_mem_cons.mpr ⟨lw_p38, List.forall_mem_cons.mpr ⟨lw_p39, List.forall_mem_cons.mpr ⟨lw_p40, List.forall_mem_cons.mpr ⟨lw_p41, List.forall_mem_cons.mpr ⟨lw_p42, List.forall_mem_cons.mpr ⟨lw_p43, fun _ h => absurd h List.not_mem_nil⟩⟩⟩⟩⟩⟩⟩⟩⟩⟩⟩⟩
def lw_privs : List (MethodName × Nat) := lw_privs_1 ++ (lw_privs_2 ++ (lw_privs_3))
def lw_tbl : List Cond := k2_sels lw_privs ++ tables_1
theorem lw_privs_ok : ∀ q ∈ lw_privs, lw_okq q := by
  show ∀ q ∈ lw_privs_1 ++ (lw_privs_2 ++ (lw_privs_3)), lw_okq q
  exact List.forall_mem_append.mpr ⟨lw_r1, List.forall_mem_append.mpr ⟨lw_r2, lw_r3⟩⟩
end
section
/-! ===== BEGIN words of one list among another's, by their places ===== -/
theorem goodIn_r {big : List Cond} (ws : List Cond) (ps : List Nat) (hp : ws = ps.filterMap (fun i => big[i]?)) (h : ws.all goodWord = true) : GoodIn big ws := by
  intro w hw
  have h1 := List.all_eq_true.mp h w hw
  rw [hp] at hw
  obtain ⟨i, -, hi⟩ := List.mem_filterMap.mp hw
  have hm : w ∈ big := by first | exact List.mem_of_getElem? hi | exact List.getElem?_mem hi
  exact ⟨hm, good_of_word h1⟩
theorem goodIn_app {big a b : List Cond} (ha : GoodIn big a) (hb : GoodIn big b) : GoodIn big (a ++ b) := fun w h => (List.mem_append.mp h).elim (ha w) (hb w)
theorem goodIn_ca {big a b : List Cond} {c : Cond} (ha : GoodIn big (c :: a)) (hb : GoodIn big b) : GoodIn big (c :: (a ++ b)) := fun w h => (List.mem_cons.mp h).elim (fun e => ha w (List.mem_cons.mpr (Or.inl e))) (fun h => (List.mem_append.mp h).elim (fun h => ha w (List.mem_cons.mpr (Or.inr h))) (hb w))
theorem goodIn_sub {big ws : List Cond} (hm : ∀ w ∈ ws, w ∈ big) (h : ws.all goodWord = true) : GoodIn big ws := fun w hw => ⟨hm w hw, good_of_word (List.all_eq_true.mp h w hw)⟩
/-! ===== END ===== -/

/-! ===== BEGIN exceptions that leave a method, and their catching by the caller (launches without stack traces) ===== -/
section VXA
/-! The laws vx_back, vx_callV, vx_callS, vx_callSW, vx_throw0, vx_throwS follow proofs of the library, with one case more: JvmDerived/Free/Laws.lean (Back.of_free), Shelf42/LK1.lean (callV, callS), Shelf/KitTraced.lean (throwNew0V, throwNewS). -/
/-- where a method has thrown q: the class by its name, the cell, what was written, the world -/
def vx_T (XC : String → State → State → Prop) (st : State) (q : Addr) (t : State) (mc ms : Nat) (free : Addr → Prop) : Prop :=
  ∃ (E : String) (ce : Cell) (L : List Loc), XC E st t ∧ t.heap[q]? = some ce ∧ ce.vm = .none ∧ st.vm.findClass E = some ce.cls ∧ st.WarmedH t.vm ∧ st.sameButNew ({ t with vm := st.vm } : State) L mc ms ∧ ∀ z ∈ L, free z.base
def vx_Q (Qc : Array Value → State → Outcome → State → Prop) (XC : String → State → State → Prop) (mc ms : Nat) (free : Addr → Prop) : Array Value → State → Outcome → State → Prop := fun a st o t =>
  (Qc a st o t ∧ ∃ L, FrameEnd st o t L mc ms ∧ ∀ q ∈ L, free q.base) ∨ ∃ q, o = .threw q ∧ vx_T XC st q t mc ms free
/-- a callee that returns or throws -/
def vx_Met (l : Launch) (y : MethodName) (ws : List Cond) (rm : Room) (Pc : Array Value → State → Prop) (Qc : Array Value → State → Outcome → State → Prop) (XC : String → State → State → Prop) (mc ms : Nat) (free : Addr → Prop) : Prop :=
  MetFree l y (headSpec ws rm) Pc (fun _ _ _ _ _ => True) (vx_Q Qc XC mc ms free)
def vx_Post (XC : String → State → State → Prop) (mc ms : Nat) (free : Addr → Prop) : Pt → Array Value → Addr → Pt → Prop := fun A a q B =>
  ∃ (g : JFrame) (mk : MethodId) (t : State) (L : List Loc) (E : String) (ce : Cell), B.U.heap = t.heap ∧ B.U.vm = t.vm ∧ XC E (A.U.calling g mk a) t ∧ t.heap[q]? = some ce ∧ ce.vm = .none ∧ A.U.vm.findClass E = some ce.cls ∧ B.locs = A.locs ++ L ∧ (∀ z ∈ L, free z.base) ∧ B.cells = A.cells + mc ∧ B.slots = A.slots + ms
def vx_Back (l : Launch) (R : Room) (p : Program) (e : Env) (below : List Frame) (s : State) (sargs : Array Value) (y : MethodName) (len W9 : Nat)
    (Pre : Pt → Array Value → Prop) (Post : Pt → Array Value → Option Value → Pt → Prop) (PostX : Pt → Array Value → Addr → Pt → Prop) : Prop :=
  ∀ (m : MethodId) (meth : Method) (c : Code) (A : Pt) (g : JFrame) (ig : Instr) (mk : MethodId) (a : Array Value),
    Stand p l e R s m sargs below meth c A.U A.locs A.cells A.slots → g.method = m → g.locals.size = c.maxLocals → decode c.code g.pc = .ok (ig, len) →
    2 * g.monitorRoom + (g.stack.map fun v => v.category).sum ≤ W9 → A.U.methodNamed? y = some mk → Pre A a →
    (∃ (v : Option Value) (B : Pt), Stand p l e R s m sargs below meth c B.U B.locs B.cells B.slots ∧ Post A a v B ∧
      Steps p.tables e below (doInvoke e (A.U.setTop g) [] mk a).1 (B.U.setTop { g with pc := g.pc + len, stack := v.toList ++ g.stack })) ∨
    (∃ (q : Addr) (B : Pt), Stand p l e R s m sargs below meth c B.U B.locs B.cells B.slots ∧ PostX A a q B ∧
      Steps p.tables e below (doInvoke e (A.U.setTop g) [] mk a).1 ((B.U.setTop g).pushFrame (.throwing q)))
section Payer
variable {l : Launch} {R : Room} {p : Program} {e : Env} {below : List Frame} {s : State} {sargs : Array Value} {y : MethodName} {len W9 : Nat}
theorem vx_back {ws : List Cond} {rm : Room} {Pc : Array Value → State → Prop} {Qc : Array Value → State → Outcome → State → Prop} {XC : String → State → State → Prop} {mc ms : Nat} {free : Addr → Prop} {bytes : ByteArray} {maxL : Nat} {ret : Option FieldType}
    (hM : vx_Met l y ws rm Pc Qc XC mc ms free) (hblind : FrameBlind Pc) (hrc : rm.cells = mc) (hrs : rm.slots = ms)
    (hframes : rm.frames + 1 ≤ R.frames) (hlocals : W9 + (maxL + 11) + rm.locals ≤ R.locals)
    (hws : ∀ w ∈ ws, ∀ a' U, s.WarmedH U.vm → w.before a' U = true) (hcode : Cond.code y bytes maxL ret ∈ ws) (hinit : ∀ a' U, s.WarmedH U.vm → (Cond.initialized y.cls).before a' U = true) :
    vx_Back l R p e below s sargs y len W9 (PreOf R mc ms Pc) (PostOf Qc mc ms free) (vx_Post XC mc ms free) := by
  intro m meth c A g ig mk a X hg hsize hdg hW hn hp
  have h1 : (headSpec ws rm).pre.before a A.U = true := atoms_intro fun w hw => hws w hw _ _ X.warmed
  have h2 : (Cond.code y bytes maxL ret).before a A.U = true := hws _ hcode _ _ X.warmed
  have h3 : (Cond.initialized y.cls).before a A.U = true := hinit _ _ X.warmed
  have h4 : A.cells + (headSpec ws rm).room.cells ≤ R.cells := by rw [show (headSpec ws rm).room.cells = mc from hrc]; exact hp.1
  have h5 : A.slots + (headSpec ws rm).room.slots ≤ R.slots := by rw [show (headSpec ws rm).room.slots = ms from hrs]; exact hp.2.1
  have hPc : Pc a (A.U.calling g mk a) := hblind _ _ _ _ hp.2.2
  obtain ⟨U, Ls, c0, s0⟩ := A
  dsimp only [Pt.U, Pt.locs, Pt.cells, Pt.slots] at h1 h2 h3 h4 h5 X hn hPc ⊢
  obtain ⟨methY, cY, hmY, hcY, -, hlY, -, -, -, -⟩ := Cond.code_spec hn h2
  obtain ⟨kY, hkY, -⟩ := className_of_methodNamed hn
  have hinitY : kY.init = .initialized := Cond.initialized_spec (findClass_of_methodNamed hn) hkY h3
  have h : At U g.method c below := by rw [hg]; exact X.here
  have hlocals9 : W9 + (maxL + 11) + (headSpec ws rm).room.locals ≤ R.locals := hlocals
  have happ : (headSpec ws rm).appliesLoose y e.platform (U.calling g mk a) = true :=
    Spec.appliesLoose_calling (g := g) h hdg hn hkY hinitY
      (X.room_calling (g := g) (R' := (headSpec ws rm).room) hsize hmY hcY hframes (by rw [hlY]; omega) h4 h5) h1
  obtain ⟨mid, hmid⟩ := h.above
  have hfr : (U.setTop g).frames = (.java g :: mid) ++ below := by rw [State.frames_setTop' g h.top, hmid]; rfl
  obtain ⟨o, s₂, hsteps, -, hend, hq⟩ := Steps.callFree hM p X.admits X.cas X.clock (acts := []) hfr happ hPc trivial
  have hq' : vx_Q Qc XC mc ms free a (U.calling g mk a) o s₂ := hq
  rw [State.frames_setTop' g h.top] at hend
  obtain ⟨g₀, hg0⟩ := Option.isSome_iff_exists.mp h.top
  obtain ⟨r, hr⟩ := State.topJava?_eq_some.mp hg0
  have hr' : (({ U with heap := s₂.heap, slotsUsed := s₂.slotsUsed } : State).setVm s₂.vm).frames = .java g₀ :: r := hr
  rcases hq' with ⟨hqc, L, hfe, hL⟩ | ⟨q, rfl, E, ce, L, hx, hce, hcv, hcl, hW₂, hsm, hL⟩
  · obtain ⟨⟨v, rfl⟩, hW₂, e2, q2, q3, q4, q5, q6⟩ := id hfe
    have e3 : s₂ = ({ (U.calling g mk a).setFrames s₂.frames with heap := s₂.heap, slotsUsed := s₂.slotsUsed } : State).setVm s₂.vm := by
      have : s₂ = ({ s₂ with vm := (U.calling g mk a).vm } : State).setVm s₂.vm := rfl
      rw [e2] at this
      exact this
    obtain ⟨c₂, i₂, len₂, hc₂, hd₂, hf₂⟩ := hend
    have hW' : U.WarmedH s₂.vm := hW₂
    have hcc : c₂ = c := by
      have h1 : s₂.code? g.method = U.code? g.method := by
        rw [State.code?_eq, State.code?_eq, hW'.alike.method?]
      exact Option.some.inj (hc₂.symm.trans (h1.trans h.code))
    subst hcc
    have hlen : len₂ = len := by rw [hdg] at hd₂; cases hd₂; rfl
    subst hlen
    have hs₂ : s₂ = (({ U with heap := s₂.heap, slotsUsed := s₂.slotsUsed } : State).setVm s₂.vm).setTop { g with pc := g.pc + len₂, stack := v.toList ++ g.stack } := by
      refine e3.trans ?_
      rw [hf₂, State.calling_eq h.top, State.setFrames_setFrames, State.setTop_of_frames _ hr', hr]
      rfl
    have hsame : U.sameButNew ({ U with heap := s₂.heap, slotsUsed := s₂.slotsUsed } : State) L mc ms := by
      refine ⟨?_, q2, q3, q4, q5, q6⟩
      obtain ⟨t, ht, -⟩ := State.frames_cons hr
      show ({ U with heap := s₂.heap, slotsUsed := s₂.slotsUsed } : State) = { U.setFrames U.frames with heap := s₂.heap, slotsUsed := s₂.slotsUsed }
      rw [State.setFrames_self ht]
    subst hg
    refine Or.inl ⟨v, ⟨(({ U with heap := s₂.heap, slotsUsed := s₂.slotsUsed } : State).setVm s₂.vm), Ls ++ L, c0 + mc, s0 + ms⟩,
      ⟨X.admits, X.cas, X.clock, X.frames, X.room, X.hears, X.method, X.code, (X.here.setHeapUsed s₂.heap s₂.slotsUsed).setVm hW'.alike, X.tail, State.WarmedH.trans X.warmed hW', X.limits, X.bytes, X.same.trans (hsame.setVm s.vm)⟩,
      ⟨g, mk, s₂, L, rfl, rfl, hqc, rfl, hL, rfl, rfl⟩, ?_⟩
    show Steps p.tables e below _ ((({ U with heap := s₂.heap, slotsUsed := s₂.slotsUsed } : State).setVm s₂.vm).setTop { g with pc := g.pc + len₂, stack := v.toList ++ g.stack })
    rw [← hs₂]
    exact hsteps
  · obtain ⟨e2, q2, q3, q4, q5, q6⟩ := id hsm
    have e3 : s₂ = ({ (U.calling g mk a).setFrames s₂.frames with heap := s₂.heap, slotsUsed := s₂.slotsUsed } : State).setVm s₂.vm := by
      have : s₂ = ({ s₂ with vm := (U.calling g mk a).vm } : State).setVm s₂.vm := rfl
      rw [e2] at this
      exact this
    have hf₂ : s₂.frames = .throwing q :: .java g :: U.frames.tail := hend
    have hW' : U.WarmedH s₂.vm := hW₂
    have hs₂ : s₂ = ((({ U with heap := s₂.heap, slotsUsed := s₂.slotsUsed } : State).setVm s₂.vm).setTop g).pushFrame (.throwing q) := by
      refine e3.trans ?_
      rw [hf₂, State.calling_eq h.top, State.setFrames_setFrames, State.pushFrame, State.frames_setTop _ hr', State.setTop_of_frames _ hr', State.setFrames_setFrames, hr]
      rfl
    have hsame : U.sameButNew ({ U with heap := s₂.heap, slotsUsed := s₂.slotsUsed } : State) L mc ms := by
      refine ⟨?_, q2, q3, q4, q5, q6⟩
      obtain ⟨t, ht, -⟩ := State.frames_cons hr
      show ({ U with heap := s₂.heap, slotsUsed := s₂.slotsUsed } : State) = { U.setFrames U.frames with heap := s₂.heap, slotsUsed := s₂.slotsUsed }
      rw [State.setFrames_self ht]
    subst hg
    refine Or.inr ⟨q, ⟨(({ U with heap := s₂.heap, slotsUsed := s₂.slotsUsed } : State).setVm s₂.vm), Ls ++ L, c0 + mc, s0 + ms⟩,
      ⟨X.admits, X.cas, X.clock, X.frames, X.room, X.hears, X.method, X.code, (X.here.setHeapUsed s₂.heap s₂.slotsUsed).setVm hW'.alike, X.tail, State.WarmedH.trans X.warmed hW', X.limits, X.bytes, X.same.trans (hsame.setVm s.vm)⟩,
      ⟨g, mk, s₂, L, E, ce, rfl, rfl, hx, hce, hcv, hcl, rfl, hL, rfl, rfl⟩, ?_⟩
    show Steps p.tables e below _ (((({ U with heap := s₂.heap, slotsUsed := s₂.slotsUsed } : State).setVm s₂.vm).setTop g).pushFrame (.throwing q))
    rw [← hs₂]
    exact hsteps
end Payer
section Calls
variable {p : Program} {l : Launch} {e : Env} {R : Room} {s : State} {m : MethodId} {args : Array Value} {below : List Frame} {meth : Method} {c : Code} {T : State} {locs : List Loc} {cells slots : Nat}
theorem vx_callV (X : Stand p l e R s m args below meth c T locs cells slots) (hexec : p.tables.exec = Jvm.exec) {own C : String} {index : Nat} {y : MethodName} {bytes : ByteArray} {maxL : Nat} {ret : Option FieldType}
    (hown : s.vm.findClass own = some m.cls) (hlink : (Cond.methodLink own index y).before args s = true) (hinst : (Cond.instanceMethod y).before args s = true) (hsel : (Cond.selects C y y).before args s = true)
    (hcode : (Cond.code y bytes maxL ret).before args s = true) (hy : y.cls ≠ "java/lang/invoke/MethodHandle" ∧ y.cls ≠ "java/lang/invoke/VarHandle")
    {W9 : Nat} {Pre : Pt → Array Value → Prop} {Post : Pt → Array Value → Option Value → Pt → Prop} {PostX : Pt → Array Value → Addr → Pt → Prop} (hK : vx_Back l R p e below s args y 3 W9 Pre Post PostX)
    {b : Addr} {cellB : Cell} (hcell : T.heap[b]? = some cellB) (hobj : cellB.vm.isStatics = false) (hcls : s.vm.findClass C = some cellB.cls)
    {g : JFrame} (hg : g.method = m) (hsize : g.locals.size = c.maxLocals) {argsL rest : List Value} (hlen : ∀ sig, parseMethodDescriptor y.desc = some sig → argsL.length = sig.parameters.length)
    (hstack : g.stack = argsL.reverse ++ .ref b :: rest) (hW : 2 * g.monitorRoom + (rest.map fun v => v.category).sum ≤ W9) (hdg : decode c.code g.pc = .ok (.invokevirtual index, 3))
    (hpre : ∀ vm₁, s.WarmedH vm₁ → Pre ⟨T.setVm vm₁, locs, cells, slots⟩ (Value.ref b :: argsL).toArray) :
    (∃ (v : Option Value) (vm₁ : Vm) (B : Pt), s.WarmedH vm₁ ∧ Stand p l e R s m args below meth c B.U B.locs B.cells B.slots ∧ Post ⟨T.setVm vm₁, locs, cells, slots⟩ (Value.ref b :: argsL).toArray v B ∧
      ∀ target, Steps p.tables e below (B.U.setTop { g with pc := g.pc + 3, stack := v.toList ++ rest }) target → Steps p.tables e below (T.setTop g) target) ∨
    (∃ (q : Addr) (vm₁ : Vm) (B : Pt), s.WarmedH vm₁ ∧ Stand p l e R s m args below meth c B.U B.locs B.cells B.slots ∧ PostX ⟨T.setVm vm₁, locs, cells, slots⟩ (Value.ref b :: argsL).toArray q B ∧
      Steps p.tables e below (T.setTop g) ((B.U.setTop { g with stack := rest }).pushFrame (.throwing q))) := by
  obtain ⟨mk, methM, hnamed, hmethM, hstM, habM⟩ := Cond.instanceMethod_spec hinst
  obtain ⟨methM', cM, hmethM', -, -, -, -, -, -, hsigM⟩ := Cond.code_spec hnamed hcode
  cases hmethM.symm.trans hmethM'
  obtain ⟨c2, r2, m2, q1, q2, q3, q4, kP, hkP, hkPi⟩ := Cond.selects_spec hsel
  cases hcls.symm.trans q1
  cases (State.methodFound?_of_named hnamed hy).symm.trans q2
  cases hnamed.symm.trans q3
  have hselP : selectMethod e.platform s.vm cellB.cls mk = .method mk := by rw [Launch.admits_selectMethod X.admits]; exact q4
  obtain ⟨vm₁, X₁, hstep₁⟩ := X.invokevirtual hexec hown hlink hnamed hmethM hstM hkP hkPi hy (a := b) (cell := cellB) hcell
    (fun z h => by rw [h] at hobj; cases hobj) hselP hmethM habM hkP hkPi (g := g) hg (argsL := argsL) (rest := rest) (hlen _ hsigM) hstack hdg
  rcases hK m meth c ⟨T.setVm vm₁, locs, cells, slots⟩ { g with stack := rest } (.invokevirtual index) mk (Value.ref b :: argsL).toArray X₁ hg hsize hdg hW (X₁.named hnamed) (hpre vm₁ X₁.warmed) with ⟨v, B, X', hpost, hsteps⟩ | ⟨q, B, X', hpost, hsteps⟩
  · exact Or.inl ⟨v, vm₁, B, X₁.warmed, X', hpost, fun target h => hstep₁ _ fun acts => by rw [doInvoke_state]; exact hsteps.trans h⟩
  · exact Or.inr ⟨q, vm₁, B, X₁.warmed, X', hpost, hstep₁ _ fun acts => by rw [doInvoke_state]; exact hsteps⟩
theorem vx_callS (X : Stand p l e R s m args below meth c T locs cells slots) (hexec : p.tables.exec = Jvm.exec) {own : String} {index : Nat} {y : MethodName} {bytes : ByteArray} {maxL : Nat} {ret : Option FieldType}
    (hown : s.vm.findClass own = some m.cls) (hlink : (Cond.methodLink own index y).before args s = true) (hstat : (Cond.static y).before args s = true) (hinit : (Cond.initialized y.cls).before args s = true)
    (hcode : (Cond.code y bytes maxL ret).before args s = true) (hy : y.cls ≠ "java/lang/invoke/MethodHandle" ∧ y.cls ≠ "java/lang/invoke/VarHandle")
    {W9 : Nat} {Pre : Pt → Array Value → Prop} {Post : Pt → Array Value → Option Value → Pt → Prop} {PostX : Pt → Array Value → Addr → Pt → Prop} (hK : vx_Back l R p e below s args y 3 W9 Pre Post PostX)
    {g : JFrame} (hg : g.method = m) (hsize : g.locals.size = c.maxLocals) {argsL rest : List Value} (hlen : ∀ sig, parseMethodDescriptor y.desc = some sig → argsL.length = sig.parameters.length)
    (hstack : g.stack = argsL.reverse ++ rest) (hW : 2 * g.monitorRoom + (rest.map fun v => v.category).sum ≤ W9) (hdg : decode c.code g.pc = .ok (.invokestatic index, 3))
    (hpre : ∀ vm₁, s.WarmedH vm₁ → Pre ⟨T.setVm vm₁, locs, cells, slots⟩ argsL.toArray) :
    (∃ (v : Option Value) (vm₁ : Vm) (B : Pt), s.WarmedH vm₁ ∧ Stand p l e R s m args below meth c B.U B.locs B.cells B.slots ∧ Post ⟨T.setVm vm₁, locs, cells, slots⟩ argsL.toArray v B ∧
      ∀ target, Steps p.tables e below (B.U.setTop { g with pc := g.pc + 3, stack := v.toList ++ rest }) target → Steps p.tables e below (T.setTop g) target) ∨
    (∃ (q : Addr) (vm₁ : Vm) (B : Pt), s.WarmedH vm₁ ∧ Stand p l e R s m args below meth c B.U B.locs B.cells B.slots ∧ PostX ⟨T.setVm vm₁, locs, cells, slots⟩ argsL.toArray q B ∧
      Steps p.tables e below (T.setTop g) ((B.U.setTop { g with stack := rest }).pushFrame (.throwing q))) := by
  obtain ⟨mk, hnamed⟩ := Cond.code_named hcode
  obtain ⟨methM, cM, hmethM, -, -, -, -, -, -, hsigM⟩ := Cond.code_spec hnamed hcode
  have hstatic : methM.isStatic = true := Cond.static_spec hnamed hmethM hstat
  obtain ⟨kP, hkP, -⟩ := className_of_methodNamed hnamed
  have hinitP : kP.init = .initialized := Cond.initialized_spec (findClass_of_methodNamed hnamed) hkP hinit
  obtain ⟨vm₁, X₁, hstep₁⟩ := X.invokestatic hexec hown hlink hnamed hmethM hstatic hkP hinitP hy (g := g) hg (argsL := argsL) (rest := rest) (hlen _ hsigM) hstack hdg
  rcases hK m meth c ⟨T.setVm vm₁, locs, cells, slots⟩ { g with stack := rest } (.invokestatic index) mk argsL.toArray X₁ hg hsize hdg hW (X₁.named hnamed) (hpre vm₁ X₁.warmed) with ⟨v, B, X', hpost, hsteps⟩ | ⟨q, B, X', hpost, hsteps⟩
  · exact Or.inl ⟨v, vm₁, B, X₁.warmed, X', hpost, fun target h => hstep₁ _ fun acts => by rw [doInvoke_state]; exact hsteps.trans h⟩
  · exact Or.inr ⟨q, vm₁, B, X₁.warmed, X', hpost, hstep₁ _ fun acts => by rw [doInvoke_state]; exact hsteps⟩
end Calls
theorem vx_cls {s : State} {T : State} {vm₁ : Vm} {E : String} {k : ClassId} (hW : s.WarmedH vm₁) (h : (T.setVm vm₁).vm.findClass E = some k) : s.vm.findClass E = some k := by
  have h1 : vm₁.findClass E = some k := h
  rw [hW.alike.findClass] at h1
  exact h1
/-- the method's frame g, with q thrown over it -/
def vx_W (p : Program) (l : Launch) (e : Env) (R : Room) (s : State) (m : MethodId) (args : Array Value) (below : List Frame) (meth : Method) (c : Code) (H : Heap) (locs : List Loc) (cells slots : Nat) (Q : State → Prop) (g : JFrame) (q : Addr) : Prop :=
  ∀ T : State, T.heap = H → Stand p l e R s m args below meth c T locs cells slots → ∃ t, Steps p.tables e below ((T.setTop g).pushFrame (.throwing q)) t ∧ Q t
def vx_Run (p : Program) (l : Launch) (e : Env) (R : Room) (s : State) (m : MethodId) (args : Array Value) (below : List Frame) (meth : Method) (c : Code) (H : Heap) (locs : List Loc) (cells slots mc ms : Nat) (g : JFrame) (rest : List Value) (Qa : State → Outcome → State → Prop) (XC : String → State → State → Prop) (free : Addr → Prop) : Prop :=
  ∀ T : State, T.heap = H → Stand p l e R s m args below meth c T locs cells slots →
    (∃ (v : Option Value) (st₀ t T' : State) (L : List Loc), st₀.heap = H ∧ Stand p l e R s m args below meth c T' (locs ++ L) (cells + mc) (slots + ms) ∧ (∀ q ∈ L, free q.base) ∧ T'.heap = t.heap ∧ T'.vm = t.vm ∧ Qa st₀ (.returned v) t ∧
      Goes p e below T g T' { g with pc := g.pc + 3, stack := v.toList ++ rest }) ∨
    (∃ (q : Addr) (st₀ t T' : State) (L : List Loc) (E : String) (ce : Cell), st₀.heap = H ∧ Stand p l e R s m args below meth c T' (locs ++ L) (cells + mc) (slots + ms) ∧ (∀ z ∈ L, free z.base) ∧ T'.heap = t.heap ∧ T'.vm = t.vm ∧ XC E st₀ t ∧ t.heap[q]? = some ce ∧ ce.vm = .none ∧ s.vm.findClass E = some ce.cls ∧
      Steps p.tables e below (T.setTop g) ((T'.setTop { g with stack := rest }).pushFrame (.throwing q)))
def vx_X {S : Type} (px : S → Prop) (B : String → S → State → Prop) (A : Nat → Prop) : String → State → State → Prop := fun E st t => ∃ u : S, px u ∧ B E u t ∧ va_F A st t
section Runs
variable {p : Program} {l : Launch} {e : Env} {R : Room} {s : State} {m : MethodId} {args : Array Value} {below : List Frame} {meth : Method} {c : Code} {H : Heap} {locs : List Loc} {cells slots : Nat}
variable {y : MethodName} {bytes cc : ByteArray} {maxL nL mc ms n index : Nat} {ret : Option FieldType} {ws : List Cond} {rm : Room} {Pc : Array Value → State → Prop} {Qc : Array Value → State → Outcome → State → Prop} {XC : String → State → State → Prop} {free : Addr → Prop} {Ts : List Cond} {own C : String} {b : Addr} {As rest : List Value} {g : JFrame}
theorem vx_callBack (cb : CallB R s args own index y bytes maxL ret ws rm mc ms n) (hM : vx_Met l y ws rm Pc Qc XC mc ms free) (hbl : FrameBlind Pc) : vx_Back l R p e below s args y 3 8 (PreOf R mc ms Pc) (PostOf Qc mc ms free) (vx_Post XC mc ms free) := by
  obtain ⟨hrc, hrs, hfr, hlo, hws, hcw, -, hini, -⟩ := cb
  exact vx_back (bytes := bytes) (maxL := maxL) (ret := ret) hM hbl hrc hrs hfr hlo hws hcw (fun a' U hW => word_at hW (Or.inl (by first | rfl | simp [Cond.onTables, Cond.keeps, Cond.steady])) hini)
theorem vx_runV (S : CallFix p m c cc nL s args Ts own) (hM : vx_Met l y ws rm Pc Qc XC mc ms free) (cw : CallW R s args own C index y bytes maxL ret ws rm mc ms n) (hp : PreV s H C b Pc As)
    (hg : g.method = m) (hn : As.length = n) (hsize : g.locals.size = nL) (hstack : g.stack = As.reverse ++ .ref b :: rest) (hW : 2 * g.monitorRoom + (rest.map fun v => v.category).sum ≤ 8) (hdg : decode cc g.pc = .ok (.invokevirtual index, 3)) (hf : cells + mc ≤ R.cells ∧ slots + ms ≤ R.slots) :
    vx_Run p l e R s m args below meth c H locs cells slots mc ms g rest (Qc (Value.ref b :: As).toArray) XC free := by
  have hK : vx_Back l R p e below s args y 3 8 (PreOf R mc ms Pc) (PostOf Qc mc ms free) (vx_Post XC mc ms free) := vx_callBack cw.1 hM hp.1
  obtain ⟨⟨-, -, -, -, -, -, hcode, -, hy, hlen, hl⟩, hin, hse⟩ := cw
  obtain ⟨hx, hb, hml, ho, -⟩ := S
  obtain ⟨-, ⟨cellB, hcB, hoB, hclB⟩, hPc⟩ := hp
  intro T hT X
  rcases vx_callV X hx (C := C) (bytes := bytes) (maxL := maxL) (ret := ret) ho hl hin hse hcode hy hK (by rw [hT]; exact hcB) hoB hclB hg (hsize.trans hml.symm) (argsL := As) (rest := rest) (fun sig h => hn.trans (hlen sig h)) hstack hW (by rw [hb]; exact hdg)
    (fun vm₁ hW₁ => ⟨hf.1, hf.2, hPc (T.setVm vm₁) hT hW₁⟩) with ⟨v, vm₁, ⟨U', l2, c2, s2⟩, hW₁, X', ⟨g', mk, t, L, e1, e2, hq, h1, hL, h2, h3⟩, st⟩ | ⟨q, vm₁, ⟨U', l2, c2, s2⟩, hW₁, X', ⟨g', mk, t, L, E, ce, e1, e2, hq, hce, hcv, hcl, h1, hL, h2, h3⟩, st⟩
  · dsimp only [Pt.U, Pt.locs, Pt.cells, Pt.slots] at X' e1 e2 h1 h2 h3 st
    subst h1; subst h2; subst h3
    exact Or.inl ⟨v, (T.setVm vm₁).calling g' mk (Value.ref b :: As).toArray, t, U', L, hT, X', hL, e1, e2, hq, st⟩
  · dsimp only [Pt.U, Pt.locs, Pt.cells, Pt.slots] at X' e1 e2 h1 h2 h3 st hcl
    subst h1; subst h2; subst h3
    exact Or.inr ⟨q, (T.setVm vm₁).calling g' mk (Value.ref b :: As).toArray, t, U', L, E, ce, hT, X', hL, e1, e2, hq, hce, hcv, vx_cls hW₁ hcl, st⟩
theorem vx_runS (S : CallFix p m c cc nL s args Ts own) (hM : vx_Met l y ws rm Pc Qc XC mc ms free) (cw : CallB R s args own index y bytes maxL ret ws rm mc ms n ∧ (Cond.static y).before args s = true) (hp : PreS s H Pc As)
    (hg : g.method = m) (hn : As.length = n) (hsize : g.locals.size = nL) (hstack : g.stack = As.reverse ++ rest) (hW : 2 * g.monitorRoom + (rest.map fun v => v.category).sum ≤ 8) (hdg : decode cc g.pc = .ok (.invokestatic index, 3)) (hf : cells + mc ≤ R.cells ∧ slots + ms ≤ R.slots) :
    vx_Run p l e R s m args below meth c H locs cells slots mc ms g rest (Qc As.toArray) XC free := by
  have hK : vx_Back l R p e below s args y 3 8 (PreOf R mc ms Pc) (PostOf Qc mc ms free) (vx_Post XC mc ms free) := vx_callBack cw.1 hM hp.1
  obtain ⟨⟨-, -, -, -, -, -, hcode, hini, hy, hlen, hl⟩, hstt⟩ := cw
  obtain ⟨hx, hb, hml, ho, -⟩ := S
  intro T hT X
  rcases vx_callS X hx (bytes := bytes) (maxL := maxL) (ret := ret) ho hl hstt hini hcode hy hK hg (hsize.trans hml.symm) (argsL := As) (rest := rest) (fun sig h => hn.trans (hlen sig h)) hstack hW (by rw [hb]; exact hdg)
    (fun vm₁ hW₁ => ⟨hf.1, hf.2, hp.2 (T.setVm vm₁) hT hW₁⟩) with ⟨v, vm₁, ⟨U', l2, c2, s2⟩, hW₁, X', ⟨g', mk, t, L, e1, e2, hq, h1, hL, h2, h3⟩, st⟩ | ⟨q, vm₁, ⟨U', l2, c2, s2⟩, hW₁, X', ⟨g', mk, t, L, E, ce, e1, e2, hq, hce, hcv, hcl, h1, hL, h2, h3⟩, st⟩
  · dsimp only [Pt.U, Pt.locs, Pt.cells, Pt.slots] at X' e1 e2 h1 h2 h3 st
    subst h1; subst h2; subst h3
    exact Or.inl ⟨v, (T.setVm vm₁).calling g' mk As.toArray, t, U', L, hT, X', hL, e1, e2, hq, st⟩
  · dsimp only [Pt.U, Pt.locs, Pt.cells, Pt.slots] at X' e1 e2 h1 h2 h3 st hcl
    subst h1; subst h2; subst h3
    exact Or.inr ⟨q, (T.setVm vm₁).calling g' mk As.toArray, t, U', L, E, ce, hT, X', hL, e1, e2, hq, hce, hcv, vx_cls hW₁ hcl, st⟩
end Runs
section Rows
variable {p : Program} {l : Launch} {e : Env} {R : Room} {s : State} {m : MethodId} {args : Array Value} {below : List Frame} {meth : Method} {c : Code} {H : Heap} {locs : List Loc} {cells slots : Nat} {Q : State → Prop}
variable {mc ms : Nat} {free : Addr → Prop} {A0 A1 : Nat → Prop} {H0 : Heap} {a : Array Value} {pc : Nat} {ls : Array Slot} {st0 rest : List Value}
theorem vx_keep {st₀ t T' : State} {L : List Loc} (h0 : st₀.heap = H) (e1 : T'.heap = t.heap) (hS : va_S A0 H0 H locs) (hA : ∀ q, q < H.size → A1 q → A0 q) (hf : ∀ q, free q → A0 q) (hL : ∀ q ∈ L, free q.base) (hF : va_F A1 st₀ t) :
    H.size ≤ T'.heap.size ∧ (∀ q : Nat, q < H.size → ¬ A1 q → T'.heap[q]? = H[q]?) ∧ va_S A0 H0 T'.heap (locs ++ L) := by
  obtain ⟨hz, hk⟩ := hF
  rw [h0] at hz hk
  exact ⟨by rw [e1]; exact hz, fun q h1 h2 => by rw [e1]; exact hk q h1 h2,
    ⟨Nat.le_trans hS.1 (by rw [e1]; exact hz), fun q h1 h2 => by rw [e1, hk q (Nat.lt_of_lt_of_le h1 hS.1) (fun z => h2 (hA q (Nat.lt_of_lt_of_le h1 hS.1) z))]; exact hS.2.1 q h1 h2, fun q hq => by
      rcases List.mem_append.mp hq with h | h
      · exact hS.2.2 q h
      · exact hf _ (hL q h)⟩⟩
theorem vx_calli {S SX : Type} {post : Int32 → S → Prop} {px : SX → Prop} {B : S → State → Prop} {BX : String → SX → State → Prop} {AX : Nat → Prop} (hr : vx_Run p l e R s m args below meth c H locs cells slots mc ms (F0 m pc ls st0) rest (va_Qi post B A1 a) (vx_X px BX AX) free) (hS : va_S A0 H0 H locs) (hA : ∀ q, q < H.size → A1 q → A0 q) (hf : ∀ q, free q → A0 q) (hAX : ∀ q, q < H.size → AX q → A0 q)
    (kx : ∀ (E : String) (ce : Cell) (q9 : Addr) (u : SX) (t : State) (H1 : Heap) (locs1 : List Loc), t.heap = H1 → s.vm.Alike t.vm → px u → BX E u t → H.size ≤ H1.size → (∀ q : Nat, q < H.size → ¬ AX q → H1[q]? = H[q]?) → va_S A0 H0 H1 locs1 → H1[q9]? = some ce → ce.vm = .none → s.vm.findClass E = some ce.cls → vx_W p l e R s m args below meth c H1 locs1 (cells + mc) (slots + ms) Q (F0 m pc ls rest) q9)
    (kk : ∀ (r : Int32) (u : S) (t : State) (H1 : Heap) (locs1 : List Loc), t.heap = H1 → s.vm.Alike t.vm → post r u → B u t → H.size ≤ H1.size → (∀ q : Nat, q < H.size → ¬ A1 q → H1[q]? = H[q]?) → va_S A0 H0 H1 locs1 → W p l e R s m args below meth c H1 locs1 (cells + mc) (slots + ms) Q (F0 m (pc + 3) ls (.int r :: rest))) : W p l e R s m args below meth c H locs cells slots Q (F0 m pc ls st0) := by
  intro T hT X
  rcases hr T hT X with ⟨v, st₀, t, T', L, h0, X', hL, e1, e2, ⟨⟨r, u, hv, hp, hb⟩, hF⟩, st⟩ | ⟨q, st₀, t, T', L, E, ce, h0, X', hL, e1, e2, ⟨u, hp, hb, hF⟩, hce, hcv, hcl, st⟩
  · cases hv
    obtain ⟨k1, k2, k3⟩ := vx_keep h0 e1 hS hA hf hL hF
    obtain ⟨t2, a1, b1⟩ := kk r u t T'.heap (locs ++ L) e1.symm (by rw [← e2]; exact X'.warmed.alike) hp hb k1 k2 k3 T' rfl X'
    exact ⟨t2, st t2 a1, b1⟩
  · obtain ⟨k1, k2, k3⟩ := vx_keep h0 e1 hS hAX hf hL hF
    obtain ⟨t2, a1, b1⟩ := kx E ce q u t T'.heap (locs ++ L) e1.symm (by rw [← e2]; exact X'.warmed.alike) hp hb k1 k2 k3 (by rw [e1]; exact hce) hcv hcl T' rfl X'
    exact ⟨t2, st.trans a1, b1⟩
theorem vx_calll {S SX : Type} {post : Int64 → S → Prop} {px : SX → Prop} {B : S → State → Prop} {BX : String → SX → State → Prop} {AX : Nat → Prop} (hr : vx_Run p l e R s m args below meth c H locs cells slots mc ms (F0 m pc ls st0) rest (va_Ql post B A1 a) (vx_X px BX AX) free) (hS : va_S A0 H0 H locs) (hA : ∀ q, q < H.size → A1 q → A0 q) (hf : ∀ q, free q → A0 q) (hAX : ∀ q, q < H.size → AX q → A0 q)
    (kx : ∀ (E : String) (ce : Cell) (q9 : Addr) (u : SX) (t : State) (H1 : Heap) (locs1 : List Loc), t.heap = H1 → s.vm.Alike t.vm → px u → BX E u t → H.size ≤ H1.size → (∀ q : Nat, q < H.size → ¬ AX q → H1[q]? = H[q]?) → va_S A0 H0 H1 locs1 → H1[q9]? = some ce → ce.vm = .none → s.vm.findClass E = some ce.cls → vx_W p l e R s m args below meth c H1 locs1 (cells + mc) (slots + ms) Q (F0 m pc ls rest) q9)
    (kk : ∀ (r : Int64) (u : S) (t : State) (H1 : Heap) (locs1 : List Loc), t.heap = H1 → s.vm.Alike t.vm → post r u → B u t → H.size ≤ H1.size → (∀ q : Nat, q < H.size → ¬ A1 q → H1[q]? = H[q]?) → va_S A0 H0 H1 locs1 → W p l e R s m args below meth c H1 locs1 (cells + mc) (slots + ms) Q (F0 m (pc + 3) ls (.long r :: rest))) : W p l e R s m args below meth c H locs cells slots Q (F0 m pc ls st0) := by
  intro T hT X
  rcases hr T hT X with ⟨v, st₀, t, T', L, h0, X', hL, e1, e2, ⟨⟨r, u, hv, hp, hb⟩, hF⟩, st⟩ | ⟨q, st₀, t, T', L, E, ce, h0, X', hL, e1, e2, ⟨u, hp, hb, hF⟩, hce, hcv, hcl, st⟩
  · cases hv
    obtain ⟨k1, k2, k3⟩ := vx_keep h0 e1 hS hA hf hL hF
    obtain ⟨t2, a1, b1⟩ := kk r u t T'.heap (locs ++ L) e1.symm (by rw [← e2]; exact X'.warmed.alike) hp hb k1 k2 k3 T' rfl X'
    exact ⟨t2, st t2 a1, b1⟩
  · obtain ⟨k1, k2, k3⟩ := vx_keep h0 e1 hS hAX hf hL hF
    obtain ⟨t2, a1, b1⟩ := kx E ce q u t T'.heap (locs ++ L) e1.symm (by rw [← e2]; exact X'.warmed.alike) hp hb k1 k2 k3 (by rw [e1]; exact hce) hcv hcl T' rfl X'
    exact ⟨t2, st.trans a1, b1⟩
theorem vx_callf {S SX : Type} {post : UInt32 → S → Prop} {px : SX → Prop} {B : S → State → Prop} {BX : String → SX → State → Prop} {AX : Nat → Prop} (hr : vx_Run p l e R s m args below meth c H locs cells slots mc ms (F0 m pc ls st0) rest (va_Qf post B A1 a) (vx_X px BX AX) free) (hS : va_S A0 H0 H locs) (hA : ∀ q, q < H.size → A1 q → A0 q) (hf : ∀ q, free q → A0 q) (hAX : ∀ q, q < H.size → AX q → A0 q)
    (kx : ∀ (E : String) (ce : Cell) (q9 : Addr) (u : SX) (t : State) (H1 : Heap) (locs1 : List Loc), t.heap = H1 → s.vm.Alike t.vm → px u → BX E u t → H.size ≤ H1.size → (∀ q : Nat, q < H.size → ¬ AX q → H1[q]? = H[q]?) → va_S A0 H0 H1 locs1 → H1[q9]? = some ce → ce.vm = .none → s.vm.findClass E = some ce.cls → vx_W p l e R s m args below meth c H1 locs1 (cells + mc) (slots + ms) Q (F0 m pc ls rest) q9)
    (kk : ∀ (r : UInt32) (u : S) (t : State) (H1 : Heap) (locs1 : List Loc), t.heap = H1 → s.vm.Alike t.vm → post r u → B u t → H.size ≤ H1.size → (∀ q : Nat, q < H.size → ¬ A1 q → H1[q]? = H[q]?) → va_S A0 H0 H1 locs1 → W p l e R s m args below meth c H1 locs1 (cells + mc) (slots + ms) Q (F0 m (pc + 3) ls (.float r :: rest))) : W p l e R s m args below meth c H locs cells slots Q (F0 m pc ls st0) := by
  intro T hT X
  rcases hr T hT X with ⟨v, st₀, t, T', L, h0, X', hL, e1, e2, ⟨⟨r, u, hv, hp, hb⟩, hF⟩, st⟩ | ⟨q, st₀, t, T', L, E, ce, h0, X', hL, e1, e2, ⟨u, hp, hb, hF⟩, hce, hcv, hcl, st⟩
  · cases hv
    obtain ⟨k1, k2, k3⟩ := vx_keep h0 e1 hS hA hf hL hF
    obtain ⟨t2, a1, b1⟩ := kk r u t T'.heap (locs ++ L) e1.symm (by rw [← e2]; exact X'.warmed.alike) hp hb k1 k2 k3 T' rfl X'
    exact ⟨t2, st t2 a1, b1⟩
  · obtain ⟨k1, k2, k3⟩ := vx_keep h0 e1 hS hAX hf hL hF
    obtain ⟨t2, a1, b1⟩ := kx E ce q u t T'.heap (locs ++ L) e1.symm (by rw [← e2]; exact X'.warmed.alike) hp hb k1 k2 k3 (by rw [e1]; exact hce) hcv hcl T' rfl X'
    exact ⟨t2, st.trans a1, b1⟩
theorem vx_calld {S SX : Type} {post : UInt64 → S → Prop} {px : SX → Prop} {B : S → State → Prop} {BX : String → SX → State → Prop} {AX : Nat → Prop} (hr : vx_Run p l e R s m args below meth c H locs cells slots mc ms (F0 m pc ls st0) rest (va_Qd post B A1 a) (vx_X px BX AX) free) (hS : va_S A0 H0 H locs) (hA : ∀ q, q < H.size → A1 q → A0 q) (hf : ∀ q, free q → A0 q) (hAX : ∀ q, q < H.size → AX q → A0 q)
    (kx : ∀ (E : String) (ce : Cell) (q9 : Addr) (u : SX) (t : State) (H1 : Heap) (locs1 : List Loc), t.heap = H1 → s.vm.Alike t.vm → px u → BX E u t → H.size ≤ H1.size → (∀ q : Nat, q < H.size → ¬ AX q → H1[q]? = H[q]?) → va_S A0 H0 H1 locs1 → H1[q9]? = some ce → ce.vm = .none → s.vm.findClass E = some ce.cls → vx_W p l e R s m args below meth c H1 locs1 (cells + mc) (slots + ms) Q (F0 m pc ls rest) q9)
    (kk : ∀ (r : UInt64) (u : S) (t : State) (H1 : Heap) (locs1 : List Loc), t.heap = H1 → s.vm.Alike t.vm → post r u → B u t → H.size ≤ H1.size → (∀ q : Nat, q < H.size → ¬ A1 q → H1[q]? = H[q]?) → va_S A0 H0 H1 locs1 → W p l e R s m args below meth c H1 locs1 (cells + mc) (slots + ms) Q (F0 m (pc + 3) ls (.double r :: rest))) : W p l e R s m args below meth c H locs cells slots Q (F0 m pc ls st0) := by
  intro T hT X
  rcases hr T hT X with ⟨v, st₀, t, T', L, h0, X', hL, e1, e2, ⟨⟨r, u, hv, hp, hb⟩, hF⟩, st⟩ | ⟨q, st₀, t, T', L, E, ce, h0, X', hL, e1, e2, ⟨u, hp, hb, hF⟩, hce, hcv, hcl, st⟩
  · cases hv
    obtain ⟨k1, k2, k3⟩ := vx_keep h0 e1 hS hA hf hL hF
    obtain ⟨t2, a1, b1⟩ := kk r u t T'.heap (locs ++ L) e1.symm (by rw [← e2]; exact X'.warmed.alike) hp hb k1 k2 k3 T' rfl X'
    exact ⟨t2, st t2 a1, b1⟩
  · obtain ⟨k1, k2, k3⟩ := vx_keep h0 e1 hS hAX hf hL hF
    obtain ⟨t2, a1, b1⟩ := kx E ce q u t T'.heap (locs ++ L) e1.symm (by rw [← e2]; exact X'.warmed.alike) hp hb k1 k2 k3 (by rw [e1]; exact hce) hcv hcl T' rfl X'
    exact ⟨t2, st.trans a1, b1⟩
theorem vx_callv {S SX : Type} {post : S → Prop} {px : SX → Prop} {B : S → State → Prop} {BX : String → SX → State → Prop} {AX : Nat → Prop} (hr : vx_Run p l e R s m args below meth c H locs cells slots mc ms (F0 m pc ls st0) rest (va_Qv post B A1 a) (vx_X px BX AX) free) (hS : va_S A0 H0 H locs) (hA : ∀ q, q < H.size → A1 q → A0 q) (hf : ∀ q, free q → A0 q) (hAX : ∀ q, q < H.size → AX q → A0 q)
    (kx : ∀ (E : String) (ce : Cell) (q9 : Addr) (u : SX) (t : State) (H1 : Heap) (locs1 : List Loc), t.heap = H1 → s.vm.Alike t.vm → px u → BX E u t → H.size ≤ H1.size → (∀ q : Nat, q < H.size → ¬ AX q → H1[q]? = H[q]?) → va_S A0 H0 H1 locs1 → H1[q9]? = some ce → ce.vm = .none → s.vm.findClass E = some ce.cls → vx_W p l e R s m args below meth c H1 locs1 (cells + mc) (slots + ms) Q (F0 m pc ls rest) q9)
    (kk : ∀ (u : S) (t : State) (H1 : Heap) (locs1 : List Loc), t.heap = H1 → s.vm.Alike t.vm → post u → B u t → H.size ≤ H1.size → (∀ q : Nat, q < H.size → ¬ A1 q → H1[q]? = H[q]?) → va_S A0 H0 H1 locs1 → W p l e R s m args below meth c H1 locs1 (cells + mc) (slots + ms) Q (F0 m (pc + 3) ls (rest))) : W p l e R s m args below meth c H locs cells slots Q (F0 m pc ls st0) := by
  intro T hT X
  rcases hr T hT X with ⟨v, st₀, t, T', L, h0, X', hL, e1, e2, ⟨⟨u, hv, hp, hb⟩, hF⟩, st⟩ | ⟨q, st₀, t, T', L, E, ce, h0, X', hL, e1, e2, ⟨u, hp, hb, hF⟩, hce, hcv, hcl, st⟩
  · cases hv
    obtain ⟨k1, k2, k3⟩ := vx_keep h0 e1 hS hA hf hL hF
    obtain ⟨t2, a1, b1⟩ := kk u t T'.heap (locs ++ L) e1.symm (by rw [← e2]; exact X'.warmed.alike) hp hb k1 k2 k3 T' rfl X'
    exact ⟨t2, st t2 a1, b1⟩
  · obtain ⟨k1, k2, k3⟩ := vx_keep h0 e1 hS hAX hf hL hF
    obtain ⟨t2, a1, b1⟩ := kx E ce q u t T'.heap (locs ++ L) e1.symm (by rw [← e2]; exact X'.warmed.alike) hp hb k1 k2 k3 (by rw [e1]; exact hce) hcv hcl T' rfl X'
    exact ⟨t2, st.trans a1, b1⟩
/-- caught by the row x of this method's table; the rows ahead don't take it -/
theorem vx_catch {own name : String} {E : String} {ce : Cell} {q : Addr} (hown : s.vm.findClass own = some m.cls) (pre : List ExceptionTableEntry) (x : ExceptionTableEntry) (suf : List ExceptionTableEntry) (hsplit : c.exceptionTable.toList = pre ++ x :: suf)
    (hpass : ∀ z ∈ pre, covers z pc = false ∨ (z.catchType ≠ 0 ∧ ∃ nm : String, (Cond.classLink own z.catchType nm).before args s = true ∧ va_Nc E nm s)) (hx : covers x pc = true) (h0 : x.catchType ≠ 0)
    (hlink : (Cond.classLink own x.catchType name).before args s = true) (hcast : (Cond.castable E name).before args s = true) (hcell : H[q]? = some ce) (hv : ce.vm = .none) (hcl : s.vm.findClass E = some ce.cls)
    (kk : W p l e R s m args below meth c H locs cells slots Q (F0 m x.handlerPc ls [.ref q])) : vx_W p l e R s m args below meth c H locs cells slots Q (F0 m pc ls rest) q := by
  intro T hT X
  have hpl : e.platform.magicAccessors = ({} : Platform).magicAccessors := by rw [X.admits.platform]
  obtain ⟨c3, c4, hc3, hc4, hasg⟩ := Cond.castable_spec hcast
  cases Option.some.inj (hc3.symm.trans hcl)
  obtain ⟨c5, hc5, hcl5⟩ := Cond.classLink_spec hown hlink e.platform hpl
  cases Option.some.inj (hc4.symm.trans hc5)
  obtain ⟨vm', X', st⟩ := X.thenCaughtThrough q (g := F0 m pc ls rest) rfl (Steps.refl _) (by rw [hT]; exact hcell) (by rw [hv]; rfl) (by obtain ⟨k9, h9, -⟩ := Vm.findClass_spec hcl; exact ⟨k9, h9⟩) pre x suf hsplit
    (fun z hz => by
      rcases hpass z hz with h | ⟨hz0, nm, hl1, hn1⟩
      · exact Or.inl h
      · obtain ⟨c6, hc6, hcl6⟩ := Cond.classLink_spec hown hl1 e.platform hpl
        obtain ⟨a8, b8, h1, h2, h3⟩ := hn1
        cases Option.some.inj (h1.symm.trans hcl)
        cases Option.some.inj (h2.symm.trans hc6)
        exact Or.inr ⟨hz0, _, hcl6, h3⟩) hx (Or.inr ⟨h0, c4, hcl5, hasg⟩)
  obtain ⟨t, a1, b1⟩ := kk (T.setVm vm') hT X'
  exact ⟨t, st.trans a1, b1⟩
end Rows
section Ends
variable {p : Program} {l : Launch} {e : Env} {R : Room} {s : State} {m : MethodId} {args : Array Value} {below : List Frame} {meth : Method} {c : Code} {H : Heap} {locs : List Loc} {cells slots : Nat} {Q : State → Prop}
variable {mc ms : Nat} {free : Addr → Prop} {A0 A1 : Nat → Prop} {H0 : Heap} {a : Array Value} {ls : Array Slot} {st0 rest : List Value}
variable {Qc : Array Value → State → Outcome → State → Prop} {XC : String → State → State → Prop}
/-- what a body that may throw owes at its end -/
def vx_MQ (below : List Frame) (Qc : Array Value → State → Outcome → State → Prop) (XC : String → State → State → Prop) (a : Array Value) (s : State) (mc ms : Nat) (free : Addr → Prop) : State → Prop := fun t =>
  ∃ o, t.status = .running ∧ Ended t below o ∧ vx_Q Qc XC mc ms free a s o t
theorem vx_ret {g : JFrame} {mc ms : Nat} (k : W p l e R s m args below meth c H locs cells slots (MQ below Qc args s mc ms free) g) : W p l e R s m args below meth c H locs cells slots (vx_MQ below Qc XC args s mc ms free) g := by
  intro T hT X
  obtain ⟨t, a1, o, b1, b2, b3, b4⟩ := k T hT X
  exact ⟨t, a1, o, b1, b2, Or.inl ⟨b3, b4⟩⟩
/-- not caught here: it goes on to the caller -/
theorem vx_widen {g : JFrame} {q : Addr} {k n : Nat} (h1 : cells ≤ k) (h2 : slots ≤ n) (kk : vx_W p l e R s m args below meth c H locs k n Q g q) : vx_W p l e R s m args below meth c H locs cells slots Q g q := fun T hT X => kk T hT (stand_widen X h1 h2)
theorem vx_out {pc : Nat} {E : String} {ce : Cell} {q : Addr} {mc ms : Nat} (hout : ∀ x ∈ c.exceptionTable.toList, covers x pc = false) (hlocks : meth.locks = false) (hcell : H[q]? = some ce) (hv : ce.vm = .none) (hcl : s.vm.findClass E = some ce.cls)
    (hx : ∀ t : State, t.heap = H → s.vm.Alike t.vm → XC E s t) (hf : ∀ z ∈ locs, free z.base) (hc : cells ≤ mc) (hs : slots ≤ ms) :
    vx_W p l e R s m args below meth c H locs cells slots (vx_MQ below Qc XC args s mc ms free) (F0 m pc ls rest) q := by
  intro T hT X
  obtain ⟨st1, hrun, hend, hW, hsm⟩ := X.leaveThrown q (g := F0 m pc ls rest) rfl rfl rfl hout hlocks
  have hcell9 : (T.setFrames (.throwing q :: below)).heap[q]? = some ce := by
    show T.heap[q]? = some ce
    rw [hT]; exact hcell
  exact ⟨_, st1, .threw q, hrun, hend, Or.inr ⟨q, rfl, E, ce, locs, hx _ hT hW.alike, hcell9, hv, hcl, hW, hsm.mono hc hs, hf⟩⟩
theorem vx_frame {U : State} {k n : Nat} (h : s.sameButNew ({ U with vm := s.vm } : State) locs k n) : s.heap.size ≤ U.heap.size ∧ ∀ q : Nat, q < s.heap.size → (∀ z ∈ locs, z.base ≠ q) → U.heap[q]? = s.heap[q]? := by
  obtain ⟨-, h2, -, -, -, h6⟩ := h
  refine ⟨h2, fun q hq hz => ?_⟩
  obtain ⟨c9, e1, e2, e3, e4⟩ := h6 q _ (Array.getElem?_eq_getElem hq)
  have hs : c9.slots = (s.heap[q]).slots := Array.ext_getElem? fun i => e4 i fun hm => hz _ hm rfl
  have h9 : c9 = s.heap[q] := by
    rw [hs] at e2
    exact e2
  have e5 : U.heap[q]? = some c9 := e1
  rw [e5, h9, Array.getElem?_eq_getElem hq]
/-- the words of a throw but the four that speak of the heap -/
def vx_no (w : Cond) : Bool := decide (w ≠ .isRef (.static Bundle.tN "UNASSIGNED_STACK" Bundle.steD)) && decide (w ≠ .isRef (.static Bundle.tN "SUPPRESSED_SENTINEL" Bundle.listD)) && decide (w ≠ .laysStatic Bundle.tN "UNASSIGNED_STACK" Bundle.steD) && decide (w ≠ .laysStatic Bundle.tN "SUPPRESSED_SENTINEL" Bundle.listD)
def vx_at0 (own : String) (ic : Nat) (X : String) (names : List String) : List Cond := (Bundle.ownAtoms0 own ic X names).filter vx_no
def vx_atS (own : String) (ic : Nat) (X : String) (names : List String) : List Cond := (Bundle.ownAtoms own ic X names).filter vx_no
/-- a word that the tables alone decide, or a good one -/
def vx_ot (w : Cond) : Bool := w.onTables || goodWord w
theorem vx_ot_at {args a' : Array Value} {s U : State} {w : Cond} (hW : s.WarmedH U.vm) (hvm : s.vm = U.vm) (hg : vx_ot w = true) (h : w.before args s = true) : w.before a' U = true := by
  simp only [vx_ot, Bool.or_eq_true] at hg
  rcases hg with hg | hg
  · exact va_tabs hg hvm h
  · exact word_at hW (good_of_word hg) h
/-- a list's words: the good ones out of the method's own list, the others by premises of their own -/
theorem vx_hat {args : Array Value} {s : State} {L B : List Cond} (h1 : ∀ w ∈ L.filter goodWord, w.before args s = true) (h2 : ∀ w ∈ L.filter (fun w => !goodWord w), w ∈ B) (h3 : ∀ w ∈ B, w.before args s = true) : ∀ w ∈ L, w.before args s = true := by
  intro w hw
  by_cases g : goodWord w = true
  · exact h1 w (List.mem_filter.mpr ⟨hw, g⟩)
  · refine h3 w (h2 w (List.mem_filter.mpr ⟨hw, ?_⟩))
    show (!goodWord w) = true
    cases hgw : goodWord w
    · rfl
    · exact absurd hgw g
theorem vx_c {args : Array Value} {s : State} {w : Cond} {B : List Cond} (h : w.before args s = true) (t : ∀ w ∈ B, w.before args s = true) : ∀ w' ∈ w :: B, w'.before args s = true := fun w' h' => (List.mem_cons.mp h').elim (fun e => by rw [e]; exact h) (t w')
theorem vx_n {args : Array Value} {s : State} : ∀ w ∈ ([] : List Cond), w.before args s = true := fun _ h => nomatch h
theorem vx_own {args : Array Value} {s : State} {L : List Cond} (h1 : ∀ w ∈ L.filter vx_no, w.before args s = true)
    (hU : (Cond.isRef (.static Bundle.tN "UNASSIGNED_STACK" Bundle.steD)).before args s = true) (hN : (Cond.isRef (.static Bundle.tN "SUPPRESSED_SENTINEL" Bundle.listD)).before args s = true)
    (lU : (Cond.laysStatic Bundle.tN "UNASSIGNED_STACK" Bundle.steD).before args s = true) (lN : (Cond.laysStatic Bundle.tN "SUPPRESSED_SENTINEL" Bundle.listD).before args s = true) : ∀ w ∈ L, w.before args s = true := by
  intro w hw
  by_cases e1 : w = .isRef (.static Bundle.tN "UNASSIGNED_STACK" Bundle.steD)
  · rw [e1]; exact hU
  · by_cases e2 : w = .isRef (.static Bundle.tN "SUPPRESSED_SENTINEL" Bundle.listD)
    · rw [e2]; exact hN
    · by_cases e3 : w = .laysStatic Bundle.tN "UNASSIGNED_STACK" Bundle.steD
      · rw [e3]; exact lU
      · by_cases e4 : w = .laysStatic Bundle.tN "SUPPRESSED_SENTINEL" Bundle.listD
        · rw [e4]; exact lN
        · exact h1 w (List.mem_filter.mpr ⟨hw, by unfold vx_no; rw [decide_eq_true e1, decide_eq_true e2, decide_eq_true e3, decide_eq_true e4]; rfl⟩)
/-- where a static field lies, its class's statics cell in H -/
def vx_L (C n d : String) (A : Nat → Prop) (U : State) (H : Heap) : Prop := ∃ (c : ClassId) (k : Class) (i : Nat) (f : Field) (a : Nat) (cell : Cell), U.vm.findClass C = some c ∧ U.fieldFound? C n d = some (c, k, i, f) ∧ f.isStatic = true ∧ k.statics = some a ∧ H[a]? = some cell ∧ cell.vm.isStatics = true ∧ cell.cls = c ∧ f.slot < cell.slots.size ∧ k.staticTypes[f.slot]? = some f.type ∧ ¬ A a
theorem vx_L.moved {C n d : String} {A : Nat → Prop} {u U : State} {H : Heap} (hvm : u.vm.Alike U.vm) (h : vx_L C n d A u H) : vx_L C n d A U H := by
  obtain ⟨c, k, i, f, a, cell, h1, h2, h3, h4, h5, h6, h7, h8, h9, h10⟩ := h
  obtain ⟨k', hi', he⟩ := State.fieldFound?_setVm hvm h2
  exact ⟨c, k', i, f, a, cell, by rw [hvm.findClass]; exact h1, hi', h3, by rw [he]; exact h4, h5, h6, h7, h8, by rw [he]; exact h9, h10⟩
theorem vx_L.kept {C n d : String} {A : Nat → Prop} {U : State} {H H1 : Heap} (h : vx_L C n d A U H) (hq : ∀ a : Nat, a < H.size → ¬ A a → H1[a]? = H[a]?) : vx_L C n d A U H1 := by
  obtain ⟨c, k, i, f, a, cell, h1, h2, h3, h4, h5, h6, h7, h8, h9, h10⟩ := h
  exact ⟨c, k, i, f, a, cell, h1, h2, h3, h4, by rw [hq a (Array.getElem?_eq_some_iff.mp h5).1 h10]; exact h5, h6, h7, h8, h9, h10⟩
theorem vx_L.narrow {C n d : String} {A B : Nat → Prop} {U : State} {H : Heap} (h : vx_L C n d A U H) (hAB : ∀ q, B q → A q) : vx_L C n d B U H := by
  obtain ⟨c, k, i, f, a, cell, h1, h2, h3, h4, h5, h6, h7, h8, h9, h10⟩ := h
  exact ⟨c, k, i, f, a, cell, h1, h2, h3, h4, h5, h6, h7, h8, h9, fun z => h10 (hAB _ z)⟩
theorem vx_L.word {C n d : String} {A : Nat → Prop} {s : State} {args : Array Value} (h : vx_L C n d A s s.heap) : (Cond.laysStatic C n d).before args s = true := by
  obtain ⟨c, k, i, f, a, cell, h1, h2, h3, h4, h5, h6, h7, h8, h9, -⟩ := h
  show (Cond.laysStatic C n d).holds args s none s [] = true
  exact Cond.laysStatic_of h1 h2 h3 h4 h5 h6 h7 h8 h9
/-- .. and what it holds: null or some reference -/
def vx_Zq (C n d : String) (A : Nat → Prop) (U : State) (H : Heap) : Prop := va_Zq C n d A U H ∧ vx_L C n d A U H
theorem vx_Zq.moved {C n d : String} {A : Nat → Prop} {u U : State} {H : Heap} (hvm : u.vm.Alike U.vm) (h : vx_Zq C n d A u H) : vx_Zq C n d A U H := ⟨va_Zq.moved hvm h.1, vx_L.moved hvm h.2⟩
theorem vx_Zq.kept {C n d : String} {A : Nat → Prop} {U : State} {H H1 : Heap} (h : vx_Zq C n d A U H) (hq : ∀ a : Nat, a < H.size → ¬ A a → H1[a]? = H[a]?) : vx_Zq C n d A U H1 := ⟨va_Zq.kept h.1 hq, vx_L.kept h.2 hq⟩
theorem vx_Zq.narrow {C n d : String} {A B : Nat → Prop} {U : State} {H : Heap} (h : vx_Zq C n d A U H) (hAB : ∀ q, B q → A q) : vx_Zq C n d B U H := ⟨va_Zq.narrow h.1 hAB, vx_L.narrow h.2 hAB⟩
theorem vx_Zqof {args : Array Value} {s : State} {C n d : String} {A : Nat → Prop} (hl : (Cond.laysStatic C n d).before args s = true) (hini : (Cond.initialized C).before args s = true) (h : (Cond.isRef (.static C n d)).before args s = true) (hA : ∀ a : Nat, a < s.heap.size → ¬ A a) : vx_Zq C n d A s s.heap := by
  refine ⟨va_Zqof hl hini h hA, ?_⟩
  obtain ⟨c, k, i, f, a, cell, h1, h2, h3, h4, h5, h6, h7, h8, h9⟩ := Cond.laysStatic_spec hl
  exact ⟨c, k, i, f, a, cell, h1, h2, h3, h4, h5, h6, h7, h8, h9, hA a (Array.getElem?_eq_some_iff.mp h5).1⟩
theorem vx_isRef {C n d : String} {v : Value} {A : Nat → Prop} {s : State} {args : Array Value} (h : va_Z C n d v A s s.heap) (hv : v.isRef = true) : (Cond.isRef (.static C n d)).before args s = true := by
  obtain ⟨cf, kf, fi, f, a, cell, h1, h2, h3, h4, h5, h6, h7, -⟩ := h
  have he : (Term.static C n d).eval args s none [] s = some v := by
    simp [Term.eval, State.fieldNamed?, h1, h2, h4, h5, h6, h7]
  simp only [Cond.before, Cond.holds, Cond.value, he]
  cases v <;> simp_all [Value.isRef]
theorem vx_isRefq {C n d : String} {A : Nat → Prop} {s : State} {args : Array Value} (h : va_Zq C n d A s s.heap) : (Cond.isRef (.static C n d)).before args s = true := by
  rcases h with h | ⟨t, h⟩
  · exact vx_isRef h rfl
  · exact vx_isRef h rfl
/-- the same frame, seen from here: as if the method were called anew in this heap -/
theorem vx_rebase {T : State} (X : Stand p l e R s m args below meth c T locs cells slots) {R' : Room} (hf : R'.frames ≤ R.frames) (hl : R'.locals ≤ R.locals) (hc : cells + R'.cells ≤ R.cells) (hs : slots + R'.slots ≤ R.slots) :
    Stand p l e R' ((T.setVm s.vm).setFrames (.invoking m args :: below)) m args below meth c T [] 0 0 := by
  have htop : (T.setVm s.vm).topJava?.isSome := X.here.top
  have hF : ((T.setVm s.vm).setFrames (.invoking m args :: below)).frames = .invoking m args :: below := State.frames_setFrames _ (State.cur_lt_of_top htop)
  obtain ⟨g₀, hg0⟩ := Option.isSome_iff_exists.mp htop
  obtain ⟨r, hr⟩ := State.topJava?_eq_some.mp hg0
  have hl9 : e.platform.stackLimits (T.setVm s.vm).me = e.platform.stackLimits s.me := X.limits
  have hb9 : (T.setVm s.vm).me.stackBytes = s.me.stackBytes := X.bytes
  refine ⟨X.admits, X.cas, X.clock, hF, ?_, X.hears, X.method, X.code, X.here, X.tail, X.warmed, ?_, ?_, ?_⟩
  · have h := X.room
    have hU : ((T.setVm s.vm).setFrames (.invoking m args :: below)).localsInUse = s.localsInUse := by
      rw [State.localsInUse_invoking hF (meth := meth) (c := c) X.method X.code, State.localsInUse_invoking X.frames X.method X.code]
    simp only [State.hasRoom, Bool.and_eq_true, decide_eq_true_eq] at h ⊢
    obtain ⟨⟨⟨⟨h1, h2, h3, h4, h5, h6⟩, h7⟩, h8⟩, h9⟩ := h
    rw [X.frames, List.length_cons] at h2 h3
    have q1 := X.heapSize
    have q2 := X.used
    simp only [hF, hU, List.length_cons, State.stackLimits_setFrames, State.stackBytes_setFrames, hl9, hb9]
    refine ⟨⟨⟨⟨by omega, by omega, by omega, by omega, by omega, h6⟩, ?_⟩, ?_⟩, X.book⟩
    · show T.heap.size + R'.cells ≤ e.platform.maxCells
      omega
    · show T.slotsUsed + R'.slots ≤ e.platform.maxSlots
      omega
  · rw [State.stackLimits_setFrames]; rfl
  · rw [State.stackBytes_setFrames]; rfl
  · refine ⟨?_, Nat.le_refl _, Nat.le_refl _, ?_, ?_, fun a c9 h9 => ⟨c9, h9, rfl, rfl, fun _ _ => rfl⟩⟩
    · obtain ⟨t, ht, -⟩ := State.frames_cons hr
      show T.setVm s.vm = { ((T.setVm s.vm).setFrames (.invoking m args :: below)).setFrames (T.setVm s.vm).frames with heap := T.heap, slotsUsed := T.slotsUsed }
      rw [State.setFrames_setFrames, State.setFrames_self ht]
      rfl
    · show T.slotsUsed = T.slotsUsed + ((T.heap.toList.drop T.heap.size).map (·.slots.size)).sum
      rw [List.drop_eq_nil_of_le (Nat.le_of_eq Array.length_toList)]
      rfl
    · show ((T.heap.toList.drop T.heap.size).map (·.slots.size)).sum ≤ 0
      rw [List.drop_eq_nil_of_le (Nat.le_of_eq Array.length_toList)]
      exact Nat.le_refl _
/-- 'throw new E()': new; dup; invokespecial; athrow -/
theorem vx_throw0 {cc : ByteArray} {pc : Nat} (hexec : p.tables.exec = Jvm.exec) (hb : c.code = cc) (hl : l.stackTraces = false) {own cls : String} {names : List String} {ik ic mc ms : Nat} {A : Nat → Prop}
    (hown : s.vm.findClass own = some m.cls) (hcls : Bundle.fit cls = true) (hnames : ∀ n ∈ names, Bundle.fit n = true)
    (hk : (Cond.classLink own ik cls).before args s = true) (hini : (Cond.initialized cls).before args s = true) (hat : ∀ w ∈ vx_at0 own ic cls names, w.before args s = true)
    (hgood : ∀ w ∈ Cond.classLink own ik cls :: Cond.initialized cls :: vx_at0 own ic cls names, vx_ot w = true)
    (hU : vx_Zq Bundle.tN "UNASSIGNED_STACK" Bundle.steD A s s.heap) (hN : vx_Zq Bundle.tN "SUPPRESSED_SENTINEL" Bundle.listD A s s.heap) (hS : va_S A s.heap H locs) (hsize : ls.size = c.maxLocals)
    (d0 : decode cc pc = .ok (.new ik, 3)) (d3 : decode cc (pc + 3) = .ok (.dup, 1)) (d4 : decode cc (pc + 4) = .ok (.invokespecial ic, 3)) (d7 : decode cc (pc + 7) = .ok (.athrow, 1))
    (hout : ∀ x ∈ c.exceptionTable.toList, covers x (pc + 7) = false)
    (hRframes : names.length + 3 < R.frames) (hRlocals : (rest.map fun v => v.category).sum + (13 * (names.length + 1) + 42) ≤ R.locals) (hRcells : cells + 1 ≤ R.cells) (hRslots : slots + 6 ≤ R.slots) (hlocks : meth.locks = false)
    (hx : ∀ t : State, s.vm.Alike t.vm → H.size ≤ t.heap.size → (∀ q : Nat, q < H.size → t.heap[q]? = H[q]?) → XC cls s t)
    (hf : ∀ z ∈ locs, free z.base) (hc : cells + 1 ≤ mc) (hs : slots + 6 ≤ ms) :
    W p l e R s m args below meth c H locs cells slots (vx_MQ below Qc XC args s mc ms free) (F0 m pc ls rest) := by
  intro T hT X
  have htr : e.platform.stackTraces = false := (show e.platform.stackTraces = l.stackTraces by rw [X.admits.platform]).trans hl
  have Y := vx_rebase X (R' := { frames := R.frames, locals := R.locals, cells := 1, slots := 6 }) (Nat.le_refl _) (Nat.le_refl _) hRcells hRslots
  obtain ⟨s', hA⟩ : ∃ z, z = (T.setVm s.vm).setFrames (.invoking m args :: below) := ⟨_, rfl⟩
  rw [← hA] at Y
  have hvm : s'.vm = s.vm := by rw [hA]; rfl
  have hhp : s'.heap = H := by rw [hA]; exact hT
  have hW0 : s.WarmedH s'.vm := by rw [hvm]; exact State.WarmedH.refl s
  have hat' : ∀ w ∈ vx_at0 own ic cls names, w.before args s' = true := fun w hw => vx_ot_at hW0 hvm.symm (hgood w (List.mem_cons_of_mem _ (List.mem_cons_of_mem _ hw))) (hat w hw)
  have hk' : (Cond.classLink own ik cls).before args s' = true := vx_ot_at hW0 hvm.symm (hgood _ List.mem_cons_self) hk
  have hini' : (Cond.initialized cls).before args s' = true := vx_ot_at hW0 hvm.symm (hgood _ (List.mem_cons_of_mem _ List.mem_cons_self)) hini
  have hU' : vx_Zq Bundle.tN "UNASSIGNED_STACK" Bundle.steD A s' s'.heap := by rw [hhp]; exact vx_Zq.moved hW0.alike (hU.kept hS.2.1)
  have hN' : vx_Zq Bundle.tN "SUPPRESSED_SENTINEL" Bundle.listD A s' s'.heap := by rw [hhp]; exact vx_Zq.moved hW0.alike (hN.kept hS.2.1)
  have h : ∀ w ∈ Bundle.ownAtoms0 own ic cls names, w.before args s' = true := vx_own hat' (vx_isRefq hU'.1) (vx_isRefq hN'.1) hU'.2.word hN'.2.word
  have hown' : s'.vm.findClass own = some m.cls := by rw [hvm]; exact hown
  have hins : (Cond.instantiable cls 6).before args s' = true := h _ (by simp [Bundle.ownAtoms0])
  obtain ⟨vm₁, cX, kX, hfX, hkX, -, -, X₁, st1⟩ := Y.newCold hexec (own := own) (C := cls) (index := ik) (n := 6) hown' hk' hins hini'
    (g := F0 m pc ls rest) rfl (by rw [hb]; exact d0) (Nat.le_refl _) (Nat.le_refl _)
  generalize hT1 : (T.setVm vm₁).pushCell { cls := cX, slots := kX.instanceTypes.map defaultValue, vm := .none } = T1 at X₁ st1
  have hcat : (Value.ref T.heap.size).category = 1 := rfl
  have hcellA : T1.heap[T.heap.size]? = some (freshCell cX kX) := by rw [← hT1]; exact State.heap_pushCell_size _ _
  have d3' : decode c.code (pc + 3) = .ok (.dup, 1) := by rw [hb]; exact d3
  obtain ⟨U, hsteps, hrun, hend, hW, hsame, ce, hce, hO⟩ := X₁.ctorThrow0 hexec htr (own := own) (cls := cls) (names := names) (ic := ic) hown' hcls hnames h (fun x hx => nomatch hx) hfX hkX hcellA (by rw [hhp, hT]; exact Nat.le_refl _)
    (g := { method := m, pc := pc + 4, locals := ls, stack := .ref T.heap.size :: .ref T.heap.size :: rest, locked := none }) rfl hsize rfl rfl (rest := rest) rfl
    (by rw [hb]; exact d4) (by rw [hb]; exact d7) hout hRframes (by simp only [List.map_cons, List.sum_cons, hcat]; omega) hlocks
  obtain ⟨f1, f2⟩ := vx_frame hsame
  rw [hhp] at f1 f2
  have hWs : s.WarmedH U.vm := State.WarmedH.trans hW0 hW
  have hcl : s.vm.findClass cls = some ce.cls := by
    have h9 := hO.cls
    rw [hvm] at h9
    exact h9
  have hall : s.sameButNew ({ U with vm := s.vm } : State) locs mc ms := by
    subst hA
    obtain ⟨e1, e2⟩ := hsame
    rw [State.setFrames_setFrames] at e1
    have h2 : (T.setVm s.vm).sameButNew ({ U with vm := s.vm } : State) [] (0 + 1) (0 + 6) := ⟨e1, e2⟩
    have h3 := X.same.trans h2
    rw [List.append_nil] at h3
    exact h3.mono hc hs
  refine ⟨U, ?_, .threw T.heap.size, hrun, hend, Or.inr ⟨T.heap.size, rfl, cls, ce, locs, hx U hWs.alike f1 (fun q hq => f2 q hq (fun z hz => nomatch hz)), hce, hO.vm, hcl, hWs, hall, hf⟩⟩
  refine st1 _ ?_
  show Steps p.tables e below (T1.setTop { method := m, pc := pc + 3, locals := ls, stack := .ref T.heap.size :: rest, locked := none }) _
  jvm_step X₁.here [X₁.here.top, hexec, d3', Value.category]
  exact hsteps
/-- 'throw new E("text")': new; dup; ldc; invokespecial; athrow -/
theorem vx_throwS {cc : ByteArray} {pc : Nat} (hexec : p.tables.exec = Jvm.exec) (hb : c.code = cc) (hl : l.stackTraces = false) {own cls text : String} {names : List String} {ik is ic mc ms sa : Nat} {A : Nat → Prop}
    (hown : s.vm.findClass own = some m.cls) (hcls : Bundle.fit cls = true) (hnames : ∀ n ∈ names, Bundle.fit n = true)
    (hk : (Cond.classLink own ik cls).before args s = true) (hini : (Cond.initialized cls).before args s = true) (hstr : vk_R own is text sa s) (hat : ∀ w ∈ vx_atS own ic cls names, w.before args s = true)
    (hgood : ∀ w ∈ Cond.classLink own ik cls :: Cond.initialized cls :: vx_atS own ic cls names, vx_ot w = true)
    (hU : vx_Zq Bundle.tN "UNASSIGNED_STACK" Bundle.steD A s s.heap) (hN : vx_Zq Bundle.tN "SUPPRESSED_SENTINEL" Bundle.listD A s s.heap) (hS : va_S A s.heap H locs) (hsize : ls.size = c.maxLocals)
    (d0 : decode cc pc = .ok (.new ik, 3)) (d3 : decode cc (pc + 3) = .ok (.dup, 1)) (d4 : decode cc (pc + 4) = .ok (.ldc is, 2)) (d6 : decode cc (pc + 6) = .ok (.invokespecial ic, 3)) (d9 : decode cc (pc + 9) = .ok (.athrow, 1))
    (hout : ∀ x ∈ c.exceptionTable.toList, covers x (pc + 9) = false)
    (hRframes : names.length + 3 < R.frames) (hRlocals : (rest.map fun v => v.category).sum + (13 * (names.length + 1) + 43) ≤ R.locals) (hRcells : cells + 1 ≤ R.cells) (hRslots : slots + 6 ≤ R.slots) (hlocks : meth.locks = false)
    (hx : ∀ t : State, s.vm.Alike t.vm → H.size ≤ t.heap.size → (∀ q : Nat, q < H.size → t.heap[q]? = H[q]?) → XC cls s t)
    (hf : ∀ z ∈ locs, free z.base) (hc : cells + 1 ≤ mc) (hs : slots + 6 ≤ ms) :
    W p l e R s m args below meth c H locs cells slots (vx_MQ below Qc XC args s mc ms free) (F0 m pc ls rest) := by
  intro T hT X
  have htr : e.platform.stackTraces = false := (show e.platform.stackTraces = l.stackTraces by rw [X.admits.platform]).trans hl
  have Y := vx_rebase X (R' := { frames := R.frames, locals := R.locals, cells := 1, slots := 6 }) (Nat.le_refl _) (Nat.le_refl _) hRcells hRslots
  obtain ⟨s', hA⟩ : ∃ z, z = (T.setVm s.vm).setFrames (.invoking m args :: below) := ⟨_, rfl⟩
  rw [← hA] at Y
  have hvm : s'.vm = s.vm := by rw [hA]; rfl
  have hhp : s'.heap = H := by rw [hA]; exact hT
  have hW0 : s.WarmedH s'.vm := by rw [hvm]; exact State.WarmedH.refl s
  have hat' : ∀ w ∈ vx_atS own ic cls names, w.before args s' = true := fun w hw => vx_ot_at hW0 hvm.symm (hgood w (List.mem_cons_of_mem _ (List.mem_cons_of_mem _ hw))) (hat w hw)
  have hk' : (Cond.classLink own ik cls).before args s' = true := vx_ot_at hW0 hvm.symm (hgood _ List.mem_cons_self) hk
  have hini' : (Cond.initialized cls).before args s' = true := vx_ot_at hW0 hvm.symm (hgood _ (List.mem_cons_of_mem _ List.mem_cons_self)) hini
  have hU' : vx_Zq Bundle.tN "UNASSIGNED_STACK" Bundle.steD A s' s'.heap := by rw [hhp]; exact vx_Zq.moved hW0.alike (hU.kept hS.2.1)
  have hN' : vx_Zq Bundle.tN "SUPPRESSED_SENTINEL" Bundle.listD A s' s'.heap := by rw [hhp]; exact vx_Zq.moved hW0.alike (hN.kept hS.2.1)
  have h : ∀ w ∈ Bundle.ownAtoms own ic cls names, w.before args s' = true := vx_own hat' (vx_isRefq hU'.1) (vx_isRefq hN'.1) hU'.2.word hN'.2.word
  have hown' : s'.vm.findClass own = some m.cls := by rw [hvm]; exact hown
  have hins : (Cond.instantiable cls 6).before args s' = true := h _ (by simp [Bundle.ownAtoms])
  obtain ⟨vm₁, cX, kX, hfX, hkX, -, -, X₁, st1⟩ := Y.newCold hexec (own := own) (C := cls) (index := ik) (n := 6) hown' hk' hins hini'
    (g := F0 m pc ls rest) rfl (by rw [hb]; exact d0) (Nat.le_refl _) (Nat.le_refl _)
  generalize hT1 : (T.setVm vm₁).pushCell { cls := cX, slots := kX.instanceTypes.map defaultValue, vm := .none } = T1 at X₁ st1
  have hcat : (Value.ref T.heap.size).category = 1 := rfl
  have hcellA : T1.heap[T.heap.size]? = some (freshCell cX kX) := by rw [← hT1]; exact State.heap_pushCell_size _ _
  have d3' : decode c.code (pc + 3) = .ok (.dup, 1) := by rw [hb]; exact d3
  have d4' : decode c.code (pc + 4) = .ok (.ldc is, 2) := by rw [hb]; exact d4
  have hstr' : vk_R own is text sa s' := vk_R.warm hW0 hstr
  obtain ⟨U, hsteps, hrun, hend, hW, hsame, ce, hce, hO⟩ := X₁.ctorThrowS hexec htr (own := own) (cls := cls) (names := names) (ic := ic) hown' hcls hnames h (fun x hx => nomatch hx) hfX hkX hcellA (by rw [hhp, hT]; exact Nat.le_refl _) (msg := .ref sa) rfl
    (g := { method := m, pc := pc + 6, locals := ls, stack := .ref sa :: .ref T.heap.size :: .ref T.heap.size :: rest, locked := none }) rfl hsize rfl rfl (rest := rest) rfl
    (by rw [hb]; exact d6) (by rw [hb]; exact d9) hout hRframes (by simp only [List.map_cons, List.sum_cons, hcat]; omega) hlocks
  obtain ⟨f1, f2⟩ := vx_frame hsame
  rw [hhp] at f1 f2
  have hWs : s.WarmedH U.vm := State.WarmedH.trans hW0 hW
  have hcl : s.vm.findClass cls = some ce.cls := by
    have h9 := hO.cls
    rw [hvm] at h9
    exact h9
  have hall : s.sameButNew ({ U with vm := s.vm } : State) locs mc ms := by
    subst hA
    obtain ⟨e1, e2⟩ := hsame
    rw [State.setFrames_setFrames] at e1
    have h2 : (T.setVm s.vm).sameButNew ({ U with vm := s.vm } : State) [] (0 + 1) (0 + 6) := ⟨e1, e2⟩
    have h3 := X.same.trans h2
    rw [List.append_nil] at h3
    exact h3.mono hc hs
  refine ⟨U, ?_, .threw T.heap.size, hrun, hend, Or.inr ⟨T.heap.size, rfl, cls, ce, locs, hx U hWs.alike f1 (fun q hq => f2 q hq (fun z hz => nomatch hz)), hce, hO.vm, hcl, hWs, hall, hf⟩⟩
  refine st1 _ ?_
  show Steps p.tables e below (T1.setTop { method := m, pc := pc + 3, locals := ls, stack := .ref T.heap.size :: rest, locked := none }) _
  jvm_step X₁.here [X₁.here.top, hexec, d3', Value.category]
  exact X₁.ldcString hexec (own := own) (text := text) (index := is) (a := sa) hown' hstr'.1 hstr'.2
    (g := { method := m, pc := pc + 4, locals := ls, stack := .ref T.heap.size :: .ref T.heap.size :: rest, locked := none }) rfl d4' _ hsteps
/-- 'throw new E("text")', the text by a wide index -/
theorem vx_throwSW {cc : ByteArray} {pc : Nat} (hexec : p.tables.exec = Jvm.exec) (hb : c.code = cc) (hl : l.stackTraces = false) {own cls text : String} {names : List String} {ik is ic mc ms sa : Nat} {A : Nat → Prop}
    (hown : s.vm.findClass own = some m.cls) (hcls : Bundle.fit cls = true) (hnames : ∀ n ∈ names, Bundle.fit n = true)
    (hk : (Cond.classLink own ik cls).before args s = true) (hini : (Cond.initialized cls).before args s = true) (hstr : vk_R own is text sa s) (hat : ∀ w ∈ vx_atS own ic cls names, w.before args s = true)
    (hgood : ∀ w ∈ Cond.classLink own ik cls :: Cond.initialized cls :: vx_atS own ic cls names, vx_ot w = true)
    (hU : vx_Zq Bundle.tN "UNASSIGNED_STACK" Bundle.steD A s s.heap) (hN : vx_Zq Bundle.tN "SUPPRESSED_SENTINEL" Bundle.listD A s s.heap) (hS : va_S A s.heap H locs) (hsize : ls.size = c.maxLocals)
    (d0 : decode cc pc = .ok (.new ik, 3)) (d3 : decode cc (pc + 3) = .ok (.dup, 1)) (d4 : decode cc (pc + 4) = .ok (.ldc_w is, 3)) (d7 : decode cc (pc + 7) = .ok (.invokespecial ic, 3)) (d10 : decode cc (pc + 10) = .ok (.athrow, 1))
    (hout : ∀ x ∈ c.exceptionTable.toList, covers x (pc + 10) = false)
    (hRframes : names.length + 3 < R.frames) (hRlocals : (rest.map fun v => v.category).sum + (13 * (names.length + 1) + 43) ≤ R.locals) (hRcells : cells + 1 ≤ R.cells) (hRslots : slots + 6 ≤ R.slots) (hlocks : meth.locks = false)
    (hx : ∀ t : State, s.vm.Alike t.vm → H.size ≤ t.heap.size → (∀ q : Nat, q < H.size → t.heap[q]? = H[q]?) → XC cls s t)
    (hf : ∀ z ∈ locs, free z.base) (hc : cells + 1 ≤ mc) (hs : slots + 6 ≤ ms) :
    W p l e R s m args below meth c H locs cells slots (vx_MQ below Qc XC args s mc ms free) (F0 m pc ls rest) := by
  intro T hT X
  have htr : e.platform.stackTraces = false := (show e.platform.stackTraces = l.stackTraces by rw [X.admits.platform]).trans hl
  have Y := vx_rebase X (R' := { frames := R.frames, locals := R.locals, cells := 1, slots := 6 }) (Nat.le_refl _) (Nat.le_refl _) hRcells hRslots
  obtain ⟨s', hA⟩ : ∃ z, z = (T.setVm s.vm).setFrames (.invoking m args :: below) := ⟨_, rfl⟩
  rw [← hA] at Y
  have hvm : s'.vm = s.vm := by rw [hA]; rfl
  have hhp : s'.heap = H := by rw [hA]; exact hT
  have hW0 : s.WarmedH s'.vm := by rw [hvm]; exact State.WarmedH.refl s
  have hat' : ∀ w ∈ vx_atS own ic cls names, w.before args s' = true := fun w hw => vx_ot_at hW0 hvm.symm (hgood w (List.mem_cons_of_mem _ (List.mem_cons_of_mem _ hw))) (hat w hw)
  have hk' : (Cond.classLink own ik cls).before args s' = true := vx_ot_at hW0 hvm.symm (hgood _ List.mem_cons_self) hk
  have hini' : (Cond.initialized cls).before args s' = true := vx_ot_at hW0 hvm.symm (hgood _ (List.mem_cons_of_mem _ List.mem_cons_self)) hini
  have hU' : vx_Zq Bundle.tN "UNASSIGNED_STACK" Bundle.steD A s' s'.heap := by rw [hhp]; exact vx_Zq.moved hW0.alike (hU.kept hS.2.1)
  have hN' : vx_Zq Bundle.tN "SUPPRESSED_SENTINEL" Bundle.listD A s' s'.heap := by rw [hhp]; exact vx_Zq.moved hW0.alike (hN.kept hS.2.1)
  have h : ∀ w ∈ Bundle.ownAtoms own ic cls names, w.before args s' = true := vx_own hat' (vx_isRefq hU'.1) (vx_isRefq hN'.1) hU'.2.word hN'.2.word
  have hown' : s'.vm.findClass own = some m.cls := by rw [hvm]; exact hown
  have hins : (Cond.instantiable cls 6).before args s' = true := h _ (by simp [Bundle.ownAtoms])
  obtain ⟨vm₁, cX, kX, hfX, hkX, -, -, X₁, st1⟩ := Y.newCold hexec (own := own) (C := cls) (index := ik) (n := 6) hown' hk' hins hini'
    (g := F0 m pc ls rest) rfl (by rw [hb]; exact d0) (Nat.le_refl _) (Nat.le_refl _)
  generalize hT1 : (T.setVm vm₁).pushCell { cls := cX, slots := kX.instanceTypes.map defaultValue, vm := .none } = T1 at X₁ st1
  have hcat : (Value.ref T.heap.size).category = 1 := rfl
  have hcellA : T1.heap[T.heap.size]? = some (freshCell cX kX) := by rw [← hT1]; exact State.heap_pushCell_size _ _
  have d3' : decode c.code (pc + 3) = .ok (.dup, 1) := by rw [hb]; exact d3
  have d4' : decode c.code (pc + 4) = .ok (.ldc_w is, 3) := by rw [hb]; exact d4
  have hstr' : vk_R own is text sa s' := vk_R.warm hW0 hstr
  obtain ⟨U, hsteps, hrun, hend, hW, hsame, ce, hce, hO⟩ := X₁.ctorThrowS hexec htr (own := own) (cls := cls) (names := names) (ic := ic) hown' hcls hnames h (fun x hx => nomatch hx) hfX hkX hcellA (by rw [hhp, hT]; exact Nat.le_refl _) (msg := .ref sa) rfl
    (g := { method := m, pc := pc + 7, locals := ls, stack := .ref sa :: .ref T.heap.size :: .ref T.heap.size :: rest, locked := none }) rfl hsize rfl rfl (rest := rest) rfl
    (by rw [hb]; exact d7) (by rw [hb]; exact d10) hout hRframes (by simp only [List.map_cons, List.sum_cons, hcat]; omega) hlocks
  obtain ⟨f1, f2⟩ := vx_frame hsame
  rw [hhp] at f1 f2
  have hWs : s.WarmedH U.vm := State.WarmedH.trans hW0 hW
  have hcl : s.vm.findClass cls = some ce.cls := by
    have h9 := hO.cls
    rw [hvm] at h9
    exact h9
  have hall : s.sameButNew ({ U with vm := s.vm } : State) locs mc ms := by
    subst hA
    obtain ⟨e1, e2⟩ := hsame
    rw [State.setFrames_setFrames] at e1
    have h2 : (T.setVm s.vm).sameButNew ({ U with vm := s.vm } : State) [] (0 + 1) (0 + 6) := ⟨e1, e2⟩
    have h3 := X.same.trans h2
    rw [List.append_nil] at h3
    exact h3.mono hc hs
  refine ⟨U, ?_, .threw T.heap.size, hrun, hend, Or.inr ⟨T.heap.size, rfl, cls, ce, locs, hx U hWs.alike f1 (fun q hq => f2 q hq (fun z hz => nomatch hz)), hce, hO.vm, hcl, hWs, hall, hf⟩⟩
  refine st1 _ ?_
  show Steps p.tables e below (T1.setTop { method := m, pc := pc + 3, locals := ls, stack := .ref T.heap.size :: rest, locked := none }) _
  jvm_step X₁.here [X₁.here.top, hexec, d3', Value.category]
  exact X₁.ldcStringW hexec (own := own) (text := text) (index := is) (a := sa) hown' hstr'.1 hstr'.2
    (g := { method := m, pc := pc + 4, locals := ls, stack := .ref T.heap.size :: .ref T.heap.size :: rest, locked := none }) rfl d4' _ hsteps
end Ends
section Bodies
variable {l : Launch}
theorem vx_ofW {y : MethodName} {ws ws' : List Cond} {rm : Room} {Pc : Array Value → State → Prop} {Qc : Array Value → State → Outcome → State → Prop} {XC : String → State → State → Prop} {mc ms : Nat} {free : Addr → Prop} {cc : ByteArray} {maxL : Nat} {ret : Option FieldType}
    (hy : plainName y.cls = true) (hw : ws = Cond.code y cc maxL ret :: ws')
    (body : ∀ p e s m args below meth c s₁, BodyLoose p l y (headSpec ws rm) cc maxL ret e s m args below meth c s₁ → c.maxLocals = maxL → (∀ x ∈ c.exceptionTable.toList, False) → Pc args s →
      W p l e (headSpec ws rm).room s m args below meth c s.heap [] 0 0 (vx_MQ below Qc XC args s mc ms free) (entryFrame m args maxL)) : vx_Met l y ws rm Pc Qc XC mc ms free := by
  refine MetFree.of_bodyS (code := cc) (maxLocals := maxL) (ret := ret) hy ?_ ?_
  · intro args s m h hn
    obtain ⟨meth, c, h1, h2, h3, h4, h5, h6, -, -⟩ := Cond.code_spec hn (atoms_spec (ws := ws) h _ (by rw [hw]; exact List.mem_cons_self))
    exact ⟨meth, c, h1, h2, h3, h4, h5, h6⟩
  · intro p e s m args below meth c s₁ B hml hP _
    have hh0 : s₁.heap = s.heap := by rw [B.state]; rfl
    have ht : ∀ x ∈ c.exceptionTable.toList, False := by
      obtain ⟨meth9, c9, h1, h2, -, -, -, -, h7, -⟩ := Cond.code_spec B.named (atoms_spec (ws := ws) B.pre _ (by rw [hw]; exact List.mem_cons_self))
      cases Option.some.inj (h1.symm.trans B.method)
      cases Option.some.inj (h2.symm.trans (Stand.of_body B).code)
      intro x hx
      rw [Array.isEmpty_iff.mp h7] at hx
      cases hx
    obtain ⟨t, a1, o, b1, b2, b3⟩ := body p e s m args below meth c s₁ B hml ht hP s₁ hh0 (Stand.of_body B)
    exact ⟨t, o, a1, b1, b2, b3⟩
/-- the table of a body with handlers -/
theorem vx_table {p : Program} {x y : MethodName} {S : Spec} {cc bytes : ByteArray} {maxL maxL' : Nat} {ret ret' : Option FieldType} {e : Env} {s s₁ : State} {m : MethodId} {args : Array Value} {below : List Frame} {meth : Method} {c : Code} {hh : List (Nat × Nat × Nat × Nat)}
    (B : BodyLoose p l y S cc maxL ret e s m args below meth c s₁) (h : (Cond.codeWith y bytes maxL' ret' hh).before args s = true) : c.exceptionTable.toList = tableOf hh := by
  obtain ⟨m9, meth9, c9, hn9, h1, h2, -, -, h6, -⟩ := Cond.codeWith_spec h
  cases Option.some.inj (hn9.symm.trans B.named)
  cases Option.some.inj (h1.symm.trans B.method)
  cases Option.some.inj (h2.symm.trans (Stand.of_body B).code)
  rw [← h6, table_eq]
end Bodies
end VXA
/-! ===== END ===== -/
/-! ===== BEGIN a static call of a method with an exception table ===== -/
section VXS
variable {p : Program} {l : Launch} {e : Env} {R : Room} {s : State} {m : MethodId} {args : Array Value} {below : List Frame} {meth : Method} {c : Code} {T : State} {H : Heap} {locs : List Loc} {cells slots : Nat}
abbrev vx_CSW (R : Room) (s : State) (args : Array Value) (own : String) (index : Nat) (y : MethodName) (bytes : ByteArray) (maxL : Nat) (ret : Option FieldType) (hh : List (Nat × Nat × Nat × Nat)) (ws : List Cond) (rm : Room) (mc ms n : Nat) : Prop :=
  (rm.cells = mc ∧ rm.slots = ms ∧ rm.frames + 1 ≤ R.frames ∧ 8 + (maxL + 11) + rm.locals ≤ R.locals ∧ (∀ w ∈ ws, ∀ (a' : Array Value) (U : State), s.WarmedH U.vm → w.before a' U = true) ∧ Cond.codeWith y bytes maxL ret hh ∈ ws) ∧
  (Cond.codeWith y bytes maxL ret hh).before args s = true ∧ (Cond.initialized y.cls).before args s = true ∧ (y.cls ≠ "java/lang/invoke/MethodHandle" ∧ y.cls ≠ "java/lang/invoke/VarHandle") ∧
  (∀ sig, parseMethodDescriptor y.desc = some sig → n = sig.parameters.length) ∧ (Cond.methodLink own index y).before args s = true ∧ (Cond.static y).before args s = true
theorem vx_cwSW {own : String} {index maxL mc ms : Nat} {y : MethodName} {bytes : ByteArray} {ret : Option FieldType} {hh : List (Nat × Nat × Nat × Nat)} {Ts ws ws' : List Cond} {rm : Room} (n : Nat) (ht : ∀ w ∈ Ts, w.before args s = true) (hT : GoodIn Ts (va_wsS own index y ws)) (hw : ws = Cond.codeWith y bytes maxL ret hh :: ws') (hrc : rm.cells = mc) (hrs : rm.slots = ms)
    (hd : y.cls ≠ "java/lang/invoke/MethodHandle" ∧ y.cls ≠ "java/lang/invoke/VarHandle" ∧ (parseMethodDescriptor y.desc).map (fun d => d.parameters.length) = some n) (hR : rm.frames + 1 ≤ R.frames ∧ 8 + (maxL + 11) + rm.locals ≤ R.locals) :
    vx_CSW R s args own index y bytes maxL ret hh ws rm mc ms n := by
  have ok : ∀ w ∈ va_wsS own index y ws, w.before args s = true := fun w h => ht w (hT w h).1
  have hG : GoodIn Ts ws := fun w h => hT w (by unfold va_wsS; exact List.mem_append_right _ h)
  have hc : Cond.codeWith y bytes maxL ret hh ∈ ws := by rw [hw]; exact List.mem_cons_self
  refine ⟨⟨hrc, hrs, hR.1, hR.2, pay_in ht hG, hc⟩, ht _ (hG _ hc).1, ok _ (by simp [va_wsS]), ⟨hd.1, hd.2.1⟩, fun sig h => ?_, ok _ (by simp [va_wsS]), ok _ (by simp [va_wsS])⟩
  have h2 := hd.2.2
  rw [h] at h2
  exact (Option.some.inj h2).symm
theorem vx_callSW (X : Stand p l e R s m args below meth c T locs cells slots) (hexec : p.tables.exec = Jvm.exec) {own : String} {index : Nat} {y : MethodName} {bytes : ByteArray} {maxL : Nat} {ret : Option FieldType} {hh : List (Nat × Nat × Nat × Nat)}
    (hown : s.vm.findClass own = some m.cls) (hlink : (Cond.methodLink own index y).before args s = true) (hstat : (Cond.static y).before args s = true) (hinit : (Cond.initialized y.cls).before args s = true)
    (hcode : (Cond.codeWith y bytes maxL ret hh).before args s = true) (hy : y.cls ≠ "java/lang/invoke/MethodHandle" ∧ y.cls ≠ "java/lang/invoke/VarHandle")
    {W9 : Nat} {Pre : Pt → Array Value → Prop} {Post : Pt → Array Value → Option Value → Pt → Prop} (hK : Back l R p e below s args y 3 W9 Pre Post)
    {g : JFrame} (hg : g.method = m) (hsize : g.locals.size = c.maxLocals) {argsL rest : List Value} (hlen : ∀ sig, parseMethodDescriptor y.desc = some sig → argsL.length = sig.parameters.length)
    (hstack : g.stack = argsL.reverse ++ rest) (hW : 2 * g.monitorRoom + (rest.map fun v => v.category).sum ≤ W9) (hdg : decode c.code g.pc = .ok (.invokestatic index, 3))
    (hpre : ∀ vm₁, s.WarmedH vm₁ → Pre ⟨T.setVm vm₁, locs, cells, slots⟩ argsL.toArray) :
    ∃ (v : Option Value) (vm₁ : Vm) (B : Pt), s.WarmedH vm₁ ∧ Stand p l e R s m args below meth c B.U B.locs B.cells B.slots ∧ Post ⟨T.setVm vm₁, locs, cells, slots⟩ argsL.toArray v B ∧
      ∀ target, Steps p.tables e below (B.U.setTop { g with pc := g.pc + 3, stack := v.toList ++ rest }) target → Steps p.tables e below (T.setTop g) target := by
  obtain ⟨mk, methM, cM, hnamed, hmethM, -, -, -, -, -, -, hsigM⟩ := Cond.codeWith_spec hcode
  have hstatic : methM.isStatic = true := Cond.static_spec hnamed hmethM hstat
  obtain ⟨kP, hkP, -⟩ := className_of_methodNamed hnamed
  have hinitP : kP.init = .initialized := Cond.initialized_spec (findClass_of_methodNamed hnamed) hkP hinit
  obtain ⟨vm₁, X₁, hstep₁⟩ := X.invokestatic hexec hown hlink hnamed hmethM hstatic hkP hinitP hy (g := g) hg (argsL := argsL) (rest := rest) (hlen _ hsigM) hstack hdg
  obtain ⟨v, B, X', hpost, hsteps⟩ := hK m meth c ⟨T.setVm vm₁, locs, cells, slots⟩ { g with stack := rest } (.invokestatic index) mk argsL.toArray X₁ hg hsize hdg hW (X₁.named hnamed) (hpre vm₁ X₁.warmed)
  exact ⟨v, vm₁, B, X₁.warmed, X', hpost, fun target h => hstep₁ _ fun acts => by rw [doInvoke_state]; exact hsteps.trans h⟩
theorem vx_runSW {y : MethodName} {bytes cc : ByteArray} {maxL nL mc ms n index : Nat} {ret : Option FieldType} {hh : List (Nat × Nat × Nat × Nat)} {ws : List Cond} {rm : Room} {Pc : Array Value → State → Prop} {Qc : Array Value → State → Outcome → State → Prop} {free : Addr → Prop} {Ts : List Cond} {own : String} {As rest : List Value} {g : JFrame}
    (S : CallFix p m c cc nL s args Ts own) (hM : Met l y ws rm Pc Qc mc ms free) (cw : vx_CSW R s args own index y bytes maxL ret hh ws rm mc ms n) (hp : PreS s H Pc As)
    (hg : g.method = m) (hn : As.length = n) (hsize : g.locals.size = nL) (hstack : g.stack = As.reverse ++ rest) (hW : 2 * g.monitorRoom + (rest.map fun v => v.category).sum ≤ 8) (hdg : decode cc g.pc = .ok (.invokestatic index, 3)) (hf : cells + mc ≤ R.cells ∧ slots + ms ≤ R.slots) :
    va_Run p l e R s m args below meth c H locs cells slots mc ms g rest (Qc As.toArray) (free) := by
  obtain ⟨⟨hrc, hrs, hfr, hlo, hws, hcw⟩, hcode, hini, hy, hlen, hl, hstt⟩ := cw
  have hK : Back l R p e below s args y 3 8 (PreOf R mc ms Pc) (PostOf Qc mc ms free) := va_backW (hh := hh) (bytes := bytes) (maxL := maxL) (ret := ret) hM hp.1 hrc hrs hfr hlo hws hcw (fun a' U hW => word_at hW (Or.inl (by first | rfl | simp [Cond.onTables, Cond.keeps, Cond.steady])) hini)
  obtain ⟨hx, hb, hml, ho, -⟩ := S
  intro T hT X
  obtain ⟨v, vm₁, ⟨U', l2, c2, s2⟩, hW₁, X', ⟨g', mk, t, L, e1, e2, hq, h1, hL, h2, h3⟩, st⟩ := vx_callSW X hx (hh := hh) (bytes := bytes) (maxL := maxL) (ret := ret) ho hl hstt hini hcode hy hK hg (hsize.trans hml.symm) (argsL := As) (rest := rest) (fun sig h => hn.trans (hlen sig h)) hstack hW (by rw [hb]; exact hdg)
    (fun vm₁ hW₁ => ⟨hf.1, hf.2, hp.2 (T.setVm vm₁) hT hW₁⟩)
  dsimp only [Pt.U, Pt.locs, Pt.cells, Pt.slots] at X' e1 e2 h1 h2 h3 st
  subst h1; subst h2; subst h3
  exact ⟨v, (T.setVm vm₁).calling g' mk As.toArray, t, U', L, hT, X', hL, e1, e2, hq, st⟩
/-- not caught here, past rows that name other classes: it goes on to the caller -/
theorem vx_outP {p : Program} {l : Launch} {e : Env} {R : Room} {s : State} {m : MethodId} {args : Array Value} {below : List Frame} {meth : Method} {c : Code} {H : Heap} {locs : List Loc} {cells slots : Nat} {free : Addr → Prop} {ls : Array Slot} {rest : List Value} {Qc : Array Value → State → Outcome → State → Prop} {XC : String → State → State → Prop}
    {pc : Nat} {own E : String} {ce : Cell} {q : Addr} {mc ms : Nat} (hown : s.vm.findClass own = some m.cls) (hlocks : meth.locks = false)
    (hpass : ∀ z ∈ c.exceptionTable.toList, covers z pc = false ∨ (z.catchType ≠ 0 ∧ ∃ nm : String, (Cond.classLink own z.catchType nm).before args s = true ∧ va_Nc E nm s)) (hcell : H[q]? = some ce) (hv : ce.vm = .none) (hcl : s.vm.findClass E = some ce.cls)
    (hx : ∀ t : State, t.heap = H → s.vm.Alike t.vm → XC E s t) (hf : ∀ z ∈ locs, free z.base) (hc : cells ≤ mc) (hs : slots ≤ ms) :
    vx_W p l e R s m args below meth c H locs cells slots (vx_MQ below Qc XC args s mc ms free) (F0 m pc ls rest) q := by
  intro T hT X
  have hpl : e.platform.magicAccessors = ({} : Platform).magicAccessors := by rw [X.admits.platform]
  obtain ⟨vm', hW', X', st⟩ := X.outThrough hlocks q (g := F0 m pc ls rest) rfl rfl rfl (cell := ce) (by rw [hT]; exact hcell) (by rw [hv]; rfl)
    (by obtain ⟨k9, h9, -⟩ := Vm.findClass_spec hcl; exact ⟨k9, h9⟩) (fun z hz => by
      rcases hpass z hz with h | ⟨hz0, nm, hl1, hn1⟩
      · exact Or.inl h
      · obtain ⟨c6, hc6, hcl6⟩ := Cond.classLink_spec hown hl1 e.platform hpl
        obtain ⟨a8, b8, h1, h2, h3⟩ := hn1
        cases Option.some.inj (h1.symm.trans hcl)
        cases Option.some.inj (h2.symm.trans hc6)
        exact Or.inr ⟨hz0, _, hcl6, h3⟩)
  obtain ⟨g₀, hfr⟩ := X'.frames_eq
  have hcell9 : ((T.setVm vm').setFrames (.throwing q :: below)).heap[q]? = some ce := by
    show T.heap[q]? = some ce
    rw [hT]; exact hcell
  have hend : Ended ((T.setVm vm').setFrames (.throwing q :: below)) below (.threw q) := State.frames_setFrames _ (State.cur_lt_of_frames hfr)
  refine ⟨(T.setVm vm').setFrames (.throwing q :: below), ?_, .threw q, X'.here.running, hend, Or.inr ⟨q, rfl, E, ce, locs, hx _ hT (X'.ends _).1.alike, hcell9, hv, hcl, (X'.ends _).1, (X'.ends _).2.mono hc hs, hf⟩⟩
  rw [X.pushThrowing_eq]
  exact st
/-- a thing of a world lies in the heap -/
theorem vx_lt {D : va_G} {cl : List vw_C} {ws : va_W} {H1 : Heap} (h : va_P D cl ws H1) {k : Nat} {q : Nat × va_E} (hk : ws[k]? = some q) : q.1 < H1.size := (h k q hk).lt
end VXS
/-! ===== END ===== -/
/-! ===== BEGIN methods with a table of their own: called by a name, returning or throwing ===== -/
section VXH
/-! vx_backW, vx_callVX, vx_callSX, vx_callVW, vx_runVW, vx_runVX, vx_runSX, vx_ofWH follow the same proofs as their sisters above (Free/Laws.lean, Shelf42/LK1.lean); vx_outP calls Shelf42/NT130.lean (outThrough). -/
section
variable {l : Launch} {R : Room} {p : Program} {e : Env} {below : List Frame} {s : State} {sargs : Array Value} {y : MethodName} {len W9 : Nat}
theorem vx_backW {ws : List Cond} {rm : Room} {Pc : Array Value → State → Prop} {Qc : Array Value → State → Outcome → State → Prop} {XC : String → State → State → Prop} {mc ms : Nat} {free : Addr → Prop} {bytes : ByteArray} {maxL : Nat} {ret : Option FieldType} {hh : List (Nat × Nat × Nat × Nat)}
    (hM : vx_Met l y ws rm Pc Qc XC mc ms free) (hblind : FrameBlind Pc) (hrc : rm.cells = mc) (hrs : rm.slots = ms)
    (hframes : rm.frames + 1 ≤ R.frames) (hlocals : W9 + (maxL + 11) + rm.locals ≤ R.locals)
    (hws : ∀ w ∈ ws, ∀ a' U, s.WarmedH U.vm → w.before a' U = true) (hcode : Cond.codeWith y bytes maxL ret hh ∈ ws) (hinit : ∀ a' U, s.WarmedH U.vm → (Cond.initialized y.cls).before a' U = true) :
    vx_Back l R p e below s sargs y len W9 (PreOf R mc ms Pc) (PostOf Qc mc ms free) (vx_Post XC mc ms free) := by
  intro m meth c A g ig mk a X hg hsize hdg hW hn hp
  have h1 : (headSpec ws rm).pre.before a A.U = true := atoms_intro fun w hw => hws w hw _ _ X.warmed
  have h2 : (Cond.codeWith y bytes maxL ret hh).before a A.U = true := hws _ hcode _ _ X.warmed
  have h3 : (Cond.initialized y.cls).before a A.U = true := hinit _ _ X.warmed
  have h4 : A.cells + (headSpec ws rm).room.cells ≤ R.cells := by rw [show (headSpec ws rm).room.cells = mc from hrc]; exact hp.1
  have h5 : A.slots + (headSpec ws rm).room.slots ≤ R.slots := by rw [show (headSpec ws rm).room.slots = ms from hrs]; exact hp.2.1
  have hPc : Pc a (A.U.calling g mk a) := hblind _ _ _ _ hp.2.2
  obtain ⟨U, Ls, c0, s0⟩ := A
  dsimp only [Pt.U, Pt.locs, Pt.cells, Pt.slots] at h1 h2 h3 h4 h5 X hn hPc ⊢
  obtain ⟨m9, methY, cY, hn9, hmY, hcY, -, hlY, -⟩ := Cond.codeWith_spec h2
  cases Option.some.inj (hn9.symm.trans hn)
  obtain ⟨kY, hkY, -⟩ := className_of_methodNamed hn
  have hinitY : kY.init = .initialized := Cond.initialized_spec (findClass_of_methodNamed hn) hkY h3
  have h : At U g.method c below := by rw [hg]; exact X.here
  have hlocals9 : W9 + (maxL + 11) + (headSpec ws rm).room.locals ≤ R.locals := hlocals
  have happ : (headSpec ws rm).appliesLoose y e.platform (U.calling g mk a) = true :=
    Spec.appliesLoose_calling (g := g) h hdg hn hkY hinitY
      (X.room_calling (g := g) (R' := (headSpec ws rm).room) hsize hmY hcY hframes (by rw [hlY]; omega) h4 h5) h1
  obtain ⟨mid, hmid⟩ := h.above
  have hfr : (U.setTop g).frames = (.java g :: mid) ++ below := by rw [State.frames_setTop' g h.top, hmid]; rfl
  obtain ⟨o, s₂, hsteps, -, hend, hq⟩ := Steps.callFree hM p X.admits X.cas X.clock (acts := []) hfr happ hPc trivial
  have hq' : vx_Q Qc XC mc ms free a (U.calling g mk a) o s₂ := hq
  rw [State.frames_setTop' g h.top] at hend
  obtain ⟨g₀, hg0⟩ := Option.isSome_iff_exists.mp h.top
  obtain ⟨r, hr⟩ := State.topJava?_eq_some.mp hg0
  have hr' : (({ U with heap := s₂.heap, slotsUsed := s₂.slotsUsed } : State).setVm s₂.vm).frames = .java g₀ :: r := hr
  rcases hq' with ⟨hqc, L, hfe, hL⟩ | ⟨q, rfl, E, ce, L, hx, hce, hcv, hcl, hW₂, hsm, hL⟩
  · obtain ⟨⟨v, rfl⟩, hW₂, e2, q2, q3, q4, q5, q6⟩ := id hfe
    have e3 : s₂ = ({ (U.calling g mk a).setFrames s₂.frames with heap := s₂.heap, slotsUsed := s₂.slotsUsed } : State).setVm s₂.vm := by
      have : s₂ = ({ s₂ with vm := (U.calling g mk a).vm } : State).setVm s₂.vm := rfl
      rw [e2] at this
      exact this
    obtain ⟨c₂, i₂, len₂, hc₂, hd₂, hf₂⟩ := hend
    have hW' : U.WarmedH s₂.vm := hW₂
    have hcc : c₂ = c := by
      have h1 : s₂.code? g.method = U.code? g.method := by
        rw [State.code?_eq, State.code?_eq, hW'.alike.method?]
      exact Option.some.inj (hc₂.symm.trans (h1.trans h.code))
    subst hcc
    have hlen : len₂ = len := by rw [hdg] at hd₂; cases hd₂; rfl
    subst hlen
    have hs₂ : s₂ = (({ U with heap := s₂.heap, slotsUsed := s₂.slotsUsed } : State).setVm s₂.vm).setTop { g with pc := g.pc + len₂, stack := v.toList ++ g.stack } := by
      refine e3.trans ?_
      rw [hf₂, State.calling_eq h.top, State.setFrames_setFrames, State.setTop_of_frames _ hr', hr]
      rfl
    have hsame : U.sameButNew ({ U with heap := s₂.heap, slotsUsed := s₂.slotsUsed } : State) L mc ms := by
      refine ⟨?_, q2, q3, q4, q5, q6⟩
      obtain ⟨t, ht, -⟩ := State.frames_cons hr
      show ({ U with heap := s₂.heap, slotsUsed := s₂.slotsUsed } : State) = { U.setFrames U.frames with heap := s₂.heap, slotsUsed := s₂.slotsUsed }
      rw [State.setFrames_self ht]
    subst hg
    refine Or.inl ⟨v, ⟨(({ U with heap := s₂.heap, slotsUsed := s₂.slotsUsed } : State).setVm s₂.vm), Ls ++ L, c0 + mc, s0 + ms⟩,
      ⟨X.admits, X.cas, X.clock, X.frames, X.room, X.hears, X.method, X.code, (X.here.setHeapUsed s₂.heap s₂.slotsUsed).setVm hW'.alike, X.tail, State.WarmedH.trans X.warmed hW', X.limits, X.bytes, X.same.trans (hsame.setVm s.vm)⟩,
      ⟨g, mk, s₂, L, rfl, rfl, hqc, rfl, hL, rfl, rfl⟩, ?_⟩
    show Steps p.tables e below _ ((({ U with heap := s₂.heap, slotsUsed := s₂.slotsUsed } : State).setVm s₂.vm).setTop { g with pc := g.pc + len₂, stack := v.toList ++ g.stack })
    rw [← hs₂]
    exact hsteps
  · obtain ⟨e2, q2, q3, q4, q5, q6⟩ := id hsm
    have e3 : s₂ = ({ (U.calling g mk a).setFrames s₂.frames with heap := s₂.heap, slotsUsed := s₂.slotsUsed } : State).setVm s₂.vm := by
      have : s₂ = ({ s₂ with vm := (U.calling g mk a).vm } : State).setVm s₂.vm := rfl
      rw [e2] at this
      exact this
    have hf₂ : s₂.frames = .throwing q :: .java g :: U.frames.tail := hend
    have hW' : U.WarmedH s₂.vm := hW₂
    have hs₂ : s₂ = ((({ U with heap := s₂.heap, slotsUsed := s₂.slotsUsed } : State).setVm s₂.vm).setTop g).pushFrame (.throwing q) := by
      refine e3.trans ?_
      rw [hf₂, State.calling_eq h.top, State.setFrames_setFrames, State.pushFrame, State.frames_setTop _ hr', State.setTop_of_frames _ hr', State.setFrames_setFrames, hr]
      rfl
    have hsame : U.sameButNew ({ U with heap := s₂.heap, slotsUsed := s₂.slotsUsed } : State) L mc ms := by
      refine ⟨?_, q2, q3, q4, q5, q6⟩
      obtain ⟨t, ht, -⟩ := State.frames_cons hr
      show ({ U with heap := s₂.heap, slotsUsed := s₂.slotsUsed } : State) = { U.setFrames U.frames with heap := s₂.heap, slotsUsed := s₂.slotsUsed }
      rw [State.setFrames_self ht]
    subst hg
    refine Or.inr ⟨q, ⟨(({ U with heap := s₂.heap, slotsUsed := s₂.slotsUsed } : State).setVm s₂.vm), Ls ++ L, c0 + mc, s0 + ms⟩,
      ⟨X.admits, X.cas, X.clock, X.frames, X.room, X.hears, X.method, X.code, (X.here.setHeapUsed s₂.heap s₂.slotsUsed).setVm hW'.alike, X.tail, State.WarmedH.trans X.warmed hW', X.limits, X.bytes, X.same.trans (hsame.setVm s.vm)⟩,
      ⟨g, mk, s₂, L, E, ce, rfl, rfl, hx, hce, hcv, hcl, rfl, hL, rfl, rfl⟩, ?_⟩
    show Steps p.tables e below _ (((({ U with heap := s₂.heap, slotsUsed := s₂.slotsUsed } : State).setVm s₂.vm).setTop g).pushFrame (.throwing q))
    rw [← hs₂]
    exact hsteps
end
variable {p : Program} {l : Launch} {e : Env} {R : Room} {s : State} {m : MethodId} {args : Array Value} {below : List Frame} {meth : Method} {c : Code} {T : State} {H : Heap} {locs : List Loc} {cells slots : Nat}
theorem vx_callVX (X : Stand p l e R s m args below meth c T locs cells slots) (hexec : p.tables.exec = Jvm.exec) {own C : String} {index : Nat} {y : MethodName} {bytes : ByteArray} {maxL : Nat} {ret : Option FieldType} {hh : List (Nat × Nat × Nat × Nat)}
    (hown : s.vm.findClass own = some m.cls) (hlink : (Cond.methodLink own index y).before args s = true) (hinst : (Cond.instanceMethod y).before args s = true) (hsel : (Cond.selects C y y).before args s = true)
    (hcode : (Cond.codeWith y bytes maxL ret hh).before args s = true) (hy : y.cls ≠ "java/lang/invoke/MethodHandle" ∧ y.cls ≠ "java/lang/invoke/VarHandle")
    {W9 : Nat} {Pre : Pt → Array Value → Prop} {Post : Pt → Array Value → Option Value → Pt → Prop} {PostX : Pt → Array Value → Addr → Pt → Prop} (hK : vx_Back l R p e below s args y 3 W9 Pre Post PostX)
    {b : Addr} {cellB : Cell} (hcell : T.heap[b]? = some cellB) (hobj : cellB.vm.isStatics = false) (hcls : s.vm.findClass C = some cellB.cls)
    {g : JFrame} (hg : g.method = m) (hsize : g.locals.size = c.maxLocals) {argsL rest : List Value} (hlen : ∀ sig, parseMethodDescriptor y.desc = some sig → argsL.length = sig.parameters.length)
    (hstack : g.stack = argsL.reverse ++ .ref b :: rest) (hW : 2 * g.monitorRoom + (rest.map fun v => v.category).sum ≤ W9) (hdg : decode c.code g.pc = .ok (.invokevirtual index, 3))
    (hpre : ∀ vm₁, s.WarmedH vm₁ → Pre ⟨T.setVm vm₁, locs, cells, slots⟩ (Value.ref b :: argsL).toArray) :
    (∃ (v : Option Value) (vm₁ : Vm) (B : Pt), s.WarmedH vm₁ ∧ Stand p l e R s m args below meth c B.U B.locs B.cells B.slots ∧ Post ⟨T.setVm vm₁, locs, cells, slots⟩ (Value.ref b :: argsL).toArray v B ∧
      ∀ target, Steps p.tables e below (B.U.setTop { g with pc := g.pc + 3, stack := v.toList ++ rest }) target → Steps p.tables e below (T.setTop g) target) ∨
    (∃ (q : Addr) (vm₁ : Vm) (B : Pt), s.WarmedH vm₁ ∧ Stand p l e R s m args below meth c B.U B.locs B.cells B.slots ∧ PostX ⟨T.setVm vm₁, locs, cells, slots⟩ (Value.ref b :: argsL).toArray q B ∧
      Steps p.tables e below (T.setTop g) ((B.U.setTop { g with stack := rest }).pushFrame (.throwing q))) := by
  obtain ⟨mk, methM, hnamed, hmethM, hstM, habM⟩ := Cond.instanceMethod_spec hinst
  obtain ⟨m8, methM', cM, hn8, hmethM', -, -, -, -, -, -, hsigM⟩ := Cond.codeWith_spec hcode
  cases Option.some.inj (hn8.symm.trans hnamed)
  cases hmethM.symm.trans hmethM'
  obtain ⟨c2, r2, m2, q1, q2, q3, q4, kP, hkP, hkPi⟩ := Cond.selects_spec hsel
  cases hcls.symm.trans q1
  cases (State.methodFound?_of_named hnamed hy).symm.trans q2
  cases hnamed.symm.trans q3
  have hselP : selectMethod e.platform s.vm cellB.cls mk = .method mk := by rw [Launch.admits_selectMethod X.admits]; exact q4
  obtain ⟨vm₁, X₁, hstep₁⟩ := X.invokevirtual hexec hown hlink hnamed hmethM hstM hkP hkPi hy (a := b) (cell := cellB) hcell
    (fun z h => by rw [h] at hobj; cases hobj) hselP hmethM habM hkP hkPi (g := g) hg (argsL := argsL) (rest := rest) (hlen _ hsigM) hstack hdg
  rcases hK m meth c ⟨T.setVm vm₁, locs, cells, slots⟩ { g with stack := rest } (.invokevirtual index) mk (Value.ref b :: argsL).toArray X₁ hg hsize hdg hW (X₁.named hnamed) (hpre vm₁ X₁.warmed) with ⟨v, B, X', hpost, hsteps⟩ | ⟨q, B, X', hpost, hsteps⟩
  · exact Or.inl ⟨v, vm₁, B, X₁.warmed, X', hpost, fun target h => hstep₁ _ fun acts => by rw [doInvoke_state]; exact hsteps.trans h⟩
  · exact Or.inr ⟨q, vm₁, B, X₁.warmed, X', hpost, hstep₁ _ fun acts => by rw [doInvoke_state]; exact hsteps⟩
theorem vx_callSX (X : Stand p l e R s m args below meth c T locs cells slots) (hexec : p.tables.exec = Jvm.exec) {own : String} {index : Nat} {y : MethodName} {bytes : ByteArray} {maxL : Nat} {ret : Option FieldType} {hh : List (Nat × Nat × Nat × Nat)}
    (hown : s.vm.findClass own = some m.cls) (hlink : (Cond.methodLink own index y).before args s = true) (hstat : (Cond.static y).before args s = true) (hinit : (Cond.initialized y.cls).before args s = true)
    (hcode : (Cond.codeWith y bytes maxL ret hh).before args s = true) (hy : y.cls ≠ "java/lang/invoke/MethodHandle" ∧ y.cls ≠ "java/lang/invoke/VarHandle")
    {W9 : Nat} {Pre : Pt → Array Value → Prop} {Post : Pt → Array Value → Option Value → Pt → Prop} {PostX : Pt → Array Value → Addr → Pt → Prop} (hK : vx_Back l R p e below s args y 3 W9 Pre Post PostX)
    {g : JFrame} (hg : g.method = m) (hsize : g.locals.size = c.maxLocals) {argsL rest : List Value} (hlen : ∀ sig, parseMethodDescriptor y.desc = some sig → argsL.length = sig.parameters.length)
    (hstack : g.stack = argsL.reverse ++ rest) (hW : 2 * g.monitorRoom + (rest.map fun v => v.category).sum ≤ W9) (hdg : decode c.code g.pc = .ok (.invokestatic index, 3))
    (hpre : ∀ vm₁, s.WarmedH vm₁ → Pre ⟨T.setVm vm₁, locs, cells, slots⟩ argsL.toArray) :
    (∃ (v : Option Value) (vm₁ : Vm) (B : Pt), s.WarmedH vm₁ ∧ Stand p l e R s m args below meth c B.U B.locs B.cells B.slots ∧ Post ⟨T.setVm vm₁, locs, cells, slots⟩ argsL.toArray v B ∧
      ∀ target, Steps p.tables e below (B.U.setTop { g with pc := g.pc + 3, stack := v.toList ++ rest }) target → Steps p.tables e below (T.setTop g) target) ∨
    (∃ (q : Addr) (vm₁ : Vm) (B : Pt), s.WarmedH vm₁ ∧ Stand p l e R s m args below meth c B.U B.locs B.cells B.slots ∧ PostX ⟨T.setVm vm₁, locs, cells, slots⟩ argsL.toArray q B ∧
      Steps p.tables e below (T.setTop g) ((B.U.setTop { g with stack := rest }).pushFrame (.throwing q))) := by
  obtain ⟨mk, methM, cM, hnamed, hmethM, -, -, -, -, -, -, hsigM⟩ := Cond.codeWith_spec hcode
  have hstatic : methM.isStatic = true := Cond.static_spec hnamed hmethM hstat
  obtain ⟨kP, hkP, -⟩ := className_of_methodNamed hnamed
  have hinitP : kP.init = .initialized := Cond.initialized_spec (findClass_of_methodNamed hnamed) hkP hinit
  obtain ⟨vm₁, X₁, hstep₁⟩ := X.invokestatic hexec hown hlink hnamed hmethM hstatic hkP hinitP hy (g := g) hg (argsL := argsL) (rest := rest) (hlen _ hsigM) hstack hdg
  rcases hK m meth c ⟨T.setVm vm₁, locs, cells, slots⟩ { g with stack := rest } (.invokestatic index) mk argsL.toArray X₁ hg hsize hdg hW (X₁.named hnamed) (hpre vm₁ X₁.warmed) with ⟨v, B, X', hpost, hsteps⟩ | ⟨q, B, X', hpost, hsteps⟩
  · exact Or.inl ⟨v, vm₁, B, X₁.warmed, X', hpost, fun target h => hstep₁ _ fun acts => by rw [doInvoke_state]; exact hsteps.trans h⟩
  · exact Or.inr ⟨q, vm₁, B, X₁.warmed, X', hpost, hstep₁ _ fun acts => by rw [doInvoke_state]; exact hsteps⟩
theorem vx_callVW (X : Stand p l e R s m args below meth c T locs cells slots) (hexec : p.tables.exec = Jvm.exec) {own C : String} {index : Nat} {y : MethodName} {bytes : ByteArray} {maxL : Nat} {ret : Option FieldType} {hh : List (Nat × Nat × Nat × Nat)}
    (hown : s.vm.findClass own = some m.cls) (hlink : (Cond.methodLink own index y).before args s = true) (hinst : (Cond.instanceMethod y).before args s = true) (hsel : (Cond.selects C y y).before args s = true)
    (hcode : (Cond.codeWith y bytes maxL ret hh).before args s = true) (hy : y.cls ≠ "java/lang/invoke/MethodHandle" ∧ y.cls ≠ "java/lang/invoke/VarHandle")
    {W9 : Nat} {Pre : Pt → Array Value → Prop} {Post : Pt → Array Value → Option Value → Pt → Prop} (hK : Back l R p e below s args y 3 W9 Pre Post)
    {b : Addr} {cellB : Cell} (hcell : T.heap[b]? = some cellB) (hobj : cellB.vm.isStatics = false) (hcls : s.vm.findClass C = some cellB.cls)
    {g : JFrame} (hg : g.method = m) (hsize : g.locals.size = c.maxLocals) {argsL rest : List Value} (hlen : ∀ sig, parseMethodDescriptor y.desc = some sig → argsL.length = sig.parameters.length)
    (hstack : g.stack = argsL.reverse ++ .ref b :: rest) (hW : 2 * g.monitorRoom + (rest.map fun v => v.category).sum ≤ W9) (hdg : decode c.code g.pc = .ok (.invokevirtual index, 3))
    (hpre : ∀ vm₁, s.WarmedH vm₁ → Pre ⟨T.setVm vm₁, locs, cells, slots⟩ (Value.ref b :: argsL).toArray) :
    ∃ (v : Option Value) (vm₁ : Vm) (B : Pt), s.WarmedH vm₁ ∧ Stand p l e R s m args below meth c B.U B.locs B.cells B.slots ∧ Post ⟨T.setVm vm₁, locs, cells, slots⟩ (Value.ref b :: argsL).toArray v B ∧
      ∀ target, Steps p.tables e below (B.U.setTop { g with pc := g.pc + 3, stack := v.toList ++ rest }) target → Steps p.tables e below (T.setTop g) target := by
  obtain ⟨mk, methM, hnamed, hmethM, hstM, habM⟩ := Cond.instanceMethod_spec hinst
  obtain ⟨m8, methM', cM, hn8, hmethM', -, -, -, -, -, -, hsigM⟩ := Cond.codeWith_spec hcode
  cases Option.some.inj (hn8.symm.trans hnamed)
  cases hmethM.symm.trans hmethM'
  obtain ⟨c2, r2, m2, q1, q2, q3, q4, kP, hkP, hkPi⟩ := Cond.selects_spec hsel
  cases hcls.symm.trans q1
  cases (State.methodFound?_of_named hnamed hy).symm.trans q2
  cases hnamed.symm.trans q3
  have hselP : selectMethod e.platform s.vm cellB.cls mk = .method mk := by rw [Launch.admits_selectMethod X.admits]; exact q4
  obtain ⟨vm₁, X₁, hstep₁⟩ := X.invokevirtual hexec hown hlink hnamed hmethM hstM hkP hkPi hy (a := b) (cell := cellB) hcell
    (fun z h => by rw [h] at hobj; cases hobj) hselP hmethM habM hkP hkPi (g := g) hg (argsL := argsL) (rest := rest) (hlen _ hsigM) hstack hdg
  obtain ⟨v, B, X', hpost, hsteps⟩ := hK m meth c ⟨T.setVm vm₁, locs, cells, slots⟩ { g with stack := rest } (.invokevirtual index) mk (Value.ref b :: argsL).toArray X₁ hg hsize hdg hW (X₁.named hnamed) (hpre vm₁ X₁.warmed)
  exact ⟨v, vm₁, B, X₁.warmed, X', hpost, fun target h => hstep₁ _ fun acts => by rw [doInvoke_state]; exact hsteps.trans h⟩
abbrev vx_CVW (R : Room) (s : State) (args : Array Value) (own C : String) (index : Nat) (y : MethodName) (bytes : ByteArray) (maxL : Nat) (ret : Option FieldType) (hh : List (Nat × Nat × Nat × Nat)) (ws : List Cond) (rm : Room) (mc ms n : Nat) : Prop :=
  (rm.cells = mc ∧ rm.slots = ms ∧ rm.frames + 1 ≤ R.frames ∧ 8 + (maxL + 11) + rm.locals ≤ R.locals ∧ (∀ w ∈ ws, ∀ (a' : Array Value) (U : State), s.WarmedH U.vm → w.before a' U = true) ∧ Cond.codeWith y bytes maxL ret hh ∈ ws) ∧
  (Cond.codeWith y bytes maxL ret hh).before args s = true ∧ (Cond.initialized y.cls).before args s = true ∧ (y.cls ≠ "java/lang/invoke/MethodHandle" ∧ y.cls ≠ "java/lang/invoke/VarHandle") ∧
  (∀ sig, parseMethodDescriptor y.desc = some sig → n = sig.parameters.length) ∧ (Cond.methodLink own index y).before args s = true ∧ (Cond.instanceMethod y).before args s = true ∧ (Cond.selects C y y).before args s = true
theorem vx_cwVW {own C : String} {index maxL mc ms : Nat} {y : MethodName} {bytes : ByteArray} {ret : Option FieldType} {hh : List (Nat × Nat × Nat × Nat)} {Ts ws ws' : List Cond} {rm : Room} (n : Nat) (ht : ∀ w ∈ Ts, w.before args s = true) (hT : GoodIn Ts (wsV own index C y ws)) (hw : ws = Cond.codeWith y bytes maxL ret hh :: ws') (hrc : rm.cells = mc) (hrs : rm.slots = ms)
    (hd : y.cls = C ∧ y.cls ≠ "java/lang/invoke/MethodHandle" ∧ y.cls ≠ "java/lang/invoke/VarHandle" ∧ (parseMethodDescriptor y.desc).map (fun d => d.parameters.length) = some n) (hR : rm.frames + 1 ≤ R.frames ∧ 8 + (maxL + 11) + rm.locals ≤ R.locals) :
    vx_CVW R s args own C index y bytes maxL ret hh ws rm mc ms n := by
  obtain ⟨hC, hd⟩ := hd
  subst hC
  have ok : ∀ w ∈ wsV own index y.cls y ws, w.before args s = true := fun w h => ht w (hT w h).1
  have hG : GoodIn Ts ws := fun w h => hT w (by unfold wsV; exact List.mem_append_right _ h)
  have hc : Cond.codeWith y bytes maxL ret hh ∈ ws := by rw [hw]; exact List.mem_cons_self
  refine ⟨⟨hrc, hrs, hR.1, hR.2, pay_in ht hG, hc⟩, ht _ (hG _ hc).1, ok _ (by simp [wsV]), ⟨hd.1, hd.2.1⟩, fun sig h => ?_, ok _ (by simp [wsV]), ok _ (by simp [wsV]), ok _ (by simp [wsV])⟩
  have h2 := hd.2.2
  rw [h] at h2
  exact (Option.some.inj h2).symm
theorem vx_runVW {y : MethodName} {bytes cc : ByteArray} {maxL nL mc ms n index : Nat} {ret : Option FieldType} {hh : List (Nat × Nat × Nat × Nat)} {ws : List Cond} {rm : Room} {Pc : Array Value → State → Prop} {Qc : Array Value → State → Outcome → State → Prop} {free : Addr → Prop} {Ts : List Cond} {own C : String} {b : Addr} {As rest : List Value} {g : JFrame}
    (S : CallFix p m c cc nL s args Ts own) (hM : Met l y ws rm Pc Qc mc ms free) (cw : vx_CVW R s args own C index y bytes maxL ret hh ws rm mc ms n) (hp : PreV s H C b Pc As)
    (hg : g.method = m) (hn : As.length = n) (hsize : g.locals.size = nL) (hstack : g.stack = As.reverse ++ .ref b :: rest) (hW : 2 * g.monitorRoom + (rest.map fun v => v.category).sum ≤ 8) (hdg : decode cc g.pc = .ok (.invokevirtual index, 3)) (hf : cells + mc ≤ R.cells ∧ slots + ms ≤ R.slots) :
    va_Run p l e R s m args below meth c H locs cells slots mc ms g rest (Qc (Value.ref b :: As).toArray) free := by
  obtain ⟨⟨hrc, hrs, hfr, hlo, hws, hcw⟩, hcode, hini, hy, hlen, hl, hin, hse⟩ := cw
  have hK : Back l R p e below s args y 3 8 (PreOf R mc ms Pc) (PostOf Qc mc ms free) := va_backW (hh := hh) (bytes := bytes) (maxL := maxL) (ret := ret) hM hp.1 hrc hrs hfr hlo hws hcw (fun a' U hW => word_at hW (Or.inl (by first | rfl | simp [Cond.onTables, Cond.keeps, Cond.steady])) hini)
  obtain ⟨hx, hb, hml, ho, -⟩ := S
  obtain ⟨-, ⟨cellB, hcB, hoB, hclB⟩, hPc⟩ := hp
  intro T hT X
  obtain ⟨v, vm₁, ⟨U', l2, c2, s2⟩, hW₁, X', ⟨g', mk, t, L, e1, e2, hq, h1, hL, h2, h3⟩, st⟩ := vx_callVW X hx (C := C) (hh := hh) (bytes := bytes) (maxL := maxL) (ret := ret) ho hl hin hse hcode hy hK (by rw [hT]; exact hcB) hoB hclB hg (hsize.trans hml.symm) (argsL := As) (rest := rest) (fun sig h => hn.trans (hlen sig h)) hstack hW (by rw [hb]; exact hdg)
    (fun vm₁ hW₁ => ⟨hf.1, hf.2, hPc (T.setVm vm₁) hT hW₁⟩)
  dsimp only [Pt.U, Pt.locs, Pt.cells, Pt.slots] at X' e1 e2 h1 h2 h3 st
  subst h1; subst h2; subst h3
  exact ⟨v, (T.setVm vm₁).calling g' mk (Value.ref b :: As).toArray, t, U', L, hT, X', hL, e1, e2, hq, st⟩
section
variable {y : MethodName} {bytes cc : ByteArray} {maxL nL mc ms n index : Nat} {ret : Option FieldType} {ws : List Cond} {rm : Room} {Pc : Array Value → State → Prop} {Qc : Array Value → State → Outcome → State → Prop} {XC : String → State → State → Prop} {free : Addr → Prop} {Ts : List Cond} {own C : String} {b : Addr} {As rest : List Value} {g : JFrame}
theorem vx_runVX {hh : List (Nat × Nat × Nat × Nat)} (S : CallFix p m c cc nL s args Ts own) (hM : vx_Met l y ws rm Pc Qc XC mc ms free) (cw : vx_CVW R s args own C index y bytes maxL ret hh ws rm mc ms n) (hp : PreV s H C b Pc As)
    (hg : g.method = m) (hn : As.length = n) (hsize : g.locals.size = nL) (hstack : g.stack = As.reverse ++ .ref b :: rest) (hW : 2 * g.monitorRoom + (rest.map fun v => v.category).sum ≤ 8) (hdg : decode cc g.pc = .ok (.invokevirtual index, 3)) (hf : cells + mc ≤ R.cells ∧ slots + ms ≤ R.slots) :
    vx_Run p l e R s m args below meth c H locs cells slots mc ms g rest (Qc (Value.ref b :: As).toArray) XC free := by
  obtain ⟨⟨hrc, hrs, hfr, hlo, hws, hcw⟩, hcode, hini, hy, hlen, hl, hin, hse⟩ := cw
  have hK : vx_Back l R p e below s args y 3 8 (PreOf R mc ms Pc) (PostOf Qc mc ms free) (vx_Post XC mc ms free) := vx_backW (hh := hh) (bytes := bytes) (maxL := maxL) (ret := ret) hM hp.1 hrc hrs hfr hlo hws hcw (fun a' U hW => word_at hW (Or.inl (by first | rfl | simp [Cond.onTables, Cond.keeps, Cond.steady])) hini)
  obtain ⟨hx, hb, hml, ho, -⟩ := S
  obtain ⟨-, ⟨cellB, hcB, hoB, hclB⟩, hPc⟩ := hp
  intro T hT X
  rcases vx_callVX X hx (C := C) (hh := hh) (bytes := bytes) (maxL := maxL) (ret := ret) ho hl hin hse hcode hy hK (by rw [hT]; exact hcB) hoB hclB hg (hsize.trans hml.symm) (argsL := As) (rest := rest) (fun sig h => hn.trans (hlen sig h)) hstack hW (by rw [hb]; exact hdg)
    (fun vm₁ hW₁ => ⟨hf.1, hf.2, hPc (T.setVm vm₁) hT hW₁⟩) with ⟨v, vm₁, ⟨U', l2, c2, s2⟩, hW₁, X', ⟨g', mk, t, L, e1, e2, hq, h1, hL, h2, h3⟩, st⟩ | ⟨q, vm₁, ⟨U', l2, c2, s2⟩, hW₁, X', ⟨g', mk, t, L, E, ce, e1, e2, hq, hce, hcv, hcl, h1, hL, h2, h3⟩, st⟩
  · dsimp only [Pt.U, Pt.locs, Pt.cells, Pt.slots] at X' e1 e2 h1 h2 h3 st
    subst h1; subst h2; subst h3
    exact Or.inl ⟨v, (T.setVm vm₁).calling g' mk (Value.ref b :: As).toArray, t, U', L, hT, X', hL, e1, e2, hq, st⟩
  · dsimp only [Pt.U, Pt.locs, Pt.cells, Pt.slots] at X' e1 e2 h1 h2 h3 st hcl
    subst h1; subst h2; subst h3
    exact Or.inr ⟨q, (T.setVm vm₁).calling g' mk (Value.ref b :: As).toArray, t, U', L, E, ce, hT, X', hL, e1, e2, hq, hce, hcv, vx_cls hW₁ hcl, st⟩
theorem vx_runSX {hh : List (Nat × Nat × Nat × Nat)} (S : CallFix p m c cc nL s args Ts own) (hM : vx_Met l y ws rm Pc Qc XC mc ms free) (cw : vx_CSW R s args own index y bytes maxL ret hh ws rm mc ms n) (hp : PreS s H Pc As)
    (hg : g.method = m) (hn : As.length = n) (hsize : g.locals.size = nL) (hstack : g.stack = As.reverse ++ rest) (hW : 2 * g.monitorRoom + (rest.map fun v => v.category).sum ≤ 8) (hdg : decode cc g.pc = .ok (.invokestatic index, 3)) (hf : cells + mc ≤ R.cells ∧ slots + ms ≤ R.slots) :
    vx_Run p l e R s m args below meth c H locs cells slots mc ms g rest (Qc As.toArray) XC free := by
  obtain ⟨⟨hrc, hrs, hfr, hlo, hws, hcw⟩, hcode, hini, hy, hlen, hl, hstt⟩ := cw
  have hK : vx_Back l R p e below s args y 3 8 (PreOf R mc ms Pc) (PostOf Qc mc ms free) (vx_Post XC mc ms free) := vx_backW (hh := hh) (bytes := bytes) (maxL := maxL) (ret := ret) hM hp.1 hrc hrs hfr hlo hws hcw (fun a' U hW => word_at hW (Or.inl (by first | rfl | simp [Cond.onTables, Cond.keeps, Cond.steady])) hini)
  obtain ⟨hx, hb, hml, ho, -⟩ := S
  intro T hT X
  rcases vx_callSX X hx (hh := hh) (bytes := bytes) (maxL := maxL) (ret := ret) ho hl hstt hini hcode hy hK hg (hsize.trans hml.symm) (argsL := As) (rest := rest) (fun sig h => hn.trans (hlen sig h)) hstack hW (by rw [hb]; exact hdg)
    (fun vm₁ hW₁ => ⟨hf.1, hf.2, hp.2 (T.setVm vm₁) hT hW₁⟩) with ⟨v, vm₁, ⟨U', l2, c2, s2⟩, hW₁, X', ⟨g', mk, t, L, e1, e2, hq, h1, hL, h2, h3⟩, st⟩ | ⟨q, vm₁, ⟨U', l2, c2, s2⟩, hW₁, X', ⟨g', mk, t, L, E, ce, e1, e2, hq, hce, hcv, hcl, h1, hL, h2, h3⟩, st⟩
  · dsimp only [Pt.U, Pt.locs, Pt.cells, Pt.slots] at X' e1 e2 h1 h2 h3 st
    subst h1; subst h2; subst h3
    exact Or.inl ⟨v, (T.setVm vm₁).calling g' mk As.toArray, t, U', L, hT, X', hL, e1, e2, hq, st⟩
  · dsimp only [Pt.U, Pt.locs, Pt.cells, Pt.slots] at X' e1 e2 h1 h2 h3 st hcl
    subst h1; subst h2; subst h3
    exact Or.inr ⟨q, (T.setVm vm₁).calling g' mk As.toArray, t, U', L, E, ce, hT, X', hL, e1, e2, hq, hce, hcv, vx_cls hW₁ hcl, st⟩
end
end VXH
theorem vx_ofWH {l : Launch} {y : MethodName} {ws ws' : List Cond} {rm : Room} {Pc : Array Value → State → Prop} {Qc : Array Value → State → Outcome → State → Prop} {XC : String → State → State → Prop} {mc ms : Nat} {free : Addr → Prop} {cc : ByteArray} {maxL : Nat} {ret : Option FieldType} {hh : List (Nat × Nat × Nat × Nat)}
    (hy : plainName y.cls = true) (hw : ws = Cond.codeWith y cc maxL ret hh :: ws')
    (body : ∀ p e s m args below meth c s₁, BodyLoose p l y (headSpec ws rm) cc maxL ret e s m args below meth c s₁ → c.maxLocals = maxL → Pc args s →
      W p l e (headSpec ws rm).room s m args below meth c s.heap [] 0 0 (vx_MQ below Qc XC args s mc ms free) (entryFrame m args maxL)) : vx_Met l y ws rm Pc Qc XC mc ms free := by
  refine MetFree.of_bodyS (code := cc) (maxLocals := maxL) (ret := ret) hy ?_ ?_
  · intro args s m h hn
    obtain ⟨m9, meth, c, hn9, h1, h2, h3, h4, -, h5, h6, -⟩ := Cond.codeWith_spec (atoms_spec (ws := ws) h _ (by rw [hw]; exact List.mem_cons_self))
    cases hn.symm.trans hn9
    exact ⟨meth, c, h1, h2, h3, h4, h5, h6⟩
  · intro p e s m args below meth c s₁ B hml hP _
    have hh0 : s₁.heap = s.heap := by rw [B.state]; rfl
    obtain ⟨t, a1, o, b1, b2, b3⟩ := body p e s m args below meth c s₁ B hml hP s₁ hh0 (Stand.of_body B)
    exact ⟨t, o, a1, b1, b2, b3⟩
/-! ===== END ===== -/
end
section
def RX0 : String := "RollSync$Archive"
def TX0 : u_T := fun k => match k with
  | 0 => ("RollSync$Archive", "kept", "[LRollSync$Version;", true)
  | 1 => ("RollSync$Archive", "chain", "[I", true)
  | 2 => ("RollSync$Archive", "baseSignature", "LRollSync$Signature;", true)
  | 3 => ("RollSync$Archive", "rebuilt", "LRollSync$Row;", true)
  | 4 => ("RollSync$Archive", "next", "LRollSync$Row;", true)
  | 5 => ("RollSync$Archive", "count", "I", false)
  | 6 => ("RollSync$Archive", "where", "I", false)
  | 7 => ("RollSync$Archive", "away", "I", false)
  | _ => ("RollSync$Archive", "why", "I", false)
def tyX0 : Nat → FieldType := fun k => match k with
  | 0 => .array (.object "RollSync$Version")
  | 1 => .array .int
  | 2 => .object "RollSync$Signature"
  | 3 => .object "RollSync$Row"
  | 4 => .object "RollSync$Row"
  | 5 => .int
  | 6 => .int
  | 7 => .int
  | _ => .int
theorem nmX0 : ∀ a, a < 9 → ∀ b, b < 9 → a ≠ b → (TX0 a).2.1 ≠ (TX0 b).2.1 := by decide +kernel
theorem tyX0_ok : ∀ k, k < 9 → parseFieldDescriptor (TX0 k).2.2.1 = some (tyX0 k) := by decide +kernel
abbrev cX0_init : ByteArray := prog_2_method_1_code
def yX0_init : MethodName := ⟨RX0, "<init>", "()V"⟩
abbrev cX0_addWhole : ByteArray := prog_2_method_2_code
def yX0_addWhole : MethodName := ⟨RX0, "addWhole", "(LRollSync$Row;)I"⟩
abbrev cX0_addResting : ByteArray := prog_2_method_3_code
def yX0_addResting : MethodName := ⟨RX0, "addResting", "(LRollSync$Row;II)I"⟩
abbrev cX0_putTogether : ByteArray := prog_2_method_4_code
def yX0_putTogether : MethodName := ⟨RX0, "putTogether", "(I)V"⟩
abbrev cX0_climb : ByteArray := prog_2_method_5_code
def yX0_climb : MethodName := ⟨RX0, "climb", "(I)V"⟩
abbrev cX0_breakAt : ByteArray := prog_2_method_6_code
def yX0_breakAt : MethodName := ⟨RX0, "breakAt", "(III)V"⟩
def RX1 : String := "RollSync$Chunk"
def TX1 : u_T := fun k => match k with
  | 0 => ("RollSync$Chunk", "bytes", "[I", true)
  | 1 => ("RollSync$Chunk", "size", "I", false)
  | _ => ("RollSync$Chunk", "timesNamed", "I", false)
def tyX1 : Nat → FieldType := fun k => match k with
  | 0 => .array .int
  | 1 => .int
  | _ => .int
theorem nmX1 : ∀ a, a < 3 → ∀ b, b < 3 → a ≠ b → (TX1 a).2.1 ≠ (TX1 b).2.1 := by decide +kernel
theorem tyX1_ok : ∀ k, k < 3 → parseFieldDescriptor (TX1 k).2.2.1 = some (tyX1 k) := by decide +kernel
abbrev cX1_init : ByteArray := prog_3_method_1_code
def yX1_init : MethodName := ⟨RX1, "<init>", "()V"⟩
abbrev cX1_fill : ByteArray := prog_3_method_2_code
def yX1_fill : MethodName := ⟨RX1, "fill", "(LRollSync$Row;II)V"⟩
abbrev cX1_isIn : ByteArray := prog_3_method_3_code
def yX1_isIn : MethodName := ⟨RX1, "isIn", "(LRollSync$Row;II)Z"⟩
def RX2 : String := "RollSync$Delta"
def TX2 : u_T := fun k => match k with
  | 0 => ("RollSync$Delta", "copies", "[Z", true)
  | 1 => ("RollSync$Delta", "starts", "[I", true)
  | 2 => ("RollSync$Delta", "sizes", "[I", true)
  | 3 => ("RollSync$Delta", "compared", "LRollSync$Row;", true)
  | 4 => ("RollSync$Delta", "made", "Z", false)
  | 5 => ("RollSync$Delta", "count", "I", false)
  | 6 => ("RollSync$Delta", "falseAlarms", "I", false)
  | _ => ("RollSync$Delta", "blockBehind", "I", false)
def tyX2 : Nat → FieldType := fun k => match k with
  | 0 => .array .boolean
  | 1 => .array .int
  | 2 => .array .int
  | 3 => .object "RollSync$Row"
  | 4 => .boolean
  | 5 => .int
  | 6 => .int
  | _ => .int
theorem nmX2 : ∀ a, a < 8 → ∀ b, b < 8 → a ≠ b → (TX2 a).2.1 ≠ (TX2 b).2.1 := by decide +kernel
theorem tyX2_ok : ∀ k, k < 8 → parseFieldDescriptor (TX2 k).2.2.1 = some (tyX2 k) := by decide +kernel
abbrev cX2_init : ByteArray := prog_4_method_1_code
def yX2_init : MethodName := ⟨RX2, "<init>", "()V"⟩
abbrev cX2_make : ByteArray := prog_4_method_2_code
def yX2_make : MethodName := ⟨RX2, "make", "(LRollSync$Signature;LRollSync$Row;)V"⟩
abbrev cX2_goOn : ByteArray := prog_4_method_3_code
def yX2_goOn : MethodName := ⟨RX2, "goOn", "(LRollSync$Signature;I)I"⟩
abbrev cX2_matchingBlock : ByteArray := prog_4_method_4_code
def yX2_matchingBlock : MethodName := ⟨RX2, "matchingBlock", "(LRollSync$Signature;II)I"⟩
abbrev cX2_addCopy : ByteArray := prog_4_method_5_code
def yX2_addCopy : MethodName := ⟨RX2, "addCopy", "(III)V"⟩
abbrev cX2_addLiteral : ByteArray := prog_4_method_6_code
def yX2_addLiteral : MethodName := ⟨RX2, "addLiteral", "(I)V"⟩
abbrev cX2_begin : ByteArray := prog_4_method_7_code
def yX2_begin : MethodName := ⟨RX2, "begin", "(ZII)V"⟩
abbrev cX2_price : ByteArray := prog_4_method_8_code
def yX2_price : MethodName := ⟨RX2, "price", "()I"⟩
abbrev cX2_fits : ByteArray := prog_4_method_9_code
def yX2_fits : MethodName := ⟨RX2, "fits", "(LRollSync$Row;)Z"⟩
abbrev cX2_give : ByteArray := prog_4_method_10_code
def yX2_give : MethodName := ⟨RX2, "give", "(LRollSync$Row;LRollSync$Row;)V"⟩
def RX3 : String := "RollSync$Paper"
def TX3 : u_T := fun k => match k with
  | 0 => ("RollSync$Paper", "named", "Ljava/util/ArrayList;", true)
  | _ => ("RollSync$Paper", "stored", "Z", false)
def tyX3 : Nat → FieldType := fun k => match k with
  | 0 => .object "java/util/ArrayList"
  | _ => .boolean
theorem nmX3 : ∀ a, a < 2 → ∀ b, b < 2 → a ≠ b → (TX3 a).2.1 ≠ (TX3 b).2.1 := by decide +kernel
theorem tyX3_ok : ∀ k, k < 2 → parseFieldDescriptor (TX3 k).2.2.1 = some (tyX3 k) := by decide +kernel
abbrev cX3_init : ByteArray := prog_5_method_1_code
def yX3_init : MethodName := ⟨RX3, "<init>", "()V"⟩
abbrev cX3_writeTo : ByteArray := prog_5_method_2_code
def yX3_writeTo : MethodName := ⟨RX3, "writeTo", "(LRollSync$Row;)V"⟩
def RX4 : String := "RollSync$Row"
def TX4 : u_T := fun k => match k with
  | 0 => ("RollSync$Row", "bytes", "[I", true)
  | _ => ("RollSync$Row", "size", "I", false)
def tyX4 : Nat → FieldType := fun k => match k with
  | 0 => .array .int
  | _ => .int
theorem nmX4 : ∀ a, a < 2 → ∀ b, b < 2 → a ≠ b → (TX4 a).2.1 ≠ (TX4 b).2.1 := by decide +kernel
theorem tyX4_ok : ∀ k, k < 2 → parseFieldDescriptor (TX4 k).2.2.1 = some (tyX4 k) := by decide +kernel
abbrev cX4_init : ByteArray := prog_6_method_1_code
def yX4_init : MethodName := ⟨RX4, "<init>", "()V"⟩
abbrev cX4_at : ByteArray := prog_6_method_2_code
def yX4_at : MethodName := ⟨RX4, "at", "(I)I"⟩
abbrev cX4_append : ByteArray := prog_6_method_3_code
def yX4_append : MethodName := ⟨RX4, "append", "(I)V"⟩
abbrev cX4_appendFrom : ByteArray := prog_6_method_4_code
def yX4_appendFrom : MethodName := ⟨RX4, "appendFrom", "(LRollSync$Row;II)V"⟩
abbrev cX4_become : ByteArray := prog_6_method_5_code
def yX4_become : MethodName := ⟨RX4, "become", "(LRollSync$Row;)V"⟩
abbrev cX4_putIn : ByteArray := prog_6_method_6_code
def yX4_putIn : MethodName := ⟨RX4, "putIn", "(II)V"⟩
abbrev cX4_takeOut : ByteArray := prog_6_method_7_code
def yX4_takeOut : MethodName := ⟨RX4, "takeOut", "(II)V"⟩
abbrev cX4_hasBytesOf : ByteArray := prog_6_method_8_code
def yX4_hasBytesOf : MethodName := ⟨RX4, "hasBytesOf", "(LRollSync$Row;)Z"⟩
abbrev cX4_weakSum : ByteArray := prog_6_method_9_code
def yX4_weakSum : MethodName := ⟨RX4, "weakSum", "(III)I"⟩
abbrev cX4_strongSum : ByteArray := prog_6_method_10_code
def yX4_strongSum : MethodName := ⟨RX4, "strongSum", "(II)J"⟩
def RX5 : String := "RollSync$Shelf"
def TX5 : u_T := fun k => match k with
  | 0 => ("RollSync$Shelf", "papers", "[LRollSync$Paper;", true)
  | 1 => ("RollSync$Shelf", "made", "Ljava/util/ArrayList;", true)
  | 2 => ("RollSync$Shelf", "least", "I", false)
  | 3 => ("RollSync$Shelf", "greatest", "I", false)
  | _ => ("RollSync$Shelf", "divisor", "I", false)
def tyX5 : Nat → FieldType := fun k => match k with
  | 0 => .array (.object "RollSync$Paper")
  | 1 => .object "java/util/ArrayList"
  | 2 => .int
  | 3 => .int
  | _ => .int
theorem nmX5 : ∀ a, a < 5 → ∀ b, b < 5 → a ≠ b → (TX5 a).2.1 ≠ (TX5 b).2.1 := by decide +kernel
theorem tyX5_ok : ∀ k, k < 5 → parseFieldDescriptor (TX5 k).2.2.1 = some (tyX5 k) := by decide +kernel
abbrev cX5_init : ByteArray := prog_7_method_1_code
def yX5_init : MethodName := ⟨RX5, "<init>", "()V"⟩
abbrev cX5_lowestFree : ByteArray := prog_7_method_2_code
def yX5_lowestFree : MethodName := ⟨RX5, "lowestFree", "()I"⟩
abbrev cX5_putPaper : ByteArray := prog_7_method_3_code
def yX5_putPaper : MethodName := ⟨RX5, "putPaper", "(ILRollSync$Row;)V"⟩
abbrev cX5_endsBehind : ByteArray := prog_7_method_4_code
def yX5_endsBehind : MethodName := ⟨RX5, "endsBehind", "(LRollSync$Row;II)Z"⟩
abbrev cX5_chunkOf : ByteArray := prog_7_method_5_code
def yX5_chunkOf : MethodName := ⟨RX5, "chunkOf", "(LRollSync$Row;II)LRollSync$Chunk;"⟩
abbrev cX5_dropPaper : ByteArray := prog_7_method_6_code
def yX5_dropPaper : MethodName := ⟨RX5, "dropPaper", "(I)I"⟩
abbrev cX5_countPapers : ByteArray := prog_7_method_7_code
def yX5_countPapers : MethodName := ⟨RX5, "countPapers", "()I"⟩
abbrev cX5_countChunks : ByteArray := prog_7_method_8_code
def yX5_countChunks : MethodName := ⟨RX5, "countChunks", "()I"⟩
abbrev cX5_countBytes : ByteArray := prog_7_method_9_code
def yX5_countBytes : MethodName := ⟨RX5, "countBytes", "()I"⟩
def RX6 : String := "RollSync$Signature"
def TX6 : u_T := fun k => match k with
  | 0 => ("RollSync$Signature", "weakSums", "[I", true)
  | 1 => ("RollSync$Signature", "strongSums", "[J", true)
  | 2 => ("RollSync$Signature", "made", "Z", false)
  | 3 => ("RollSync$Signature", "block", "I", false)
  | 4 => ("RollSync$Signature", "modulus", "I", false)
  | 5 => ("RollSync$Signature", "signedBytes", "I", false)
  | _ => ("RollSync$Signature", "count", "I", false)
def tyX6 : Nat → FieldType := fun k => match k with
  | 0 => .array .int
  | 1 => .array .long
  | 2 => .boolean
  | 3 => .int
  | 4 => .int
  | 5 => .int
  | _ => .int
theorem nmX6 : ∀ a, a < 7 → ∀ b, b < 7 → a ≠ b → (TX6 a).2.1 ≠ (TX6 b).2.1 := by decide +kernel
theorem tyX6_ok : ∀ k, k < 7 → parseFieldDescriptor (TX6 k).2.2.1 = some (tyX6 k) := by decide +kernel
abbrev cX6_init : ByteArray := prog_8_method_1_code
def yX6_init : MethodName := ⟨RX6, "<init>", "()V"⟩
abbrev cX6_make : ByteArray := prog_8_method_2_code
def yX6_make : MethodName := ⟨RX6, "make", "(LRollSync$Row;II)V"⟩
abbrev cX6_sizeOfBlock : ByteArray := prog_8_method_3_code
def yX6_sizeOfBlock : MethodName := ⟨RX6, "sizeOfBlock", "(I)I"⟩
abbrev cX6_windowFor : ByteArray := prog_8_method_4_code
def yX6_windowFor : MethodName := ⟨RX6, "windowFor", "(I)I"⟩
def RX7 : String := "RollSync$Version"
def TX7 : u_T := fun k => match k with
  | 0 => ("RollSync$Version", "whole", "LRollSync$Row;", true)
  | 1 => ("RollSync$Version", "delta", "LRollSync$Delta;", true)
  | 2 => ("RollSync$Version", "kind", "I", false)
  | _ => ("RollSync$Version", "base", "I", false)
def tyX7 : Nat → FieldType := fun k => match k with
  | 0 => .object "RollSync$Row"
  | 1 => .object "RollSync$Delta"
  | 2 => .int
  | _ => .int
theorem nmX7 : ∀ a, a < 4 → ∀ b, b < 4 → a ≠ b → (TX7 a).2.1 ≠ (TX7 b).2.1 := by decide +kernel
theorem tyX7_ok : ∀ k, k < 4 → parseFieldDescriptor (TX7 k).2.2.1 = some (tyX7 k) := by decide +kernel
abbrev cX7_init : ByteArray := prog_9_method_1_code
def yX7_init : MethodName := ⟨RX7, "<init>", "()V"⟩
abbrev cX7_becomeWhole : ByteArray := prog_9_method_2_code
def yX7_becomeWhole : MethodName := ⟨RX7, "becomeWhole", "(LRollSync$Row;)V"⟩
abbrev cX7_holds : ByteArray := prog_9_method_3_code
def yX7_holds : MethodName := ⟨RX7, "holds", "()I"⟩
def RX8 : String := "RollSync"
def TX8 : u_T := fun k => match k with
  | 0 => ("RollSync", "files", "[LRollSync$Row;", true)
  | 1 => ("RollSync", "signatures", "[LRollSync$Signature;", true)
  | 2 => ("RollSync", "deltas", "[LRollSync$Delta;", true)
  | 3 => ("RollSync", "applied", "LRollSync$Row;", true)
  | 4 => ("RollSync", "archive", "LRollSync$Archive;", true)
  | 5 => ("RollSync", "shelf", "LRollSync$Shelf;", true)
  | _ => ("RollSync", "fileCount", "I", false)
def tyX8 : Nat → FieldType := fun k => match k with
  | 0 => .array (.object "RollSync$Row")
  | 1 => .array (.object "RollSync$Signature")
  | 2 => .array (.object "RollSync$Delta")
  | 3 => .object "RollSync$Row"
  | 4 => .object "RollSync$Archive"
  | 5 => .object "RollSync$Shelf"
  | _ => .int
theorem nmX8 : ∀ a, a < 7 → ∀ b, b < 7 → a ≠ b → (TX8 a).2.1 ≠ (TX8 b).2.1 := by decide +kernel
theorem tyX8_ok : ∀ k, k < 7 → parseFieldDescriptor (TX8 k).2.2.1 = some (tyX8 k) := by decide +kernel
abbrev cX8_init : ByteArray := prog_1_method_1_code
def yX8_init : MethodName := ⟨RX8, "<init>", "()V"⟩
abbrev cX8_file : ByteArray := prog_1_method_2_code
def yX8_file : MethodName := ⟨RX8, "file", "()I"⟩
abbrev cX8_add : ByteArray := prog_1_method_3_code
def yX8_add : MethodName := ⟨RX8, "add", "(IIII)I"⟩
abbrev cX8_insert : ByteArray := prog_1_method_4_code
def yX8_insert : MethodName := ⟨RX8, "insert", "(III)I"⟩
abbrev cX8_remove : ByteArray := prog_1_method_5_code
def yX8_remove : MethodName := ⟨RX8, "remove", "(III)I"⟩
abbrev cX8_copy : ByteArray := prog_1_method_6_code
def yX8_copy : MethodName := ⟨RX8, "copy", "(II)V"⟩
abbrev cX8_length : ByteArray := prog_1_method_7_code
def yX8_length : MethodName := ⟨RX8, "length", "(I)I"⟩
abbrev cX8_byteAt : ByteArray := prog_1_method_8_code
def yX8_byteAt : MethodName := ⟨RX8, "byteAt", "(II)I"⟩
abbrev cX8_same : ByteArray := prog_1_method_9_code
def yX8_same : MethodName := ⟨RX8, "same", "(II)Z"⟩
abbrev cX8_sign : ByteArray := prog_1_method_10_code
def yX8_sign : MethodName := ⟨RX8, "sign", "(IIII)I"⟩
abbrev cX8_blocks : ByteArray := prog_1_method_11_code
def yX8_blocks : MethodName := ⟨RX8, "blocks", "(I)I"⟩
abbrev cX8_weak : ByteArray := prog_1_method_12_code
def yX8_weak : MethodName := ⟨RX8, "weak", "(II)I"⟩
abbrev cX8_strong : ByteArray := prog_1_method_13_code
def yX8_strong : MethodName := ⟨RX8, "strong", "(II)J"⟩
abbrev cX8_compare : ByteArray := prog_1_method_14_code
def yX8_compare : MethodName := ⟨RX8, "compare", "(III)I"⟩
abbrev cX8_instructions : ByteArray := prog_1_method_15_code
def yX8_instructions : MethodName := ⟨RX8, "instructions", "(I)I"⟩
abbrev cX8_isCopy : ByteArray := prog_1_method_16_code
def yX8_isCopy : MethodName := ⟨RX8, "isCopy", "(II)Z"⟩
abbrev cX8_startOf : ByteArray := prog_1_method_17_code
def yX8_startOf : MethodName := ⟨RX8, "startOf", "(II)I"⟩
abbrev cX8_bytesOf : ByteArray := prog_1_method_18_code
def yX8_bytesOf : MethodName := ⟨RX8, "bytesOf", "(II)I"⟩
abbrev cX8_cost : ByteArray := prog_1_method_19_code
def yX8_cost : MethodName := ⟨RX8, "cost", "(I)I"⟩
abbrev cX8_alarms : ByteArray := prog_1_method_20_code
def yX8_alarms : MethodName := ⟨RX8, "alarms", "(I)I"⟩
abbrev cX8_apply : ByteArray := prog_1_method_21_code
def yX8_apply : MethodName := ⟨RX8, "apply", "(III)I"⟩
abbrev cX8_keep : ByteArray := prog_1_method_22_code
def yX8_keep : MethodName := ⟨RX8, "keep", "(I)I"⟩
abbrev cX8_keepDelta : ByteArray := prog_1_method_23_code
def yX8_keepDelta : MethodName := ⟨RX8, "keepDelta", "(III)I"⟩
abbrev cX8_lose : ByteArray := prog_1_method_24_code
def yX8_lose : MethodName := ⟨RX8, "lose", "(I)I"⟩
abbrev cX8_replace : ByteArray := prog_1_method_25_code
def yX8_replace : MethodName := ⟨RX8, "replace", "(II)V"⟩
abbrev cX8_rebuild : ByteArray := prog_1_method_26_code
def yX8_rebuild : MethodName := ⟨RX8, "rebuild", "(II)I"⟩
abbrev cX8_versions : ByteArray := prog_1_method_27_code
def yX8_versions : MethodName := ⟨RX8, "versions", "()I"⟩
abbrev cX8_brokenAt : ByteArray := prog_1_method_28_code
def yX8_brokenAt : MethodName := ⟨RX8, "brokenAt", "(I)I"⟩
abbrev cX8_brokenAfter : ByteArray := prog_1_method_29_code
def yX8_brokenAfter : MethodName := ⟨RX8, "brokenAfter", "(I)I"⟩
abbrev cX8_reason : ByteArray := prog_1_method_30_code
def yX8_reason : MethodName := ⟨RX8, "reason", "(I)I"⟩
abbrev cX8_heldBy : ByteArray := prog_1_method_31_code
def yX8_heldBy : MethodName := ⟨RX8, "heldBy", "(I)I"⟩
abbrev cX8_cuts : ByteArray := prog_1_method_32_code
def yX8_cuts : MethodName := ⟨RX8, "cuts", "(III)V"⟩
abbrev cX8_store : ByteArray := prog_1_method_33_code
def yX8_store : MethodName := ⟨RX8, "store", "(I)I"⟩
abbrev cX8_release : ByteArray := prog_1_method_34_code
def yX8_release : MethodName := ⟨RX8, "release", "(I)I"⟩
abbrev cX8_fetch : ByteArray := prog_1_method_35_code
def yX8_fetch : MethodName := ⟨RX8, "fetch", "(II)I"⟩
abbrev cX8_papers : ByteArray := prog_1_method_36_code
def yX8_papers : MethodName := ⟨RX8, "papers", "()I"⟩
abbrev cX8_chunks : ByteArray := prog_1_method_37_code
def yX8_chunks : MethodName := ⟨RX8, "chunks", "()I"⟩
abbrev cX8_heldBytes : ByteArray := prog_1_method_38_code
def yX8_heldBytes : MethodName := ⟨RX8, "heldBytes", "()I"⟩
abbrev cX8_parts : ByteArray := prog_1_method_39_code
def yX8_parts : MethodName := ⟨RX8, "parts", "(I)I"⟩
abbrev cX8_partLength : ByteArray := prog_1_method_40_code
def yX8_partLength : MethodName := ⟨RX8, "partLength", "(II)I"⟩
abbrev cX8_shared : ByteArray := prog_1_method_41_code
def yX8_shared : MethodName := ⟨RX8, "shared", "(II)I"⟩
abbrev cX8_checkIndex : ByteArray := prog_1_method_42_code
def yX8_checkIndex : MethodName := ⟨RX8, "checkIndex", "(II)V"⟩
abbrev cX8_checkRange : ByteArray := prog_1_method_43_code
def yX8_checkRange : MethodName := ⟨RX8, "checkRange", "(III)V"⟩
abbrev cX8_checkFile : ByteArray := prog_1_method_44_code
def yX8_checkFile : MethodName := ⟨RX8, "checkFile", "(I)V"⟩
abbrev cX8_checkBlock : ByteArray := prog_1_method_45_code
def yX8_checkBlock : MethodName := ⟨RX8, "checkBlock", "(II)V"⟩
abbrev cX8_checkInstruction : ByteArray := prog_1_method_46_code
def yX8_checkInstruction : MethodName := ⟨RX8, "checkInstruction", "(II)V"⟩
abbrev cX8_checkPaper : ByteArray := prog_1_method_47_code
def yX8_checkPaper : MethodName := ⟨RX8, "checkPaper", "(I)V"⟩
abbrev cX8_checkRoomForVersion : ByteArray := prog_1_method_48_code
def yX8_checkRoomForVersion : MethodName := ⟨RX8, "checkRoomForVersion", "()V"⟩
abbrev cX8_checkNotBroken : ByteArray := prog_1_method_49_code
def yX8_checkNotBroken : MethodName := ⟨RX8, "checkNotBroken", "(I)V"⟩
def RX9 : String := "RollSyncModel"
def TX9 : u_T := fun k => match k with
  | 0 => ("RollSyncModel", "files", "I", false)
  | 1 => ("RollSyncModel", "length", "[I", true)
  | 2 => ("RollSyncModel", "bytes", "[I", true)
  | 3 => ("RollSyncModel", "blockLength", "[I", true)
  | 4 => ("RollSyncModel", "modulus", "[I", true)
  | 5 => ("RollSyncModel", "signed", "[I", true)
  | 6 => ("RollSyncModel", "blocks", "[I", true)
  | 7 => ("RollSyncModel", "weakRow", "[I", true)
  | 8 => ("RollSyncModel", "strongRow", "[J", true)
  | 9 => ("RollSyncModel", "has", "[Z", true)
  | 10 => ("RollSyncModel", "instructions", "[I", true)
  | 11 => ("RollSyncModel", "alarms", "[I", true)
  | 12 => ("RollSyncModel", "copies", "[Z", true)
  | 13 => ("RollSyncModel", "start", "[I", true)
  | 14 => ("RollSyncModel", "many", "[I", true)
  | 15 => ("RollSyncModel", "compared", "[I", true)
  | 16 => ("RollSyncModel", "versions", "I", false)
  | 17 => ("RollSyncModel", "kind", "[I", true)
  | 18 => ("RollSyncModel", "base", "[I", true)
  | 19 => ("RollSyncModel", "versionLength", "[I", true)
  | 20 => ("RollSyncModel", "versionBytes", "[I", true)
  | 21 => ("RollSyncModel", "chain", "[I", true)
  | 22 => ("RollSyncModel", "brokenAt", "I", false)
  | 23 => ("RollSyncModel", "brokenAfter", "I", false)
  | 24 => ("RollSyncModel", "reason", "I", false)
  | 25 => ("RollSyncModel", "made", "[I", true)
  | 26 => ("RollSyncModel", "madeLength", "I", false)
  | 27 => ("RollSyncModel", "next", "[I", true)
  | 28 => ("RollSyncModel", "least", "I", false)
  | 29 => ("RollSyncModel", "greatest", "I", false)
  | 30 => ("RollSyncModel", "divisor", "I", false)
  | 31 => ("RollSyncModel", "isPaper", "[Z", true)
  | 32 => ("RollSyncModel", "parts", "[I", true)
  | 33 => ("RollSyncModel", "partLength", "[I", true)
  | 34 => ("RollSyncModel", "paperBytes", "[I", true)
  | _ => ("RollSyncModel", "thrown", "I", false)
def tyX9 : Nat → FieldType := fun k => match k with
  | 0 => .int
  | 1 => .array .int
  | 2 => .array .int
  | 3 => .array .int
  | 4 => .array .int
  | 5 => .array .int
  | 6 => .array .int
  | 7 => .array .int
  | 8 => .array .long
  | 9 => .array .boolean
  | 10 => .array .int
  | 11 => .array .int
  | 12 => .array .boolean
  | 13 => .array .int
  | 14 => .array .int
  | 15 => .array .int
  | 16 => .int
  | 17 => .array .int
  | 18 => .array .int
  | 19 => .array .int
  | 20 => .array .int
  | 21 => .array .int
  | 22 => .int
  | 23 => .int
  | 24 => .int
  | 25 => .array .int
  | 26 => .int
  | 27 => .array .int
  | 28 => .int
  | 29 => .int
  | 30 => .int
  | 31 => .array .boolean
  | 32 => .array .int
  | 33 => .array .int
  | 34 => .array .int
  | _ => .int
theorem nmX9 : ∀ a, a < 36 → ∀ b, b < 36 → a ≠ b → (TX9 a).2.1 ≠ (TX9 b).2.1 := by decide +kernel
theorem tyX9_ok : ∀ k, k < 36 → parseFieldDescriptor (TX9 k).2.2.1 = some (tyX9 k) := by decide +kernel
abbrev cX9_init : ByteArray := prog_11_method_1_code
def yX9_init : MethodName := ⟨RX9, "<init>", "()V"⟩
abbrev cX9_thrown : ByteArray := prog_11_method_2_code
def yX9_thrown : MethodName := ⟨RX9, "thrown", "()I"⟩
abbrev cX9_may : ByteArray := prog_11_method_3_code
def yX9_may : MethodName := ⟨RX9, "may", "(Z)Z"⟩
abbrev cX9_mayBoth : ByteArray := prog_11_method_4_code
def yX9_mayBoth : MethodName := ⟨RX9, "mayBoth", "(ZZ)Z"⟩
abbrev cX9_mayAll : ByteArray := prog_11_method_5_code
def yX9_mayAll : MethodName := ⟨RX9, "mayAll", "(ZZZ)Z"⟩
abbrev cX9_isFile : ByteArray := prog_11_method_6_code
def yX9_isFile : MethodName := ⟨RX9, "isFile", "(I)Z"⟩
abbrev cX9_isPlace : ByteArray := prog_11_method_7_code
def yX9_isPlace : MethodName := ⟨RX9, "isPlace", "(I)Z"⟩
abbrev cX9_isByte : ByteArray := prog_11_method_8_code
def yX9_isByte : MethodName := ⟨RX9, "isByte", "(I)Z"⟩
abbrev cX9_file : ByteArray := prog_11_method_9_code
def yX9_file : MethodName := ⟨RX9, "file", "()I"⟩
abbrev cX9_add : ByteArray := prog_11_method_10_code
def yX9_add : MethodName := ⟨RX9, "add", "(IIII)I"⟩
abbrev cX9_insert : ByteArray := prog_11_method_11_code
def yX9_insert : MethodName := ⟨RX9, "insert", "(III)I"⟩
abbrev cX9_remove : ByteArray := prog_11_method_12_code
def yX9_remove : MethodName := ⟨RX9, "remove", "(III)I"⟩
abbrev cX9_copy : ByteArray := prog_11_method_13_code
def yX9_copy : MethodName := ⟨RX9, "copy", "(II)V"⟩
abbrev cX9_length : ByteArray := prog_11_method_14_code
def yX9_length : MethodName := ⟨RX9, "length", "(I)I"⟩
abbrev cX9_byteAt : ByteArray := prog_11_method_15_code
def yX9_byteAt : MethodName := ⟨RX9, "byteAt", "(II)I"⟩
abbrev cX9_same : ByteArray := prog_11_method_16_code
def yX9_same : MethodName := ⟨RX9, "same", "(II)Z"⟩
abbrev cX9_bring : ByteArray := prog_11_method_17_code
def yX9_bring : MethodName := ⟨RX9, "bring", "(I)V"⟩
abbrev cX9_give : ByteArray := prog_11_method_18_code
def yX9_give : MethodName := ⟨RX9, "give", "(I)I"⟩
abbrev cX9_weakOf : ByteArray := prog_11_method_19_code
def yX9_weakOf : MethodName := ⟨RX9, "weakOf", "([IIII)I"⟩
abbrev cX9_strongOf : ByteArray := prog_11_method_20_code
def yX9_strongOf : MethodName := ⟨RX9, "strongOf", "([III)J"⟩
abbrev cX9_signs : ByteArray := prog_11_method_21_code
def yX9_signs : MethodName := ⟨RX9, "signs", "(III)V"⟩
abbrev cX9_lengthOf : ByteArray := prog_11_method_22_code
def yX9_lengthOf : MethodName := ⟨RX9, "lengthOf", "(II)I"⟩
abbrev cX9_sign : ByteArray := prog_11_method_23_code
def yX9_sign : MethodName := ⟨RX9, "sign", "(IIII)I"⟩
abbrev cX9_blocks : ByteArray := prog_11_method_24_code
def yX9_blocks : MethodName := ⟨RX9, "blocks", "(I)I"⟩
abbrev cX9_isBlock : ByteArray := prog_11_method_25_code
def yX9_isBlock : MethodName := ⟨RX9, "isBlock", "(II)Z"⟩
abbrev cX9_weak : ByteArray := prog_11_method_26_code
def yX9_weak : MethodName := ⟨RX9, "weak", "(II)I"⟩
abbrev cX9_strong : ByteArray := prog_11_method_27_code
def yX9_strong : MethodName := ⟨RX9, "strong", "(II)J"⟩
abbrev cX9_compares : ByteArray := prog_11_method_28_code
def yX9_compares : MethodName := ⟨RX9, "compares", "(III)V"⟩
abbrev cX9_begins : ByteArray := prog_11_method_29_code
def yX9_begins : MethodName := ⟨RX9, "begins", "(IZII)V"⟩
abbrev cX9_compare : ByteArray := prog_11_method_30_code
def yX9_compare : MethodName := ⟨RX9, "compare", "(III)I"⟩
abbrev cX9_instructions : ByteArray := prog_11_method_31_code
def yX9_instructions : MethodName := ⟨RX9, "instructions", "(I)I"⟩
abbrev cX9_isInstruction : ByteArray := prog_11_method_32_code
def yX9_isInstruction : MethodName := ⟨RX9, "isInstruction", "(II)Z"⟩
abbrev cX9_isCopy : ByteArray := prog_11_method_33_code
def yX9_isCopy : MethodName := ⟨RX9, "isCopy", "(II)Z"⟩
abbrev cX9_startOf : ByteArray := prog_11_method_34_code
def yX9_startOf : MethodName := ⟨RX9, "startOf", "(II)I"⟩
abbrev cX9_bytesOf : ByteArray := prog_11_method_35_code
def yX9_bytesOf : MethodName := ⟨RX9, "bytesOf", "(II)I"⟩
abbrev cX9_costOf : ByteArray := prog_11_method_36_code
def yX9_costOf : MethodName := ⟨RX9, "costOf", "(I)I"⟩
abbrev cX9_cost : ByteArray := prog_11_method_37_code
def yX9_cost : MethodName := ⟨RX9, "cost", "(I)I"⟩
abbrev cX9_alarms : ByteArray := prog_11_method_38_code
def yX9_alarms : MethodName := ⟨RX9, "alarms", "(I)I"⟩
abbrev cX9_goesBeyond : ByteArray := prog_11_method_39_code
def yX9_goesBeyond : MethodName := ⟨RX9, "goesBeyond", "(I)Z"⟩
abbrev cX9_applies : ByteArray := prog_11_method_40_code
def yX9_applies : MethodName := ⟨RX9, "applies", "(I)V"⟩
abbrev cX9_apply : ByteArray := prog_11_method_41_code
def yX9_apply : MethodName := ⟨RX9, "apply", "(III)I"⟩
abbrev cX9_isVersion : ByteArray := prog_11_method_42_code
def yX9_isVersion : MethodName := ⟨RX9, "isVersion", "(I)Z"⟩
abbrev cX9_holds : ByteArray := prog_11_method_43_code
def yX9_holds : MethodName := ⟨RX9, "holds", "(II)V"⟩
abbrev cX9_makes : ByteArray := prog_11_method_44_code
def yX9_makes : MethodName := ⟨RX9, "makes", "(I)Z"⟩
abbrev cX9_keep : ByteArray := prog_11_method_45_code
def yX9_keep : MethodName := ⟨RX9, "keep", "(I)I"⟩
abbrev cX9_keepDelta : ByteArray := prog_11_method_46_code
def yX9_keepDelta : MethodName := ⟨RX9, "keepDelta", "(III)I"⟩
abbrev cX9_heldOf : ByteArray := prog_11_method_47_code
def yX9_heldOf : MethodName := ⟨RX9, "heldOf", "(I)I"⟩
abbrev cX9_lose : ByteArray := prog_11_method_48_code
def yX9_lose : MethodName := ⟨RX9, "lose", "(I)I"⟩
abbrev cX9_replace : ByteArray := prog_11_method_49_code
def yX9_replace : MethodName := ⟨RX9, "replace", "(II)V"⟩
abbrev cX9_rebuild : ByteArray := prog_11_method_50_code
def yX9_rebuild : MethodName := ⟨RX9, "rebuild", "(II)I"⟩
abbrev cX9_versions : ByteArray := prog_11_method_51_code
def yX9_versions : MethodName := ⟨RX9, "versions", "()I"⟩
abbrev cX9_brokenAt : ByteArray := prog_11_method_52_code
def yX9_brokenAt : MethodName := ⟨RX9, "brokenAt", "(I)I"⟩
abbrev cX9_brokenAfter : ByteArray := prog_11_method_53_code
def yX9_brokenAfter : MethodName := ⟨RX9, "brokenAfter", "(I)I"⟩
abbrev cX9_reason : ByteArray := prog_11_method_54_code
def yX9_reason : MethodName := ⟨RX9, "reason", "(I)I"⟩
abbrev cX9_heldBy : ByteArray := prog_11_method_55_code
def yX9_heldBy : MethodName := ⟨RX9, "heldBy", "(I)I"⟩
abbrev cX9_cuts : ByteArray := prog_11_method_56_code
def yX9_cuts : MethodName := ⟨RX9, "cuts", "(III)V"⟩
abbrev cX9_hash : ByteArray := prog_11_method_57_code
def yX9_hash : MethodName := ⟨RX9, "hash", "(II)I"⟩
abbrev cX9_store : ByteArray := prog_11_method_58_code
def yX9_store : MethodName := ⟨RX9, "store", "(I)I"⟩
abbrev cX9_isThere : ByteArray := prog_11_method_59_code
def yX9_isThere : MethodName := ⟨RX9, "isThere", "(I)Z"⟩
abbrev cX9_begin : ByteArray := prog_11_method_60_code
def yX9_begin : MethodName := ⟨RX9, "begin", "(II)I"⟩
abbrev cX9_names : ByteArray := prog_11_method_61_code
def yX9_names : MethodName := ⟨RX9, "names", "(IIIII)I"⟩
abbrev cX9_release : ByteArray := prog_11_method_62_code
def yX9_release : MethodName := ⟨RX9, "release", "(I)I"⟩
abbrev cX9_fetch : ByteArray := prog_11_method_63_code
def yX9_fetch : MethodName := ⟨RX9, "fetch", "(II)I"⟩
abbrev cX9_papers : ByteArray := prog_11_method_64_code
def yX9_papers : MethodName := ⟨RX9, "papers", "()I"⟩
abbrev cX9_held : ByteArray := prog_11_method_65_code
def yX9_held : MethodName := ⟨RX9, "held", "(Z)I"⟩
abbrev cX9_chunks : ByteArray := prog_11_method_66_code
def yX9_chunks : MethodName := ⟨RX9, "chunks", "()I"⟩
abbrev cX9_heldBytes : ByteArray := prog_11_method_67_code
def yX9_heldBytes : MethodName := ⟨RX9, "heldBytes", "()I"⟩
abbrev cX9_parts : ByteArray := prog_11_method_68_code
def yX9_parts : MethodName := ⟨RX9, "parts", "(I)I"⟩
abbrev cX9_isPart : ByteArray := prog_11_method_69_code
def yX9_isPart : MethodName := ⟨RX9, "isPart", "(II)Z"⟩
abbrev cX9_partLength : ByteArray := prog_11_method_70_code
def yX9_partLength : MethodName := ⟨RX9, "partLength", "(II)I"⟩
abbrev cX9_shared : ByteArray := prog_11_method_71_code
def yX9_shared : MethodName := ⟨RX9, "shared", "(II)I"⟩
def RJx145de : String := "java/io/Serializable"
def TJx145de : u_T := fun k => match k with
  | _ => ("", "", "", false)
def tyJx145de : Nat → FieldType := fun k => match k with
  | _ => .int
theorem nmJx145de : ∀ a, a < 0 → ∀ b, b < 0 → a ≠ b → (TJx145de a).2.1 ≠ (TJx145de b).2.1 := by decide +kernel
theorem tyJx145de_ok : ∀ k, k < 0 → parseFieldDescriptor (TJx145de k).2.2.1 = some (tyJx145de k) := by decide +kernel
def RJx8e188 : String := "java/lang/Cloneable"
def TJx8e188 : u_T := fun k => match k with
  | _ => ("", "", "", false)
def tyJx8e188 : Nat → FieldType := fun k => match k with
  | _ => .int
theorem nmJx8e188 : ∀ a, a < 0 → ∀ b, b < 0 → a ≠ b → (TJx8e188 a).2.1 ≠ (TJx8e188 b).2.1 := by decide +kernel
theorem tyJx8e188_ok : ∀ k, k < 0 → parseFieldDescriptor (TJx8e188 k).2.2.1 = some (tyJx8e188 k) := by decide +kernel
def RJxab1ab : String := "java/lang/Iterable"
def TJxab1ab : u_T := fun k => match k with
  | _ => ("", "", "", false)
def tyJxab1ab : Nat → FieldType := fun k => match k with
  | _ => .int
theorem nmJxab1ab : ∀ a, a < 0 → ∀ b, b < 0 → a ≠ b → (TJxab1ab a).2.1 ≠ (TJxab1ab b).2.1 := by decide +kernel
theorem tyJxab1ab_ok : ∀ k, k < 0 → parseFieldDescriptor (TJxab1ab k).2.2.1 = some (tyJxab1ab k) := by decide +kernel
def RJ9 : String := "java/lang/Math"
def TJ9 : u_T := fun k => match k with
  | _ => ("", "", "", false)
def tyJ9 : Nat → FieldType := fun k => match k with
  | _ => .int
theorem nmJ9 : ∀ a, a < 0 → ∀ b, b < 0 → a ≠ b → (TJ9 a).2.1 ≠ (TJ9 b).2.1 := by decide +kernel
theorem tyJ9_ok : ∀ k, k < 0 → parseFieldDescriptor (TJ9 k).2.2.1 = some (tyJ9 k) := by decide +kernel
abbrev cJ9_max_7cf53 : ByteArray := prog_19_method_65_code
def yJ9_max_7cf53 : MethodName := ⟨RJ9, "max", "(II)I"⟩
abbrev cJ9_min_7cf53 : ByteArray := prog_19_method_69_code
def yJ9_min_7cf53 : MethodName := ⟨RJ9, "min", "(II)I"⟩
def RJ0 : String := "java/lang/String"
def TJ0 : u_T := fun k => match k with
  | _ => ("", "", "", false)
def tyJ0 : Nat → FieldType := fun k => match k with
  | _ => .int
theorem nmJ0 : ∀ a, a < 0 → ∀ b, b < 0 → a ≠ b → (TJ0 a).2.1 ≠ (TJ0 b).2.1 := by decide +kernel
theorem tyJ0_ok : ∀ k, k < 0 → parseFieldDescriptor (TJ0 k).2.2.1 = some (tyJ0 k) := by decide +kernel
def RJ10 : String := "java/lang/System"
def TJ10 : u_T := fun k => match k with
  | _ => ("", "", "", false)
def tyJ10 : Nat → FieldType := fun k => match k with
  | _ => .int
theorem nmJ10 : ∀ a, a < 0 → ∀ b, b < 0 → a ≠ b → (TJ10 a).2.1 ≠ (TJ10 b).2.1 := by decide +kernel
theorem tyJ10_ok : ∀ k, k < 0 → parseFieldDescriptor (TJ10 k).2.2.1 = some (tyJ10 k) := by decide +kernel
def RJxa1e45 : String := "java/util/AbstractCollection"
def TJxa1e45 : u_T := fun k => match k with
  | _ => ("", "", "", false)
def tyJxa1e45 : Nat → FieldType := fun k => match k with
  | _ => .int
theorem nmJxa1e45 : ∀ a, a < 0 → ∀ b, b < 0 → a ≠ b → (TJxa1e45 a).2.1 ≠ (TJxa1e45 b).2.1 := by decide +kernel
theorem tyJxa1e45_ok : ∀ k, k < 0 → parseFieldDescriptor (TJxa1e45 k).2.2.1 = some (tyJxa1e45 k) := by decide +kernel
abbrev cJxa1e45_init_da8c8 : ByteArray := prog_24_method_1_code
def yJxa1e45_init_da8c8 : MethodName := ⟨RJxa1e45, "<init>", "()V"⟩
def RJxc12de : String := "java/util/AbstractList"
def TJxc12de : u_T := fun k => match k with
  | _ => ("", "", "", false)
def tyJxc12de : Nat → FieldType := fun k => match k with
  | _ => .int
theorem nmJxc12de : ∀ a, a < 0 → ∀ b, b < 0 → a ≠ b → (TJxc12de a).2.1 ≠ (TJxc12de b).2.1 := by decide +kernel
theorem tyJxc12de_ok : ∀ k, k < 0 → parseFieldDescriptor (TJxc12de k).2.2.1 = some (tyJxc12de k) := by decide +kernel
abbrev cJxc12de_init_da8c8 : ByteArray := prog_25_method_1_code
def yJxc12de_init_da8c8 : MethodName := ⟨RJxc12de, "<init>", "()V"⟩
def RJx4a65c : String := "java/util/ArrayList"
def TJx4a65c : u_T := fun k => match k with
  | 0 => ("java/util/AbstractList", "modCount", "I", false)
  | 1 => ("java/util/ArrayList", "elementData", "[Ljava/lang/Object;", false)
  | _ => ("java/util/ArrayList", "size", "I", false)
def tyJx4a65c : Nat → FieldType := fun k => match k with
  | 0 => .int
  | 1 => .array (.object "java/lang/Object")
  | _ => .int
theorem nmJx4a65c : ∀ a, a < 3 → ∀ b, b < 3 → a ≠ b → (TJx4a65c a).2.1 ≠ (TJx4a65c b).2.1 := by decide +kernel
theorem tyJx4a65c_ok : ∀ k, k < 3 → parseFieldDescriptor (TJx4a65c k).2.2.1 = some (tyJx4a65c k) := by decide +kernel
abbrev cJx4a65c_init_da8c8 : ByteArray := prog_26_method_2_code
def yJx4a65c_init_da8c8 : MethodName := ⟨RJx4a65c, "<init>", "()V"⟩
abbrev cJx4a65c_grow_92f84 : ByteArray := prog_26_method_6_code
def yJx4a65c_grow_92f84 : MethodName := ⟨RJx4a65c, "grow", "(I)[Ljava/lang/Object;"⟩
abbrev cJx4a65c_grow_d5877 : ByteArray := prog_26_method_7_code
def yJx4a65c_grow_d5877 : MethodName := ⟨RJx4a65c, "grow", "()[Ljava/lang/Object;"⟩
abbrev cJx4a65c_size_8abf5 : ByteArray := prog_26_method_8_code
def yJx4a65c_size_8abf5 : MethodName := ⟨RJx4a65c, "size", "()I"⟩
abbrev cJx4a65c_elementData_915e3 : ByteArray := prog_26_method_18_code
def yJx4a65c_elementData_915e3 : MethodName := ⟨RJx4a65c, "elementData", "(I)Ljava/lang/Object;"⟩
abbrev cJx4a65c_get_915e3 : ByteArray := prog_26_method_20_code
def yJx4a65c_get_915e3 : MethodName := ⟨RJx4a65c, "get", "(I)Ljava/lang/Object;"⟩
abbrev cJx4a65c_add_72be8 : ByteArray := prog_26_method_24_code
def yJx4a65c_add_72be8 : MethodName := ⟨RJx4a65c, "add", "(Ljava/lang/Object;[Ljava/lang/Object;I)V"⟩
abbrev cJx4a65c_add_9ea2d : ByteArray := prog_26_method_25_code
def yJx4a65c_add_9ea2d : MethodName := ⟨RJx4a65c, "add", "(Ljava/lang/Object;)Z"⟩
abbrev cJx4a65c_clear_da8c8 : ByteArray := prog_26_method_40_code
def yJx4a65c_clear_da8c8 : MethodName := ⟨RJx4a65c, "clear", "()V"⟩
def RJ7 : String := "java/util/Arrays"
def TJ7 : u_T := fun k => match k with
  | _ => ("", "", "", false)
def tyJ7 : Nat → FieldType := fun k => match k with
  | _ => .int
theorem nmJ7 : ∀ a, a < 0 → ∀ b, b < 0 → a ≠ b → (TJ7 a).2.1 ≠ (TJ7 b).2.1 := by decide +kernel
theorem tyJ7_ok : ∀ k, k < 0 → parseFieldDescriptor (TJ7 k).2.2.1 = some (tyJ7 k) := by decide +kernel
abbrev cJ7_copyOf_1904c : ByteArray := prog_27_method_119_code
def yJ7_copyOf_1904c : MethodName := ⟨RJ7, "copyOf", "([Ljava/lang/Object;I)[Ljava/lang/Object;"⟩
abbrev cJ7_copyOf_6403c : ByteArray := prog_27_method_120_code
def yJ7_copyOf_6403c : MethodName := ⟨RJ7, "copyOf", "([Ljava/lang/Object;ILjava/lang/Class;)[Ljava/lang/Object;"⟩
def RJx5ef63 : String := "java/util/Collection"
def TJx5ef63 : u_T := fun k => match k with
  | _ => ("", "", "", false)
def tyJx5ef63 : Nat → FieldType := fun k => match k with
  | _ => .int
theorem nmJx5ef63 : ∀ a, a < 0 → ∀ b, b < 0 → a ≠ b → (TJx5ef63 a).2.1 ≠ (TJx5ef63 b).2.1 := by decide +kernel
theorem tyJx5ef63_ok : ∀ k, k < 0 → parseFieldDescriptor (TJx5ef63 k).2.2.1 = some (tyJx5ef63 k) := by decide +kernel
def RJxbd725 : String := "java/util/List"
def TJxbd725 : u_T := fun k => match k with
  | _ => ("", "", "", false)
def tyJxbd725 : Nat → FieldType := fun k => match k with
  | _ => .int
theorem nmJxbd725 : ∀ a, a < 0 → ∀ b, b < 0 → a ≠ b → (TJxbd725 a).2.1 ≠ (TJxbd725 b).2.1 := by decide +kernel
theorem tyJxbd725_ok : ∀ k, k < 0 → parseFieldDescriptor (TJxbd725 k).2.2.1 = some (tyJxbd725 k) := by decide +kernel
def RJ15 : String := "java/util/Objects"
def TJ15 : u_T := fun k => match k with
  | _ => ("", "", "", false)
def tyJ15 : Nat → FieldType := fun k => match k with
  | _ => .int
theorem nmJ15 : ∀ a, a < 0 → ∀ b, b < 0 → a ≠ b → (TJ15 a).2.1 ≠ (TJ15 b).2.1 := by decide +kernel
theorem tyJ15_ok : ∀ k, k < 0 → parseFieldDescriptor (TJ15 k).2.2.1 = some (tyJ15 k) := by decide +kernel
abbrev cJ15_checkIndex_7cf53 : ByteArray := prog_30_method_17_code
def yJ15_checkIndex_7cf53 : MethodName := ⟨RJ15, "checkIndex", "(II)I"⟩
def RJxf0a74 : String := "java/util/RandomAccess"
def TJxf0a74 : u_T := fun k => match k with
  | _ => ("", "", "", false)
def tyJxf0a74 : Nat → FieldType := fun k => match k with
  | _ => .int
theorem nmJxf0a74 : ∀ a, a < 0 → ∀ b, b < 0 → a ≠ b → (TJxf0a74 a).2.1 ≠ (TJxf0a74 b).2.1 := by decide +kernel
theorem tyJxf0a74_ok : ∀ k, k < 0 → parseFieldDescriptor (TJxf0a74 k).2.2.1 = some (tyJxf0a74 k) := by decide +kernel
def RJxa66e6 : String := "java/util/SequencedCollection"
def TJxa66e6 : u_T := fun k => match k with
  | _ => ("", "", "", false)
def tyJxa66e6 : Nat → FieldType := fun k => match k with
  | _ => .int
theorem nmJxa66e6 : ∀ a, a < 0 → ∀ b, b < 0 → a ≠ b → (TJxa66e6 a).2.1 ≠ (TJxa66e6 b).2.1 := by decide +kernel
theorem tyJxa66e6_ok : ∀ k, k < 0 → parseFieldDescriptor (TJxa66e6 k).2.2.1 = some (tyJxa66e6 k) := by decide +kernel
def RJ8 : String := "jdk/internal/util/ArraysSupport"
def TJ8 : u_T := fun k => match k with
  | _ => ("", "", "", false)
def tyJ8 : Nat → FieldType := fun k => match k with
  | _ => .int
theorem nmJ8 : ∀ a, a < 0 → ∀ b, b < 0 → a ≠ b → (TJ8 a).2.1 ≠ (TJ8 b).2.1 := by decide +kernel
theorem tyJ8_ok : ∀ k, k < 0 → parseFieldDescriptor (TJ8 k).2.2.1 = some (tyJ8 k) := by decide +kernel
abbrev cJ8_newLength_cabcc : ByteArray := prog_33_method_27_code
def yJ8_newLength_cabcc : MethodName := ⟨RJ8, "newLength", "(III)I"⟩
abbrev cJ8_hugeLength_7cf53 : ByteArray := prog_33_method_28_code
def yJ8_hugeLength_7cf53 : MethodName := ⟨RJ8, "hugeLength", "(II)I"⟩
def RJ3 : String := "jdk/internal/util/Preconditions"
def TJ3 : u_T := fun k => match k with
  | _ => ("", "", "", false)
def tyJ3 : Nat → FieldType := fun k => match k with
  | _ => .int
theorem nmJ3 : ∀ a, a < 0 → ∀ b, b < 0 → a ≠ b → (TJ3 a).2.1 ≠ (TJ3 b).2.1 := by decide +kernel
theorem tyJ3_ok : ∀ k, k < 0 → parseFieldDescriptor (TJ3 k).2.2.1 = some (tyJ3 k) := by decide +kernel
abbrev cJ3_checkIndex_8e157 : ByteArray := prog_34_method_11_code
def yJ3_checkIndex_8e157 : MethodName := ⟨RJ3, "checkIndex", "(IILjava/util/function/BiFunction;)I"⟩
def RL : String := "RollSyncLaw"
abbrev cL_file : ByteArray := method_3_code
def yL_file : MethodName := ⟨RL, "file", "(LRollSync;[J)I"⟩
abbrev cL_add : ByteArray := method_4_code
def yL_add : MethodName := ⟨RL, "add", "(LRollSync;IIII[J)I"⟩
abbrev cL_insert : ByteArray := method_5_code
def yL_insert : MethodName := ⟨RL, "insert", "(LRollSync;III[J)I"⟩
abbrev cL_remove : ByteArray := method_6_code
def yL_remove : MethodName := ⟨RL, "remove", "(LRollSync;III[J)I"⟩
abbrev cL_copy : ByteArray := method_7_code
def yL_copy : MethodName := ⟨RL, "copy", "(LRollSync;II)I"⟩
abbrev cL_length : ByteArray := method_8_code
def yL_length : MethodName := ⟨RL, "length", "(LRollSync;I[J)I"⟩
abbrev cL_byteAt : ByteArray := method_9_code
def yL_byteAt : MethodName := ⟨RL, "byteAt", "(LRollSync;II[J)I"⟩
abbrev cL_same : ByteArray := method_10_code
def yL_same : MethodName := ⟨RL, "same", "(LRollSync;II[J)I"⟩
abbrev cL_sign : ByteArray := method_11_code
def yL_sign : MethodName := ⟨RL, "sign", "(LRollSync;IIII[J)I"⟩
abbrev cL_blocks : ByteArray := method_12_code
def yL_blocks : MethodName := ⟨RL, "blocks", "(LRollSync;I[J)I"⟩
abbrev cL_weak : ByteArray := method_13_code
def yL_weak : MethodName := ⟨RL, "weak", "(LRollSync;II[J)I"⟩
abbrev cL_strong : ByteArray := method_14_code
def yL_strong : MethodName := ⟨RL, "strong", "(LRollSync;II[J)I"⟩
abbrev cL_compare : ByteArray := method_15_code
def yL_compare : MethodName := ⟨RL, "compare", "(LRollSync;III[J)I"⟩
abbrev cL_instructions : ByteArray := method_16_code
def yL_instructions : MethodName := ⟨RL, "instructions", "(LRollSync;I[J)I"⟩
abbrev cL_isCopy : ByteArray := method_17_code
def yL_isCopy : MethodName := ⟨RL, "isCopy", "(LRollSync;II[J)I"⟩
abbrev cL_startOf : ByteArray := method_18_code
def yL_startOf : MethodName := ⟨RL, "startOf", "(LRollSync;II[J)I"⟩
abbrev cL_bytesOf : ByteArray := method_19_code
def yL_bytesOf : MethodName := ⟨RL, "bytesOf", "(LRollSync;II[J)I"⟩
abbrev cL_cost : ByteArray := method_20_code
def yL_cost : MethodName := ⟨RL, "cost", "(LRollSync;I[J)I"⟩
abbrev cL_alarms : ByteArray := method_21_code
def yL_alarms : MethodName := ⟨RL, "alarms", "(LRollSync;I[J)I"⟩
abbrev cL_apply : ByteArray := method_22_code
def yL_apply : MethodName := ⟨RL, "apply", "(LRollSync;III[J)I"⟩
abbrev cL_keep : ByteArray := method_23_code
def yL_keep : MethodName := ⟨RL, "keep", "(LRollSync;I[J)I"⟩
abbrev cL_keepDelta : ByteArray := method_24_code
def yL_keepDelta : MethodName := ⟨RL, "keepDelta", "(LRollSync;III[J)I"⟩
abbrev cL_lose : ByteArray := method_25_code
def yL_lose : MethodName := ⟨RL, "lose", "(LRollSync;I[J)I"⟩
abbrev cL_replace : ByteArray := method_26_code
def yL_replace : MethodName := ⟨RL, "replace", "(LRollSync;II)I"⟩
abbrev cL_rebuild : ByteArray := method_27_code
def yL_rebuild : MethodName := ⟨RL, "rebuild", "(LRollSync;II[J)I"⟩
abbrev cL_brokenAt : ByteArray := method_28_code
def yL_brokenAt : MethodName := ⟨RL, "brokenAt", "(LRollSync;I[J)I"⟩
abbrev cL_brokenAfter : ByteArray := method_29_code
def yL_brokenAfter : MethodName := ⟨RL, "brokenAfter", "(LRollSync;I[J)I"⟩
abbrev cL_reason : ByteArray := method_30_code
def yL_reason : MethodName := ⟨RL, "reason", "(LRollSync;I[J)I"⟩
abbrev cL_heldBy : ByteArray := method_31_code
def yL_heldBy : MethodName := ⟨RL, "heldBy", "(LRollSync;I[J)I"⟩
abbrev cL_cuts : ByteArray := method_32_code
def yL_cuts : MethodName := ⟨RL, "cuts", "(LRollSync;III)I"⟩
abbrev cL_store : ByteArray := method_33_code
def yL_store : MethodName := ⟨RL, "store", "(LRollSync;I[J)I"⟩
abbrev cL_release : ByteArray := method_34_code
def yL_release : MethodName := ⟨RL, "release", "(LRollSync;I[J)I"⟩
abbrev cL_fetch : ByteArray := method_35_code
def yL_fetch : MethodName := ⟨RL, "fetch", "(LRollSync;II[J)I"⟩
abbrev cL_parts : ByteArray := method_36_code
def yL_parts : MethodName := ⟨RL, "parts", "(LRollSync;I[J)I"⟩
abbrev cL_partLength : ByteArray := method_37_code
def yL_partLength : MethodName := ⟨RL, "partLength", "(LRollSync;II[J)I"⟩
abbrev cL_shared : ByteArray := method_38_code
def yL_shared : MethodName := ⟨RL, "shared", "(LRollSync;II[J)I"⟩
abbrev cL_law : ByteArray := code
def yL_law : MethodName := ⟨RL, "law", "([I)Z"⟩
abbrev vwCl : List vw_C := [(RJx4a65c, TJx4a65c, 3), (RX0, TX0, 9), (RX1, TX1, 3), (RX2, TX2, 8), (RX3, TX3, 2), (RX4, TX4, 2), (RX5, TX5, 5), (RX6, TX6, 7), (RX7, TX7, 4), (RX8, TX8, 7), (RX9, TX9, 36)]
end
section
theorem dX0_init_0 : decode cX0_init 0 = .ok (.aload_n 0, 1) := by decide +kernel
theorem dX0_init_1 : decode cX0_init 1 = .ok (.invokespecial 3, 3) := by decide +kernel
theorem dX0_init_4 : decode cX0_init 4 = .ok (.aload_n 0, 1) := by decide +kernel
theorem dX0_init_5 : decode cX0_init 5 = .ok (.bipush 20, 2) := by decide +kernel
theorem dX0_init_7 : decode cX0_init 7 = .ok (.anewarray 9, 3) := by decide +kernel
theorem dX0_init_10 : decode cX0_init 10 = .ok (.putfield 11, 3) := by decide +kernel
theorem dX0_init_13 : decode cX0_init 13 = .ok (.aload_n 0, 1) := by decide +kernel
theorem dX0_init_14 : decode cX0_init 14 = .ok (.bipush 20, 2) := by decide +kernel
theorem dX0_init_16 : decode cX0_init 16 = .ok (.newarray .int, 2) := by decide +kernel
theorem dX0_init_18 : decode cX0_init 18 = .ok (.putfield 17, 3) := by decide +kernel
theorem dX0_init_21 : decode cX0_init 21 = .ok (.aload_n 0, 1) := by decide +kernel
theorem dX0_init_22 : decode cX0_init 22 = .ok (.new 21, 3) := by decide +kernel
theorem dX0_init_25 : decode cX0_init 25 = .ok (.dup, 1) := by decide +kernel
theorem dX0_init_26 : decode cX0_init 26 = .ok (.invokespecial 23, 3) := by decide +kernel
theorem dX0_init_29 : decode cX0_init 29 = .ok (.putfield 24, 3) := by decide +kernel
theorem dX0_init_32 : decode cX0_init 32 = .ok (.aload_n 0, 1) := by decide +kernel
theorem dX0_init_33 : decode cX0_init 33 = .ok (.new 28, 3) := by decide +kernel
theorem dX0_init_36 : decode cX0_init 36 = .ok (.dup, 1) := by decide +kernel
theorem dX0_init_37 : decode cX0_init 37 = .ok (.invokespecial 30, 3) := by decide +kernel
theorem dX0_init_40 : decode cX0_init 40 = .ok (.putfield 31, 3) := by decide +kernel
theorem dX0_init_43 : decode cX0_init 43 = .ok (.aload_n 0, 1) := by decide +kernel
theorem dX0_init_44 : decode cX0_init 44 = .ok (.new 28, 3) := by decide +kernel
theorem dX0_init_47 : decode cX0_init 47 = .ok (.dup, 1) := by decide +kernel
theorem dX0_init_48 : decode cX0_init 48 = .ok (.invokespecial 30, 3) := by decide +kernel
theorem dX0_init_51 : decode cX0_init 51 = .ok (.putfield 35, 3) := by decide +kernel
theorem dX0_init_54 : decode cX0_init 54 = .ok (.aload_n 0, 1) := by decide +kernel
theorem dX0_init_55 : decode cX0_init 55 = .ok (.iconst (-1), 1) := by decide +kernel
theorem dX0_init_56 : decode cX0_init 56 = .ok (.putfield 38, 3) := by decide +kernel
theorem dX0_init_59 : decode cX0_init 59 = .ok (.aload_n 0, 1) := by decide +kernel
theorem dX0_init_60 : decode cX0_init 60 = .ok (.iconst (-1), 1) := by decide +kernel
theorem dX0_init_61 : decode cX0_init 61 = .ok (.putfield 42, 3) := by decide +kernel
theorem dX0_init_64 : decode cX0_init 64 = .ok (.aload_n 0, 1) := by decide +kernel
theorem dX0_init_65 : decode cX0_init 65 = .ok (.iconst (-1), 1) := by decide +kernel
theorem dX0_init_66 : decode cX0_init 66 = .ok (.putfield 45, 3) := by decide +kernel
theorem dX0_init_69 : decode cX0_init 69 = .ok (.iconst 0, 1) := by decide +kernel
theorem dX0_init_70 : decode cX0_init 70 = .ok (.istore_n 1, 1) := by decide +kernel
theorem dX0_init_71 : decode cX0_init 71 = .ok (.iload_n 1, 1) := by decide +kernel
theorem dX0_init_72 : decode cX0_init 72 = .ok (.aload_n 0, 1) := by decide +kernel
theorem dX0_init_73 : decode cX0_init 73 = .ok (.getfield 11, 3) := by decide +kernel
theorem dX0_init_76 : decode cX0_init 76 = .ok (.arraylength, 1) := by decide +kernel
theorem dX0_init_77 : decode cX0_init 77 = .ok (.if_icmp .ge 22, 3) := by decide +kernel
theorem dX0_init_80 : decode cX0_init 80 = .ok (.aload_n 0, 1) := by decide +kernel
theorem dX0_init_81 : decode cX0_init 81 = .ok (.getfield 11, 3) := by decide +kernel
theorem dX0_init_84 : decode cX0_init 84 = .ok (.iload_n 1, 1) := by decide +kernel
theorem dX0_init_85 : decode cX0_init 85 = .ok (.new 9, 3) := by decide +kernel
theorem dX0_init_88 : decode cX0_init 88 = .ok (.dup, 1) := by decide +kernel
theorem dX0_init_89 : decode cX0_init 89 = .ok (.invokespecial 48, 3) := by decide +kernel
theorem dX0_init_92 : decode cX0_init 92 = .ok (.aastore, 1) := by decide +kernel
theorem dX0_init_93 : decode cX0_init 93 = .ok (.iinc 1 1, 3) := by decide +kernel
theorem dX0_init_96 : decode cX0_init 96 = .ok (.goto (-25), 3) := by decide +kernel
theorem dX0_init_99 : decode cX0_init 99 = .ok (.return_, 1) := by decide +kernel
theorem dX0_addWhole_0 : decode cX0_addWhole 0 = .ok (.aload_n 0, 1) := by decide +kernel
theorem dX0_addWhole_1 : decode cX0_addWhole 1 = .ok (.getfield 11, 3) := by decide +kernel
theorem dX0_addWhole_4 : decode cX0_addWhole 4 = .ok (.aload_n 0, 1) := by decide +kernel
theorem dX0_addWhole_5 : decode cX0_addWhole 5 = .ok (.getfield 49, 3) := by decide +kernel
theorem dX0_addWhole_8 : decode cX0_addWhole 8 = .ok (.aaload, 1) := by decide +kernel
theorem dX0_addWhole_9 : decode cX0_addWhole 9 = .ok (.aload_n 1, 1) := by decide +kernel
theorem dX0_addWhole_10 : decode cX0_addWhole 10 = .ok (.invokevirtual 52, 3) := by decide +kernel
theorem dX0_addWhole_13 : decode cX0_addWhole 13 = .ok (.aload_n 0, 1) := by decide +kernel
theorem dX0_addWhole_14 : decode cX0_addWhole 14 = .ok (.dup, 1) := by decide +kernel
theorem dX0_addWhole_15 : decode cX0_addWhole 15 = .ok (.getfield 49, 3) := by decide +kernel
theorem dX0_addWhole_18 : decode cX0_addWhole 18 = .ok (.iconst 1, 1) := by decide +kernel
theorem dX0_addWhole_19 : decode cX0_addWhole 19 = .ok (.iadd, 1) := by decide +kernel
theorem dX0_addWhole_20 : decode cX0_addWhole 20 = .ok (.putfield 49, 3) := by decide +kernel
theorem dX0_addWhole_23 : decode cX0_addWhole 23 = .ok (.aload_n 0, 1) := by decide +kernel
theorem dX0_addWhole_24 : decode cX0_addWhole 24 = .ok (.getfield 49, 3) := by decide +kernel
theorem dX0_addWhole_27 : decode cX0_addWhole 27 = .ok (.iconst 1, 1) := by decide +kernel
theorem dX0_addWhole_28 : decode cX0_addWhole 28 = .ok (.isub, 1) := by decide +kernel
theorem dX0_addWhole_29 : decode cX0_addWhole 29 = .ok (.ireturn, 1) := by decide +kernel
theorem dX0_addResting_0 : decode cX0_addResting 0 = .ok (.aload_n 0, 1) := by decide +kernel
theorem dX0_addResting_1 : decode cX0_addResting 1 = .ok (.getfield 24, 3) := by decide +kernel
theorem dX0_addResting_4 : decode cX0_addResting 4 = .ok (.aload_n 0, 1) := by decide +kernel
theorem dX0_addResting_5 : decode cX0_addResting 5 = .ok (.getfield 31, 3) := by decide +kernel
theorem dX0_addResting_8 : decode cX0_addResting 8 = .ok (.iload_n 3, 1) := by decide +kernel
theorem dX0_addResting_9 : decode cX0_addResting 9 = .ok (.sipush 256, 3) := by decide +kernel
theorem dX0_addResting_12 : decode cX0_addResting 12 = .ok (.invokevirtual 56, 3) := by decide +kernel
theorem dX0_addResting_15 : decode cX0_addResting 15 = .ok (.aload_n 0, 1) := by decide +kernel
theorem dX0_addResting_16 : decode cX0_addResting 16 = .ok (.getfield 11, 3) := by decide +kernel
theorem dX0_addResting_19 : decode cX0_addResting 19 = .ok (.aload_n 0, 1) := by decide +kernel
theorem dX0_addResting_20 : decode cX0_addResting 20 = .ok (.getfield 49, 3) := by decide +kernel
theorem dX0_addResting_23 : decode cX0_addResting 23 = .ok (.aaload, 1) := by decide +kernel
theorem dX0_addResting_24 : decode cX0_addResting 24 = .ok (.astore 4, 2) := by decide +kernel
theorem dX0_addResting_26 : decode cX0_addResting 26 = .ok (.aload 4, 2) := by decide +kernel
theorem dX0_addResting_28 : decode cX0_addResting 28 = .ok (.iconst 1, 1) := by decide +kernel
theorem dX0_addResting_29 : decode cX0_addResting 29 = .ok (.putfield 60, 3) := by decide +kernel
theorem dX0_addResting_32 : decode cX0_addResting 32 = .ok (.aload 4, 2) := by decide +kernel
theorem dX0_addResting_34 : decode cX0_addResting 34 = .ok (.iload_n 2, 1) := by decide +kernel
theorem dX0_addResting_35 : decode cX0_addResting 35 = .ok (.putfield 63, 3) := by decide +kernel
theorem dX0_addResting_38 : decode cX0_addResting 38 = .ok (.aload 4, 2) := by decide +kernel
theorem dX0_addResting_40 : decode cX0_addResting 40 = .ok (.getfield 66, 3) := by decide +kernel
theorem dX0_addResting_43 : decode cX0_addResting 43 = .ok (.aload_n 0, 1) := by decide +kernel
theorem dX0_addResting_44 : decode cX0_addResting 44 = .ok (.getfield 24, 3) := by decide +kernel
theorem dX0_addResting_47 : decode cX0_addResting 47 = .ok (.aload_n 1, 1) := by decide +kernel
theorem dX0_addResting_48 : decode cX0_addResting 48 = .ok (.invokevirtual 70, 3) := by decide +kernel
theorem dX0_addResting_51 : decode cX0_addResting 51 = .ok (.aload_n 0, 1) := by decide +kernel
theorem dX0_addResting_52 : decode cX0_addResting 52 = .ok (.dup, 1) := by decide +kernel
theorem dX0_addResting_53 : decode cX0_addResting 53 = .ok (.getfield 49, 3) := by decide +kernel
theorem dX0_addResting_56 : decode cX0_addResting 56 = .ok (.iconst 1, 1) := by decide +kernel
theorem dX0_addResting_57 : decode cX0_addResting 57 = .ok (.iadd, 1) := by decide +kernel
theorem dX0_addResting_58 : decode cX0_addResting 58 = .ok (.putfield 49, 3) := by decide +kernel
theorem dX0_addResting_61 : decode cX0_addResting 61 = .ok (.aload_n 0, 1) := by decide +kernel
theorem dX0_addResting_62 : decode cX0_addResting 62 = .ok (.getfield 49, 3) := by decide +kernel
theorem dX0_addResting_65 : decode cX0_addResting 65 = .ok (.iconst 1, 1) := by decide +kernel
theorem dX0_addResting_66 : decode cX0_addResting 66 = .ok (.isub, 1) := by decide +kernel
theorem dX0_addResting_67 : decode cX0_addResting 67 = .ok (.ireturn, 1) := by decide +kernel
theorem dX0_putTogether_0 : decode cX0_putTogether 0 = .ok (.aload_n 0, 1) := by decide +kernel
theorem dX0_putTogether_1 : decode cX0_putTogether 1 = .ok (.iconst (-1), 1) := by decide +kernel
theorem dX0_putTogether_2 : decode cX0_putTogether 2 = .ok (.putfield 38, 3) := by decide +kernel
theorem dX0_putTogether_5 : decode cX0_putTogether 5 = .ok (.aload_n 0, 1) := by decide +kernel
theorem dX0_putTogether_6 : decode cX0_putTogether 6 = .ok (.iconst (-1), 1) := by decide +kernel
theorem dX0_putTogether_7 : decode cX0_putTogether 7 = .ok (.putfield 42, 3) := by decide +kernel
theorem dX0_putTogether_10 : decode cX0_putTogether 10 = .ok (.aload_n 0, 1) := by decide +kernel
theorem dX0_putTogether_11 : decode cX0_putTogether 11 = .ok (.iconst (-1), 1) := by decide +kernel
theorem dX0_putTogether_12 : decode cX0_putTogether 12 = .ok (.putfield 45, 3) := by decide +kernel
theorem dX0_putTogether_15 : decode cX0_putTogether 15 = .ok (.iconst 0, 1) := by decide +kernel
theorem dX0_putTogether_16 : decode cX0_putTogether 16 = .ok (.istore_n 2, 1) := by decide +kernel
theorem dX0_putTogether_17 : decode cX0_putTogether 17 = .ok (.iload_n 1, 1) := by decide +kernel
theorem dX0_putTogether_18 : decode cX0_putTogether 18 = .ok (.istore_n 3, 1) := by decide +kernel
theorem dX0_putTogether_19 : decode cX0_putTogether 19 = .ok (.aload_n 0, 1) := by decide +kernel
theorem dX0_putTogether_20 : decode cX0_putTogether 20 = .ok (.getfield 11, 3) := by decide +kernel
theorem dX0_putTogether_23 : decode cX0_putTogether 23 = .ok (.iload_n 3, 1) := by decide +kernel
theorem dX0_putTogether_24 : decode cX0_putTogether 24 = .ok (.aaload, 1) := by decide +kernel
theorem dX0_putTogether_25 : decode cX0_putTogether 25 = .ok (.getfield 60, 3) := by decide +kernel
theorem dX0_putTogether_28 : decode cX0_putTogether 28 = .ok (.iconst 1, 1) := by decide +kernel
theorem dX0_putTogether_29 : decode cX0_putTogether 29 = .ok (.if_icmp .ne 35, 3) := by decide +kernel
theorem dX0_putTogether_32 : decode cX0_putTogether 32 = .ok (.iload_n 2, 1) := by decide +kernel
theorem dX0_putTogether_33 : decode cX0_putTogether 33 = .ok (.aload_n 0, 1) := by decide +kernel
theorem dX0_putTogether_34 : decode cX0_putTogether 34 = .ok (.getfield 17, 3) := by decide +kernel
theorem dX0_putTogether_37 : decode cX0_putTogether 37 = .ok (.arraylength, 1) := by decide +kernel
theorem dX0_putTogether_38 : decode cX0_putTogether 38 = .ok (.if_icmp .ge 26, 3) := by decide +kernel
theorem dX0_putTogether_41 : decode cX0_putTogether 41 = .ok (.aload_n 0, 1) := by decide +kernel
theorem dX0_putTogether_42 : decode cX0_putTogether 42 = .ok (.getfield 17, 3) := by decide +kernel
theorem dX0_putTogether_45 : decode cX0_putTogether 45 = .ok (.iload_n 2, 1) := by decide +kernel
theorem dX0_putTogether_46 : decode cX0_putTogether 46 = .ok (.iload_n 3, 1) := by decide +kernel
theorem dX0_putTogether_47 : decode cX0_putTogether 47 = .ok (.iastore, 1) := by decide +kernel
theorem dX0_putTogether_48 : decode cX0_putTogether 48 = .ok (.iinc 2 1, 3) := by decide +kernel
theorem dX0_putTogether_51 : decode cX0_putTogether 51 = .ok (.aload_n 0, 1) := by decide +kernel
theorem dX0_putTogether_52 : decode cX0_putTogether 52 = .ok (.getfield 11, 3) := by decide +kernel
theorem dX0_putTogether_55 : decode cX0_putTogether 55 = .ok (.iload_n 3, 1) := by decide +kernel
theorem dX0_putTogether_56 : decode cX0_putTogether 56 = .ok (.aaload, 1) := by decide +kernel
theorem dX0_putTogether_57 : decode cX0_putTogether 57 = .ok (.getfield 63, 3) := by decide +kernel
theorem dX0_putTogether_60 : decode cX0_putTogether 60 = .ok (.istore_n 3, 1) := by decide +kernel
theorem dX0_putTogether_61 : decode cX0_putTogether 61 = .ok (.goto (-42), 3) := by decide +kernel
theorem dX0_putTogether_64 : decode cX0_putTogether 64 = .ok (.aload_n 0, 1) := by decide +kernel
theorem dX0_putTogether_65 : decode cX0_putTogether 65 = .ok (.getfield 11, 3) := by decide +kernel
theorem dX0_putTogether_68 : decode cX0_putTogether 68 = .ok (.iload_n 3, 1) := by decide +kernel
theorem dX0_putTogether_69 : decode cX0_putTogether 69 = .ok (.aaload, 1) := by decide +kernel
theorem dX0_putTogether_70 : decode cX0_putTogether 70 = .ok (.getfield 60, 3) := by decide +kernel
theorem dX0_putTogether_73 : decode cX0_putTogether 73 = .ok (.iconst 2, 1) := by decide +kernel
theorem dX0_putTogether_74 : decode cX0_putTogether 74 = .ok (.if_icmp .ne 11, 3) := by decide +kernel
theorem dX0_putTogether_77 : decode cX0_putTogether 77 = .ok (.aload_n 0, 1) := by decide +kernel
theorem dX0_putTogether_78 : decode cX0_putTogether 78 = .ok (.iload_n 3, 1) := by decide +kernel
theorem dX0_putTogether_79 : decode cX0_putTogether 79 = .ok (.iload_n 2, 1) := by decide +kernel
theorem dX0_putTogether_80 : decode cX0_putTogether 80 = .ok (.iconst 1, 1) := by decide +kernel
theorem dX0_putTogether_81 : decode cX0_putTogether 81 = .ok (.invokevirtual 75, 3) := by decide +kernel
theorem dX0_putTogether_84 : decode cX0_putTogether 84 = .ok (.return_, 1) := by decide +kernel
theorem dX0_putTogether_85 : decode cX0_putTogether 85 = .ok (.aload_n 0, 1) := by decide +kernel
theorem dX0_putTogether_86 : decode cX0_putTogether 86 = .ok (.getfield 31, 3) := by decide +kernel
theorem dX0_putTogether_89 : decode cX0_putTogether 89 = .ok (.aload_n 0, 1) := by decide +kernel
theorem dX0_putTogether_90 : decode cX0_putTogether 90 = .ok (.getfield 11, 3) := by decide +kernel
theorem dX0_putTogether_93 : decode cX0_putTogether 93 = .ok (.iload_n 3, 1) := by decide +kernel
theorem dX0_putTogether_94 : decode cX0_putTogether 94 = .ok (.aaload, 1) := by decide +kernel
theorem dX0_putTogether_95 : decode cX0_putTogether 95 = .ok (.getfield 79, 3) := by decide +kernel
theorem dX0_putTogether_98 : decode cX0_putTogether 98 = .ok (.invokevirtual 82, 3) := by decide +kernel
theorem dX0_putTogether_101 : decode cX0_putTogether 101 = .ok (.aload_n 0, 1) := by decide +kernel
theorem dX0_putTogether_102 : decode cX0_putTogether 102 = .ok (.iload_n 2, 1) := by decide +kernel
theorem dX0_putTogether_103 : decode cX0_putTogether 103 = .ok (.invokevirtual 85, 3) := by decide +kernel
theorem dX0_putTogether_106 : decode cX0_putTogether 106 = .ok (.return_, 1) := by decide +kernel
theorem dX0_climb_0 : decode cX0_climb 0 = .ok (.iload_n 1, 1) := by decide +kernel
theorem dX0_climb_1 : decode cX0_climb 1 = .ok (.iconst 1, 1) := by decide +kernel
theorem dX0_climb_2 : decode cX0_climb 2 = .ok (.isub, 1) := by decide +kernel
theorem dX0_climb_3 : decode cX0_climb 3 = .ok (.istore_n 2, 1) := by decide +kernel
theorem dX0_climb_4 : decode cX0_climb 4 = .ok (.iload_n 2, 1) := by decide +kernel
theorem dX0_climb_5 : decode cX0_climb 5 = .ok (.ifCond .lt 71, 3) := by decide +kernel
theorem dX0_climb_8 : decode cX0_climb 8 = .ok (.aload_n 0, 1) := by decide +kernel
theorem dX0_climb_9 : decode cX0_climb 9 = .ok (.getfield 11, 3) := by decide +kernel
theorem dX0_climb_12 : decode cX0_climb 12 = .ok (.aload_n 0, 1) := by decide +kernel
theorem dX0_climb_13 : decode cX0_climb 13 = .ok (.getfield 17, 3) := by decide +kernel
theorem dX0_climb_16 : decode cX0_climb 16 = .ok (.iload_n 2, 1) := by decide +kernel
theorem dX0_climb_17 : decode cX0_climb 17 = .ok (.iaload, 1) := by decide +kernel
theorem dX0_climb_18 : decode cX0_climb 18 = .ok (.aaload, 1) := by decide +kernel
theorem dX0_climb_19 : decode cX0_climb 19 = .ok (.getfield 66, 3) := by decide +kernel
theorem dX0_climb_22 : decode cX0_climb 22 = .ok (.astore_n 3, 1) := by decide +kernel
theorem dX0_climb_23 : decode cX0_climb 23 = .ok (.aload_n 3, 1) := by decide +kernel
theorem dX0_climb_24 : decode cX0_climb 24 = .ok (.aload_n 0, 1) := by decide +kernel
theorem dX0_climb_25 : decode cX0_climb 25 = .ok (.getfield 31, 3) := by decide +kernel
theorem dX0_climb_28 : decode cX0_climb 28 = .ok (.invokevirtual 89, 3) := by decide +kernel
theorem dX0_climb_31 : decode cX0_climb 31 = .ok (.ifCond .ne 16, 3) := by decide +kernel
theorem dX0_climb_34 : decode cX0_climb 34 = .ok (.aload_n 0, 1) := by decide +kernel
theorem dX0_climb_35 : decode cX0_climb 35 = .ok (.aload_n 0, 1) := by decide +kernel
theorem dX0_climb_36 : decode cX0_climb 36 = .ok (.getfield 17, 3) := by decide +kernel
theorem dX0_climb_39 : decode cX0_climb 39 = .ok (.iload_n 2, 1) := by decide +kernel
theorem dX0_climb_40 : decode cX0_climb 40 = .ok (.iaload, 1) := by decide +kernel
theorem dX0_climb_41 : decode cX0_climb 41 = .ok (.iload_n 2, 1) := by decide +kernel
theorem dX0_climb_42 : decode cX0_climb 42 = .ok (.iconst 2, 1) := by decide +kernel
theorem dX0_climb_43 : decode cX0_climb 43 = .ok (.invokevirtual 75, 3) := by decide +kernel
theorem dX0_climb_46 : decode cX0_climb 46 = .ok (.return_, 1) := by decide +kernel
theorem dX0_climb_47 : decode cX0_climb 47 = .ok (.aload_n 3, 1) := by decide +kernel
theorem dX0_climb_48 : decode cX0_climb 48 = .ok (.aload_n 0, 1) := by decide +kernel
theorem dX0_climb_49 : decode cX0_climb 49 = .ok (.getfield 31, 3) := by decide +kernel
theorem dX0_climb_52 : decode cX0_climb 52 = .ok (.aload_n 0, 1) := by decide +kernel
theorem dX0_climb_53 : decode cX0_climb 53 = .ok (.getfield 35, 3) := by decide +kernel
theorem dX0_climb_56 : decode cX0_climb 56 = .ok (.invokevirtual 93, 3) := by decide +kernel
theorem dX0_climb_59 : decode cX0_climb 59 = .ok (.aload_n 0, 1) := by decide +kernel
theorem dX0_climb_60 : decode cX0_climb 60 = .ok (.getfield 31, 3) := by decide +kernel
theorem dX0_climb_63 : decode cX0_climb 63 = .ok (.aload_n 0, 1) := by decide +kernel
theorem dX0_climb_64 : decode cX0_climb 64 = .ok (.getfield 35, 3) := by decide +kernel
theorem dX0_climb_67 : decode cX0_climb 67 = .ok (.invokevirtual 82, 3) := by decide +kernel
theorem dX0_climb_70 : decode cX0_climb 70 = .ok (.iinc 2 (-1), 3) := by decide +kernel
theorem dX0_climb_73 : decode cX0_climb 73 = .ok (.goto (-69), 3) := by decide +kernel
theorem dX0_climb_76 : decode cX0_climb 76 = .ok (.return_, 1) := by decide +kernel
theorem dX0_breakAt_0 : decode cX0_breakAt 0 = .ok (.aload_n 0, 1) := by decide +kernel
theorem dX0_breakAt_1 : decode cX0_breakAt 1 = .ok (.iload_n 1, 1) := by decide +kernel
theorem dX0_breakAt_2 : decode cX0_breakAt 2 = .ok (.putfield 38, 3) := by decide +kernel
theorem dX0_breakAt_5 : decode cX0_breakAt 5 = .ok (.aload_n 0, 1) := by decide +kernel
theorem dX0_breakAt_6 : decode cX0_breakAt 6 = .ok (.iload_n 2, 1) := by decide +kernel
theorem dX0_breakAt_7 : decode cX0_breakAt 7 = .ok (.putfield 42, 3) := by decide +kernel
theorem dX0_breakAt_10 : decode cX0_breakAt 10 = .ok (.aload_n 0, 1) := by decide +kernel
theorem dX0_breakAt_11 : decode cX0_breakAt 11 = .ok (.iload_n 3, 1) := by decide +kernel
theorem dX0_breakAt_12 : decode cX0_breakAt 12 = .ok (.putfield 45, 3) := by decide +kernel
theorem dX0_breakAt_15 : decode cX0_breakAt 15 = .ok (.return_, 1) := by decide +kernel
theorem dX1_init_0 : decode cX1_init 0 = .ok (.aload_n 0, 1) := by decide +kernel
theorem dX1_init_1 : decode cX1_init 1 = .ok (.invokespecial 3, 3) := by decide +kernel
theorem dX1_init_4 : decode cX1_init 4 = .ok (.aload_n 0, 1) := by decide +kernel
theorem dX1_init_5 : decode cX1_init 5 = .ok (.bipush 40, 2) := by decide +kernel
theorem dX1_init_7 : decode cX1_init 7 = .ok (.newarray .int, 2) := by decide +kernel
theorem dX1_init_9 : decode cX1_init 9 = .ok (.putfield 9, 3) := by decide +kernel
theorem dX1_init_12 : decode cX1_init 12 = .ok (.return_, 1) := by decide +kernel
theorem dX1_fill_0 : decode cX1_fill 0 = .ok (.aload_n 0, 1) := by decide +kernel
theorem dX1_fill_1 : decode cX1_fill 1 = .ok (.iload_n 3, 1) := by decide +kernel
theorem dX1_fill_2 : decode cX1_fill 2 = .ok (.aload_n 0, 1) := by decide +kernel
theorem dX1_fill_3 : decode cX1_fill 3 = .ok (.getfield 9, 3) := by decide +kernel
theorem dX1_fill_6 : decode cX1_fill 6 = .ok (.arraylength, 1) := by decide +kernel
theorem dX1_fill_7 : decode cX1_fill 7 = .ok (.invokestatic 15, 3) := by decide +kernel
theorem dX1_fill_10 : decode cX1_fill 10 = .ok (.putfield 21, 3) := by decide +kernel
theorem dX1_fill_13 : decode cX1_fill 13 = .ok (.iconst 0, 1) := by decide +kernel
theorem dX1_fill_14 : decode cX1_fill 14 = .ok (.istore 4, 2) := by decide +kernel
theorem dX1_fill_16 : decode cX1_fill 16 = .ok (.iload 4, 2) := by decide +kernel
theorem dX1_fill_18 : decode cX1_fill 18 = .ok (.aload_n 0, 1) := by decide +kernel
theorem dX1_fill_19 : decode cX1_fill 19 = .ok (.getfield 21, 3) := by decide +kernel
theorem dX1_fill_22 : decode cX1_fill 22 = .ok (.if_icmp .ge 24, 3) := by decide +kernel
theorem dX1_fill_25 : decode cX1_fill 25 = .ok (.aload_n 0, 1) := by decide +kernel
theorem dX1_fill_26 : decode cX1_fill 26 = .ok (.getfield 9, 3) := by decide +kernel
theorem dX1_fill_29 : decode cX1_fill 29 = .ok (.iload 4, 2) := by decide +kernel
theorem dX1_fill_31 : decode cX1_fill 31 = .ok (.aload_n 1, 1) := by decide +kernel
theorem dX1_fill_32 : decode cX1_fill 32 = .ok (.iload_n 2, 1) := by decide +kernel
theorem dX1_fill_33 : decode cX1_fill 33 = .ok (.iload 4, 2) := by decide +kernel
theorem dX1_fill_35 : decode cX1_fill 35 = .ok (.iadd, 1) := by decide +kernel
theorem dX1_fill_36 : decode cX1_fill 36 = .ok (.invokevirtual 25, 3) := by decide +kernel
theorem dX1_fill_39 : decode cX1_fill 39 = .ok (.iastore, 1) := by decide +kernel
theorem dX1_fill_40 : decode cX1_fill 40 = .ok (.iinc 4 1, 3) := by decide +kernel
theorem dX1_fill_43 : decode cX1_fill 43 = .ok (.goto (-27), 3) := by decide +kernel
theorem dX1_fill_46 : decode cX1_fill 46 = .ok (.return_, 1) := by decide +kernel
theorem dX1_isIn_0 : decode cX1_isIn 0 = .ok (.aload_n 0, 1) := by decide +kernel
theorem dX1_isIn_1 : decode cX1_isIn 1 = .ok (.getfield 21, 3) := by decide +kernel
theorem dX1_isIn_4 : decode cX1_isIn 4 = .ok (.iload_n 3, 1) := by decide +kernel
theorem dX1_isIn_5 : decode cX1_isIn 5 = .ok (.if_icmp .eq 5, 3) := by decide +kernel
theorem dX1_isIn_8 : decode cX1_isIn 8 = .ok (.iconst 0, 1) := by decide +kernel
theorem dX1_isIn_9 : decode cX1_isIn 9 = .ok (.ireturn, 1) := by decide +kernel
theorem dX1_isIn_10 : decode cX1_isIn 10 = .ok (.iconst 0, 1) := by decide +kernel
theorem dX1_isIn_11 : decode cX1_isIn 11 = .ok (.istore 4, 2) := by decide +kernel
theorem dX1_isIn_13 : decode cX1_isIn 13 = .ok (.iload 4, 2) := by decide +kernel
theorem dX1_isIn_15 : decode cX1_isIn 15 = .ok (.aload_n 0, 1) := by decide +kernel
theorem dX1_isIn_16 : decode cX1_isIn 16 = .ok (.getfield 21, 3) := by decide +kernel
theorem dX1_isIn_19 : decode cX1_isIn 19 = .ok (.if_icmp .ge 29, 3) := by decide +kernel
theorem dX1_isIn_22 : decode cX1_isIn 22 = .ok (.aload_n 0, 1) := by decide +kernel
theorem dX1_isIn_23 : decode cX1_isIn 23 = .ok (.getfield 9, 3) := by decide +kernel
theorem dX1_isIn_26 : decode cX1_isIn 26 = .ok (.iload 4, 2) := by decide +kernel
theorem dX1_isIn_28 : decode cX1_isIn 28 = .ok (.iaload, 1) := by decide +kernel
theorem dX1_isIn_29 : decode cX1_isIn 29 = .ok (.aload_n 1, 1) := by decide +kernel
theorem dX1_isIn_30 : decode cX1_isIn 30 = .ok (.iload_n 2, 1) := by decide +kernel
theorem dX1_isIn_31 : decode cX1_isIn 31 = .ok (.iload 4, 2) := by decide +kernel
theorem dX1_isIn_33 : decode cX1_isIn 33 = .ok (.iadd, 1) := by decide +kernel
theorem dX1_isIn_34 : decode cX1_isIn 34 = .ok (.invokevirtual 25, 3) := by decide +kernel
theorem dX1_isIn_37 : decode cX1_isIn 37 = .ok (.if_icmp .eq 5, 3) := by decide +kernel
theorem dX1_isIn_40 : decode cX1_isIn 40 = .ok (.iconst 0, 1) := by decide +kernel
theorem dX1_isIn_41 : decode cX1_isIn 41 = .ok (.ireturn, 1) := by decide +kernel
theorem dX1_isIn_42 : decode cX1_isIn 42 = .ok (.iinc 4 1, 3) := by decide +kernel
theorem dX1_isIn_45 : decode cX1_isIn 45 = .ok (.goto (-32), 3) := by decide +kernel
theorem dX1_isIn_48 : decode cX1_isIn 48 = .ok (.iconst 1, 1) := by decide +kernel
theorem dX1_isIn_49 : decode cX1_isIn 49 = .ok (.ireturn, 1) := by decide +kernel
theorem dX2_init_0 : decode cX2_init 0 = .ok (.aload_n 0, 1) := by decide +kernel
theorem dX2_init_1 : decode cX2_init 1 = .ok (.invokespecial 3, 3) := by decide +kernel
theorem dX2_init_4 : decode cX2_init 4 = .ok (.aload_n 0, 1) := by decide +kernel
theorem dX2_init_5 : decode cX2_init 5 = .ok (.bipush 120, 2) := by decide +kernel
theorem dX2_init_7 : decode cX2_init 7 = .ok (.newarray .boolean, 2) := by decide +kernel
theorem dX2_init_9 : decode cX2_init 9 = .ok (.putfield 9, 3) := by decide +kernel
theorem dX2_init_12 : decode cX2_init 12 = .ok (.aload_n 0, 1) := by decide +kernel
theorem dX2_init_13 : decode cX2_init 13 = .ok (.bipush 120, 2) := by decide +kernel
theorem dX2_init_15 : decode cX2_init 15 = .ok (.newarray .int, 2) := by decide +kernel
theorem dX2_init_17 : decode cX2_init 17 = .ok (.putfield 15, 3) := by decide +kernel
theorem dX2_init_20 : decode cX2_init 20 = .ok (.aload_n 0, 1) := by decide +kernel
theorem dX2_init_21 : decode cX2_init 21 = .ok (.bipush 120, 2) := by decide +kernel
theorem dX2_init_23 : decode cX2_init 23 = .ok (.newarray .int, 2) := by decide +kernel
theorem dX2_init_25 : decode cX2_init 25 = .ok (.putfield 19, 3) := by decide +kernel
theorem dX2_init_28 : decode cX2_init 28 = .ok (.aload_n 0, 1) := by decide +kernel
theorem dX2_init_29 : decode cX2_init 29 = .ok (.new 22, 3) := by decide +kernel
theorem dX2_init_32 : decode cX2_init 32 = .ok (.dup, 1) := by decide +kernel
theorem dX2_init_33 : decode cX2_init 33 = .ok (.invokespecial 24, 3) := by decide +kernel
theorem dX2_init_36 : decode cX2_init 36 = .ok (.putfield 25, 3) := by decide +kernel
theorem dX2_init_39 : decode cX2_init 39 = .ok (.aload_n 0, 1) := by decide +kernel
theorem dX2_init_40 : decode cX2_init 40 = .ok (.iconst (-1), 1) := by decide +kernel
theorem dX2_init_41 : decode cX2_init 41 = .ok (.putfield 29, 3) := by decide +kernel
theorem dX2_init_44 : decode cX2_init 44 = .ok (.return_, 1) := by decide +kernel
theorem dX2_make_0 : decode cX2_make 0 = .ok (.aload_n 0, 1) := by decide +kernel
theorem dX2_make_1 : decode cX2_make 1 = .ok (.iconst 1, 1) := by decide +kernel
theorem dX2_make_2 : decode cX2_make 2 = .ok (.putfield 33, 3) := by decide +kernel
theorem dX2_make_5 : decode cX2_make 5 = .ok (.aload_n 0, 1) := by decide +kernel
theorem dX2_make_6 : decode cX2_make 6 = .ok (.iconst 0, 1) := by decide +kernel
theorem dX2_make_7 : decode cX2_make 7 = .ok (.putfield 37, 3) := by decide +kernel
theorem dX2_make_10 : decode cX2_make 10 = .ok (.aload_n 0, 1) := by decide +kernel
theorem dX2_make_11 : decode cX2_make 11 = .ok (.iconst 0, 1) := by decide +kernel
theorem dX2_make_12 : decode cX2_make 12 = .ok (.putfield 40, 3) := by decide +kernel
theorem dX2_make_15 : decode cX2_make 15 = .ok (.aload_n 0, 1) := by decide +kernel
theorem dX2_make_16 : decode cX2_make 16 = .ok (.iconst (-1), 1) := by decide +kernel
theorem dX2_make_17 : decode cX2_make 17 = .ok (.putfield 29, 3) := by decide +kernel
theorem dX2_make_20 : decode cX2_make 20 = .ok (.aload_n 0, 1) := by decide +kernel
theorem dX2_make_21 : decode cX2_make 21 = .ok (.getfield 25, 3) := by decide +kernel
theorem dX2_make_24 : decode cX2_make 24 = .ok (.aload_n 2, 1) := by decide +kernel
theorem dX2_make_25 : decode cX2_make 25 = .ok (.invokevirtual 43, 3) := by decide +kernel
theorem dX2_make_28 : decode cX2_make 28 = .ok (.iconst 0, 1) := by decide +kernel
theorem dX2_make_29 : decode cX2_make 29 = .ok (.istore_n 3, 1) := by decide +kernel
theorem dX2_make_30 : decode cX2_make 30 = .ok (.iload_n 3, 1) := by decide +kernel
theorem dX2_make_31 : decode cX2_make 31 = .ok (.aload_n 2, 1) := by decide +kernel
theorem dX2_make_32 : decode cX2_make 32 = .ok (.getfield 47, 3) := by decide +kernel
theorem dX2_make_35 : decode cX2_make 35 = .ok (.if_icmp .ge 19, 3) := by decide +kernel
theorem dX2_make_38 : decode cX2_make 38 = .ok (.iload_n 3, 1) := by decide +kernel
theorem dX2_make_39 : decode cX2_make 39 = .ok (.iconst 1, 1) := by decide +kernel
theorem dX2_make_40 : decode cX2_make 40 = .ok (.aload_n 0, 1) := by decide +kernel
theorem dX2_make_41 : decode cX2_make 41 = .ok (.aload_n 1, 1) := by decide +kernel
theorem dX2_make_42 : decode cX2_make 42 = .ok (.iload_n 3, 1) := by decide +kernel
theorem dX2_make_43 : decode cX2_make 43 = .ok (.invokevirtual 50, 3) := by decide +kernel
theorem dX2_make_46 : decode cX2_make 46 = .ok (.invokestatic 54, 3) := by decide +kernel
theorem dX2_make_49 : decode cX2_make 49 = .ok (.iadd, 1) := by decide +kernel
theorem dX2_make_50 : decode cX2_make 50 = .ok (.istore_n 3, 1) := by decide +kernel
theorem dX2_make_51 : decode cX2_make 51 = .ok (.goto (-21), 3) := by decide +kernel
theorem dX2_make_54 : decode cX2_make 54 = .ok (.return_, 1) := by decide +kernel
theorem dX2_goOn_0 : decode cX2_goOn 0 = .ok (.aload_n 1, 1) := by decide +kernel
theorem dX2_goOn_1 : decode cX2_goOn 1 = .ok (.aload_n 0, 1) := by decide +kernel
theorem dX2_goOn_2 : decode cX2_goOn 2 = .ok (.getfield 25, 3) := by decide +kernel
theorem dX2_goOn_5 : decode cX2_goOn 5 = .ok (.getfield 47, 3) := by decide +kernel
theorem dX2_goOn_8 : decode cX2_goOn 8 = .ok (.iload_n 2, 1) := by decide +kernel
theorem dX2_goOn_9 : decode cX2_goOn 9 = .ok (.isub, 1) := by decide +kernel
theorem dX2_goOn_10 : decode cX2_goOn 10 = .ok (.invokevirtual 60, 3) := by decide +kernel
theorem dX2_goOn_13 : decode cX2_goOn 13 = .ok (.istore_n 3, 1) := by decide +kernel
theorem dX2_goOn_14 : decode cX2_goOn 14 = .ok (.iload_n 3, 1) := by decide +kernel
theorem dX2_goOn_15 : decode cX2_goOn 15 = .ok (.ifCond .ne 7, 3) := by decide +kernel
theorem dX2_goOn_18 : decode cX2_goOn 18 = .ok (.iconst (-1), 1) := by decide +kernel
theorem dX2_goOn_19 : decode cX2_goOn 19 = .ok (.goto 10, 3) := by decide +kernel
theorem dX2_goOn_22 : decode cX2_goOn 22 = .ok (.aload_n 0, 1) := by decide +kernel
theorem dX2_goOn_23 : decode cX2_goOn 23 = .ok (.aload_n 1, 1) := by decide +kernel
theorem dX2_goOn_24 : decode cX2_goOn 24 = .ok (.iload_n 2, 1) := by decide +kernel
theorem dX2_goOn_25 : decode cX2_goOn 25 = .ok (.iload_n 3, 1) := by decide +kernel
theorem dX2_goOn_26 : decode cX2_goOn 26 = .ok (.invokevirtual 66, 3) := by decide +kernel
theorem dX2_goOn_29 : decode cX2_goOn 29 = .ok (.istore 4, 2) := by decide +kernel
theorem dX2_goOn_31 : decode cX2_goOn 31 = .ok (.iload 4, 2) := by decide +kernel
theorem dX2_goOn_33 : decode cX2_goOn 33 = .ok (.iconst (-1), 1) := by decide +kernel
theorem dX2_goOn_34 : decode cX2_goOn 34 = .ok (.if_icmp .ne 10, 3) := by decide +kernel
theorem dX2_goOn_37 : decode cX2_goOn 37 = .ok (.aload_n 0, 1) := by decide +kernel
theorem dX2_goOn_38 : decode cX2_goOn 38 = .ok (.iload_n 2, 1) := by decide +kernel
theorem dX2_goOn_39 : decode cX2_goOn 39 = .ok (.invokevirtual 70, 3) := by decide +kernel
theorem dX2_goOn_42 : decode cX2_goOn 42 = .ok (.iconst 1, 1) := by decide +kernel
theorem dX2_goOn_43 : decode cX2_goOn 43 = .ok (.ireturn, 1) := by decide +kernel
theorem dX2_goOn_44 : decode cX2_goOn 44 = .ok (.aload_n 0, 1) := by decide +kernel
theorem dX2_goOn_45 : decode cX2_goOn 45 = .ok (.iload 4, 2) := by decide +kernel
theorem dX2_goOn_47 : decode cX2_goOn 47 = .ok (.iload 4, 2) := by decide +kernel
theorem dX2_goOn_49 : decode cX2_goOn 49 = .ok (.aload_n 1, 1) := by decide +kernel
theorem dX2_goOn_50 : decode cX2_goOn 50 = .ok (.getfield 74, 3) := by decide +kernel
theorem dX2_goOn_53 : decode cX2_goOn 53 = .ok (.imul, 1) := by decide +kernel
theorem dX2_goOn_54 : decode cX2_goOn 54 = .ok (.iload_n 3, 1) := by decide +kernel
theorem dX2_goOn_55 : decode cX2_goOn 55 = .ok (.invokevirtual 77, 3) := by decide +kernel
theorem dX2_goOn_58 : decode cX2_goOn 58 = .ok (.iload_n 3, 1) := by decide +kernel
theorem dX2_goOn_59 : decode cX2_goOn 59 = .ok (.ireturn, 1) := by decide +kernel
theorem dX2_matchingBlock_0 : decode cX2_matchingBlock 0 = .ok (.aload_n 0, 1) := by decide +kernel
theorem dX2_matchingBlock_1 : decode cX2_matchingBlock 1 = .ok (.getfield 25, 3) := by decide +kernel
theorem dX2_matchingBlock_4 : decode cX2_matchingBlock 4 = .ok (.iload_n 2, 1) := by decide +kernel
theorem dX2_matchingBlock_5 : decode cX2_matchingBlock 5 = .ok (.iload_n 3, 1) := by decide +kernel
theorem dX2_matchingBlock_6 : decode cX2_matchingBlock 6 = .ok (.aload_n 1, 1) := by decide +kernel
theorem dX2_matchingBlock_7 : decode cX2_matchingBlock 7 = .ok (.getfield 81, 3) := by decide +kernel
theorem dX2_matchingBlock_10 : decode cX2_matchingBlock 10 = .ok (.invokevirtual 84, 3) := by decide +kernel
theorem dX2_matchingBlock_13 : decode cX2_matchingBlock 13 = .ok (.istore 4, 2) := by decide +kernel
theorem dX2_matchingBlock_15 : decode cX2_matchingBlock 15 = .ok (.aload_n 0, 1) := by decide +kernel
theorem dX2_matchingBlock_16 : decode cX2_matchingBlock 16 = .ok (.getfield 25, 3) := by decide +kernel
theorem dX2_matchingBlock_19 : decode cX2_matchingBlock 19 = .ok (.iload_n 2, 1) := by decide +kernel
theorem dX2_matchingBlock_20 : decode cX2_matchingBlock 20 = .ok (.iload_n 3, 1) := by decide +kernel
theorem dX2_matchingBlock_21 : decode cX2_matchingBlock 21 = .ok (.invokevirtual 88, 3) := by decide +kernel
theorem dX2_matchingBlock_24 : decode cX2_matchingBlock 24 = .ok (.lstore 5, 2) := by decide +kernel
theorem dX2_matchingBlock_26 : decode cX2_matchingBlock 26 = .ok (.iconst (-1), 1) := by decide +kernel
theorem dX2_matchingBlock_27 : decode cX2_matchingBlock 27 = .ok (.istore 7, 2) := by decide +kernel
theorem dX2_matchingBlock_29 : decode cX2_matchingBlock 29 = .ok (.iconst 0, 1) := by decide +kernel
theorem dX2_matchingBlock_30 : decode cX2_matchingBlock 30 = .ok (.istore 8, 2) := by decide +kernel
theorem dX2_matchingBlock_32 : decode cX2_matchingBlock 32 = .ok (.iconst 0, 1) := by decide +kernel
theorem dX2_matchingBlock_33 : decode cX2_matchingBlock 33 = .ok (.istore 9, 2) := by decide +kernel
theorem dX2_matchingBlock_35 : decode cX2_matchingBlock 35 = .ok (.iload 9, 2) := by decide +kernel
theorem dX2_matchingBlock_37 : decode cX2_matchingBlock 37 = .ok (.aload_n 1, 1) := by decide +kernel
theorem dX2_matchingBlock_38 : decode cX2_matchingBlock 38 = .ok (.getfield 92, 3) := by decide +kernel
theorem dX2_matchingBlock_41 : decode cX2_matchingBlock 41 = .ok (.if_icmp .ge 74, 3) := by decide +kernel
theorem dX2_matchingBlock_44 : decode cX2_matchingBlock 44 = .ok (.aload_n 1, 1) := by decide +kernel
theorem dX2_matchingBlock_45 : decode cX2_matchingBlock 45 = .ok (.iload 9, 2) := by decide +kernel
theorem dX2_matchingBlock_47 : decode cX2_matchingBlock 47 = .ok (.invokevirtual 93, 3) := by decide +kernel
theorem dX2_matchingBlock_50 : decode cX2_matchingBlock 50 = .ok (.iload_n 3, 1) := by decide +kernel
theorem dX2_matchingBlock_51 : decode cX2_matchingBlock 51 = .ok (.if_icmp .ne 58, 3) := by decide +kernel
theorem dX2_matchingBlock_54 : decode cX2_matchingBlock 54 = .ok (.aload_n 1, 1) := by decide +kernel
theorem dX2_matchingBlock_55 : decode cX2_matchingBlock 55 = .ok (.getfield 96, 3) := by decide +kernel
theorem dX2_matchingBlock_58 : decode cX2_matchingBlock 58 = .ok (.iload 9, 2) := by decide +kernel
theorem dX2_matchingBlock_60 : decode cX2_matchingBlock 60 = .ok (.iaload, 1) := by decide +kernel
theorem dX2_matchingBlock_61 : decode cX2_matchingBlock 61 = .ok (.iload 4, 2) := by decide +kernel
theorem dX2_matchingBlock_63 : decode cX2_matchingBlock 63 = .ok (.if_icmp .ne 46, 3) := by decide +kernel
theorem dX2_matchingBlock_66 : decode cX2_matchingBlock 66 = .ok (.iconst 1, 1) := by decide +kernel
theorem dX2_matchingBlock_67 : decode cX2_matchingBlock 67 = .ok (.istore 8, 2) := by decide +kernel
theorem dX2_matchingBlock_69 : decode cX2_matchingBlock 69 = .ok (.aload_n 1, 1) := by decide +kernel
theorem dX2_matchingBlock_70 : decode cX2_matchingBlock 70 = .ok (.getfield 99, 3) := by decide +kernel
theorem dX2_matchingBlock_73 : decode cX2_matchingBlock 73 = .ok (.iload 9, 2) := by decide +kernel
theorem dX2_matchingBlock_75 : decode cX2_matchingBlock 75 = .ok (.laload, 1) := by decide +kernel
theorem dX2_matchingBlock_76 : decode cX2_matchingBlock 76 = .ok (.lload 5, 2) := by decide +kernel
theorem dX2_matchingBlock_78 : decode cX2_matchingBlock 78 = .ok (.lcmp, 1) := by decide +kernel
theorem dX2_matchingBlock_79 : decode cX2_matchingBlock 79 = .ok (.ifCond .ne 30, 3) := by decide +kernel
theorem dX2_matchingBlock_82 : decode cX2_matchingBlock 82 = .ok (.iload 9, 2) := by decide +kernel
theorem dX2_matchingBlock_84 : decode cX2_matchingBlock 84 = .ok (.aload_n 0, 1) := by decide +kernel
theorem dX2_matchingBlock_85 : decode cX2_matchingBlock 85 = .ok (.getfield 29, 3) := by decide +kernel
theorem dX2_matchingBlock_88 : decode cX2_matchingBlock 88 = .ok (.if_icmp .ne 6, 3) := by decide +kernel
theorem dX2_matchingBlock_91 : decode cX2_matchingBlock 91 = .ok (.iload 9, 2) := by decide +kernel
theorem dX2_matchingBlock_93 : decode cX2_matchingBlock 93 = .ok (.ireturn, 1) := by decide +kernel
theorem dX2_matchingBlock_94 : decode cX2_matchingBlock 94 = .ok (.iload 7, 2) := by decide +kernel
theorem dX2_matchingBlock_96 : decode cX2_matchingBlock 96 = .ok (.iconst (-1), 1) := by decide +kernel
theorem dX2_matchingBlock_97 : decode cX2_matchingBlock 97 = .ok (.if_icmp .ne 8, 3) := by decide +kernel
theorem dX2_matchingBlock_100 : decode cX2_matchingBlock 100 = .ok (.iload 9, 2) := by decide +kernel
theorem dX2_matchingBlock_102 : decode cX2_matchingBlock 102 = .ok (.goto 5, 3) := by decide +kernel
theorem dX2_matchingBlock_105 : decode cX2_matchingBlock 105 = .ok (.iload 7, 2) := by decide +kernel
theorem dX2_matchingBlock_107 : decode cX2_matchingBlock 107 = .ok (.istore 7, 2) := by decide +kernel
theorem dX2_matchingBlock_109 : decode cX2_matchingBlock 109 = .ok (.iinc 9 1, 3) := by decide +kernel
theorem dX2_matchingBlock_112 : decode cX2_matchingBlock 112 = .ok (.goto (-77), 3) := by decide +kernel
theorem dX2_matchingBlock_115 : decode cX2_matchingBlock 115 = .ok (.iload 8, 2) := by decide +kernel
theorem dX2_matchingBlock_117 : decode cX2_matchingBlock 117 = .ok (.ifCond .eq 19, 3) := by decide +kernel
theorem dX2_matchingBlock_120 : decode cX2_matchingBlock 120 = .ok (.iload 7, 2) := by decide +kernel
theorem dX2_matchingBlock_122 : decode cX2_matchingBlock 122 = .ok (.iconst (-1), 1) := by decide +kernel
theorem dX2_matchingBlock_123 : decode cX2_matchingBlock 123 = .ok (.if_icmp .ne 13, 3) := by decide +kernel
theorem dX2_matchingBlock_126 : decode cX2_matchingBlock 126 = .ok (.aload_n 0, 1) := by decide +kernel
theorem dX2_matchingBlock_127 : decode cX2_matchingBlock 127 = .ok (.dup, 1) := by decide +kernel
theorem dX2_matchingBlock_128 : decode cX2_matchingBlock 128 = .ok (.getfield 40, 3) := by decide +kernel
theorem dX2_matchingBlock_131 : decode cX2_matchingBlock 131 = .ok (.iconst 1, 1) := by decide +kernel
theorem dX2_matchingBlock_132 : decode cX2_matchingBlock 132 = .ok (.iadd, 1) := by decide +kernel
theorem dX2_matchingBlock_133 : decode cX2_matchingBlock 133 = .ok (.putfield 40, 3) := by decide +kernel
theorem dX2_matchingBlock_136 : decode cX2_matchingBlock 136 = .ok (.iload 7, 2) := by decide +kernel
theorem dX2_matchingBlock_138 : decode cX2_matchingBlock 138 = .ok (.ireturn, 1) := by decide +kernel
theorem dX2_addCopy_0 : decode cX2_addCopy 0 = .ok (.iload_n 1, 1) := by decide +kernel
theorem dX2_addCopy_1 : decode cX2_addCopy 1 = .ok (.aload_n 0, 1) := by decide +kernel
theorem dX2_addCopy_2 : decode cX2_addCopy 2 = .ok (.getfield 29, 3) := by decide +kernel
theorem dX2_addCopy_5 : decode cX2_addCopy 5 = .ok (.if_icmp .ne 28, 3) := by decide +kernel
theorem dX2_addCopy_8 : decode cX2_addCopy 8 = .ok (.aload_n 0, 1) := by decide +kernel
theorem dX2_addCopy_9 : decode cX2_addCopy 9 = .ok (.getfield 37, 3) := by decide +kernel
theorem dX2_addCopy_12 : decode cX2_addCopy 12 = .ok (.ifCond .le 21, 3) := by decide +kernel
theorem dX2_addCopy_15 : decode cX2_addCopy 15 = .ok (.aload_n 0, 1) := by decide +kernel
theorem dX2_addCopy_16 : decode cX2_addCopy 16 = .ok (.getfield 19, 3) := by decide +kernel
theorem dX2_addCopy_19 : decode cX2_addCopy 19 = .ok (.aload_n 0, 1) := by decide +kernel
theorem dX2_addCopy_20 : decode cX2_addCopy 20 = .ok (.getfield 37, 3) := by decide +kernel
theorem dX2_addCopy_23 : decode cX2_addCopy 23 = .ok (.iconst 1, 1) := by decide +kernel
theorem dX2_addCopy_24 : decode cX2_addCopy 24 = .ok (.isub, 1) := by decide +kernel
theorem dX2_addCopy_25 : decode cX2_addCopy 25 = .ok (.dup2, 1) := by decide +kernel
theorem dX2_addCopy_26 : decode cX2_addCopy 26 = .ok (.iaload, 1) := by decide +kernel
theorem dX2_addCopy_27 : decode cX2_addCopy 27 = .ok (.iload_n 3, 1) := by decide +kernel
theorem dX2_addCopy_28 : decode cX2_addCopy 28 = .ok (.iadd, 1) := by decide +kernel
theorem dX2_addCopy_29 : decode cX2_addCopy 29 = .ok (.iastore, 1) := by decide +kernel
theorem dX2_addCopy_30 : decode cX2_addCopy 30 = .ok (.goto 10, 3) := by decide +kernel
theorem dX2_addCopy_33 : decode cX2_addCopy 33 = .ok (.aload_n 0, 1) := by decide +kernel
theorem dX2_addCopy_34 : decode cX2_addCopy 34 = .ok (.iconst 1, 1) := by decide +kernel
theorem dX2_addCopy_35 : decode cX2_addCopy 35 = .ok (.iload_n 2, 1) := by decide +kernel
theorem dX2_addCopy_36 : decode cX2_addCopy 36 = .ok (.iload_n 3, 1) := by decide +kernel
theorem dX2_addCopy_37 : decode cX2_addCopy 37 = .ok (.invokevirtual 103, 3) := by decide +kernel
theorem dX2_addCopy_40 : decode cX2_addCopy 40 = .ok (.aload_n 0, 1) := by decide +kernel
theorem dX2_addCopy_41 : decode cX2_addCopy 41 = .ok (.iload_n 1, 1) := by decide +kernel
theorem dX2_addCopy_42 : decode cX2_addCopy 42 = .ok (.iconst 1, 1) := by decide +kernel
theorem dX2_addCopy_43 : decode cX2_addCopy 43 = .ok (.iadd, 1) := by decide +kernel
theorem dX2_addCopy_44 : decode cX2_addCopy 44 = .ok (.putfield 29, 3) := by decide +kernel
theorem dX2_addCopy_47 : decode cX2_addCopy 47 = .ok (.return_, 1) := by decide +kernel
theorem dX2_addLiteral_0 : decode cX2_addLiteral 0 = .ok (.aload_n 0, 1) := by decide +kernel
theorem dX2_addLiteral_1 : decode cX2_addLiteral 1 = .ok (.getfield 37, 3) := by decide +kernel
theorem dX2_addLiteral_4 : decode cX2_addLiteral 4 = .ok (.ifCond .le 35, 3) := by decide +kernel
theorem dX2_addLiteral_7 : decode cX2_addLiteral 7 = .ok (.aload_n 0, 1) := by decide +kernel
theorem dX2_addLiteral_8 : decode cX2_addLiteral 8 = .ok (.getfield 9, 3) := by decide +kernel
theorem dX2_addLiteral_11 : decode cX2_addLiteral 11 = .ok (.aload_n 0, 1) := by decide +kernel
theorem dX2_addLiteral_12 : decode cX2_addLiteral 12 = .ok (.getfield 37, 3) := by decide +kernel
theorem dX2_addLiteral_15 : decode cX2_addLiteral 15 = .ok (.iconst 1, 1) := by decide +kernel
theorem dX2_addLiteral_16 : decode cX2_addLiteral 16 = .ok (.isub, 1) := by decide +kernel
theorem dX2_addLiteral_17 : decode cX2_addLiteral 17 = .ok (.baload, 1) := by decide +kernel
theorem dX2_addLiteral_18 : decode cX2_addLiteral 18 = .ok (.ifCond .ne 21, 3) := by decide +kernel
theorem dX2_addLiteral_21 : decode cX2_addLiteral 21 = .ok (.aload_n 0, 1) := by decide +kernel
theorem dX2_addLiteral_22 : decode cX2_addLiteral 22 = .ok (.getfield 19, 3) := by decide +kernel
theorem dX2_addLiteral_25 : decode cX2_addLiteral 25 = .ok (.aload_n 0, 1) := by decide +kernel
theorem dX2_addLiteral_26 : decode cX2_addLiteral 26 = .ok (.getfield 37, 3) := by decide +kernel
theorem dX2_addLiteral_29 : decode cX2_addLiteral 29 = .ok (.iconst 1, 1) := by decide +kernel
theorem dX2_addLiteral_30 : decode cX2_addLiteral 30 = .ok (.isub, 1) := by decide +kernel
theorem dX2_addLiteral_31 : decode cX2_addLiteral 31 = .ok (.dup2, 1) := by decide +kernel
theorem dX2_addLiteral_32 : decode cX2_addLiteral 32 = .ok (.iaload, 1) := by decide +kernel
theorem dX2_addLiteral_33 : decode cX2_addLiteral 33 = .ok (.iconst 1, 1) := by decide +kernel
theorem dX2_addLiteral_34 : decode cX2_addLiteral 34 = .ok (.iadd, 1) := by decide +kernel
theorem dX2_addLiteral_35 : decode cX2_addLiteral 35 = .ok (.iastore, 1) := by decide +kernel
theorem dX2_addLiteral_36 : decode cX2_addLiteral 36 = .ok (.goto 10, 3) := by decide +kernel
theorem dX2_addLiteral_39 : decode cX2_addLiteral 39 = .ok (.aload_n 0, 1) := by decide +kernel
theorem dX2_addLiteral_40 : decode cX2_addLiteral 40 = .ok (.iconst 0, 1) := by decide +kernel
theorem dX2_addLiteral_41 : decode cX2_addLiteral 41 = .ok (.iload_n 1, 1) := by decide +kernel
theorem dX2_addLiteral_42 : decode cX2_addLiteral 42 = .ok (.iconst 1, 1) := by decide +kernel
theorem dX2_addLiteral_43 : decode cX2_addLiteral 43 = .ok (.invokevirtual 103, 3) := by decide +kernel
theorem dX2_addLiteral_46 : decode cX2_addLiteral 46 = .ok (.aload_n 0, 1) := by decide +kernel
theorem dX2_addLiteral_47 : decode cX2_addLiteral 47 = .ok (.iconst (-1), 1) := by decide +kernel
theorem dX2_addLiteral_48 : decode cX2_addLiteral 48 = .ok (.putfield 29, 3) := by decide +kernel
theorem dX2_addLiteral_51 : decode cX2_addLiteral 51 = .ok (.return_, 1) := by decide +kernel
theorem dX2_begin_0 : decode cX2_begin 0 = .ok (.aload_n 0, 1) := by decide +kernel
theorem dX2_begin_1 : decode cX2_begin 1 = .ok (.getfield 37, 3) := by decide +kernel
theorem dX2_begin_4 : decode cX2_begin 4 = .ok (.aload_n 0, 1) := by decide +kernel
theorem dX2_begin_5 : decode cX2_begin 5 = .ok (.getfield 9, 3) := by decide +kernel
theorem dX2_begin_8 : decode cX2_begin 8 = .ok (.arraylength, 1) := by decide +kernel
theorem dX2_begin_9 : decode cX2_begin 9 = .ok (.if_icmp .ge 43, 3) := by decide +kernel
theorem dX2_begin_12 : decode cX2_begin 12 = .ok (.aload_n 0, 1) := by decide +kernel
theorem dX2_begin_13 : decode cX2_begin 13 = .ok (.getfield 9, 3) := by decide +kernel
theorem dX2_begin_16 : decode cX2_begin 16 = .ok (.aload_n 0, 1) := by decide +kernel
theorem dX2_begin_17 : decode cX2_begin 17 = .ok (.getfield 37, 3) := by decide +kernel
theorem dX2_begin_20 : decode cX2_begin 20 = .ok (.iload_n 1, 1) := by decide +kernel
theorem dX2_begin_21 : decode cX2_begin 21 = .ok (.bastore, 1) := by decide +kernel
theorem dX2_begin_22 : decode cX2_begin 22 = .ok (.aload_n 0, 1) := by decide +kernel
theorem dX2_begin_23 : decode cX2_begin 23 = .ok (.getfield 15, 3) := by decide +kernel
theorem dX2_begin_26 : decode cX2_begin 26 = .ok (.aload_n 0, 1) := by decide +kernel
theorem dX2_begin_27 : decode cX2_begin 27 = .ok (.getfield 37, 3) := by decide +kernel
theorem dX2_begin_30 : decode cX2_begin 30 = .ok (.iload_n 2, 1) := by decide +kernel
theorem dX2_begin_31 : decode cX2_begin 31 = .ok (.iastore, 1) := by decide +kernel
theorem dX2_begin_32 : decode cX2_begin 32 = .ok (.aload_n 0, 1) := by decide +kernel
theorem dX2_begin_33 : decode cX2_begin 33 = .ok (.getfield 19, 3) := by decide +kernel
theorem dX2_begin_36 : decode cX2_begin 36 = .ok (.aload_n 0, 1) := by decide +kernel
theorem dX2_begin_37 : decode cX2_begin 37 = .ok (.getfield 37, 3) := by decide +kernel
theorem dX2_begin_40 : decode cX2_begin 40 = .ok (.iload_n 3, 1) := by decide +kernel
theorem dX2_begin_41 : decode cX2_begin 41 = .ok (.iastore, 1) := by decide +kernel
theorem dX2_begin_42 : decode cX2_begin 42 = .ok (.aload_n 0, 1) := by decide +kernel
theorem dX2_begin_43 : decode cX2_begin 43 = .ok (.dup, 1) := by decide +kernel
theorem dX2_begin_44 : decode cX2_begin 44 = .ok (.getfield 37, 3) := by decide +kernel
theorem dX2_begin_47 : decode cX2_begin 47 = .ok (.iconst 1, 1) := by decide +kernel
theorem dX2_begin_48 : decode cX2_begin 48 = .ok (.iadd, 1) := by decide +kernel
theorem dX2_begin_49 : decode cX2_begin 49 = .ok (.putfield 37, 3) := by decide +kernel
theorem dX2_begin_52 : decode cX2_begin 52 = .ok (.return_, 1) := by decide +kernel
theorem dX2_price_0 : decode cX2_price 0 = .ok (.iconst 0, 1) := by decide +kernel
theorem dX2_price_1 : decode cX2_price 1 = .ok (.istore_n 1, 1) := by decide +kernel
theorem dX2_price_2 : decode cX2_price 2 = .ok (.iconst 0, 1) := by decide +kernel
theorem dX2_price_3 : decode cX2_price 3 = .ok (.istore_n 2, 1) := by decide +kernel
theorem dX2_price_4 : decode cX2_price 4 = .ok (.iload_n 2, 1) := by decide +kernel
theorem dX2_price_5 : decode cX2_price 5 = .ok (.aload_n 0, 1) := by decide +kernel
theorem dX2_price_6 : decode cX2_price 6 = .ok (.getfield 37, 3) := by decide +kernel
theorem dX2_price_9 : decode cX2_price 9 = .ok (.if_icmp .ge 33, 3) := by decide +kernel
theorem dX2_price_12 : decode cX2_price 12 = .ok (.iload_n 1, 1) := by decide +kernel
theorem dX2_price_13 : decode cX2_price 13 = .ok (.aload_n 0, 1) := by decide +kernel
theorem dX2_price_14 : decode cX2_price 14 = .ok (.getfield 9, 3) := by decide +kernel
theorem dX2_price_17 : decode cX2_price 17 = .ok (.iload_n 2, 1) := by decide +kernel
theorem dX2_price_18 : decode cX2_price 18 = .ok (.baload, 1) := by decide +kernel
theorem dX2_price_19 : decode cX2_price 19 = .ok (.ifCond .eq 7, 3) := by decide +kernel
theorem dX2_price_22 : decode cX2_price 22 = .ok (.iconst 3, 1) := by decide +kernel
theorem dX2_price_23 : decode cX2_price 23 = .ok (.goto 11, 3) := by decide +kernel
theorem dX2_price_26 : decode cX2_price 26 = .ok (.iconst 1, 1) := by decide +kernel
theorem dX2_price_27 : decode cX2_price 27 = .ok (.aload_n 0, 1) := by decide +kernel
theorem dX2_price_28 : decode cX2_price 28 = .ok (.getfield 19, 3) := by decide +kernel
theorem dX2_price_31 : decode cX2_price 31 = .ok (.iload_n 2, 1) := by decide +kernel
theorem dX2_price_32 : decode cX2_price 32 = .ok (.iaload, 1) := by decide +kernel
theorem dX2_price_33 : decode cX2_price 33 = .ok (.iadd, 1) := by decide +kernel
theorem dX2_price_34 : decode cX2_price 34 = .ok (.iadd, 1) := by decide +kernel
theorem dX2_price_35 : decode cX2_price 35 = .ok (.istore_n 1, 1) := by decide +kernel
theorem dX2_price_36 : decode cX2_price 36 = .ok (.iinc 2 1, 3) := by decide +kernel
theorem dX2_price_39 : decode cX2_price 39 = .ok (.goto (-35), 3) := by decide +kernel
theorem dX2_price_42 : decode cX2_price 42 = .ok (.iload_n 1, 1) := by decide +kernel
theorem dX2_price_43 : decode cX2_price 43 = .ok (.ireturn, 1) := by decide +kernel
theorem dX2_fits_0 : decode cX2_fits 0 = .ok (.iconst 0, 1) := by decide +kernel
theorem dX2_fits_1 : decode cX2_fits 1 = .ok (.istore_n 2, 1) := by decide +kernel
theorem dX2_fits_2 : decode cX2_fits 2 = .ok (.iload_n 2, 1) := by decide +kernel
theorem dX2_fits_3 : decode cX2_fits 3 = .ok (.aload_n 0, 1) := by decide +kernel
theorem dX2_fits_4 : decode cX2_fits 4 = .ok (.getfield 37, 3) := by decide +kernel
theorem dX2_fits_7 : decode cX2_fits 7 = .ok (.if_icmp .ge 40, 3) := by decide +kernel
theorem dX2_fits_10 : decode cX2_fits 10 = .ok (.aload_n 0, 1) := by decide +kernel
theorem dX2_fits_11 : decode cX2_fits 11 = .ok (.getfield 9, 3) := by decide +kernel
theorem dX2_fits_14 : decode cX2_fits 14 = .ok (.iload_n 2, 1) := by decide +kernel
theorem dX2_fits_15 : decode cX2_fits 15 = .ok (.baload, 1) := by decide +kernel
theorem dX2_fits_16 : decode cX2_fits 16 = .ok (.ifCond .eq 25, 3) := by decide +kernel
theorem dX2_fits_19 : decode cX2_fits 19 = .ok (.aload_n 0, 1) := by decide +kernel
theorem dX2_fits_20 : decode cX2_fits 20 = .ok (.getfield 15, 3) := by decide +kernel
theorem dX2_fits_23 : decode cX2_fits 23 = .ok (.iload_n 2, 1) := by decide +kernel
theorem dX2_fits_24 : decode cX2_fits 24 = .ok (.iaload, 1) := by decide +kernel
theorem dX2_fits_25 : decode cX2_fits 25 = .ok (.aload_n 0, 1) := by decide +kernel
theorem dX2_fits_26 : decode cX2_fits 26 = .ok (.getfield 19, 3) := by decide +kernel
theorem dX2_fits_29 : decode cX2_fits 29 = .ok (.iload_n 2, 1) := by decide +kernel
theorem dX2_fits_30 : decode cX2_fits 30 = .ok (.iaload, 1) := by decide +kernel
theorem dX2_fits_31 : decode cX2_fits 31 = .ok (.iadd, 1) := by decide +kernel
theorem dX2_fits_32 : decode cX2_fits 32 = .ok (.aload_n 1, 1) := by decide +kernel
theorem dX2_fits_33 : decode cX2_fits 33 = .ok (.getfield 47, 3) := by decide +kernel
theorem dX2_fits_36 : decode cX2_fits 36 = .ok (.if_icmp .le 5, 3) := by decide +kernel
theorem dX2_fits_39 : decode cX2_fits 39 = .ok (.iconst 0, 1) := by decide +kernel
theorem dX2_fits_40 : decode cX2_fits 40 = .ok (.ireturn, 1) := by decide +kernel
theorem dX2_fits_41 : decode cX2_fits 41 = .ok (.iinc 2 1, 3) := by decide +kernel
theorem dX2_fits_44 : decode cX2_fits 44 = .ok (.goto (-42), 3) := by decide +kernel
theorem dX2_fits_47 : decode cX2_fits 47 = .ok (.iconst 1, 1) := by decide +kernel
theorem dX2_fits_48 : decode cX2_fits 48 = .ok (.ireturn, 1) := by decide +kernel
theorem dX2_give_0 : decode cX2_give 0 = .ok (.aload_n 2, 1) := by decide +kernel
theorem dX2_give_1 : decode cX2_give 1 = .ok (.iconst 0, 1) := by decide +kernel
theorem dX2_give_2 : decode cX2_give 2 = .ok (.putfield 47, 3) := by decide +kernel
theorem dX2_give_5 : decode cX2_give 5 = .ok (.iconst 0, 1) := by decide +kernel
theorem dX2_give_6 : decode cX2_give 6 = .ok (.istore_n 3, 1) := by decide +kernel
theorem dX2_give_7 : decode cX2_give 7 = .ok (.iload_n 3, 1) := by decide +kernel
theorem dX2_give_8 : decode cX2_give 8 = .ok (.aload_n 0, 1) := by decide +kernel
theorem dX2_give_9 : decode cX2_give 9 = .ok (.getfield 37, 3) := by decide +kernel
theorem dX2_give_12 : decode cX2_give 12 = .ok (.if_icmp .ge 42, 3) := by decide +kernel
theorem dX2_give_15 : decode cX2_give 15 = .ok (.aload_n 2, 1) := by decide +kernel
theorem dX2_give_16 : decode cX2_give 16 = .ok (.aload_n 0, 1) := by decide +kernel
theorem dX2_give_17 : decode cX2_give 17 = .ok (.getfield 9, 3) := by decide +kernel
theorem dX2_give_20 : decode cX2_give 20 = .ok (.iload_n 3, 1) := by decide +kernel
theorem dX2_give_21 : decode cX2_give 21 = .ok (.baload, 1) := by decide +kernel
theorem dX2_give_22 : decode cX2_give 22 = .ok (.ifCond .eq 7, 3) := by decide +kernel
theorem dX2_give_25 : decode cX2_give 25 = .ok (.aload_n 1, 1) := by decide +kernel
theorem dX2_give_26 : decode cX2_give 26 = .ok (.goto 7, 3) := by decide +kernel
theorem dX2_give_29 : decode cX2_give 29 = .ok (.aload_n 0, 1) := by decide +kernel
theorem dX2_give_30 : decode cX2_give 30 = .ok (.getfield 25, 3) := by decide +kernel
theorem dX2_give_33 : decode cX2_give 33 = .ok (.aload_n 0, 1) := by decide +kernel
theorem dX2_give_34 : decode cX2_give 34 = .ok (.getfield 15, 3) := by decide +kernel
theorem dX2_give_37 : decode cX2_give 37 = .ok (.iload_n 3, 1) := by decide +kernel
theorem dX2_give_38 : decode cX2_give 38 = .ok (.iaload, 1) := by decide +kernel
theorem dX2_give_39 : decode cX2_give 39 = .ok (.aload_n 0, 1) := by decide +kernel
theorem dX2_give_40 : decode cX2_give 40 = .ok (.getfield 19, 3) := by decide +kernel
theorem dX2_give_43 : decode cX2_give 43 = .ok (.iload_n 3, 1) := by decide +kernel
theorem dX2_give_44 : decode cX2_give 44 = .ok (.iaload, 1) := by decide +kernel
theorem dX2_give_45 : decode cX2_give 45 = .ok (.invokevirtual 107, 3) := by decide +kernel
theorem dX2_give_48 : decode cX2_give 48 = .ok (.iinc 3 1, 3) := by decide +kernel
theorem dX2_give_51 : decode cX2_give 51 = .ok (.goto (-44), 3) := by decide +kernel
theorem dX2_give_54 : decode cX2_give 54 = .ok (.return_, 1) := by decide +kernel
theorem dX3_init_0 : decode cX3_init 0 = .ok (.aload_n 0, 1) := by decide +kernel
theorem dX3_init_1 : decode cX3_init 1 = .ok (.invokespecial 1, 3) := by decide +kernel
theorem dX3_init_4 : decode cX3_init 4 = .ok (.aload_n 0, 1) := by decide +kernel
theorem dX3_init_5 : decode cX3_init 5 = .ok (.new 7, 3) := by decide +kernel
theorem dX3_init_8 : decode cX3_init 8 = .ok (.dup, 1) := by decide +kernel
theorem dX3_init_9 : decode cX3_init 9 = .ok (.invokespecial 9, 3) := by decide +kernel
theorem dX3_init_12 : decode cX3_init 12 = .ok (.putfield 10, 3) := by decide +kernel
theorem dX3_init_15 : decode cX3_init 15 = .ok (.return_, 1) := by decide +kernel
theorem dX3_writeTo_0 : decode cX3_writeTo 0 = .ok (.aload_n 1, 1) := by decide +kernel
theorem dX3_writeTo_1 : decode cX3_writeTo 1 = .ok (.iconst 0, 1) := by decide +kernel
theorem dX3_writeTo_2 : decode cX3_writeTo 2 = .ok (.putfield 16, 3) := by decide +kernel
theorem dX3_writeTo_5 : decode cX3_writeTo 5 = .ok (.iconst 0, 1) := by decide +kernel
theorem dX3_writeTo_6 : decode cX3_writeTo 6 = .ok (.istore_n 2, 1) := by decide +kernel
theorem dX3_writeTo_7 : decode cX3_writeTo 7 = .ok (.iload_n 2, 1) := by decide +kernel
theorem dX3_writeTo_8 : decode cX3_writeTo 8 = .ok (.aload_n 0, 1) := by decide +kernel
theorem dX3_writeTo_9 : decode cX3_writeTo 9 = .ok (.getfield 10, 3) := by decide +kernel
theorem dX3_writeTo_12 : decode cX3_writeTo 12 = .ok (.invokevirtual 22, 3) := by decide +kernel
theorem dX3_writeTo_15 : decode cX3_writeTo 15 = .ok (.if_icmp .ge 50, 3) := by decide +kernel
theorem dX3_writeTo_18 : decode cX3_writeTo 18 = .ok (.aload_n 0, 1) := by decide +kernel
theorem dX3_writeTo_19 : decode cX3_writeTo 19 = .ok (.getfield 10, 3) := by decide +kernel
theorem dX3_writeTo_22 : decode cX3_writeTo 22 = .ok (.iload_n 2, 1) := by decide +kernel
theorem dX3_writeTo_23 : decode cX3_writeTo 23 = .ok (.invokevirtual 25, 3) := by decide +kernel
theorem dX3_writeTo_26 : decode cX3_writeTo 26 = .ok (.checkcast 29, 3) := by decide +kernel
theorem dX3_writeTo_29 : decode cX3_writeTo 29 = .ok (.astore_n 3, 1) := by decide +kernel
theorem dX3_writeTo_30 : decode cX3_writeTo 30 = .ok (.iconst 0, 1) := by decide +kernel
theorem dX3_writeTo_31 : decode cX3_writeTo 31 = .ok (.istore 4, 2) := by decide +kernel
theorem dX3_writeTo_33 : decode cX3_writeTo 33 = .ok (.iload 4, 2) := by decide +kernel
theorem dX3_writeTo_35 : decode cX3_writeTo 35 = .ok (.aload_n 3, 1) := by decide +kernel
theorem dX3_writeTo_36 : decode cX3_writeTo 36 = .ok (.getfield 31, 3) := by decide +kernel
theorem dX3_writeTo_39 : decode cX3_writeTo 39 = .ok (.if_icmp .ge 20, 3) := by decide +kernel
theorem dX3_writeTo_42 : decode cX3_writeTo 42 = .ok (.aload_n 1, 1) := by decide +kernel
theorem dX3_writeTo_43 : decode cX3_writeTo 43 = .ok (.aload_n 3, 1) := by decide +kernel
theorem dX3_writeTo_44 : decode cX3_writeTo 44 = .ok (.getfield 32, 3) := by decide +kernel
theorem dX3_writeTo_47 : decode cX3_writeTo 47 = .ok (.iload 4, 2) := by decide +kernel
theorem dX3_writeTo_49 : decode cX3_writeTo 49 = .ok (.iaload, 1) := by decide +kernel
theorem dX3_writeTo_50 : decode cX3_writeTo 50 = .ok (.invokevirtual 36, 3) := by decide +kernel
theorem dX3_writeTo_53 : decode cX3_writeTo 53 = .ok (.iinc 4 1, 3) := by decide +kernel
theorem dX3_writeTo_56 : decode cX3_writeTo 56 = .ok (.goto (-23), 3) := by decide +kernel
theorem dX3_writeTo_59 : decode cX3_writeTo 59 = .ok (.iinc 2 1, 3) := by decide +kernel
theorem dX3_writeTo_62 : decode cX3_writeTo 62 = .ok (.goto (-55), 3) := by decide +kernel
theorem dX3_writeTo_65 : decode cX3_writeTo 65 = .ok (.return_, 1) := by decide +kernel
theorem dX4_init_0 : decode cX4_init 0 = .ok (.aload_n 0, 1) := by decide +kernel
theorem dX4_init_1 : decode cX4_init 1 = .ok (.invokespecial 3, 3) := by decide +kernel
theorem dX4_init_4 : decode cX4_init 4 = .ok (.aload_n 0, 1) := by decide +kernel
theorem dX4_init_5 : decode cX4_init 5 = .ok (.bipush 120, 2) := by decide +kernel
theorem dX4_init_7 : decode cX4_init 7 = .ok (.newarray .int, 2) := by decide +kernel
theorem dX4_init_9 : decode cX4_init 9 = .ok (.putfield 9, 3) := by decide +kernel
theorem dX4_init_12 : decode cX4_init 12 = .ok (.return_, 1) := by decide +kernel
theorem dX4_at_0 : decode cX4_at 0 = .ok (.iload_n 1, 1) := by decide +kernel
theorem dX4_at_1 : decode cX4_at 1 = .ok (.ifCond .lt 20, 3) := by decide +kernel
theorem dX4_at_4 : decode cX4_at 4 = .ok (.iload_n 1, 1) := by decide +kernel
theorem dX4_at_5 : decode cX4_at 5 = .ok (.aload_n 0, 1) := by decide +kernel
theorem dX4_at_6 : decode cX4_at 6 = .ok (.getfield 15, 3) := by decide +kernel
theorem dX4_at_9 : decode cX4_at 9 = .ok (.if_icmp .ge 12, 3) := by decide +kernel
theorem dX4_at_12 : decode cX4_at 12 = .ok (.aload_n 0, 1) := by decide +kernel
theorem dX4_at_13 : decode cX4_at 13 = .ok (.getfield 9, 3) := by decide +kernel
theorem dX4_at_16 : decode cX4_at 16 = .ok (.iload_n 1, 1) := by decide +kernel
theorem dX4_at_17 : decode cX4_at 17 = .ok (.iaload, 1) := by decide +kernel
theorem dX4_at_18 : decode cX4_at 18 = .ok (.goto 4, 3) := by decide +kernel
theorem dX4_at_21 : decode cX4_at 21 = .ok (.iconst 0, 1) := by decide +kernel
theorem dX4_at_22 : decode cX4_at 22 = .ok (.ireturn, 1) := by decide +kernel
theorem dX4_append_0 : decode cX4_append 0 = .ok (.aload_n 0, 1) := by decide +kernel
theorem dX4_append_1 : decode cX4_append 1 = .ok (.getfield 15, 3) := by decide +kernel
theorem dX4_append_4 : decode cX4_append 4 = .ok (.aload_n 0, 1) := by decide +kernel
theorem dX4_append_5 : decode cX4_append 5 = .ok (.getfield 9, 3) := by decide +kernel
theorem dX4_append_8 : decode cX4_append 8 = .ok (.arraylength, 1) := by decide +kernel
theorem dX4_append_9 : decode cX4_append 9 = .ok (.if_icmp .ge 23, 3) := by decide +kernel
theorem dX4_append_12 : decode cX4_append 12 = .ok (.aload_n 0, 1) := by decide +kernel
theorem dX4_append_13 : decode cX4_append 13 = .ok (.getfield 9, 3) := by decide +kernel
theorem dX4_append_16 : decode cX4_append 16 = .ok (.aload_n 0, 1) := by decide +kernel
theorem dX4_append_17 : decode cX4_append 17 = .ok (.getfield 15, 3) := by decide +kernel
theorem dX4_append_20 : decode cX4_append 20 = .ok (.iload_n 1, 1) := by decide +kernel
theorem dX4_append_21 : decode cX4_append 21 = .ok (.iastore, 1) := by decide +kernel
theorem dX4_append_22 : decode cX4_append 22 = .ok (.aload_n 0, 1) := by decide +kernel
theorem dX4_append_23 : decode cX4_append 23 = .ok (.dup, 1) := by decide +kernel
theorem dX4_append_24 : decode cX4_append 24 = .ok (.getfield 15, 3) := by decide +kernel
theorem dX4_append_27 : decode cX4_append 27 = .ok (.iconst 1, 1) := by decide +kernel
theorem dX4_append_28 : decode cX4_append 28 = .ok (.iadd, 1) := by decide +kernel
theorem dX4_append_29 : decode cX4_append 29 = .ok (.putfield 15, 3) := by decide +kernel
theorem dX4_append_32 : decode cX4_append 32 = .ok (.return_, 1) := by decide +kernel
theorem dX4_appendFrom_0 : decode cX4_appendFrom 0 = .ok (.iconst 0, 1) := by decide +kernel
theorem dX4_appendFrom_1 : decode cX4_appendFrom 1 = .ok (.istore 4, 2) := by decide +kernel
theorem dX4_appendFrom_3 : decode cX4_appendFrom 3 = .ok (.iload 4, 2) := by decide +kernel
theorem dX4_appendFrom_5 : decode cX4_appendFrom 5 = .ok (.iload_n 3, 1) := by decide +kernel
theorem dX4_appendFrom_6 : decode cX4_appendFrom 6 = .ok (.if_icmp .ge 21, 3) := by decide +kernel
theorem dX4_appendFrom_9 : decode cX4_appendFrom 9 = .ok (.aload_n 0, 1) := by decide +kernel
theorem dX4_appendFrom_10 : decode cX4_appendFrom 10 = .ok (.aload_n 1, 1) := by decide +kernel
theorem dX4_appendFrom_11 : decode cX4_appendFrom 11 = .ok (.iload_n 2, 1) := by decide +kernel
theorem dX4_appendFrom_12 : decode cX4_appendFrom 12 = .ok (.iload 4, 2) := by decide +kernel
theorem dX4_appendFrom_14 : decode cX4_appendFrom 14 = .ok (.iadd, 1) := by decide +kernel
theorem dX4_appendFrom_15 : decode cX4_appendFrom 15 = .ok (.invokevirtual 19, 3) := by decide +kernel
theorem dX4_appendFrom_18 : decode cX4_appendFrom 18 = .ok (.invokevirtual 23, 3) := by decide +kernel
theorem dX4_appendFrom_21 : decode cX4_appendFrom 21 = .ok (.iinc 4 1, 3) := by decide +kernel
theorem dX4_appendFrom_24 : decode cX4_appendFrom 24 = .ok (.goto (-21), 3) := by decide +kernel
theorem dX4_appendFrom_27 : decode cX4_appendFrom 27 = .ok (.return_, 1) := by decide +kernel
theorem dX4_become_0 : decode cX4_become 0 = .ok (.iconst 0, 1) := by decide +kernel
theorem dX4_become_1 : decode cX4_become 1 = .ok (.istore_n 2, 1) := by decide +kernel
theorem dX4_become_2 : decode cX4_become 2 = .ok (.iload_n 2, 1) := by decide +kernel
theorem dX4_become_3 : decode cX4_become 3 = .ok (.aload_n 1, 1) := by decide +kernel
theorem dX4_become_4 : decode cX4_become 4 = .ok (.getfield 15, 3) := by decide +kernel
theorem dX4_become_7 : decode cX4_become 7 = .ok (.if_icmp .ge 21, 3) := by decide +kernel
theorem dX4_become_10 : decode cX4_become 10 = .ok (.aload_n 0, 1) := by decide +kernel
theorem dX4_become_11 : decode cX4_become 11 = .ok (.getfield 9, 3) := by decide +kernel
theorem dX4_become_14 : decode cX4_become 14 = .ok (.iload_n 2, 1) := by decide +kernel
theorem dX4_become_15 : decode cX4_become 15 = .ok (.aload_n 1, 1) := by decide +kernel
theorem dX4_become_16 : decode cX4_become 16 = .ok (.getfield 9, 3) := by decide +kernel
theorem dX4_become_19 : decode cX4_become 19 = .ok (.iload_n 2, 1) := by decide +kernel
theorem dX4_become_20 : decode cX4_become 20 = .ok (.iaload, 1) := by decide +kernel
theorem dX4_become_21 : decode cX4_become 21 = .ok (.iastore, 1) := by decide +kernel
theorem dX4_become_22 : decode cX4_become 22 = .ok (.iinc 2 1, 3) := by decide +kernel
theorem dX4_become_25 : decode cX4_become 25 = .ok (.goto (-23), 3) := by decide +kernel
theorem dX4_become_28 : decode cX4_become 28 = .ok (.aload_n 0, 1) := by decide +kernel
theorem dX4_become_29 : decode cX4_become 29 = .ok (.aload_n 1, 1) := by decide +kernel
theorem dX4_become_30 : decode cX4_become 30 = .ok (.getfield 15, 3) := by decide +kernel
theorem dX4_become_33 : decode cX4_become 33 = .ok (.putfield 15, 3) := by decide +kernel
theorem dX4_become_36 : decode cX4_become 36 = .ok (.return_, 1) := by decide +kernel
theorem dX4_putIn_0 : decode cX4_putIn 0 = .ok (.aload_n 0, 1) := by decide +kernel
theorem dX4_putIn_1 : decode cX4_putIn 1 = .ok (.iload_n 2, 1) := by decide +kernel
theorem dX4_putIn_2 : decode cX4_putIn 2 = .ok (.invokevirtual 23, 3) := by decide +kernel
theorem dX4_putIn_5 : decode cX4_putIn 5 = .ok (.aload_n 0, 1) := by decide +kernel
theorem dX4_putIn_6 : decode cX4_putIn 6 = .ok (.getfield 15, 3) := by decide +kernel
theorem dX4_putIn_9 : decode cX4_putIn 9 = .ok (.iconst 1, 1) := by decide +kernel
theorem dX4_putIn_10 : decode cX4_putIn 10 = .ok (.isub, 1) := by decide +kernel
theorem dX4_putIn_11 : decode cX4_putIn 11 = .ok (.istore_n 3, 1) := by decide +kernel
theorem dX4_putIn_12 : decode cX4_putIn 12 = .ok (.iload_n 3, 1) := by decide +kernel
theorem dX4_putIn_13 : decode cX4_putIn 13 = .ok (.iload_n 1, 1) := by decide +kernel
theorem dX4_putIn_14 : decode cX4_putIn 14 = .ok (.if_icmp .le 23, 3) := by decide +kernel
theorem dX4_putIn_17 : decode cX4_putIn 17 = .ok (.aload_n 0, 1) := by decide +kernel
theorem dX4_putIn_18 : decode cX4_putIn 18 = .ok (.getfield 9, 3) := by decide +kernel
theorem dX4_putIn_21 : decode cX4_putIn 21 = .ok (.iload_n 3, 1) := by decide +kernel
theorem dX4_putIn_22 : decode cX4_putIn 22 = .ok (.aload_n 0, 1) := by decide +kernel
theorem dX4_putIn_23 : decode cX4_putIn 23 = .ok (.getfield 9, 3) := by decide +kernel
theorem dX4_putIn_26 : decode cX4_putIn 26 = .ok (.iload_n 3, 1) := by decide +kernel
theorem dX4_putIn_27 : decode cX4_putIn 27 = .ok (.iconst 1, 1) := by decide +kernel
theorem dX4_putIn_28 : decode cX4_putIn 28 = .ok (.isub, 1) := by decide +kernel
theorem dX4_putIn_29 : decode cX4_putIn 29 = .ok (.iaload, 1) := by decide +kernel
theorem dX4_putIn_30 : decode cX4_putIn 30 = .ok (.iastore, 1) := by decide +kernel
theorem dX4_putIn_31 : decode cX4_putIn 31 = .ok (.iinc 3 (-1), 3) := by decide +kernel
theorem dX4_putIn_34 : decode cX4_putIn 34 = .ok (.goto (-22), 3) := by decide +kernel
theorem dX4_putIn_37 : decode cX4_putIn 37 = .ok (.aload_n 0, 1) := by decide +kernel
theorem dX4_putIn_38 : decode cX4_putIn 38 = .ok (.getfield 9, 3) := by decide +kernel
theorem dX4_putIn_41 : decode cX4_putIn 41 = .ok (.iload_n 1, 1) := by decide +kernel
theorem dX4_putIn_42 : decode cX4_putIn 42 = .ok (.iload_n 2, 1) := by decide +kernel
theorem dX4_putIn_43 : decode cX4_putIn 43 = .ok (.iastore, 1) := by decide +kernel
theorem dX4_putIn_44 : decode cX4_putIn 44 = .ok (.return_, 1) := by decide +kernel
theorem dX4_takeOut_0 : decode cX4_takeOut 0 = .ok (.iload_n 1, 1) := by decide +kernel
theorem dX4_takeOut_1 : decode cX4_takeOut 1 = .ok (.istore_n 3, 1) := by decide +kernel
theorem dX4_takeOut_2 : decode cX4_takeOut 2 = .ok (.iload_n 3, 1) := by decide +kernel
theorem dX4_takeOut_3 : decode cX4_takeOut 3 = .ok (.iload_n 2, 1) := by decide +kernel
theorem dX4_takeOut_4 : decode cX4_takeOut 4 = .ok (.iadd, 1) := by decide +kernel
theorem dX4_takeOut_5 : decode cX4_takeOut 5 = .ok (.aload_n 0, 1) := by decide +kernel
theorem dX4_takeOut_6 : decode cX4_takeOut 6 = .ok (.getfield 15, 3) := by decide +kernel
theorem dX4_takeOut_9 : decode cX4_takeOut 9 = .ok (.if_icmp .ge 23, 3) := by decide +kernel
theorem dX4_takeOut_12 : decode cX4_takeOut 12 = .ok (.aload_n 0, 1) := by decide +kernel
theorem dX4_takeOut_13 : decode cX4_takeOut 13 = .ok (.getfield 9, 3) := by decide +kernel
theorem dX4_takeOut_16 : decode cX4_takeOut 16 = .ok (.iload_n 3, 1) := by decide +kernel
theorem dX4_takeOut_17 : decode cX4_takeOut 17 = .ok (.aload_n 0, 1) := by decide +kernel
theorem dX4_takeOut_18 : decode cX4_takeOut 18 = .ok (.getfield 9, 3) := by decide +kernel
theorem dX4_takeOut_21 : decode cX4_takeOut 21 = .ok (.iload_n 3, 1) := by decide +kernel
theorem dX4_takeOut_22 : decode cX4_takeOut 22 = .ok (.iload_n 2, 1) := by decide +kernel
theorem dX4_takeOut_23 : decode cX4_takeOut 23 = .ok (.iadd, 1) := by decide +kernel
theorem dX4_takeOut_24 : decode cX4_takeOut 24 = .ok (.iaload, 1) := by decide +kernel
theorem dX4_takeOut_25 : decode cX4_takeOut 25 = .ok (.iastore, 1) := by decide +kernel
theorem dX4_takeOut_26 : decode cX4_takeOut 26 = .ok (.iinc 3 1, 3) := by decide +kernel
theorem dX4_takeOut_29 : decode cX4_takeOut 29 = .ok (.goto (-27), 3) := by decide +kernel
theorem dX4_takeOut_32 : decode cX4_takeOut 32 = .ok (.aload_n 0, 1) := by decide +kernel
theorem dX4_takeOut_33 : decode cX4_takeOut 33 = .ok (.dup, 1) := by decide +kernel
theorem dX4_takeOut_34 : decode cX4_takeOut 34 = .ok (.getfield 15, 3) := by decide +kernel
theorem dX4_takeOut_37 : decode cX4_takeOut 37 = .ok (.iload_n 2, 1) := by decide +kernel
theorem dX4_takeOut_38 : decode cX4_takeOut 38 = .ok (.isub, 1) := by decide +kernel
theorem dX4_takeOut_39 : decode cX4_takeOut 39 = .ok (.putfield 15, 3) := by decide +kernel
theorem dX4_takeOut_42 : decode cX4_takeOut 42 = .ok (.return_, 1) := by decide +kernel
theorem dX4_hasBytesOf_0 : decode cX4_hasBytesOf 0 = .ok (.aload_n 0, 1) := by decide +kernel
theorem dX4_hasBytesOf_1 : decode cX4_hasBytesOf 1 = .ok (.getfield 15, 3) := by decide +kernel
theorem dX4_hasBytesOf_4 : decode cX4_hasBytesOf 4 = .ok (.aload_n 1, 1) := by decide +kernel
theorem dX4_hasBytesOf_5 : decode cX4_hasBytesOf 5 = .ok (.getfield 15, 3) := by decide +kernel
theorem dX4_hasBytesOf_8 : decode cX4_hasBytesOf 8 = .ok (.if_icmp .eq 5, 3) := by decide +kernel
theorem dX4_hasBytesOf_11 : decode cX4_hasBytesOf 11 = .ok (.iconst 0, 1) := by decide +kernel
theorem dX4_hasBytesOf_12 : decode cX4_hasBytesOf 12 = .ok (.ireturn, 1) := by decide +kernel
theorem dX4_hasBytesOf_13 : decode cX4_hasBytesOf 13 = .ok (.iconst 0, 1) := by decide +kernel
theorem dX4_hasBytesOf_14 : decode cX4_hasBytesOf 14 = .ok (.istore_n 2, 1) := by decide +kernel
theorem dX4_hasBytesOf_15 : decode cX4_hasBytesOf 15 = .ok (.iload_n 2, 1) := by decide +kernel
theorem dX4_hasBytesOf_16 : decode cX4_hasBytesOf 16 = .ok (.aload_n 0, 1) := by decide +kernel
theorem dX4_hasBytesOf_17 : decode cX4_hasBytesOf 17 = .ok (.getfield 15, 3) := by decide +kernel
theorem dX4_hasBytesOf_20 : decode cX4_hasBytesOf 20 = .ok (.if_icmp .ge 26, 3) := by decide +kernel
theorem dX4_hasBytesOf_23 : decode cX4_hasBytesOf 23 = .ok (.aload_n 0, 1) := by decide +kernel
theorem dX4_hasBytesOf_24 : decode cX4_hasBytesOf 24 = .ok (.getfield 9, 3) := by decide +kernel
theorem dX4_hasBytesOf_27 : decode cX4_hasBytesOf 27 = .ok (.iload_n 2, 1) := by decide +kernel
theorem dX4_hasBytesOf_28 : decode cX4_hasBytesOf 28 = .ok (.iaload, 1) := by decide +kernel
theorem dX4_hasBytesOf_29 : decode cX4_hasBytesOf 29 = .ok (.aload_n 1, 1) := by decide +kernel
theorem dX4_hasBytesOf_30 : decode cX4_hasBytesOf 30 = .ok (.getfield 9, 3) := by decide +kernel
theorem dX4_hasBytesOf_33 : decode cX4_hasBytesOf 33 = .ok (.iload_n 2, 1) := by decide +kernel
theorem dX4_hasBytesOf_34 : decode cX4_hasBytesOf 34 = .ok (.iaload, 1) := by decide +kernel
theorem dX4_hasBytesOf_35 : decode cX4_hasBytesOf 35 = .ok (.if_icmp .eq 5, 3) := by decide +kernel
theorem dX4_hasBytesOf_38 : decode cX4_hasBytesOf 38 = .ok (.iconst 0, 1) := by decide +kernel
theorem dX4_hasBytesOf_39 : decode cX4_hasBytesOf 39 = .ok (.ireturn, 1) := by decide +kernel
theorem dX4_hasBytesOf_40 : decode cX4_hasBytesOf 40 = .ok (.iinc 2 1, 3) := by decide +kernel
theorem dX4_hasBytesOf_43 : decode cX4_hasBytesOf 43 = .ok (.goto (-28), 3) := by decide +kernel
theorem dX4_hasBytesOf_46 : decode cX4_hasBytesOf 46 = .ok (.iconst 1, 1) := by decide +kernel
theorem dX4_hasBytesOf_47 : decode cX4_hasBytesOf 47 = .ok (.ireturn, 1) := by decide +kernel
theorem dX4_weakSum_0 : decode cX4_weakSum 0 = .ok (.iconst 0, 1) := by decide +kernel
theorem dX4_weakSum_1 : decode cX4_weakSum 1 = .ok (.istore 4, 2) := by decide +kernel
theorem dX4_weakSum_3 : decode cX4_weakSum 3 = .ok (.iconst 0, 1) := by decide +kernel
theorem dX4_weakSum_4 : decode cX4_weakSum 4 = .ok (.istore 5, 2) := by decide +kernel
theorem dX4_weakSum_6 : decode cX4_weakSum 6 = .ok (.iconst 0, 1) := by decide +kernel
theorem dX4_weakSum_7 : decode cX4_weakSum 7 = .ok (.istore 6, 2) := by decide +kernel
theorem dX4_weakSum_9 : decode cX4_weakSum 9 = .ok (.iload 6, 2) := by decide +kernel
theorem dX4_weakSum_11 : decode cX4_weakSum 11 = .ok (.iload_n 2, 1) := by decide +kernel
theorem dX4_weakSum_12 : decode cX4_weakSum 12 = .ok (.if_icmp .ge 40, 3) := by decide +kernel
theorem dX4_weakSum_15 : decode cX4_weakSum 15 = .ok (.iload 4, 2) := by decide +kernel
theorem dX4_weakSum_17 : decode cX4_weakSum 17 = .ok (.aload_n 0, 1) := by decide +kernel
theorem dX4_weakSum_18 : decode cX4_weakSum 18 = .ok (.iload_n 1, 1) := by decide +kernel
theorem dX4_weakSum_19 : decode cX4_weakSum 19 = .ok (.iload 6, 2) := by decide +kernel
theorem dX4_weakSum_21 : decode cX4_weakSum 21 = .ok (.iadd, 1) := by decide +kernel
theorem dX4_weakSum_22 : decode cX4_weakSum 22 = .ok (.invokevirtual 19, 3) := by decide +kernel
theorem dX4_weakSum_25 : decode cX4_weakSum 25 = .ok (.iadd, 1) := by decide +kernel
theorem dX4_weakSum_26 : decode cX4_weakSum 26 = .ok (.istore 4, 2) := by decide +kernel
theorem dX4_weakSum_28 : decode cX4_weakSum 28 = .ok (.iload 5, 2) := by decide +kernel
theorem dX4_weakSum_30 : decode cX4_weakSum 30 = .ok (.iload_n 2, 1) := by decide +kernel
theorem dX4_weakSum_31 : decode cX4_weakSum 31 = .ok (.iload 6, 2) := by decide +kernel
theorem dX4_weakSum_33 : decode cX4_weakSum 33 = .ok (.isub, 1) := by decide +kernel
theorem dX4_weakSum_34 : decode cX4_weakSum 34 = .ok (.aload_n 0, 1) := by decide +kernel
theorem dX4_weakSum_35 : decode cX4_weakSum 35 = .ok (.iload_n 1, 1) := by decide +kernel
theorem dX4_weakSum_36 : decode cX4_weakSum 36 = .ok (.iload 6, 2) := by decide +kernel
theorem dX4_weakSum_38 : decode cX4_weakSum 38 = .ok (.iadd, 1) := by decide +kernel
theorem dX4_weakSum_39 : decode cX4_weakSum 39 = .ok (.invokevirtual 19, 3) := by decide +kernel
theorem dX4_weakSum_42 : decode cX4_weakSum 42 = .ok (.imul, 1) := by decide +kernel
theorem dX4_weakSum_43 : decode cX4_weakSum 43 = .ok (.iadd, 1) := by decide +kernel
theorem dX4_weakSum_44 : decode cX4_weakSum 44 = .ok (.istore 5, 2) := by decide +kernel
theorem dX4_weakSum_46 : decode cX4_weakSum 46 = .ok (.iinc 6 1, 3) := by decide +kernel
theorem dX4_weakSum_49 : decode cX4_weakSum 49 = .ok (.goto (-40), 3) := by decide +kernel
theorem dX4_weakSum_52 : decode cX4_weakSum 52 = .ok (.iload 5, 2) := by decide +kernel
theorem dX4_weakSum_54 : decode cX4_weakSum 54 = .ok (.iload_n 3, 1) := by decide +kernel
theorem dX4_weakSum_55 : decode cX4_weakSum 55 = .ok (.irem, 1) := by decide +kernel
theorem dX4_weakSum_56 : decode cX4_weakSum 56 = .ok (.iload_n 3, 1) := by decide +kernel
theorem dX4_weakSum_57 : decode cX4_weakSum 57 = .ok (.imul, 1) := by decide +kernel
theorem dX4_weakSum_58 : decode cX4_weakSum 58 = .ok (.iload 4, 2) := by decide +kernel
theorem dX4_weakSum_60 : decode cX4_weakSum 60 = .ok (.iload_n 3, 1) := by decide +kernel
theorem dX4_weakSum_61 : decode cX4_weakSum 61 = .ok (.irem, 1) := by decide +kernel
theorem dX4_weakSum_62 : decode cX4_weakSum 62 = .ok (.iadd, 1) := by decide +kernel
theorem dX4_weakSum_63 : decode cX4_weakSum 63 = .ok (.ireturn, 1) := by decide +kernel
theorem dX4_strongSum_0 : decode cX4_strongSum 0 = .ok (.lconst 0, 1) := by decide +kernel
theorem dX4_strongSum_1 : decode cX4_strongSum 1 = .ok (.lstore_n 3, 1) := by decide +kernel
theorem dX4_strongSum_2 : decode cX4_strongSum 2 = .ok (.iload_n 2, 1) := by decide +kernel
theorem dX4_strongSum_3 : decode cX4_strongSum 3 = .ok (.iconst 1, 1) := by decide +kernel
theorem dX4_strongSum_4 : decode cX4_strongSum 4 = .ok (.isub, 1) := by decide +kernel
theorem dX4_strongSum_5 : decode cX4_strongSum 5 = .ok (.istore 5, 2) := by decide +kernel
theorem dX4_strongSum_7 : decode cX4_strongSum 7 = .ok (.iload 5, 2) := by decide +kernel
theorem dX4_strongSum_9 : decode cX4_strongSum 9 = .ok (.ifCond .lt 27, 3) := by decide +kernel
theorem dX4_strongSum_12 : decode cX4_strongSum 12 = .ok (.lload_n 3, 1) := by decide +kernel
theorem dX4_strongSum_13 : decode cX4_strongSum 13 = .ok (.ldc2_w 27, 3) := by decide +kernel
theorem dX4_strongSum_16 : decode cX4_strongSum 16 = .ok (.lmul, 1) := by decide +kernel
theorem dX4_strongSum_17 : decode cX4_strongSum 17 = .ok (.aload_n 0, 1) := by decide +kernel
theorem dX4_strongSum_18 : decode cX4_strongSum 18 = .ok (.iload_n 1, 1) := by decide +kernel
theorem dX4_strongSum_19 : decode cX4_strongSum 19 = .ok (.iload 5, 2) := by decide +kernel
theorem dX4_strongSum_21 : decode cX4_strongSum 21 = .ok (.iadd, 1) := by decide +kernel
theorem dX4_strongSum_22 : decode cX4_strongSum 22 = .ok (.invokevirtual 19, 3) := by decide +kernel
theorem dX4_strongSum_25 : decode cX4_strongSum 25 = .ok (.i2l, 1) := by decide +kernel
theorem dX4_strongSum_26 : decode cX4_strongSum 26 = .ok (.ladd, 1) := by decide +kernel
theorem dX4_strongSum_27 : decode cX4_strongSum 27 = .ok (.lconst 1, 1) := by decide +kernel
theorem dX4_strongSum_28 : decode cX4_strongSum 28 = .ok (.ladd, 1) := by decide +kernel
theorem dX4_strongSum_29 : decode cX4_strongSum 29 = .ok (.lstore_n 3, 1) := by decide +kernel
theorem dX4_strongSum_30 : decode cX4_strongSum 30 = .ok (.iinc 5 (-1), 3) := by decide +kernel
theorem dX4_strongSum_33 : decode cX4_strongSum 33 = .ok (.goto (-26), 3) := by decide +kernel
theorem dX4_strongSum_36 : decode cX4_strongSum 36 = .ok (.lload_n 3, 1) := by decide +kernel
theorem dX4_strongSum_37 : decode cX4_strongSum 37 = .ok (.lreturn, 1) := by decide +kernel
theorem dX5_init_0 : decode cX5_init 0 = .ok (.aload_n 0, 1) := by decide +kernel
theorem dX5_init_1 : decode cX5_init 1 = .ok (.invokespecial 3, 3) := by decide +kernel
theorem dX5_init_4 : decode cX5_init 4 = .ok (.aload_n 0, 1) := by decide +kernel
theorem dX5_init_5 : decode cX5_init 5 = .ok (.bipush 12, 2) := by decide +kernel
theorem dX5_init_7 : decode cX5_init 7 = .ok (.anewarray 9, 3) := by decide +kernel
theorem dX5_init_10 : decode cX5_init 10 = .ok (.putfield 11, 3) := by decide +kernel
theorem dX5_init_13 : decode cX5_init 13 = .ok (.aload_n 0, 1) := by decide +kernel
theorem dX5_init_14 : decode cX5_init 14 = .ok (.new 17, 3) := by decide +kernel
theorem dX5_init_17 : decode cX5_init 17 = .ok (.dup, 1) := by decide +kernel
theorem dX5_init_18 : decode cX5_init 18 = .ok (.invokespecial 19, 3) := by decide +kernel
theorem dX5_init_21 : decode cX5_init 21 = .ok (.putfield 20, 3) := by decide +kernel
theorem dX5_init_24 : decode cX5_init 24 = .ok (.aload_n 0, 1) := by decide +kernel
theorem dX5_init_25 : decode cX5_init 25 = .ok (.iconst 4, 1) := by decide +kernel
theorem dX5_init_26 : decode cX5_init 26 = .ok (.putfield 24, 3) := by decide +kernel
theorem dX5_init_29 : decode cX5_init 29 = .ok (.aload_n 0, 1) := by decide +kernel
theorem dX5_init_30 : decode cX5_init 30 = .ok (.bipush 16, 2) := by decide +kernel
theorem dX5_init_32 : decode cX5_init 32 = .ok (.putfield 28, 3) := by decide +kernel
theorem dX5_init_35 : decode cX5_init 35 = .ok (.aload_n 0, 1) := by decide +kernel
theorem dX5_init_36 : decode cX5_init 36 = .ok (.bipush 8, 2) := by decide +kernel
theorem dX5_init_38 : decode cX5_init 38 = .ok (.putfield 31, 3) := by decide +kernel
theorem dX5_init_41 : decode cX5_init 41 = .ok (.iconst 0, 1) := by decide +kernel
theorem dX5_init_42 : decode cX5_init 42 = .ok (.istore_n 1, 1) := by decide +kernel
theorem dX5_init_43 : decode cX5_init 43 = .ok (.iload_n 1, 1) := by decide +kernel
theorem dX5_init_44 : decode cX5_init 44 = .ok (.aload_n 0, 1) := by decide +kernel
theorem dX5_init_45 : decode cX5_init 45 = .ok (.getfield 11, 3) := by decide +kernel
theorem dX5_init_48 : decode cX5_init 48 = .ok (.arraylength, 1) := by decide +kernel
theorem dX5_init_49 : decode cX5_init 49 = .ok (.if_icmp .ge 22, 3) := by decide +kernel
theorem dX5_init_52 : decode cX5_init 52 = .ok (.aload_n 0, 1) := by decide +kernel
theorem dX5_init_53 : decode cX5_init 53 = .ok (.getfield 11, 3) := by decide +kernel
theorem dX5_init_56 : decode cX5_init 56 = .ok (.iload_n 1, 1) := by decide +kernel
theorem dX5_init_57 : decode cX5_init 57 = .ok (.new 9, 3) := by decide +kernel
theorem dX5_init_60 : decode cX5_init 60 = .ok (.dup, 1) := by decide +kernel
theorem dX5_init_61 : decode cX5_init 61 = .ok (.invokespecial 34, 3) := by decide +kernel
theorem dX5_init_64 : decode cX5_init 64 = .ok (.aastore, 1) := by decide +kernel
theorem dX5_init_65 : decode cX5_init 65 = .ok (.iinc 1 1, 3) := by decide +kernel
theorem dX5_init_68 : decode cX5_init 68 = .ok (.goto (-25), 3) := by decide +kernel
theorem dX5_init_71 : decode cX5_init 71 = .ok (.return_, 1) := by decide +kernel
theorem dX5_lowestFree_0 : decode cX5_lowestFree 0 = .ok (.iconst 0, 1) := by decide +kernel
theorem dX5_lowestFree_1 : decode cX5_lowestFree 1 = .ok (.istore_n 1, 1) := by decide +kernel
theorem dX5_lowestFree_2 : decode cX5_lowestFree 2 = .ok (.iload_n 1, 1) := by decide +kernel
theorem dX5_lowestFree_3 : decode cX5_lowestFree 3 = .ok (.aload_n 0, 1) := by decide +kernel
theorem dX5_lowestFree_4 : decode cX5_lowestFree 4 = .ok (.getfield 11, 3) := by decide +kernel
theorem dX5_lowestFree_7 : decode cX5_lowestFree 7 = .ok (.arraylength, 1) := by decide +kernel
theorem dX5_lowestFree_8 : decode cX5_lowestFree 8 = .ok (.if_icmp .ge 23, 3) := by decide +kernel
theorem dX5_lowestFree_11 : decode cX5_lowestFree 11 = .ok (.aload_n 0, 1) := by decide +kernel
theorem dX5_lowestFree_12 : decode cX5_lowestFree 12 = .ok (.getfield 11, 3) := by decide +kernel
theorem dX5_lowestFree_15 : decode cX5_lowestFree 15 = .ok (.iload_n 1, 1) := by decide +kernel
theorem dX5_lowestFree_16 : decode cX5_lowestFree 16 = .ok (.aaload, 1) := by decide +kernel
theorem dX5_lowestFree_17 : decode cX5_lowestFree 17 = .ok (.getfield 35, 3) := by decide +kernel
theorem dX5_lowestFree_20 : decode cX5_lowestFree 20 = .ok (.ifCond .ne 5, 3) := by decide +kernel
theorem dX5_lowestFree_23 : decode cX5_lowestFree 23 = .ok (.iload_n 1, 1) := by decide +kernel
theorem dX5_lowestFree_24 : decode cX5_lowestFree 24 = .ok (.ireturn, 1) := by decide +kernel
theorem dX5_lowestFree_25 : decode cX5_lowestFree 25 = .ok (.iinc 1 1, 3) := by decide +kernel
theorem dX5_lowestFree_28 : decode cX5_lowestFree 28 = .ok (.goto (-26), 3) := by decide +kernel
theorem dX5_lowestFree_31 : decode cX5_lowestFree 31 = .ok (.iconst (-1), 1) := by decide +kernel
theorem dX5_lowestFree_32 : decode cX5_lowestFree 32 = .ok (.ireturn, 1) := by decide +kernel
theorem dX5_putPaper_0 : decode cX5_putPaper 0 = .ok (.aload_n 0, 1) := by decide +kernel
theorem dX5_putPaper_1 : decode cX5_putPaper 1 = .ok (.getfield 11, 3) := by decide +kernel
theorem dX5_putPaper_4 : decode cX5_putPaper 4 = .ok (.iload_n 1, 1) := by decide +kernel
theorem dX5_putPaper_5 : decode cX5_putPaper 5 = .ok (.aaload, 1) := by decide +kernel
theorem dX5_putPaper_6 : decode cX5_putPaper 6 = .ok (.astore_n 3, 1) := by decide +kernel
theorem dX5_putPaper_7 : decode cX5_putPaper 7 = .ok (.aload_n 3, 1) := by decide +kernel
theorem dX5_putPaper_8 : decode cX5_putPaper 8 = .ok (.iconst 1, 1) := by decide +kernel
theorem dX5_putPaper_9 : decode cX5_putPaper 9 = .ok (.putfield 35, 3) := by decide +kernel
theorem dX5_putPaper_12 : decode cX5_putPaper 12 = .ok (.iconst 0, 1) := by decide +kernel
theorem dX5_putPaper_13 : decode cX5_putPaper 13 = .ok (.istore 4, 2) := by decide +kernel
theorem dX5_putPaper_15 : decode cX5_putPaper 15 = .ok (.iconst 0, 1) := by decide +kernel
theorem dX5_putPaper_16 : decode cX5_putPaper 16 = .ok (.istore 5, 2) := by decide +kernel
theorem dX5_putPaper_18 : decode cX5_putPaper 18 = .ok (.iload 5, 2) := by decide +kernel
theorem dX5_putPaper_20 : decode cX5_putPaper 20 = .ok (.aload_n 2, 1) := by decide +kernel
theorem dX5_putPaper_21 : decode cX5_putPaper 21 = .ok (.getfield 39, 3) := by decide +kernel
theorem dX5_putPaper_24 : decode cX5_putPaper 24 = .ok (.if_icmp .ge 69, 3) := by decide +kernel
theorem dX5_putPaper_27 : decode cX5_putPaper 27 = .ok (.aload_n 0, 1) := by decide +kernel
theorem dX5_putPaper_28 : decode cX5_putPaper 28 = .ok (.aload_n 2, 1) := by decide +kernel
theorem dX5_putPaper_29 : decode cX5_putPaper 29 = .ok (.iload 5, 2) := by decide +kernel
theorem dX5_putPaper_31 : decode cX5_putPaper 31 = .ok (.iload 5, 2) := by decide +kernel
theorem dX5_putPaper_33 : decode cX5_putPaper 33 = .ok (.iconst 1, 1) := by decide +kernel
theorem dX5_putPaper_34 : decode cX5_putPaper 34 = .ok (.iadd, 1) := by decide +kernel
theorem dX5_putPaper_35 : decode cX5_putPaper 35 = .ok (.iload 4, 2) := by decide +kernel
theorem dX5_putPaper_37 : decode cX5_putPaper 37 = .ok (.isub, 1) := by decide +kernel
theorem dX5_putPaper_38 : decode cX5_putPaper 38 = .ok (.invokevirtual 44, 3) := by decide +kernel
theorem dX5_putPaper_41 : decode cX5_putPaper 41 = .ok (.ifCond .eq 46, 3) := by decide +kernel
theorem dX5_putPaper_44 : decode cX5_putPaper 44 = .ok (.aload_n 0, 1) := by decide +kernel
theorem dX5_putPaper_45 : decode cX5_putPaper 45 = .ok (.aload_n 2, 1) := by decide +kernel
theorem dX5_putPaper_46 : decode cX5_putPaper 46 = .ok (.iload 4, 2) := by decide +kernel
theorem dX5_putPaper_48 : decode cX5_putPaper 48 = .ok (.iload 5, 2) := by decide +kernel
theorem dX5_putPaper_50 : decode cX5_putPaper 50 = .ok (.iconst 1, 1) := by decide +kernel
theorem dX5_putPaper_51 : decode cX5_putPaper 51 = .ok (.iadd, 1) := by decide +kernel
theorem dX5_putPaper_52 : decode cX5_putPaper 52 = .ok (.iload 4, 2) := by decide +kernel
theorem dX5_putPaper_54 : decode cX5_putPaper 54 = .ok (.isub, 1) := by decide +kernel
theorem dX5_putPaper_55 : decode cX5_putPaper 55 = .ok (.invokevirtual 48, 3) := by decide +kernel
theorem dX5_putPaper_58 : decode cX5_putPaper 58 = .ok (.astore 6, 2) := by decide +kernel
theorem dX5_putPaper_60 : decode cX5_putPaper 60 = .ok (.aload 6, 2) := by decide +kernel
theorem dX5_putPaper_62 : decode cX5_putPaper 62 = .ok (.dup, 1) := by decide +kernel
theorem dX5_putPaper_63 : decode cX5_putPaper 63 = .ok (.getfield 52, 3) := by decide +kernel
theorem dX5_putPaper_66 : decode cX5_putPaper 66 = .ok (.iconst 1, 1) := by decide +kernel
theorem dX5_putPaper_67 : decode cX5_putPaper 67 = .ok (.iadd, 1) := by decide +kernel
theorem dX5_putPaper_68 : decode cX5_putPaper 68 = .ok (.putfield 52, 3) := by decide +kernel
theorem dX5_putPaper_71 : decode cX5_putPaper 71 = .ok (.aload_n 3, 1) := by decide +kernel
theorem dX5_putPaper_72 : decode cX5_putPaper 72 = .ok (.getfield 57, 3) := by decide +kernel
theorem dX5_putPaper_75 : decode cX5_putPaper 75 = .ok (.aload 6, 2) := by decide +kernel
theorem dX5_putPaper_77 : decode cX5_putPaper 77 = .ok (.invokevirtual 60, 3) := by decide +kernel
theorem dX5_putPaper_80 : decode cX5_putPaper 80 = .ok (.pop, 1) := by decide +kernel
theorem dX5_putPaper_81 : decode cX5_putPaper 81 = .ok (.iload 5, 2) := by decide +kernel
theorem dX5_putPaper_83 : decode cX5_putPaper 83 = .ok (.iconst 1, 1) := by decide +kernel
theorem dX5_putPaper_84 : decode cX5_putPaper 84 = .ok (.iadd, 1) := by decide +kernel
theorem dX5_putPaper_85 : decode cX5_putPaper 85 = .ok (.istore 4, 2) := by decide +kernel
theorem dX5_putPaper_87 : decode cX5_putPaper 87 = .ok (.iinc 5 1, 3) := by decide +kernel
theorem dX5_putPaper_90 : decode cX5_putPaper 90 = .ok (.goto (-72), 3) := by decide +kernel
theorem dX5_putPaper_93 : decode cX5_putPaper 93 = .ok (.return_, 1) := by decide +kernel
theorem dX5_endsBehind_0 : decode cX5_endsBehind 0 = .ok (.iload_n 3, 1) := by decide +kernel
theorem dX5_endsBehind_1 : decode cX5_endsBehind 1 = .ok (.aload_n 0, 1) := by decide +kernel
theorem dX5_endsBehind_2 : decode cX5_endsBehind 2 = .ok (.getfield 28, 3) := by decide +kernel
theorem dX5_endsBehind_5 : decode cX5_endsBehind 5 = .ok (.if_icmp .ge 13, 3) := by decide +kernel
theorem dX5_endsBehind_8 : decode cX5_endsBehind 8 = .ok (.iload_n 2, 1) := by decide +kernel
theorem dX5_endsBehind_9 : decode cX5_endsBehind 9 = .ok (.aload_n 1, 1) := by decide +kernel
theorem dX5_endsBehind_10 : decode cX5_endsBehind 10 = .ok (.getfield 39, 3) := by decide +kernel
theorem dX5_endsBehind_13 : decode cX5_endsBehind 13 = .ok (.iconst 1, 1) := by decide +kernel
theorem dX5_endsBehind_14 : decode cX5_endsBehind 14 = .ok (.isub, 1) := by decide +kernel
theorem dX5_endsBehind_15 : decode cX5_endsBehind 15 = .ok (.if_icmp .ne 5, 3) := by decide +kernel
theorem dX5_endsBehind_18 : decode cX5_endsBehind 18 = .ok (.iconst 1, 1) := by decide +kernel
theorem dX5_endsBehind_19 : decode cX5_endsBehind 19 = .ok (.ireturn, 1) := by decide +kernel
theorem dX5_endsBehind_20 : decode cX5_endsBehind 20 = .ok (.aload_n 1, 1) := by decide +kernel
theorem dX5_endsBehind_21 : decode cX5_endsBehind 21 = .ok (.iload_n 2, 1) := by decide +kernel
theorem dX5_endsBehind_22 : decode cX5_endsBehind 22 = .ok (.invokevirtual 64, 3) := by decide +kernel
theorem dX5_endsBehind_25 : decode cX5_endsBehind 25 = .ok (.iconst 2, 1) := by decide +kernel
theorem dX5_endsBehind_26 : decode cX5_endsBehind 26 = .ok (.aload_n 1, 1) := by decide +kernel
theorem dX5_endsBehind_27 : decode cX5_endsBehind 27 = .ok (.iload_n 2, 1) := by decide +kernel
theorem dX5_endsBehind_28 : decode cX5_endsBehind 28 = .ok (.iconst 1, 1) := by decide +kernel
theorem dX5_endsBehind_29 : decode cX5_endsBehind 29 = .ok (.isub, 1) := by decide +kernel
theorem dX5_endsBehind_30 : decode cX5_endsBehind 30 = .ok (.invokevirtual 64, 3) := by decide +kernel
theorem dX5_endsBehind_33 : decode cX5_endsBehind 33 = .ok (.imul, 1) := by decide +kernel
theorem dX5_endsBehind_34 : decode cX5_endsBehind 34 = .ok (.iadd, 1) := by decide +kernel
theorem dX5_endsBehind_35 : decode cX5_endsBehind 35 = .ok (.iconst 3, 1) := by decide +kernel
theorem dX5_endsBehind_36 : decode cX5_endsBehind 36 = .ok (.aload_n 1, 1) := by decide +kernel
theorem dX5_endsBehind_37 : decode cX5_endsBehind 37 = .ok (.iload_n 2, 1) := by decide +kernel
theorem dX5_endsBehind_38 : decode cX5_endsBehind 38 = .ok (.iconst 2, 1) := by decide +kernel
theorem dX5_endsBehind_39 : decode cX5_endsBehind 39 = .ok (.isub, 1) := by decide +kernel
theorem dX5_endsBehind_40 : decode cX5_endsBehind 40 = .ok (.invokevirtual 64, 3) := by decide +kernel
theorem dX5_endsBehind_43 : decode cX5_endsBehind 43 = .ok (.imul, 1) := by decide +kernel
theorem dX5_endsBehind_44 : decode cX5_endsBehind 44 = .ok (.iadd, 1) := by decide +kernel
theorem dX5_endsBehind_45 : decode cX5_endsBehind 45 = .ok (.iconst 4, 1) := by decide +kernel
theorem dX5_endsBehind_46 : decode cX5_endsBehind 46 = .ok (.aload_n 1, 1) := by decide +kernel
theorem dX5_endsBehind_47 : decode cX5_endsBehind 47 = .ok (.iload_n 2, 1) := by decide +kernel
theorem dX5_endsBehind_48 : decode cX5_endsBehind 48 = .ok (.iconst 3, 1) := by decide +kernel
theorem dX5_endsBehind_49 : decode cX5_endsBehind 49 = .ok (.isub, 1) := by decide +kernel
theorem dX5_endsBehind_50 : decode cX5_endsBehind 50 = .ok (.invokevirtual 64, 3) := by decide +kernel
theorem dX5_endsBehind_53 : decode cX5_endsBehind 53 = .ok (.imul, 1) := by decide +kernel
theorem dX5_endsBehind_54 : decode cX5_endsBehind 54 = .ok (.iadd, 1) := by decide +kernel
theorem dX5_endsBehind_55 : decode cX5_endsBehind 55 = .ok (.istore 4, 2) := by decide +kernel
theorem dX5_endsBehind_57 : decode cX5_endsBehind 57 = .ok (.iload_n 3, 1) := by decide +kernel
theorem dX5_endsBehind_58 : decode cX5_endsBehind 58 = .ok (.aload_n 0, 1) := by decide +kernel
theorem dX5_endsBehind_59 : decode cX5_endsBehind 59 = .ok (.getfield 24, 3) := by decide +kernel
theorem dX5_endsBehind_62 : decode cX5_endsBehind 62 = .ok (.if_icmp .lt 23, 3) := by decide +kernel
theorem dX5_endsBehind_65 : decode cX5_endsBehind 65 = .ok (.iload 4, 2) := by decide +kernel
theorem dX5_endsBehind_67 : decode cX5_endsBehind 67 = .ok (.aload_n 0, 1) := by decide +kernel
theorem dX5_endsBehind_68 : decode cX5_endsBehind 68 = .ok (.getfield 31, 3) := by decide +kernel
theorem dX5_endsBehind_71 : decode cX5_endsBehind 71 = .ok (.irem, 1) := by decide +kernel
theorem dX5_endsBehind_72 : decode cX5_endsBehind 72 = .ok (.aload_n 0, 1) := by decide +kernel
theorem dX5_endsBehind_73 : decode cX5_endsBehind 73 = .ok (.getfield 31, 3) := by decide +kernel
theorem dX5_endsBehind_76 : decode cX5_endsBehind 76 = .ok (.iconst 1, 1) := by decide +kernel
theorem dX5_endsBehind_77 : decode cX5_endsBehind 77 = .ok (.isub, 1) := by decide +kernel
theorem dX5_endsBehind_78 : decode cX5_endsBehind 78 = .ok (.if_icmp .ne 7, 3) := by decide +kernel
theorem dX5_endsBehind_81 : decode cX5_endsBehind 81 = .ok (.iconst 1, 1) := by decide +kernel
theorem dX5_endsBehind_82 : decode cX5_endsBehind 82 = .ok (.goto 4, 3) := by decide +kernel
theorem dX5_endsBehind_85 : decode cX5_endsBehind 85 = .ok (.iconst 0, 1) := by decide +kernel
theorem dX5_endsBehind_86 : decode cX5_endsBehind 86 = .ok (.ireturn, 1) := by decide +kernel
theorem dX5_chunkOf_0 : decode cX5_chunkOf 0 = .ok (.aconst_null, 1) := by decide +kernel
theorem dX5_chunkOf_1 : decode cX5_chunkOf 1 = .ok (.astore 4, 2) := by decide +kernel
theorem dX5_chunkOf_3 : decode cX5_chunkOf 3 = .ok (.iconst 0, 1) := by decide +kernel
theorem dX5_chunkOf_4 : decode cX5_chunkOf 4 = .ok (.istore 5, 2) := by decide +kernel
theorem dX5_chunkOf_6 : decode cX5_chunkOf 6 = .ok (.iload 5, 2) := by decide +kernel
theorem dX5_chunkOf_8 : decode cX5_chunkOf 8 = .ok (.aload_n 0, 1) := by decide +kernel
theorem dX5_chunkOf_9 : decode cX5_chunkOf 9 = .ok (.getfield 20, 3) := by decide +kernel
theorem dX5_chunkOf_12 : decode cX5_chunkOf 12 = .ok (.invokevirtual 68, 3) := by decide +kernel
theorem dX5_chunkOf_15 : decode cX5_chunkOf 15 = .ok (.if_icmp .ge 52, 3) := by decide +kernel
theorem dX5_chunkOf_18 : decode cX5_chunkOf 18 = .ok (.aload_n 0, 1) := by decide +kernel
theorem dX5_chunkOf_19 : decode cX5_chunkOf 19 = .ok (.getfield 20, 3) := by decide +kernel
theorem dX5_chunkOf_22 : decode cX5_chunkOf 22 = .ok (.iload 5, 2) := by decide +kernel
theorem dX5_chunkOf_24 : decode cX5_chunkOf 24 = .ok (.invokevirtual 71, 3) := by decide +kernel
theorem dX5_chunkOf_27 : decode cX5_chunkOf 27 = .ok (.checkcast 53, 3) := by decide +kernel
theorem dX5_chunkOf_30 : decode cX5_chunkOf 30 = .ok (.astore 6, 2) := by decide +kernel
theorem dX5_chunkOf_32 : decode cX5_chunkOf 32 = .ok (.aload 6, 2) := by decide +kernel
theorem dX5_chunkOf_34 : decode cX5_chunkOf 34 = .ok (.getfield 52, 3) := by decide +kernel
theorem dX5_chunkOf_37 : decode cX5_chunkOf 37 = .ok (.ifCond .ne 10, 3) := by decide +kernel
theorem dX5_chunkOf_40 : decode cX5_chunkOf 40 = .ok (.aload 6, 2) := by decide +kernel
theorem dX5_chunkOf_42 : decode cX5_chunkOf 42 = .ok (.astore 4, 2) := by decide +kernel
theorem dX5_chunkOf_44 : decode cX5_chunkOf 44 = .ok (.goto 17, 3) := by decide +kernel
theorem dX5_chunkOf_47 : decode cX5_chunkOf 47 = .ok (.aload 6, 2) := by decide +kernel
theorem dX5_chunkOf_49 : decode cX5_chunkOf 49 = .ok (.aload_n 1, 1) := by decide +kernel
theorem dX5_chunkOf_50 : decode cX5_chunkOf 50 = .ok (.iload_n 2, 1) := by decide +kernel
theorem dX5_chunkOf_51 : decode cX5_chunkOf 51 = .ok (.iload_n 3, 1) := by decide +kernel
theorem dX5_chunkOf_52 : decode cX5_chunkOf 52 = .ok (.invokevirtual 75, 3) := by decide +kernel
theorem dX5_chunkOf_55 : decode cX5_chunkOf 55 = .ok (.ifCond .eq 6, 3) := by decide +kernel
theorem dX5_chunkOf_58 : decode cX5_chunkOf 58 = .ok (.aload 6, 2) := by decide +kernel
theorem dX5_chunkOf_60 : decode cX5_chunkOf 60 = .ok (.areturn, 1) := by decide +kernel
theorem dX5_chunkOf_61 : decode cX5_chunkOf 61 = .ok (.iinc 5 1, 3) := by decide +kernel
theorem dX5_chunkOf_64 : decode cX5_chunkOf 64 = .ok (.goto (-58), 3) := by decide +kernel
theorem dX5_chunkOf_67 : decode cX5_chunkOf 67 = .ok (.aload 4, 2) := by decide +kernel
theorem dX5_chunkOf_69 : decode cX5_chunkOf 69 = .ok (.ifnonnull 22, 3) := by decide +kernel
theorem dX5_chunkOf_72 : decode cX5_chunkOf 72 = .ok (.new 53, 3) := by decide +kernel
theorem dX5_chunkOf_75 : decode cX5_chunkOf 75 = .ok (.dup, 1) := by decide +kernel
theorem dX5_chunkOf_76 : decode cX5_chunkOf 76 = .ok (.invokespecial 78, 3) := by decide +kernel
theorem dX5_chunkOf_79 : decode cX5_chunkOf 79 = .ok (.astore 4, 2) := by decide +kernel
theorem dX5_chunkOf_81 : decode cX5_chunkOf 81 = .ok (.aload_n 0, 1) := by decide +kernel
theorem dX5_chunkOf_82 : decode cX5_chunkOf 82 = .ok (.getfield 20, 3) := by decide +kernel
theorem dX5_chunkOf_85 : decode cX5_chunkOf 85 = .ok (.aload 4, 2) := by decide +kernel
theorem dX5_chunkOf_87 : decode cX5_chunkOf 87 = .ok (.invokevirtual 60, 3) := by decide +kernel
theorem dX5_chunkOf_90 : decode cX5_chunkOf 90 = .ok (.pop, 1) := by decide +kernel
theorem dX5_chunkOf_91 : decode cX5_chunkOf 91 = .ok (.aload 4, 2) := by decide +kernel
theorem dX5_chunkOf_93 : decode cX5_chunkOf 93 = .ok (.aload_n 1, 1) := by decide +kernel
theorem dX5_chunkOf_94 : decode cX5_chunkOf 94 = .ok (.iload_n 2, 1) := by decide +kernel
theorem dX5_chunkOf_95 : decode cX5_chunkOf 95 = .ok (.iload_n 3, 1) := by decide +kernel
theorem dX5_chunkOf_96 : decode cX5_chunkOf 96 = .ok (.invokevirtual 79, 3) := by decide +kernel
theorem dX5_chunkOf_99 : decode cX5_chunkOf 99 = .ok (.aload 4, 2) := by decide +kernel
theorem dX5_chunkOf_101 : decode cX5_chunkOf 101 = .ok (.areturn, 1) := by decide +kernel
theorem dX5_dropPaper_0 : decode cX5_dropPaper 0 = .ok (.aload_n 0, 1) := by decide +kernel
theorem dX5_dropPaper_1 : decode cX5_dropPaper 1 = .ok (.getfield 11, 3) := by decide +kernel
theorem dX5_dropPaper_4 : decode cX5_dropPaper 4 = .ok (.iload_n 1, 1) := by decide +kernel
theorem dX5_dropPaper_5 : decode cX5_dropPaper 5 = .ok (.aaload, 1) := by decide +kernel
theorem dX5_dropPaper_6 : decode cX5_dropPaper 6 = .ok (.astore_n 2, 1) := by decide +kernel
theorem dX5_dropPaper_7 : decode cX5_dropPaper 7 = .ok (.iconst 0, 1) := by decide +kernel
theorem dX5_dropPaper_8 : decode cX5_dropPaper 8 = .ok (.istore_n 3, 1) := by decide +kernel
theorem dX5_dropPaper_9 : decode cX5_dropPaper 9 = .ok (.iconst 0, 1) := by decide +kernel
theorem dX5_dropPaper_10 : decode cX5_dropPaper 10 = .ok (.istore 4, 2) := by decide +kernel
theorem dX5_dropPaper_12 : decode cX5_dropPaper 12 = .ok (.iload 4, 2) := by decide +kernel
theorem dX5_dropPaper_14 : decode cX5_dropPaper 14 = .ok (.aload_n 2, 1) := by decide +kernel
theorem dX5_dropPaper_15 : decode cX5_dropPaper 15 = .ok (.getfield 57, 3) := by decide +kernel
theorem dX5_dropPaper_18 : decode cX5_dropPaper 18 = .ok (.invokevirtual 68, 3) := by decide +kernel
theorem dX5_dropPaper_21 : decode cX5_dropPaper 21 = .ok (.if_icmp .ge 45, 3) := by decide +kernel
theorem dX5_dropPaper_24 : decode cX5_dropPaper 24 = .ok (.aload_n 2, 1) := by decide +kernel
theorem dX5_dropPaper_25 : decode cX5_dropPaper 25 = .ok (.getfield 57, 3) := by decide +kernel
theorem dX5_dropPaper_28 : decode cX5_dropPaper 28 = .ok (.iload 4, 2) := by decide +kernel
theorem dX5_dropPaper_30 : decode cX5_dropPaper 30 = .ok (.invokevirtual 71, 3) := by decide +kernel
theorem dX5_dropPaper_33 : decode cX5_dropPaper 33 = .ok (.checkcast 53, 3) := by decide +kernel
theorem dX5_dropPaper_36 : decode cX5_dropPaper 36 = .ok (.astore 5, 2) := by decide +kernel
theorem dX5_dropPaper_38 : decode cX5_dropPaper 38 = .ok (.aload 5, 2) := by decide +kernel
theorem dX5_dropPaper_40 : decode cX5_dropPaper 40 = .ok (.dup, 1) := by decide +kernel
theorem dX5_dropPaper_41 : decode cX5_dropPaper 41 = .ok (.getfield 52, 3) := by decide +kernel
theorem dX5_dropPaper_44 : decode cX5_dropPaper 44 = .ok (.iconst 1, 1) := by decide +kernel
theorem dX5_dropPaper_45 : decode cX5_dropPaper 45 = .ok (.isub, 1) := by decide +kernel
theorem dX5_dropPaper_46 : decode cX5_dropPaper 46 = .ok (.putfield 52, 3) := by decide +kernel
theorem dX5_dropPaper_49 : decode cX5_dropPaper 49 = .ok (.aload 5, 2) := by decide +kernel
theorem dX5_dropPaper_51 : decode cX5_dropPaper 51 = .ok (.getfield 52, 3) := by decide +kernel
theorem dX5_dropPaper_54 : decode cX5_dropPaper 54 = .ok (.ifCond .ne 6, 3) := by decide +kernel
theorem dX5_dropPaper_57 : decode cX5_dropPaper 57 = .ok (.iinc 3 1, 3) := by decide +kernel
theorem dX5_dropPaper_60 : decode cX5_dropPaper 60 = .ok (.iinc 4 1, 3) := by decide +kernel
theorem dX5_dropPaper_63 : decode cX5_dropPaper 63 = .ok (.goto (-51), 3) := by decide +kernel
theorem dX5_dropPaper_66 : decode cX5_dropPaper 66 = .ok (.aload_n 2, 1) := by decide +kernel
theorem dX5_dropPaper_67 : decode cX5_dropPaper 67 = .ok (.getfield 57, 3) := by decide +kernel
theorem dX5_dropPaper_70 : decode cX5_dropPaper 70 = .ok (.invokevirtual 83, 3) := by decide +kernel
theorem dX5_dropPaper_73 : decode cX5_dropPaper 73 = .ok (.aload_n 2, 1) := by decide +kernel
theorem dX5_dropPaper_74 : decode cX5_dropPaper 74 = .ok (.iconst 0, 1) := by decide +kernel
theorem dX5_dropPaper_75 : decode cX5_dropPaper 75 = .ok (.putfield 35, 3) := by decide +kernel
theorem dX5_dropPaper_78 : decode cX5_dropPaper 78 = .ok (.iload_n 3, 1) := by decide +kernel
theorem dX5_dropPaper_79 : decode cX5_dropPaper 79 = .ok (.ireturn, 1) := by decide +kernel
theorem dX5_countPapers_0 : decode cX5_countPapers 0 = .ok (.iconst 0, 1) := by decide +kernel
theorem dX5_countPapers_1 : decode cX5_countPapers 1 = .ok (.istore_n 1, 1) := by decide +kernel
theorem dX5_countPapers_2 : decode cX5_countPapers 2 = .ok (.iconst 0, 1) := by decide +kernel
theorem dX5_countPapers_3 : decode cX5_countPapers 3 = .ok (.istore_n 2, 1) := by decide +kernel
theorem dX5_countPapers_4 : decode cX5_countPapers 4 = .ok (.iload_n 2, 1) := by decide +kernel
theorem dX5_countPapers_5 : decode cX5_countPapers 5 = .ok (.aload_n 0, 1) := by decide +kernel
theorem dX5_countPapers_6 : decode cX5_countPapers 6 = .ok (.getfield 11, 3) := by decide +kernel
theorem dX5_countPapers_9 : decode cX5_countPapers 9 = .ok (.arraylength, 1) := by decide +kernel
theorem dX5_countPapers_10 : decode cX5_countPapers 10 = .ok (.if_icmp .ge 29, 3) := by decide +kernel
theorem dX5_countPapers_13 : decode cX5_countPapers 13 = .ok (.iload_n 1, 1) := by decide +kernel
theorem dX5_countPapers_14 : decode cX5_countPapers 14 = .ok (.aload_n 0, 1) := by decide +kernel
theorem dX5_countPapers_15 : decode cX5_countPapers 15 = .ok (.getfield 11, 3) := by decide +kernel
theorem dX5_countPapers_18 : decode cX5_countPapers 18 = .ok (.iload_n 2, 1) := by decide +kernel
theorem dX5_countPapers_19 : decode cX5_countPapers 19 = .ok (.aaload, 1) := by decide +kernel
theorem dX5_countPapers_20 : decode cX5_countPapers 20 = .ok (.getfield 35, 3) := by decide +kernel
theorem dX5_countPapers_23 : decode cX5_countPapers 23 = .ok (.ifCond .eq 7, 3) := by decide +kernel
theorem dX5_countPapers_26 : decode cX5_countPapers 26 = .ok (.iconst 1, 1) := by decide +kernel
theorem dX5_countPapers_27 : decode cX5_countPapers 27 = .ok (.goto 4, 3) := by decide +kernel
theorem dX5_countPapers_30 : decode cX5_countPapers 30 = .ok (.iconst 0, 1) := by decide +kernel
theorem dX5_countPapers_31 : decode cX5_countPapers 31 = .ok (.iadd, 1) := by decide +kernel
theorem dX5_countPapers_32 : decode cX5_countPapers 32 = .ok (.istore_n 1, 1) := by decide +kernel
theorem dX5_countPapers_33 : decode cX5_countPapers 33 = .ok (.iinc 2 1, 3) := by decide +kernel
theorem dX5_countPapers_36 : decode cX5_countPapers 36 = .ok (.goto (-32), 3) := by decide +kernel
theorem dX5_countPapers_39 : decode cX5_countPapers 39 = .ok (.iload_n 1, 1) := by decide +kernel
theorem dX5_countPapers_40 : decode cX5_countPapers 40 = .ok (.ireturn, 1) := by decide +kernel
theorem dX5_countChunks_0 : decode cX5_countChunks 0 = .ok (.iconst 0, 1) := by decide +kernel
theorem dX5_countChunks_1 : decode cX5_countChunks 1 = .ok (.istore_n 1, 1) := by decide +kernel
theorem dX5_countChunks_2 : decode cX5_countChunks 2 = .ok (.iconst 0, 1) := by decide +kernel
theorem dX5_countChunks_3 : decode cX5_countChunks 3 = .ok (.istore_n 2, 1) := by decide +kernel
theorem dX5_countChunks_4 : decode cX5_countChunks 4 = .ok (.iload_n 2, 1) := by decide +kernel
theorem dX5_countChunks_5 : decode cX5_countChunks 5 = .ok (.aload_n 0, 1) := by decide +kernel
theorem dX5_countChunks_6 : decode cX5_countChunks 6 = .ok (.getfield 20, 3) := by decide +kernel
theorem dX5_countChunks_9 : decode cX5_countChunks 9 = .ok (.invokevirtual 68, 3) := by decide +kernel
theorem dX5_countChunks_12 : decode cX5_countChunks 12 = .ok (.if_icmp .ge 34, 3) := by decide +kernel
theorem dX5_countChunks_15 : decode cX5_countChunks 15 = .ok (.iload_n 1, 1) := by decide +kernel
theorem dX5_countChunks_16 : decode cX5_countChunks 16 = .ok (.aload_n 0, 1) := by decide +kernel
theorem dX5_countChunks_17 : decode cX5_countChunks 17 = .ok (.getfield 20, 3) := by decide +kernel
theorem dX5_countChunks_20 : decode cX5_countChunks 20 = .ok (.iload_n 2, 1) := by decide +kernel
theorem dX5_countChunks_21 : decode cX5_countChunks 21 = .ok (.invokevirtual 71, 3) := by decide +kernel
theorem dX5_countChunks_24 : decode cX5_countChunks 24 = .ok (.checkcast 53, 3) := by decide +kernel
theorem dX5_countChunks_27 : decode cX5_countChunks 27 = .ok (.getfield 52, 3) := by decide +kernel
theorem dX5_countChunks_30 : decode cX5_countChunks 30 = .ok (.ifCond .le 7, 3) := by decide +kernel
theorem dX5_countChunks_33 : decode cX5_countChunks 33 = .ok (.iconst 1, 1) := by decide +kernel
theorem dX5_countChunks_34 : decode cX5_countChunks 34 = .ok (.goto 4, 3) := by decide +kernel
theorem dX5_countChunks_37 : decode cX5_countChunks 37 = .ok (.iconst 0, 1) := by decide +kernel
theorem dX5_countChunks_38 : decode cX5_countChunks 38 = .ok (.iadd, 1) := by decide +kernel
theorem dX5_countChunks_39 : decode cX5_countChunks 39 = .ok (.istore_n 1, 1) := by decide +kernel
theorem dX5_countChunks_40 : decode cX5_countChunks 40 = .ok (.iinc 2 1, 3) := by decide +kernel
theorem dX5_countChunks_43 : decode cX5_countChunks 43 = .ok (.goto (-39), 3) := by decide +kernel
theorem dX5_countChunks_46 : decode cX5_countChunks 46 = .ok (.iload_n 1, 1) := by decide +kernel
theorem dX5_countChunks_47 : decode cX5_countChunks 47 = .ok (.ireturn, 1) := by decide +kernel
theorem dX5_countBytes_0 : decode cX5_countBytes 0 = .ok (.iconst 0, 1) := by decide +kernel
theorem dX5_countBytes_1 : decode cX5_countBytes 1 = .ok (.istore_n 1, 1) := by decide +kernel
theorem dX5_countBytes_2 : decode cX5_countBytes 2 = .ok (.iconst 0, 1) := by decide +kernel
theorem dX5_countBytes_3 : decode cX5_countBytes 3 = .ok (.istore_n 2, 1) := by decide +kernel
theorem dX5_countBytes_4 : decode cX5_countBytes 4 = .ok (.iload_n 2, 1) := by decide +kernel
theorem dX5_countBytes_5 : decode cX5_countBytes 5 = .ok (.aload_n 0, 1) := by decide +kernel
theorem dX5_countBytes_6 : decode cX5_countBytes 6 = .ok (.getfield 20, 3) := by decide +kernel
theorem dX5_countBytes_9 : decode cX5_countBytes 9 = .ok (.invokevirtual 68, 3) := by decide +kernel
theorem dX5_countBytes_12 : decode cX5_countBytes 12 = .ok (.if_icmp .ge 47, 3) := by decide +kernel
theorem dX5_countBytes_15 : decode cX5_countBytes 15 = .ok (.iload_n 1, 1) := by decide +kernel
theorem dX5_countBytes_16 : decode cX5_countBytes 16 = .ok (.aload_n 0, 1) := by decide +kernel
theorem dX5_countBytes_17 : decode cX5_countBytes 17 = .ok (.getfield 20, 3) := by decide +kernel
theorem dX5_countBytes_20 : decode cX5_countBytes 20 = .ok (.iload_n 2, 1) := by decide +kernel
theorem dX5_countBytes_21 : decode cX5_countBytes 21 = .ok (.invokevirtual 71, 3) := by decide +kernel
theorem dX5_countBytes_24 : decode cX5_countBytes 24 = .ok (.checkcast 53, 3) := by decide +kernel
theorem dX5_countBytes_27 : decode cX5_countBytes 27 = .ok (.getfield 52, 3) := by decide +kernel
theorem dX5_countBytes_30 : decode cX5_countBytes 30 = .ok (.ifCond .le 20, 3) := by decide +kernel
theorem dX5_countBytes_33 : decode cX5_countBytes 33 = .ok (.aload_n 0, 1) := by decide +kernel
theorem dX5_countBytes_34 : decode cX5_countBytes 34 = .ok (.getfield 20, 3) := by decide +kernel
theorem dX5_countBytes_37 : decode cX5_countBytes 37 = .ok (.iload_n 2, 1) := by decide +kernel
theorem dX5_countBytes_38 : decode cX5_countBytes 38 = .ok (.invokevirtual 71, 3) := by decide +kernel
theorem dX5_countBytes_41 : decode cX5_countBytes 41 = .ok (.checkcast 53, 3) := by decide +kernel
theorem dX5_countBytes_44 : decode cX5_countBytes 44 = .ok (.getfield 86, 3) := by decide +kernel
theorem dX5_countBytes_47 : decode cX5_countBytes 47 = .ok (.goto 4, 3) := by decide +kernel
theorem dX5_countBytes_50 : decode cX5_countBytes 50 = .ok (.iconst 0, 1) := by decide +kernel
theorem dX5_countBytes_51 : decode cX5_countBytes 51 = .ok (.iadd, 1) := by decide +kernel
theorem dX5_countBytes_52 : decode cX5_countBytes 52 = .ok (.istore_n 1, 1) := by decide +kernel
theorem dX5_countBytes_53 : decode cX5_countBytes 53 = .ok (.iinc 2 1, 3) := by decide +kernel
theorem dX5_countBytes_56 : decode cX5_countBytes 56 = .ok (.goto (-52), 3) := by decide +kernel
theorem dX5_countBytes_59 : decode cX5_countBytes 59 = .ok (.iload_n 1, 1) := by decide +kernel
theorem dX5_countBytes_60 : decode cX5_countBytes 60 = .ok (.ireturn, 1) := by decide +kernel
theorem dX6_init_0 : decode cX6_init 0 = .ok (.aload_n 0, 1) := by decide +kernel
theorem dX6_init_1 : decode cX6_init 1 = .ok (.invokespecial 3, 3) := by decide +kernel
theorem dX6_init_4 : decode cX6_init 4 = .ok (.aload_n 0, 1) := by decide +kernel
theorem dX6_init_5 : decode cX6_init 5 = .ok (.bipush 120, 2) := by decide +kernel
theorem dX6_init_7 : decode cX6_init 7 = .ok (.newarray .int, 2) := by decide +kernel
theorem dX6_init_9 : decode cX6_init 9 = .ok (.putfield 9, 3) := by decide +kernel
theorem dX6_init_12 : decode cX6_init 12 = .ok (.aload_n 0, 1) := by decide +kernel
theorem dX6_init_13 : decode cX6_init 13 = .ok (.bipush 120, 2) := by decide +kernel
theorem dX6_init_15 : decode cX6_init 15 = .ok (.newarray .long, 2) := by decide +kernel
theorem dX6_init_17 : decode cX6_init 17 = .ok (.putfield 15, 3) := by decide +kernel
theorem dX6_init_20 : decode cX6_init 20 = .ok (.aload_n 0, 1) := by decide +kernel
theorem dX6_init_21 : decode cX6_init 21 = .ok (.iconst 1, 1) := by decide +kernel
theorem dX6_init_22 : decode cX6_init 22 = .ok (.putfield 19, 3) := by decide +kernel
theorem dX6_init_25 : decode cX6_init 25 = .ok (.aload_n 0, 1) := by decide +kernel
theorem dX6_init_26 : decode cX6_init 26 = .ok (.iconst 1, 1) := by decide +kernel
theorem dX6_init_27 : decode cX6_init 27 = .ok (.putfield 23, 3) := by decide +kernel
theorem dX6_init_30 : decode cX6_init 30 = .ok (.return_, 1) := by decide +kernel
theorem dX6_make_0 : decode cX6_make 0 = .ok (.aload_n 0, 1) := by decide +kernel
theorem dX6_make_1 : decode cX6_make 1 = .ok (.iconst 1, 1) := by decide +kernel
theorem dX6_make_2 : decode cX6_make 2 = .ok (.putfield 26, 3) := by decide +kernel
theorem dX6_make_5 : decode cX6_make 5 = .ok (.aload_n 0, 1) := by decide +kernel
theorem dX6_make_6 : decode cX6_make 6 = .ok (.iload_n 2, 1) := by decide +kernel
theorem dX6_make_7 : decode cX6_make 7 = .ok (.putfield 19, 3) := by decide +kernel
theorem dX6_make_10 : decode cX6_make 10 = .ok (.aload_n 0, 1) := by decide +kernel
theorem dX6_make_11 : decode cX6_make 11 = .ok (.iload_n 3, 1) := by decide +kernel
theorem dX6_make_12 : decode cX6_make 12 = .ok (.putfield 23, 3) := by decide +kernel
theorem dX6_make_15 : decode cX6_make 15 = .ok (.aload_n 0, 1) := by decide +kernel
theorem dX6_make_16 : decode cX6_make 16 = .ok (.aload_n 1, 1) := by decide +kernel
theorem dX6_make_17 : decode cX6_make 17 = .ok (.getfield 30, 3) := by decide +kernel
theorem dX6_make_20 : decode cX6_make 20 = .ok (.putfield 35, 3) := by decide +kernel
theorem dX6_make_23 : decode cX6_make 23 = .ok (.aload_n 0, 1) := by decide +kernel
theorem dX6_make_24 : decode cX6_make 24 = .ok (.iconst 0, 1) := by decide +kernel
theorem dX6_make_25 : decode cX6_make 25 = .ok (.putfield 38, 3) := by decide +kernel
theorem dX6_make_28 : decode cX6_make 28 = .ok (.iconst 0, 1) := by decide +kernel
theorem dX6_make_29 : decode cX6_make 29 = .ok (.istore 4, 2) := by decide +kernel
theorem dX6_make_31 : decode cX6_make 31 = .ok (.iload 4, 2) := by decide +kernel
theorem dX6_make_33 : decode cX6_make 33 = .ok (.aload_n 1, 1) := by decide +kernel
theorem dX6_make_34 : decode cX6_make 34 = .ok (.getfield 30, 3) := by decide +kernel
theorem dX6_make_37 : decode cX6_make 37 = .ok (.if_icmp .ge 91, 3) := by decide +kernel
theorem dX6_make_40 : decode cX6_make 40 = .ok (.aload_n 0, 1) := by decide +kernel
theorem dX6_make_41 : decode cX6_make 41 = .ok (.getfield 38, 3) := by decide +kernel
theorem dX6_make_44 : decode cX6_make 44 = .ok (.aload_n 0, 1) := by decide +kernel
theorem dX6_make_45 : decode cX6_make 45 = .ok (.getfield 9, 3) := by decide +kernel
theorem dX6_make_48 : decode cX6_make 48 = .ok (.arraylength, 1) := by decide +kernel
theorem dX6_make_49 : decode cX6_make 49 = .ok (.if_icmp .ge 79, 3) := by decide +kernel
theorem dX6_make_52 : decode cX6_make 52 = .ok (.aload_n 0, 1) := by decide +kernel
theorem dX6_make_53 : decode cX6_make 53 = .ok (.getfield 19, 3) := by decide +kernel
theorem dX6_make_56 : decode cX6_make 56 = .ok (.aload_n 1, 1) := by decide +kernel
theorem dX6_make_57 : decode cX6_make 57 = .ok (.getfield 30, 3) := by decide +kernel
theorem dX6_make_60 : decode cX6_make 60 = .ok (.iload 4, 2) := by decide +kernel
theorem dX6_make_62 : decode cX6_make 62 = .ok (.isub, 1) := by decide +kernel
theorem dX6_make_63 : decode cX6_make 63 = .ok (.invokestatic 41, 3) := by decide +kernel
theorem dX6_make_66 : decode cX6_make 66 = .ok (.istore 5, 2) := by decide +kernel
theorem dX6_make_68 : decode cX6_make 68 = .ok (.aload_n 0, 1) := by decide +kernel
theorem dX6_make_69 : decode cX6_make 69 = .ok (.getfield 9, 3) := by decide +kernel
theorem dX6_make_72 : decode cX6_make 72 = .ok (.aload_n 0, 1) := by decide +kernel
theorem dX6_make_73 : decode cX6_make 73 = .ok (.getfield 38, 3) := by decide +kernel
theorem dX6_make_76 : decode cX6_make 76 = .ok (.aload_n 1, 1) := by decide +kernel
theorem dX6_make_77 : decode cX6_make 77 = .ok (.iload 4, 2) := by decide +kernel
theorem dX6_make_79 : decode cX6_make 79 = .ok (.iload 5, 2) := by decide +kernel
theorem dX6_make_81 : decode cX6_make 81 = .ok (.aload_n 0, 1) := by decide +kernel
theorem dX6_make_82 : decode cX6_make 82 = .ok (.getfield 23, 3) := by decide +kernel
theorem dX6_make_85 : decode cX6_make 85 = .ok (.invokevirtual 47, 3) := by decide +kernel
theorem dX6_make_88 : decode cX6_make 88 = .ok (.iastore, 1) := by decide +kernel
theorem dX6_make_89 : decode cX6_make 89 = .ok (.aload_n 0, 1) := by decide +kernel
theorem dX6_make_90 : decode cX6_make 90 = .ok (.getfield 15, 3) := by decide +kernel
theorem dX6_make_93 : decode cX6_make 93 = .ok (.aload_n 0, 1) := by decide +kernel
theorem dX6_make_94 : decode cX6_make 94 = .ok (.getfield 38, 3) := by decide +kernel
theorem dX6_make_97 : decode cX6_make 97 = .ok (.aload_n 1, 1) := by decide +kernel
theorem dX6_make_98 : decode cX6_make 98 = .ok (.iload 4, 2) := by decide +kernel
theorem dX6_make_100 : decode cX6_make 100 = .ok (.iload 5, 2) := by decide +kernel
theorem dX6_make_102 : decode cX6_make 102 = .ok (.invokevirtual 51, 3) := by decide +kernel
theorem dX6_make_105 : decode cX6_make 105 = .ok (.lastore, 1) := by decide +kernel
theorem dX6_make_106 : decode cX6_make 106 = .ok (.aload_n 0, 1) := by decide +kernel
theorem dX6_make_107 : decode cX6_make 107 = .ok (.dup, 1) := by decide +kernel
theorem dX6_make_108 : decode cX6_make 108 = .ok (.getfield 38, 3) := by decide +kernel
theorem dX6_make_111 : decode cX6_make 111 = .ok (.iconst 1, 1) := by decide +kernel
theorem dX6_make_112 : decode cX6_make 112 = .ok (.iadd, 1) := by decide +kernel
theorem dX6_make_113 : decode cX6_make 113 = .ok (.putfield 38, 3) := by decide +kernel
theorem dX6_make_116 : decode cX6_make 116 = .ok (.iload 4, 2) := by decide +kernel
theorem dX6_make_118 : decode cX6_make 118 = .ok (.aload_n 0, 1) := by decide +kernel
theorem dX6_make_119 : decode cX6_make 119 = .ok (.getfield 19, 3) := by decide +kernel
theorem dX6_make_122 : decode cX6_make 122 = .ok (.iadd, 1) := by decide +kernel
theorem dX6_make_123 : decode cX6_make 123 = .ok (.istore 4, 2) := by decide +kernel
theorem dX6_make_125 : decode cX6_make 125 = .ok (.goto (-94), 3) := by decide +kernel
theorem dX6_make_128 : decode cX6_make 128 = .ok (.return_, 1) := by decide +kernel
theorem dX6_sizeOfBlock_0 : decode cX6_sizeOfBlock 0 = .ok (.aload_n 0, 1) := by decide +kernel
theorem dX6_sizeOfBlock_1 : decode cX6_sizeOfBlock 1 = .ok (.getfield 19, 3) := by decide +kernel
theorem dX6_sizeOfBlock_4 : decode cX6_sizeOfBlock 4 = .ok (.aload_n 0, 1) := by decide +kernel
theorem dX6_sizeOfBlock_5 : decode cX6_sizeOfBlock 5 = .ok (.getfield 35, 3) := by decide +kernel
theorem dX6_sizeOfBlock_8 : decode cX6_sizeOfBlock 8 = .ok (.iload_n 1, 1) := by decide +kernel
theorem dX6_sizeOfBlock_9 : decode cX6_sizeOfBlock 9 = .ok (.aload_n 0, 1) := by decide +kernel
theorem dX6_sizeOfBlock_10 : decode cX6_sizeOfBlock 10 = .ok (.getfield 19, 3) := by decide +kernel
theorem dX6_sizeOfBlock_13 : decode cX6_sizeOfBlock 13 = .ok (.imul, 1) := by decide +kernel
theorem dX6_sizeOfBlock_14 : decode cX6_sizeOfBlock 14 = .ok (.isub, 1) := by decide +kernel
theorem dX6_sizeOfBlock_15 : decode cX6_sizeOfBlock 15 = .ok (.invokestatic 41, 3) := by decide +kernel
theorem dX6_sizeOfBlock_18 : decode cX6_sizeOfBlock 18 = .ok (.ireturn, 1) := by decide +kernel
theorem dX6_windowFor_0 : decode cX6_windowFor 0 = .ok (.iload_n 1, 1) := by decide +kernel
theorem dX6_windowFor_1 : decode cX6_windowFor 1 = .ok (.aload_n 0, 1) := by decide +kernel
theorem dX6_windowFor_2 : decode cX6_windowFor 2 = .ok (.getfield 19, 3) := by decide +kernel
theorem dX6_windowFor_5 : decode cX6_windowFor 5 = .ok (.if_icmp .lt 8, 3) := by decide +kernel
theorem dX6_windowFor_8 : decode cX6_windowFor 8 = .ok (.aload_n 0, 1) := by decide +kernel
theorem dX6_windowFor_9 : decode cX6_windowFor 9 = .ok (.getfield 19, 3) := by decide +kernel
theorem dX6_windowFor_12 : decode cX6_windowFor 12 = .ok (.ireturn, 1) := by decide +kernel
theorem dX6_windowFor_13 : decode cX6_windowFor 13 = .ok (.aload_n 0, 1) := by decide +kernel
theorem dX6_windowFor_14 : decode cX6_windowFor 14 = .ok (.getfield 38, 3) := by decide +kernel
theorem dX6_windowFor_17 : decode cX6_windowFor 17 = .ok (.ifCond .le 21, 3) := by decide +kernel
theorem dX6_windowFor_20 : decode cX6_windowFor 20 = .ok (.aload_n 0, 1) := by decide +kernel
theorem dX6_windowFor_21 : decode cX6_windowFor 21 = .ok (.aload_n 0, 1) := by decide +kernel
theorem dX6_windowFor_22 : decode cX6_windowFor 22 = .ok (.getfield 38, 3) := by decide +kernel
theorem dX6_windowFor_25 : decode cX6_windowFor 25 = .ok (.iconst 1, 1) := by decide +kernel
theorem dX6_windowFor_26 : decode cX6_windowFor 26 = .ok (.isub, 1) := by decide +kernel
theorem dX6_windowFor_27 : decode cX6_windowFor 27 = .ok (.invokevirtual 55, 3) := by decide +kernel
theorem dX6_windowFor_30 : decode cX6_windowFor 30 = .ok (.iload_n 1, 1) := by decide +kernel
theorem dX6_windowFor_31 : decode cX6_windowFor 31 = .ok (.if_icmp .ne 7, 3) := by decide +kernel
theorem dX6_windowFor_34 : decode cX6_windowFor 34 = .ok (.iload_n 1, 1) := by decide +kernel
theorem dX6_windowFor_35 : decode cX6_windowFor 35 = .ok (.goto 4, 3) := by decide +kernel
theorem dX6_windowFor_38 : decode cX6_windowFor 38 = .ok (.iconst 0, 1) := by decide +kernel
theorem dX6_windowFor_39 : decode cX6_windowFor 39 = .ok (.ireturn, 1) := by decide +kernel
theorem dX7_init_0 : decode cX7_init 0 = .ok (.aload_n 0, 1) := by decide +kernel
theorem dX7_init_1 : decode cX7_init 1 = .ok (.invokespecial 3, 3) := by decide +kernel
theorem dX7_init_4 : decode cX7_init 4 = .ok (.aload_n 0, 1) := by decide +kernel
theorem dX7_init_5 : decode cX7_init 5 = .ok (.new 9, 3) := by decide +kernel
theorem dX7_init_8 : decode cX7_init 8 = .ok (.dup, 1) := by decide +kernel
theorem dX7_init_9 : decode cX7_init 9 = .ok (.invokespecial 11, 3) := by decide +kernel
theorem dX7_init_12 : decode cX7_init 12 = .ok (.putfield 12, 3) := by decide +kernel
theorem dX7_init_15 : decode cX7_init 15 = .ok (.aload_n 0, 1) := by decide +kernel
theorem dX7_init_16 : decode cX7_init 16 = .ok (.new 18, 3) := by decide +kernel
theorem dX7_init_19 : decode cX7_init 19 = .ok (.dup, 1) := by decide +kernel
theorem dX7_init_20 : decode cX7_init 20 = .ok (.invokespecial 20, 3) := by decide +kernel
theorem dX7_init_23 : decode cX7_init 23 = .ok (.putfield 21, 3) := by decide +kernel
theorem dX7_init_26 : decode cX7_init 26 = .ok (.aload_n 0, 1) := by decide +kernel
theorem dX7_init_27 : decode cX7_init 27 = .ok (.iconst 2, 1) := by decide +kernel
theorem dX7_init_28 : decode cX7_init 28 = .ok (.putfield 25, 3) := by decide +kernel
theorem dX7_init_31 : decode cX7_init 31 = .ok (.aload_n 0, 1) := by decide +kernel
theorem dX7_init_32 : decode cX7_init 32 = .ok (.iconst (-1), 1) := by decide +kernel
theorem dX7_init_33 : decode cX7_init 33 = .ok (.putfield 29, 3) := by decide +kernel
theorem dX7_init_36 : decode cX7_init 36 = .ok (.return_, 1) := by decide +kernel
theorem dX7_becomeWhole_0 : decode cX7_becomeWhole 0 = .ok (.aload_n 0, 1) := by decide +kernel
theorem dX7_becomeWhole_1 : decode cX7_becomeWhole 1 = .ok (.iconst 0, 1) := by decide +kernel
theorem dX7_becomeWhole_2 : decode cX7_becomeWhole 2 = .ok (.putfield 25, 3) := by decide +kernel
theorem dX7_becomeWhole_5 : decode cX7_becomeWhole 5 = .ok (.aload_n 0, 1) := by decide +kernel
theorem dX7_becomeWhole_6 : decode cX7_becomeWhole 6 = .ok (.getfield 12, 3) := by decide +kernel
theorem dX7_becomeWhole_9 : decode cX7_becomeWhole 9 = .ok (.aload_n 1, 1) := by decide +kernel
theorem dX7_becomeWhole_10 : decode cX7_becomeWhole 10 = .ok (.invokevirtual 32, 3) := by decide +kernel
theorem dX7_becomeWhole_13 : decode cX7_becomeWhole 13 = .ok (.return_, 1) := by decide +kernel
theorem dX7_holds_0 : decode cX7_holds 0 = .ok (.aload_n 0, 1) := by decide +kernel
theorem dX7_holds_1 : decode cX7_holds 1 = .ok (.getfield 25, 3) := by decide +kernel
theorem dX7_holds_4 : decode cX7_holds 4 = .ok (.iconst 2, 1) := by decide +kernel
theorem dX7_holds_5 : decode cX7_holds 5 = .ok (.if_icmp .ne 5, 3) := by decide +kernel
theorem dX7_holds_8 : decode cX7_holds 8 = .ok (.iconst 0, 1) := by decide +kernel
theorem dX7_holds_9 : decode cX7_holds 9 = .ok (.ireturn, 1) := by decide +kernel
theorem dX7_holds_10 : decode cX7_holds 10 = .ok (.aload_n 0, 1) := by decide +kernel
theorem dX7_holds_11 : decode cX7_holds 11 = .ok (.getfield 25, 3) := by decide +kernel
theorem dX7_holds_14 : decode cX7_holds 14 = .ok (.ifCond .ne 13, 3) := by decide +kernel
theorem dX7_holds_17 : decode cX7_holds 17 = .ok (.aload_n 0, 1) := by decide +kernel
theorem dX7_holds_18 : decode cX7_holds 18 = .ok (.getfield 12, 3) := by decide +kernel
theorem dX7_holds_21 : decode cX7_holds 21 = .ok (.getfield 36, 3) := by decide +kernel
theorem dX7_holds_24 : decode cX7_holds 24 = .ok (.goto 10, 3) := by decide +kernel
theorem dX7_holds_27 : decode cX7_holds 27 = .ok (.aload_n 0, 1) := by decide +kernel
theorem dX7_holds_28 : decode cX7_holds 28 = .ok (.getfield 21, 3) := by decide +kernel
theorem dX7_holds_31 : decode cX7_holds 31 = .ok (.invokevirtual 39, 3) := by decide +kernel
theorem dX7_holds_34 : decode cX7_holds 34 = .ok (.ireturn, 1) := by decide +kernel
theorem dX8_init_0 : decode cX8_init 0 = .ok (.aload_n 0, 1) := by decide +kernel
theorem dX8_init_1 : decode cX8_init 1 = .ok (.invokespecial 1, 3) := by decide +kernel
theorem dX8_init_4 : decode cX8_init 4 = .ok (.aload_n 0, 1) := by decide +kernel
theorem dX8_init_5 : decode cX8_init 5 = .ok (.bipush 6, 2) := by decide +kernel
theorem dX8_init_7 : decode cX8_init 7 = .ok (.anewarray 9, 3) := by decide +kernel
theorem dX8_init_10 : decode cX8_init 10 = .ok (.putfield 11, 3) := by decide +kernel
theorem dX8_init_13 : decode cX8_init 13 = .ok (.aload_n 0, 1) := by decide +kernel
theorem dX8_init_14 : decode cX8_init 14 = .ok (.iconst 4, 1) := by decide +kernel
theorem dX8_init_15 : decode cX8_init 15 = .ok (.anewarray 15, 3) := by decide +kernel
theorem dX8_init_18 : decode cX8_init 18 = .ok (.putfield 17, 3) := by decide +kernel
theorem dX8_init_21 : decode cX8_init 21 = .ok (.aload_n 0, 1) := by decide +kernel
theorem dX8_init_22 : decode cX8_init 22 = .ok (.iconst 4, 1) := by decide +kernel
theorem dX8_init_23 : decode cX8_init 23 = .ok (.anewarray 21, 3) := by decide +kernel
theorem dX8_init_26 : decode cX8_init 26 = .ok (.putfield 23, 3) := by decide +kernel
theorem dX8_init_29 : decode cX8_init 29 = .ok (.aload_n 0, 1) := by decide +kernel
theorem dX8_init_30 : decode cX8_init 30 = .ok (.new 9, 3) := by decide +kernel
theorem dX8_init_33 : decode cX8_init 33 = .ok (.dup, 1) := by decide +kernel
theorem dX8_init_34 : decode cX8_init 34 = .ok (.invokespecial 27, 3) := by decide +kernel
theorem dX8_init_37 : decode cX8_init 37 = .ok (.putfield 28, 3) := by decide +kernel
theorem dX8_init_40 : decode cX8_init 40 = .ok (.aload_n 0, 1) := by decide +kernel
theorem dX8_init_41 : decode cX8_init 41 = .ok (.new 32, 3) := by decide +kernel
theorem dX8_init_44 : decode cX8_init 44 = .ok (.dup, 1) := by decide +kernel
theorem dX8_init_45 : decode cX8_init 45 = .ok (.invokespecial 34, 3) := by decide +kernel
theorem dX8_init_48 : decode cX8_init 48 = .ok (.putfield 35, 3) := by decide +kernel
theorem dX8_init_51 : decode cX8_init 51 = .ok (.aload_n 0, 1) := by decide +kernel
theorem dX8_init_52 : decode cX8_init 52 = .ok (.new 39, 3) := by decide +kernel
theorem dX8_init_55 : decode cX8_init 55 = .ok (.dup, 1) := by decide +kernel
theorem dX8_init_56 : decode cX8_init 56 = .ok (.invokespecial 41, 3) := by decide +kernel
theorem dX8_init_59 : decode cX8_init 59 = .ok (.putfield 42, 3) := by decide +kernel
theorem dX8_init_62 : decode cX8_init 62 = .ok (.iconst 0, 1) := by decide +kernel
theorem dX8_init_63 : decode cX8_init 63 = .ok (.istore_n 1, 1) := by decide +kernel
theorem dX8_init_64 : decode cX8_init 64 = .ok (.iload_n 1, 1) := by decide +kernel
theorem dX8_init_65 : decode cX8_init 65 = .ok (.aload_n 0, 1) := by decide +kernel
theorem dX8_init_66 : decode cX8_init 66 = .ok (.getfield 11, 3) := by decide +kernel
theorem dX8_init_69 : decode cX8_init 69 = .ok (.arraylength, 1) := by decide +kernel
theorem dX8_init_70 : decode cX8_init 70 = .ok (.if_icmp .ge 22, 3) := by decide +kernel
theorem dX8_init_73 : decode cX8_init 73 = .ok (.aload_n 0, 1) := by decide +kernel
theorem dX8_init_74 : decode cX8_init 74 = .ok (.getfield 11, 3) := by decide +kernel
theorem dX8_init_77 : decode cX8_init 77 = .ok (.iload_n 1, 1) := by decide +kernel
theorem dX8_init_78 : decode cX8_init 78 = .ok (.new 9, 3) := by decide +kernel
theorem dX8_init_81 : decode cX8_init 81 = .ok (.dup, 1) := by decide +kernel
theorem dX8_init_82 : decode cX8_init 82 = .ok (.invokespecial 27, 3) := by decide +kernel
theorem dX8_init_85 : decode cX8_init 85 = .ok (.aastore, 1) := by decide +kernel
theorem dX8_init_86 : decode cX8_init 86 = .ok (.iinc 1 1, 3) := by decide +kernel
theorem dX8_init_89 : decode cX8_init 89 = .ok (.goto (-25), 3) := by decide +kernel
theorem dX8_init_92 : decode cX8_init 92 = .ok (.iconst 0, 1) := by decide +kernel
theorem dX8_init_93 : decode cX8_init 93 = .ok (.istore_n 1, 1) := by decide +kernel
theorem dX8_init_94 : decode cX8_init 94 = .ok (.iload_n 1, 1) := by decide +kernel
theorem dX8_init_95 : decode cX8_init 95 = .ok (.aload_n 0, 1) := by decide +kernel
theorem dX8_init_96 : decode cX8_init 96 = .ok (.getfield 17, 3) := by decide +kernel
theorem dX8_init_99 : decode cX8_init 99 = .ok (.arraylength, 1) := by decide +kernel
theorem dX8_init_100 : decode cX8_init 100 = .ok (.if_icmp .ge 22, 3) := by decide +kernel
theorem dX8_init_103 : decode cX8_init 103 = .ok (.aload_n 0, 1) := by decide +kernel
theorem dX8_init_104 : decode cX8_init 104 = .ok (.getfield 17, 3) := by decide +kernel
theorem dX8_init_107 : decode cX8_init 107 = .ok (.iload_n 1, 1) := by decide +kernel
theorem dX8_init_108 : decode cX8_init 108 = .ok (.new 15, 3) := by decide +kernel
theorem dX8_init_111 : decode cX8_init 111 = .ok (.dup, 1) := by decide +kernel
theorem dX8_init_112 : decode cX8_init 112 = .ok (.invokespecial 46, 3) := by decide +kernel
theorem dX8_init_115 : decode cX8_init 115 = .ok (.aastore, 1) := by decide +kernel
theorem dX8_init_116 : decode cX8_init 116 = .ok (.iinc 1 1, 3) := by decide +kernel
theorem dX8_init_119 : decode cX8_init 119 = .ok (.goto (-25), 3) := by decide +kernel
theorem dX8_init_122 : decode cX8_init 122 = .ok (.iconst 0, 1) := by decide +kernel
theorem dX8_init_123 : decode cX8_init 123 = .ok (.istore_n 1, 1) := by decide +kernel
theorem dX8_init_124 : decode cX8_init 124 = .ok (.iload_n 1, 1) := by decide +kernel
theorem dX8_init_125 : decode cX8_init 125 = .ok (.aload_n 0, 1) := by decide +kernel
theorem dX8_init_126 : decode cX8_init 126 = .ok (.getfield 23, 3) := by decide +kernel
theorem dX8_init_129 : decode cX8_init 129 = .ok (.arraylength, 1) := by decide +kernel
theorem dX8_init_130 : decode cX8_init 130 = .ok (.if_icmp .ge 22, 3) := by decide +kernel
theorem dX8_init_133 : decode cX8_init 133 = .ok (.aload_n 0, 1) := by decide +kernel
theorem dX8_init_134 : decode cX8_init 134 = .ok (.getfield 23, 3) := by decide +kernel
theorem dX8_init_137 : decode cX8_init 137 = .ok (.iload_n 1, 1) := by decide +kernel
theorem dX8_init_138 : decode cX8_init 138 = .ok (.new 21, 3) := by decide +kernel
theorem dX8_init_141 : decode cX8_init 141 = .ok (.dup, 1) := by decide +kernel
theorem dX8_init_142 : decode cX8_init 142 = .ok (.invokespecial 47, 3) := by decide +kernel
theorem dX8_init_145 : decode cX8_init 145 = .ok (.aastore, 1) := by decide +kernel
theorem dX8_init_146 : decode cX8_init 146 = .ok (.iinc 1 1, 3) := by decide +kernel
theorem dX8_init_149 : decode cX8_init 149 = .ok (.goto (-25), 3) := by decide +kernel
theorem dX8_init_152 : decode cX8_init 152 = .ok (.return_, 1) := by decide +kernel
theorem dX8_file_0 : decode cX8_file 0 = .ok (.aload_n 0, 1) := by decide +kernel
theorem dX8_file_1 : decode cX8_file 1 = .ok (.getfield 48, 3) := by decide +kernel
theorem dX8_file_4 : decode cX8_file 4 = .ok (.bipush 6, 2) := by decide +kernel
theorem dX8_file_6 : decode cX8_file 6 = .ok (.if_icmp .lt 13, 3) := by decide +kernel
theorem dX8_file_9 : decode cX8_file 9 = .ok (.new 52, 3) := by decide +kernel
theorem dX8_file_12 : decode cX8_file 12 = .ok (.dup, 1) := by decide +kernel
theorem dX8_file_13 : decode cX8_file 13 = .ok (.ldc 54, 2) := by decide +kernel
theorem dX8_file_15 : decode cX8_file 15 = .ok (.invokespecial 56, 3) := by decide +kernel
theorem dX8_file_18 : decode cX8_file 18 = .ok (.athrow, 1) := by decide +kernel
theorem dX8_file_19 : decode cX8_file 19 = .ok (.aload_n 0, 1) := by decide +kernel
theorem dX8_file_20 : decode cX8_file 20 = .ok (.dup, 1) := by decide +kernel
theorem dX8_file_21 : decode cX8_file 21 = .ok (.getfield 48, 3) := by decide +kernel
theorem dX8_file_24 : decode cX8_file 24 = .ok (.iconst 1, 1) := by decide +kernel
theorem dX8_file_25 : decode cX8_file 25 = .ok (.iadd, 1) := by decide +kernel
theorem dX8_file_26 : decode cX8_file 26 = .ok (.putfield 48, 3) := by decide +kernel
theorem dX8_file_29 : decode cX8_file 29 = .ok (.aload_n 0, 1) := by decide +kernel
theorem dX8_file_30 : decode cX8_file 30 = .ok (.getfield 48, 3) := by decide +kernel
theorem dX8_file_33 : decode cX8_file 33 = .ok (.iconst 1, 1) := by decide +kernel
theorem dX8_file_34 : decode cX8_file 34 = .ok (.isub, 1) := by decide +kernel
theorem dX8_file_35 : decode cX8_file 35 = .ok (.ireturn, 1) := by decide +kernel
theorem dX8_add_0 : decode cX8_add 0 = .ok (.aload_n 0, 1) := by decide +kernel
theorem dX8_add_1 : decode cX8_add 1 = .ok (.iload_n 1, 1) := by decide +kernel
theorem dX8_add_2 : decode cX8_add 2 = .ok (.invokevirtual 59, 3) := by decide +kernel
theorem dX8_add_5 : decode cX8_add 5 = .ok (.iload_n 2, 1) := by decide +kernel
theorem dX8_add_6 : decode cX8_add 6 = .ok (.iconst 0, 1) := by decide +kernel
theorem dX8_add_7 : decode cX8_add 7 = .ok (.sipush 255, 3) := by decide +kernel
theorem dX8_add_10 : decode cX8_add 10 = .ok (.invokestatic 63, 3) := by decide +kernel
theorem dX8_add_13 : decode cX8_add 13 = .ok (.iload_n 3, 1) := by decide +kernel
theorem dX8_add_14 : decode cX8_add 14 = .ok (.iconst 0, 1) := by decide +kernel
theorem dX8_add_15 : decode cX8_add 15 = .ok (.sipush 255, 3) := by decide +kernel
theorem dX8_add_18 : decode cX8_add 18 = .ok (.invokestatic 63, 3) := by decide +kernel
theorem dX8_add_21 : decode cX8_add 21 = .ok (.iload 4, 2) := by decide +kernel
theorem dX8_add_23 : decode cX8_add 23 = .ok (.iconst 1, 1) := by decide +kernel
theorem dX8_add_24 : decode cX8_add 24 = .ok (.bipush 120, 2) := by decide +kernel
theorem dX8_add_26 : decode cX8_add 26 = .ok (.invokestatic 63, 3) := by decide +kernel
theorem dX8_add_29 : decode cX8_add 29 = .ok (.aload_n 0, 1) := by decide +kernel
theorem dX8_add_30 : decode cX8_add 30 = .ok (.getfield 11, 3) := by decide +kernel
theorem dX8_add_33 : decode cX8_add 33 = .ok (.iload_n 1, 1) := by decide +kernel
theorem dX8_add_34 : decode cX8_add 34 = .ok (.aaload, 1) := by decide +kernel
theorem dX8_add_35 : decode cX8_add 35 = .ok (.astore 5, 2) := by decide +kernel
theorem dX8_add_37 : decode cX8_add 37 = .ok (.aload 5, 2) := by decide +kernel
theorem dX8_add_39 : decode cX8_add 39 = .ok (.getfield 67, 3) := by decide +kernel
theorem dX8_add_42 : decode cX8_add 42 = .ok (.iload 4, 2) := by decide +kernel
theorem dX8_add_44 : decode cX8_add 44 = .ok (.iadd, 1) := by decide +kernel
theorem dX8_add_45 : decode cX8_add 45 = .ok (.bipush 120, 2) := by decide +kernel
theorem dX8_add_47 : decode cX8_add 47 = .ok (.if_icmp .le 13, 3) := by decide +kernel
theorem dX8_add_50 : decode cX8_add 50 = .ok (.new 52, 3) := by decide +kernel
theorem dX8_add_53 : decode cX8_add 53 = .ok (.dup, 1) := by decide +kernel
theorem dX8_add_54 : decode cX8_add 54 = .ok (.ldc 70, 2) := by decide +kernel
theorem dX8_add_56 : decode cX8_add 56 = .ok (.invokespecial 56, 3) := by decide +kernel
theorem dX8_add_59 : decode cX8_add 59 = .ok (.athrow, 1) := by decide +kernel
theorem dX8_add_60 : decode cX8_add 60 = .ok (.iconst 0, 1) := by decide +kernel
theorem dX8_add_61 : decode cX8_add 61 = .ok (.istore 6, 2) := by decide +kernel
theorem dX8_add_63 : decode cX8_add 63 = .ok (.iload 6, 2) := by decide +kernel
theorem dX8_add_65 : decode cX8_add 65 = .ok (.iload 4, 2) := by decide +kernel
theorem dX8_add_67 : decode cX8_add 67 = .ok (.if_icmp .ge 24, 3) := by decide +kernel
theorem dX8_add_70 : decode cX8_add 70 = .ok (.aload 5, 2) := by decide +kernel
theorem dX8_add_72 : decode cX8_add 72 = .ok (.iload_n 2, 1) := by decide +kernel
theorem dX8_add_73 : decode cX8_add 73 = .ok (.iload 6, 2) := by decide +kernel
theorem dX8_add_75 : decode cX8_add 75 = .ok (.iload_n 3, 1) := by decide +kernel
theorem dX8_add_76 : decode cX8_add 76 = .ok (.imul, 1) := by decide +kernel
theorem dX8_add_77 : decode cX8_add 77 = .ok (.iadd, 1) := by decide +kernel
theorem dX8_add_78 : decode cX8_add 78 = .ok (.sipush 256, 3) := by decide +kernel
theorem dX8_add_81 : decode cX8_add 81 = .ok (.irem, 1) := by decide +kernel
theorem dX8_add_82 : decode cX8_add 82 = .ok (.invokevirtual 72, 3) := by decide +kernel
theorem dX8_add_85 : decode cX8_add 85 = .ok (.iinc 6 1, 3) := by decide +kernel
theorem dX8_add_88 : decode cX8_add 88 = .ok (.goto (-25), 3) := by decide +kernel
theorem dX8_add_91 : decode cX8_add 91 = .ok (.aload 5, 2) := by decide +kernel
theorem dX8_add_93 : decode cX8_add 93 = .ok (.getfield 67, 3) := by decide +kernel
theorem dX8_add_96 : decode cX8_add 96 = .ok (.ireturn, 1) := by decide +kernel
theorem dX8_insert_0 : decode cX8_insert 0 = .ok (.aload_n 0, 1) := by decide +kernel
theorem dX8_insert_1 : decode cX8_insert 1 = .ok (.iload_n 1, 1) := by decide +kernel
theorem dX8_insert_2 : decode cX8_insert 2 = .ok (.invokevirtual 59, 3) := by decide +kernel
theorem dX8_insert_5 : decode cX8_insert 5 = .ok (.aload_n 0, 1) := by decide +kernel
theorem dX8_insert_6 : decode cX8_insert 6 = .ok (.getfield 11, 3) := by decide +kernel
theorem dX8_insert_9 : decode cX8_insert 9 = .ok (.iload_n 1, 1) := by decide +kernel
theorem dX8_insert_10 : decode cX8_insert 10 = .ok (.aaload, 1) := by decide +kernel
theorem dX8_insert_11 : decode cX8_insert 11 = .ok (.astore 4, 2) := by decide +kernel
theorem dX8_insert_13 : decode cX8_insert 13 = .ok (.iload_n 2, 1) := by decide +kernel
theorem dX8_insert_14 : decode cX8_insert 14 = .ok (.aload 4, 2) := by decide +kernel
theorem dX8_insert_16 : decode cX8_insert 16 = .ok (.getfield 67, 3) := by decide +kernel
theorem dX8_insert_19 : decode cX8_insert 19 = .ok (.iconst 1, 1) := by decide +kernel
theorem dX8_insert_20 : decode cX8_insert 20 = .ok (.iadd, 1) := by decide +kernel
theorem dX8_insert_21 : decode cX8_insert 21 = .ok (.invokestatic 75, 3) := by decide +kernel
theorem dX8_insert_24 : decode cX8_insert 24 = .ok (.iload_n 3, 1) := by decide +kernel
theorem dX8_insert_25 : decode cX8_insert 25 = .ok (.iconst 0, 1) := by decide +kernel
theorem dX8_insert_26 : decode cX8_insert 26 = .ok (.sipush 255, 3) := by decide +kernel
theorem dX8_insert_29 : decode cX8_insert 29 = .ok (.invokestatic 63, 3) := by decide +kernel
theorem dX8_insert_32 : decode cX8_insert 32 = .ok (.aload 4, 2) := by decide +kernel
theorem dX8_insert_34 : decode cX8_insert 34 = .ok (.getfield 67, 3) := by decide +kernel
theorem dX8_insert_37 : decode cX8_insert 37 = .ok (.bipush 120, 2) := by decide +kernel
theorem dX8_insert_39 : decode cX8_insert 39 = .ok (.if_icmp .lt 13, 3) := by decide +kernel
theorem dX8_insert_42 : decode cX8_insert 42 = .ok (.new 52, 3) := by decide +kernel
theorem dX8_insert_45 : decode cX8_insert 45 = .ok (.dup, 1) := by decide +kernel
theorem dX8_insert_46 : decode cX8_insert 46 = .ok (.ldc 79, 2) := by decide +kernel
theorem dX8_insert_48 : decode cX8_insert 48 = .ok (.invokespecial 56, 3) := by decide +kernel
theorem dX8_insert_51 : decode cX8_insert 51 = .ok (.athrow, 1) := by decide +kernel
theorem dX8_insert_52 : decode cX8_insert 52 = .ok (.aload 4, 2) := by decide +kernel
theorem dX8_insert_54 : decode cX8_insert 54 = .ok (.iload_n 2, 1) := by decide +kernel
theorem dX8_insert_55 : decode cX8_insert 55 = .ok (.iload_n 3, 1) := by decide +kernel
theorem dX8_insert_56 : decode cX8_insert 56 = .ok (.invokevirtual 81, 3) := by decide +kernel
theorem dX8_insert_59 : decode cX8_insert 59 = .ok (.aload 4, 2) := by decide +kernel
theorem dX8_insert_61 : decode cX8_insert 61 = .ok (.getfield 67, 3) := by decide +kernel
theorem dX8_insert_64 : decode cX8_insert 64 = .ok (.ireturn, 1) := by decide +kernel
theorem dX8_remove_0 : decode cX8_remove 0 = .ok (.aload_n 0, 1) := by decide +kernel
theorem dX8_remove_1 : decode cX8_remove 1 = .ok (.iload_n 1, 1) := by decide +kernel
theorem dX8_remove_2 : decode cX8_remove 2 = .ok (.invokevirtual 59, 3) := by decide +kernel
theorem dX8_remove_5 : decode cX8_remove 5 = .ok (.aload_n 0, 1) := by decide +kernel
theorem dX8_remove_6 : decode cX8_remove 6 = .ok (.getfield 11, 3) := by decide +kernel
theorem dX8_remove_9 : decode cX8_remove 9 = .ok (.iload_n 1, 1) := by decide +kernel
theorem dX8_remove_10 : decode cX8_remove 10 = .ok (.aaload, 1) := by decide +kernel
theorem dX8_remove_11 : decode cX8_remove 11 = .ok (.astore 4, 2) := by decide +kernel
theorem dX8_remove_13 : decode cX8_remove 13 = .ok (.iload_n 2, 1) := by decide +kernel
theorem dX8_remove_14 : decode cX8_remove 14 = .ok (.aload 4, 2) := by decide +kernel
theorem dX8_remove_16 : decode cX8_remove 16 = .ok (.getfield 67, 3) := by decide +kernel
theorem dX8_remove_19 : decode cX8_remove 19 = .ok (.iconst 1, 1) := by decide +kernel
theorem dX8_remove_20 : decode cX8_remove 20 = .ok (.iadd, 1) := by decide +kernel
theorem dX8_remove_21 : decode cX8_remove 21 = .ok (.invokestatic 75, 3) := by decide +kernel
theorem dX8_remove_24 : decode cX8_remove 24 = .ok (.iload_n 3, 1) := by decide +kernel
theorem dX8_remove_25 : decode cX8_remove 25 = .ok (.iconst 0, 1) := by decide +kernel
theorem dX8_remove_26 : decode cX8_remove 26 = .ok (.aload 4, 2) := by decide +kernel
theorem dX8_remove_28 : decode cX8_remove 28 = .ok (.getfield 67, 3) := by decide +kernel
theorem dX8_remove_31 : decode cX8_remove 31 = .ok (.iload_n 2, 1) := by decide +kernel
theorem dX8_remove_32 : decode cX8_remove 32 = .ok (.isub, 1) := by decide +kernel
theorem dX8_remove_33 : decode cX8_remove 33 = .ok (.invokestatic 63, 3) := by decide +kernel
theorem dX8_remove_36 : decode cX8_remove 36 = .ok (.aload 4, 2) := by decide +kernel
theorem dX8_remove_38 : decode cX8_remove 38 = .ok (.iload_n 2, 1) := by decide +kernel
theorem dX8_remove_39 : decode cX8_remove 39 = .ok (.iload_n 3, 1) := by decide +kernel
theorem dX8_remove_40 : decode cX8_remove 40 = .ok (.invokevirtual 84, 3) := by decide +kernel
theorem dX8_remove_43 : decode cX8_remove 43 = .ok (.aload 4, 2) := by decide +kernel
theorem dX8_remove_45 : decode cX8_remove 45 = .ok (.getfield 67, 3) := by decide +kernel
theorem dX8_remove_48 : decode cX8_remove 48 = .ok (.ireturn, 1) := by decide +kernel
theorem dX8_copy_0 : decode cX8_copy 0 = .ok (.aload_n 0, 1) := by decide +kernel
theorem dX8_copy_1 : decode cX8_copy 1 = .ok (.iload_n 1, 1) := by decide +kernel
theorem dX8_copy_2 : decode cX8_copy 2 = .ok (.invokevirtual 59, 3) := by decide +kernel
theorem dX8_copy_5 : decode cX8_copy 5 = .ok (.aload_n 0, 1) := by decide +kernel
theorem dX8_copy_6 : decode cX8_copy 6 = .ok (.iload_n 2, 1) := by decide +kernel
theorem dX8_copy_7 : decode cX8_copy 7 = .ok (.invokevirtual 59, 3) := by decide +kernel
theorem dX8_copy_10 : decode cX8_copy 10 = .ok (.aload_n 0, 1) := by decide +kernel
theorem dX8_copy_11 : decode cX8_copy 11 = .ok (.getfield 11, 3) := by decide +kernel
theorem dX8_copy_14 : decode cX8_copy 14 = .ok (.iload_n 2, 1) := by decide +kernel
theorem dX8_copy_15 : decode cX8_copy 15 = .ok (.aaload, 1) := by decide +kernel
theorem dX8_copy_16 : decode cX8_copy 16 = .ok (.aload_n 0, 1) := by decide +kernel
theorem dX8_copy_17 : decode cX8_copy 17 = .ok (.getfield 11, 3) := by decide +kernel
theorem dX8_copy_20 : decode cX8_copy 20 = .ok (.iload_n 1, 1) := by decide +kernel
theorem dX8_copy_21 : decode cX8_copy 21 = .ok (.aaload, 1) := by decide +kernel
theorem dX8_copy_22 : decode cX8_copy 22 = .ok (.invokevirtual 87, 3) := by decide +kernel
theorem dX8_copy_25 : decode cX8_copy 25 = .ok (.return_, 1) := by decide +kernel
theorem dX8_length_0 : decode cX8_length 0 = .ok (.aload_n 0, 1) := by decide +kernel
theorem dX8_length_1 : decode cX8_length 1 = .ok (.iload_n 1, 1) := by decide +kernel
theorem dX8_length_2 : decode cX8_length 2 = .ok (.invokevirtual 59, 3) := by decide +kernel
theorem dX8_length_5 : decode cX8_length 5 = .ok (.aload_n 0, 1) := by decide +kernel
theorem dX8_length_6 : decode cX8_length 6 = .ok (.getfield 11, 3) := by decide +kernel
theorem dX8_length_9 : decode cX8_length 9 = .ok (.iload_n 1, 1) := by decide +kernel
theorem dX8_length_10 : decode cX8_length 10 = .ok (.aaload, 1) := by decide +kernel
theorem dX8_length_11 : decode cX8_length 11 = .ok (.getfield 67, 3) := by decide +kernel
theorem dX8_length_14 : decode cX8_length 14 = .ok (.ireturn, 1) := by decide +kernel
theorem dX8_byteAt_0 : decode cX8_byteAt 0 = .ok (.aload_n 0, 1) := by decide +kernel
theorem dX8_byteAt_1 : decode cX8_byteAt 1 = .ok (.iload_n 1, 1) := by decide +kernel
theorem dX8_byteAt_2 : decode cX8_byteAt 2 = .ok (.invokevirtual 59, 3) := by decide +kernel
theorem dX8_byteAt_5 : decode cX8_byteAt 5 = .ok (.iload_n 2, 1) := by decide +kernel
theorem dX8_byteAt_6 : decode cX8_byteAt 6 = .ok (.aload_n 0, 1) := by decide +kernel
theorem dX8_byteAt_7 : decode cX8_byteAt 7 = .ok (.getfield 11, 3) := by decide +kernel
theorem dX8_byteAt_10 : decode cX8_byteAt 10 = .ok (.iload_n 1, 1) := by decide +kernel
theorem dX8_byteAt_11 : decode cX8_byteAt 11 = .ok (.aaload, 1) := by decide +kernel
theorem dX8_byteAt_12 : decode cX8_byteAt 12 = .ok (.getfield 67, 3) := by decide +kernel
theorem dX8_byteAt_15 : decode cX8_byteAt 15 = .ok (.invokestatic 75, 3) := by decide +kernel
theorem dX8_byteAt_18 : decode cX8_byteAt 18 = .ok (.aload_n 0, 1) := by decide +kernel
theorem dX8_byteAt_19 : decode cX8_byteAt 19 = .ok (.getfield 11, 3) := by decide +kernel
theorem dX8_byteAt_22 : decode cX8_byteAt 22 = .ok (.iload_n 1, 1) := by decide +kernel
theorem dX8_byteAt_23 : decode cX8_byteAt 23 = .ok (.aaload, 1) := by decide +kernel
theorem dX8_byteAt_24 : decode cX8_byteAt 24 = .ok (.iload_n 2, 1) := by decide +kernel
theorem dX8_byteAt_25 : decode cX8_byteAt 25 = .ok (.invokevirtual 91, 3) := by decide +kernel
theorem dX8_byteAt_28 : decode cX8_byteAt 28 = .ok (.ireturn, 1) := by decide +kernel
theorem dX8_same_0 : decode cX8_same 0 = .ok (.aload_n 0, 1) := by decide +kernel
theorem dX8_same_1 : decode cX8_same 1 = .ok (.iload_n 1, 1) := by decide +kernel
theorem dX8_same_2 : decode cX8_same 2 = .ok (.invokevirtual 59, 3) := by decide +kernel
theorem dX8_same_5 : decode cX8_same 5 = .ok (.aload_n 0, 1) := by decide +kernel
theorem dX8_same_6 : decode cX8_same 6 = .ok (.iload_n 2, 1) := by decide +kernel
theorem dX8_same_7 : decode cX8_same 7 = .ok (.invokevirtual 59, 3) := by decide +kernel
theorem dX8_same_10 : decode cX8_same 10 = .ok (.aload_n 0, 1) := by decide +kernel
theorem dX8_same_11 : decode cX8_same 11 = .ok (.getfield 11, 3) := by decide +kernel
theorem dX8_same_14 : decode cX8_same 14 = .ok (.iload_n 1, 1) := by decide +kernel
theorem dX8_same_15 : decode cX8_same 15 = .ok (.aaload, 1) := by decide +kernel
theorem dX8_same_16 : decode cX8_same 16 = .ok (.aload_n 0, 1) := by decide +kernel
theorem dX8_same_17 : decode cX8_same 17 = .ok (.getfield 11, 3) := by decide +kernel
theorem dX8_same_20 : decode cX8_same 20 = .ok (.iload_n 2, 1) := by decide +kernel
theorem dX8_same_21 : decode cX8_same 21 = .ok (.aaload, 1) := by decide +kernel
theorem dX8_same_22 : decode cX8_same 22 = .ok (.invokevirtual 95, 3) := by decide +kernel
theorem dX8_same_25 : decode cX8_same 25 = .ok (.ireturn, 1) := by decide +kernel
theorem dX8_sign_0 : decode cX8_sign 0 = .ok (.iload_n 1, 1) := by decide +kernel
theorem dX8_sign_1 : decode cX8_sign 1 = .ok (.iconst 4, 1) := by decide +kernel
theorem dX8_sign_2 : decode cX8_sign 2 = .ok (.invokestatic 75, 3) := by decide +kernel
theorem dX8_sign_5 : decode cX8_sign 5 = .ok (.aload_n 0, 1) := by decide +kernel
theorem dX8_sign_6 : decode cX8_sign 6 = .ok (.iload_n 2, 1) := by decide +kernel
theorem dX8_sign_7 : decode cX8_sign 7 = .ok (.invokevirtual 59, 3) := by decide +kernel
theorem dX8_sign_10 : decode cX8_sign 10 = .ok (.iload_n 3, 1) := by decide +kernel
theorem dX8_sign_11 : decode cX8_sign 11 = .ok (.iconst 1, 1) := by decide +kernel
theorem dX8_sign_12 : decode cX8_sign 12 = .ok (.bipush 7, 2) := by decide +kernel
theorem dX8_sign_14 : decode cX8_sign 14 = .ok (.invokestatic 63, 3) := by decide +kernel
theorem dX8_sign_17 : decode cX8_sign 17 = .ok (.iload 4, 2) := by decide +kernel
theorem dX8_sign_19 : decode cX8_sign 19 = .ok (.iconst 1, 1) := by decide +kernel
theorem dX8_sign_20 : decode cX8_sign 20 = .ok (.sipush 4096, 3) := by decide +kernel
theorem dX8_sign_23 : decode cX8_sign 23 = .ok (.invokestatic 63, 3) := by decide +kernel
theorem dX8_sign_26 : decode cX8_sign 26 = .ok (.aload_n 0, 1) := by decide +kernel
theorem dX8_sign_27 : decode cX8_sign 27 = .ok (.getfield 17, 3) := by decide +kernel
theorem dX8_sign_30 : decode cX8_sign 30 = .ok (.iload_n 1, 1) := by decide +kernel
theorem dX8_sign_31 : decode cX8_sign 31 = .ok (.aaload, 1) := by decide +kernel
theorem dX8_sign_32 : decode cX8_sign 32 = .ok (.aload_n 0, 1) := by decide +kernel
theorem dX8_sign_33 : decode cX8_sign 33 = .ok (.getfield 11, 3) := by decide +kernel
theorem dX8_sign_36 : decode cX8_sign 36 = .ok (.iload_n 2, 1) := by decide +kernel
theorem dX8_sign_37 : decode cX8_sign 37 = .ok (.aaload, 1) := by decide +kernel
theorem dX8_sign_38 : decode cX8_sign 38 = .ok (.iload_n 3, 1) := by decide +kernel
theorem dX8_sign_39 : decode cX8_sign 39 = .ok (.iload 4, 2) := by decide +kernel
theorem dX8_sign_41 : decode cX8_sign 41 = .ok (.invokevirtual 99, 3) := by decide +kernel
theorem dX8_sign_44 : decode cX8_sign 44 = .ok (.aload_n 0, 1) := by decide +kernel
theorem dX8_sign_45 : decode cX8_sign 45 = .ok (.getfield 17, 3) := by decide +kernel
theorem dX8_sign_48 : decode cX8_sign 48 = .ok (.iload_n 1, 1) := by decide +kernel
theorem dX8_sign_49 : decode cX8_sign 49 = .ok (.aaload, 1) := by decide +kernel
theorem dX8_sign_50 : decode cX8_sign 50 = .ok (.getfield 103, 3) := by decide +kernel
theorem dX8_sign_53 : decode cX8_sign 53 = .ok (.ireturn, 1) := by decide +kernel
theorem dX8_blocks_0 : decode cX8_blocks 0 = .ok (.iload_n 1, 1) := by decide +kernel
theorem dX8_blocks_1 : decode cX8_blocks 1 = .ok (.iconst 4, 1) := by decide +kernel
theorem dX8_blocks_2 : decode cX8_blocks 2 = .ok (.invokestatic 75, 3) := by decide +kernel
theorem dX8_blocks_5 : decode cX8_blocks 5 = .ok (.aload_n 0, 1) := by decide +kernel
theorem dX8_blocks_6 : decode cX8_blocks 6 = .ok (.getfield 17, 3) := by decide +kernel
theorem dX8_blocks_9 : decode cX8_blocks 9 = .ok (.iload_n 1, 1) := by decide +kernel
theorem dX8_blocks_10 : decode cX8_blocks 10 = .ok (.aaload, 1) := by decide +kernel
theorem dX8_blocks_11 : decode cX8_blocks 11 = .ok (.getfield 103, 3) := by decide +kernel
theorem dX8_blocks_14 : decode cX8_blocks 14 = .ok (.ireturn, 1) := by decide +kernel
theorem dX8_weak_0 : decode cX8_weak 0 = .ok (.aload_n 0, 1) := by decide +kernel
theorem dX8_weak_1 : decode cX8_weak 1 = .ok (.iload_n 1, 1) := by decide +kernel
theorem dX8_weak_2 : decode cX8_weak 2 = .ok (.iload_n 2, 1) := by decide +kernel
theorem dX8_weak_3 : decode cX8_weak 3 = .ok (.invokevirtual 106, 3) := by decide +kernel
theorem dX8_weak_6 : decode cX8_weak 6 = .ok (.aload_n 0, 1) := by decide +kernel
theorem dX8_weak_7 : decode cX8_weak 7 = .ok (.getfield 17, 3) := by decide +kernel
theorem dX8_weak_10 : decode cX8_weak 10 = .ok (.iload_n 1, 1) := by decide +kernel
theorem dX8_weak_11 : decode cX8_weak 11 = .ok (.aaload, 1) := by decide +kernel
theorem dX8_weak_12 : decode cX8_weak 12 = .ok (.getfield 109, 3) := by decide +kernel
theorem dX8_weak_15 : decode cX8_weak 15 = .ok (.iload_n 2, 1) := by decide +kernel
theorem dX8_weak_16 : decode cX8_weak 16 = .ok (.iaload, 1) := by decide +kernel
theorem dX8_weak_17 : decode cX8_weak 17 = .ok (.ireturn, 1) := by decide +kernel
theorem dX8_strong_0 : decode cX8_strong 0 = .ok (.aload_n 0, 1) := by decide +kernel
theorem dX8_strong_1 : decode cX8_strong 1 = .ok (.iload_n 1, 1) := by decide +kernel
theorem dX8_strong_2 : decode cX8_strong 2 = .ok (.iload_n 2, 1) := by decide +kernel
theorem dX8_strong_3 : decode cX8_strong 3 = .ok (.invokevirtual 106, 3) := by decide +kernel
theorem dX8_strong_6 : decode cX8_strong 6 = .ok (.aload_n 0, 1) := by decide +kernel
theorem dX8_strong_7 : decode cX8_strong 7 = .ok (.getfield 17, 3) := by decide +kernel
theorem dX8_strong_10 : decode cX8_strong 10 = .ok (.iload_n 1, 1) := by decide +kernel
theorem dX8_strong_11 : decode cX8_strong 11 = .ok (.aaload, 1) := by decide +kernel
theorem dX8_strong_12 : decode cX8_strong 12 = .ok (.getfield 113, 3) := by decide +kernel
theorem dX8_strong_15 : decode cX8_strong 15 = .ok (.iload_n 2, 1) := by decide +kernel
theorem dX8_strong_16 : decode cX8_strong 16 = .ok (.laload, 1) := by decide +kernel
theorem dX8_strong_17 : decode cX8_strong 17 = .ok (.lreturn, 1) := by decide +kernel
theorem dX8_compare_0 : decode cX8_compare 0 = .ok (.iload_n 1, 1) := by decide +kernel
theorem dX8_compare_1 : decode cX8_compare 1 = .ok (.iconst 4, 1) := by decide +kernel
theorem dX8_compare_2 : decode cX8_compare 2 = .ok (.invokestatic 75, 3) := by decide +kernel
theorem dX8_compare_5 : decode cX8_compare 5 = .ok (.iload_n 2, 1) := by decide +kernel
theorem dX8_compare_6 : decode cX8_compare 6 = .ok (.iconst 4, 1) := by decide +kernel
theorem dX8_compare_7 : decode cX8_compare 7 = .ok (.invokestatic 75, 3) := by decide +kernel
theorem dX8_compare_10 : decode cX8_compare 10 = .ok (.aload_n 0, 1) := by decide +kernel
theorem dX8_compare_11 : decode cX8_compare 11 = .ok (.iload_n 3, 1) := by decide +kernel
theorem dX8_compare_12 : decode cX8_compare 12 = .ok (.invokevirtual 59, 3) := by decide +kernel
theorem dX8_compare_15 : decode cX8_compare 15 = .ok (.aload_n 0, 1) := by decide +kernel
theorem dX8_compare_16 : decode cX8_compare 16 = .ok (.getfield 17, 3) := by decide +kernel
theorem dX8_compare_19 : decode cX8_compare 19 = .ok (.iload_n 2, 1) := by decide +kernel
theorem dX8_compare_20 : decode cX8_compare 20 = .ok (.aaload, 1) := by decide +kernel
theorem dX8_compare_21 : decode cX8_compare 21 = .ok (.getfield 117, 3) := by decide +kernel
theorem dX8_compare_24 : decode cX8_compare 24 = .ok (.ifCond .ne 13, 3) := by decide +kernel
theorem dX8_compare_27 : decode cX8_compare 27 = .ok (.new 52, 3) := by decide +kernel
theorem dX8_compare_30 : decode cX8_compare 30 = .ok (.dup, 1) := by decide +kernel
theorem dX8_compare_31 : decode cX8_compare 31 = .ok (.ldc 121, 2) := by decide +kernel
theorem dX8_compare_33 : decode cX8_compare 33 = .ok (.invokespecial 56, 3) := by decide +kernel
theorem dX8_compare_36 : decode cX8_compare 36 = .ok (.athrow, 1) := by decide +kernel
theorem dX8_compare_37 : decode cX8_compare 37 = .ok (.aload_n 0, 1) := by decide +kernel
theorem dX8_compare_38 : decode cX8_compare 38 = .ok (.getfield 23, 3) := by decide +kernel
theorem dX8_compare_41 : decode cX8_compare 41 = .ok (.iload_n 1, 1) := by decide +kernel
theorem dX8_compare_42 : decode cX8_compare 42 = .ok (.aaload, 1) := by decide +kernel
theorem dX8_compare_43 : decode cX8_compare 43 = .ok (.aload_n 0, 1) := by decide +kernel
theorem dX8_compare_44 : decode cX8_compare 44 = .ok (.getfield 17, 3) := by decide +kernel
theorem dX8_compare_47 : decode cX8_compare 47 = .ok (.iload_n 2, 1) := by decide +kernel
theorem dX8_compare_48 : decode cX8_compare 48 = .ok (.aaload, 1) := by decide +kernel
theorem dX8_compare_49 : decode cX8_compare 49 = .ok (.aload_n 0, 1) := by decide +kernel
theorem dX8_compare_50 : decode cX8_compare 50 = .ok (.getfield 11, 3) := by decide +kernel
theorem dX8_compare_53 : decode cX8_compare 53 = .ok (.iload_n 3, 1) := by decide +kernel
theorem dX8_compare_54 : decode cX8_compare 54 = .ok (.aaload, 1) := by decide +kernel
theorem dX8_compare_55 : decode cX8_compare 55 = .ok (.invokevirtual 123, 3) := by decide +kernel
theorem dX8_compare_58 : decode cX8_compare 58 = .ok (.aload_n 0, 1) := by decide +kernel
theorem dX8_compare_59 : decode cX8_compare 59 = .ok (.getfield 23, 3) := by decide +kernel
theorem dX8_compare_62 : decode cX8_compare 62 = .ok (.iload_n 1, 1) := by decide +kernel
theorem dX8_compare_63 : decode cX8_compare 63 = .ok (.aaload, 1) := by decide +kernel
theorem dX8_compare_64 : decode cX8_compare 64 = .ok (.getfield 126, 3) := by decide +kernel
theorem dX8_compare_67 : decode cX8_compare 67 = .ok (.ireturn, 1) := by decide +kernel
theorem dX8_instructions_0 : decode cX8_instructions 0 = .ok (.iload_n 1, 1) := by decide +kernel
theorem dX8_instructions_1 : decode cX8_instructions 1 = .ok (.iconst 4, 1) := by decide +kernel
theorem dX8_instructions_2 : decode cX8_instructions 2 = .ok (.invokestatic 75, 3) := by decide +kernel
theorem dX8_instructions_5 : decode cX8_instructions 5 = .ok (.aload_n 0, 1) := by decide +kernel
theorem dX8_instructions_6 : decode cX8_instructions 6 = .ok (.getfield 23, 3) := by decide +kernel
theorem dX8_instructions_9 : decode cX8_instructions 9 = .ok (.iload_n 1, 1) := by decide +kernel
theorem dX8_instructions_10 : decode cX8_instructions 10 = .ok (.aaload, 1) := by decide +kernel
theorem dX8_instructions_11 : decode cX8_instructions 11 = .ok (.getfield 126, 3) := by decide +kernel
theorem dX8_instructions_14 : decode cX8_instructions 14 = .ok (.ireturn, 1) := by decide +kernel
theorem dX8_isCopy_0 : decode cX8_isCopy 0 = .ok (.aload_n 0, 1) := by decide +kernel
theorem dX8_isCopy_1 : decode cX8_isCopy 1 = .ok (.iload_n 1, 1) := by decide +kernel
theorem dX8_isCopy_2 : decode cX8_isCopy 2 = .ok (.iload_n 2, 1) := by decide +kernel
theorem dX8_isCopy_3 : decode cX8_isCopy 3 = .ok (.invokevirtual 127, 3) := by decide +kernel
theorem dX8_isCopy_6 : decode cX8_isCopy 6 = .ok (.aload_n 0, 1) := by decide +kernel
theorem dX8_isCopy_7 : decode cX8_isCopy 7 = .ok (.getfield 23, 3) := by decide +kernel
theorem dX8_isCopy_10 : decode cX8_isCopy 10 = .ok (.iload_n 1, 1) := by decide +kernel
theorem dX8_isCopy_11 : decode cX8_isCopy 11 = .ok (.aaload, 1) := by decide +kernel
theorem dX8_isCopy_12 : decode cX8_isCopy 12 = .ok (.getfield 130, 3) := by decide +kernel
theorem dX8_isCopy_15 : decode cX8_isCopy 15 = .ok (.iload_n 2, 1) := by decide +kernel
theorem dX8_isCopy_16 : decode cX8_isCopy 16 = .ok (.baload, 1) := by decide +kernel
theorem dX8_isCopy_17 : decode cX8_isCopy 17 = .ok (.ireturn, 1) := by decide +kernel
theorem dX8_startOf_0 : decode cX8_startOf 0 = .ok (.aload_n 0, 1) := by decide +kernel
theorem dX8_startOf_1 : decode cX8_startOf 1 = .ok (.iload_n 1, 1) := by decide +kernel
theorem dX8_startOf_2 : decode cX8_startOf 2 = .ok (.iload_n 2, 1) := by decide +kernel
theorem dX8_startOf_3 : decode cX8_startOf 3 = .ok (.invokevirtual 127, 3) := by decide +kernel
theorem dX8_startOf_6 : decode cX8_startOf 6 = .ok (.aload_n 0, 1) := by decide +kernel
theorem dX8_startOf_7 : decode cX8_startOf 7 = .ok (.getfield 23, 3) := by decide +kernel
theorem dX8_startOf_10 : decode cX8_startOf 10 = .ok (.iload_n 1, 1) := by decide +kernel
theorem dX8_startOf_11 : decode cX8_startOf 11 = .ok (.aaload, 1) := by decide +kernel
theorem dX8_startOf_12 : decode cX8_startOf 12 = .ok (.getfield 134, 3) := by decide +kernel
theorem dX8_startOf_15 : decode cX8_startOf 15 = .ok (.iload_n 2, 1) := by decide +kernel
theorem dX8_startOf_16 : decode cX8_startOf 16 = .ok (.iaload, 1) := by decide +kernel
theorem dX8_startOf_17 : decode cX8_startOf 17 = .ok (.ireturn, 1) := by decide +kernel
theorem dX8_bytesOf_0 : decode cX8_bytesOf 0 = .ok (.aload_n 0, 1) := by decide +kernel
theorem dX8_bytesOf_1 : decode cX8_bytesOf 1 = .ok (.iload_n 1, 1) := by decide +kernel
theorem dX8_bytesOf_2 : decode cX8_bytesOf 2 = .ok (.iload_n 2, 1) := by decide +kernel
theorem dX8_bytesOf_3 : decode cX8_bytesOf 3 = .ok (.invokevirtual 127, 3) := by decide +kernel
theorem dX8_bytesOf_6 : decode cX8_bytesOf 6 = .ok (.aload_n 0, 1) := by decide +kernel
theorem dX8_bytesOf_7 : decode cX8_bytesOf 7 = .ok (.getfield 23, 3) := by decide +kernel
theorem dX8_bytesOf_10 : decode cX8_bytesOf 10 = .ok (.iload_n 1, 1) := by decide +kernel
theorem dX8_bytesOf_11 : decode cX8_bytesOf 11 = .ok (.aaload, 1) := by decide +kernel
theorem dX8_bytesOf_12 : decode cX8_bytesOf 12 = .ok (.getfield 137, 3) := by decide +kernel
theorem dX8_bytesOf_15 : decode cX8_bytesOf 15 = .ok (.iload_n 2, 1) := by decide +kernel
theorem dX8_bytesOf_16 : decode cX8_bytesOf 16 = .ok (.iaload, 1) := by decide +kernel
theorem dX8_bytesOf_17 : decode cX8_bytesOf 17 = .ok (.ireturn, 1) := by decide +kernel
theorem dX8_cost_0 : decode cX8_cost 0 = .ok (.iload_n 1, 1) := by decide +kernel
theorem dX8_cost_1 : decode cX8_cost 1 = .ok (.iconst 4, 1) := by decide +kernel
theorem dX8_cost_2 : decode cX8_cost 2 = .ok (.invokestatic 75, 3) := by decide +kernel
theorem dX8_cost_5 : decode cX8_cost 5 = .ok (.aload_n 0, 1) := by decide +kernel
theorem dX8_cost_6 : decode cX8_cost 6 = .ok (.getfield 23, 3) := by decide +kernel
theorem dX8_cost_9 : decode cX8_cost 9 = .ok (.iload_n 1, 1) := by decide +kernel
theorem dX8_cost_10 : decode cX8_cost 10 = .ok (.aaload, 1) := by decide +kernel
theorem dX8_cost_11 : decode cX8_cost 11 = .ok (.invokevirtual 140, 3) := by decide +kernel
theorem dX8_cost_14 : decode cX8_cost 14 = .ok (.ireturn, 1) := by decide +kernel
theorem dX8_alarms_0 : decode cX8_alarms 0 = .ok (.iload_n 1, 1) := by decide +kernel
theorem dX8_alarms_1 : decode cX8_alarms 1 = .ok (.iconst 4, 1) := by decide +kernel
theorem dX8_alarms_2 : decode cX8_alarms 2 = .ok (.invokestatic 75, 3) := by decide +kernel
theorem dX8_alarms_5 : decode cX8_alarms 5 = .ok (.aload_n 0, 1) := by decide +kernel
theorem dX8_alarms_6 : decode cX8_alarms 6 = .ok (.getfield 23, 3) := by decide +kernel
theorem dX8_alarms_9 : decode cX8_alarms 9 = .ok (.iload_n 1, 1) := by decide +kernel
theorem dX8_alarms_10 : decode cX8_alarms 10 = .ok (.aaload, 1) := by decide +kernel
theorem dX8_alarms_11 : decode cX8_alarms 11 = .ok (.getfield 144, 3) := by decide +kernel
theorem dX8_alarms_14 : decode cX8_alarms 14 = .ok (.ireturn, 1) := by decide +kernel
theorem dX8_apply_0 : decode cX8_apply 0 = .ok (.iload_n 1, 1) := by decide +kernel
theorem dX8_apply_1 : decode cX8_apply 1 = .ok (.iconst 4, 1) := by decide +kernel
theorem dX8_apply_2 : decode cX8_apply 2 = .ok (.invokestatic 75, 3) := by decide +kernel
theorem dX8_apply_5 : decode cX8_apply 5 = .ok (.aload_n 0, 1) := by decide +kernel
theorem dX8_apply_6 : decode cX8_apply 6 = .ok (.iload_n 2, 1) := by decide +kernel
theorem dX8_apply_7 : decode cX8_apply 7 = .ok (.invokevirtual 59, 3) := by decide +kernel
theorem dX8_apply_10 : decode cX8_apply 10 = .ok (.aload_n 0, 1) := by decide +kernel
theorem dX8_apply_11 : decode cX8_apply 11 = .ok (.iload_n 3, 1) := by decide +kernel
theorem dX8_apply_12 : decode cX8_apply 12 = .ok (.invokevirtual 59, 3) := by decide +kernel
theorem dX8_apply_15 : decode cX8_apply 15 = .ok (.aload_n 0, 1) := by decide +kernel
theorem dX8_apply_16 : decode cX8_apply 16 = .ok (.getfield 23, 3) := by decide +kernel
theorem dX8_apply_19 : decode cX8_apply 19 = .ok (.iload_n 1, 1) := by decide +kernel
theorem dX8_apply_20 : decode cX8_apply 20 = .ok (.aaload, 1) := by decide +kernel
theorem dX8_apply_21 : decode cX8_apply 21 = .ok (.getfield 147, 3) := by decide +kernel
theorem dX8_apply_24 : decode cX8_apply 24 = .ok (.ifCond .eq 21, 3) := by decide +kernel
theorem dX8_apply_27 : decode cX8_apply 27 = .ok (.aload_n 0, 1) := by decide +kernel
theorem dX8_apply_28 : decode cX8_apply 28 = .ok (.getfield 23, 3) := by decide +kernel
theorem dX8_apply_31 : decode cX8_apply 31 = .ok (.iload_n 1, 1) := by decide +kernel
theorem dX8_apply_32 : decode cX8_apply 32 = .ok (.aaload, 1) := by decide +kernel
theorem dX8_apply_33 : decode cX8_apply 33 = .ok (.aload_n 0, 1) := by decide +kernel
theorem dX8_apply_34 : decode cX8_apply 34 = .ok (.getfield 11, 3) := by decide +kernel
theorem dX8_apply_37 : decode cX8_apply 37 = .ok (.iload_n 2, 1) := by decide +kernel
theorem dX8_apply_38 : decode cX8_apply 38 = .ok (.aaload, 1) := by decide +kernel
theorem dX8_apply_39 : decode cX8_apply 39 = .ok (.invokevirtual 148, 3) := by decide +kernel
theorem dX8_apply_42 : decode cX8_apply 42 = .ok (.ifCond .ne 13, 3) := by decide +kernel
theorem dX8_apply_45 : decode cX8_apply 45 = .ok (.new 52, 3) := by decide +kernel
theorem dX8_apply_48 : decode cX8_apply 48 = .ok (.dup, 1) := by decide +kernel
theorem dX8_apply_49 : decode cX8_apply 49 = .ok (.ldc 151, 2) := by decide +kernel
theorem dX8_apply_51 : decode cX8_apply 51 = .ok (.invokespecial 56, 3) := by decide +kernel
theorem dX8_apply_54 : decode cX8_apply 54 = .ok (.athrow, 1) := by decide +kernel
theorem dX8_apply_55 : decode cX8_apply 55 = .ok (.aload_n 0, 1) := by decide +kernel
theorem dX8_apply_56 : decode cX8_apply 56 = .ok (.getfield 23, 3) := by decide +kernel
theorem dX8_apply_59 : decode cX8_apply 59 = .ok (.iload_n 1, 1) := by decide +kernel
theorem dX8_apply_60 : decode cX8_apply 60 = .ok (.aaload, 1) := by decide +kernel
theorem dX8_apply_61 : decode cX8_apply 61 = .ok (.aload_n 0, 1) := by decide +kernel
theorem dX8_apply_62 : decode cX8_apply 62 = .ok (.getfield 11, 3) := by decide +kernel
theorem dX8_apply_65 : decode cX8_apply 65 = .ok (.iload_n 2, 1) := by decide +kernel
theorem dX8_apply_66 : decode cX8_apply 66 = .ok (.aaload, 1) := by decide +kernel
theorem dX8_apply_67 : decode cX8_apply 67 = .ok (.aload_n 0, 1) := by decide +kernel
theorem dX8_apply_68 : decode cX8_apply 68 = .ok (.getfield 28, 3) := by decide +kernel
theorem dX8_apply_71 : decode cX8_apply 71 = .ok (.invokevirtual 153, 3) := by decide +kernel
theorem dX8_apply_74 : decode cX8_apply 74 = .ok (.aload_n 0, 1) := by decide +kernel
theorem dX8_apply_75 : decode cX8_apply 75 = .ok (.getfield 11, 3) := by decide +kernel
theorem dX8_apply_78 : decode cX8_apply 78 = .ok (.iload_n 3, 1) := by decide +kernel
theorem dX8_apply_79 : decode cX8_apply 79 = .ok (.aaload, 1) := by decide +kernel
theorem dX8_apply_80 : decode cX8_apply 80 = .ok (.aload_n 0, 1) := by decide +kernel
theorem dX8_apply_81 : decode cX8_apply 81 = .ok (.getfield 28, 3) := by decide +kernel
theorem dX8_apply_84 : decode cX8_apply 84 = .ok (.invokevirtual 87, 3) := by decide +kernel
theorem dX8_apply_87 : decode cX8_apply 87 = .ok (.aload_n 0, 1) := by decide +kernel
theorem dX8_apply_88 : decode cX8_apply 88 = .ok (.getfield 28, 3) := by decide +kernel
theorem dX8_apply_91 : decode cX8_apply 91 = .ok (.getfield 67, 3) := by decide +kernel
theorem dX8_apply_94 : decode cX8_apply 94 = .ok (.ireturn, 1) := by decide +kernel
theorem dX8_keep_0 : decode cX8_keep 0 = .ok (.aload_n 0, 1) := by decide +kernel
theorem dX8_keep_1 : decode cX8_keep 1 = .ok (.iload_n 1, 1) := by decide +kernel
theorem dX8_keep_2 : decode cX8_keep 2 = .ok (.invokevirtual 59, 3) := by decide +kernel
theorem dX8_keep_5 : decode cX8_keep 5 = .ok (.aload_n 0, 1) := by decide +kernel
theorem dX8_keep_6 : decode cX8_keep 6 = .ok (.invokevirtual 157, 3) := by decide +kernel
theorem dX8_keep_9 : decode cX8_keep 9 = .ok (.aload_n 0, 1) := by decide +kernel
theorem dX8_keep_10 : decode cX8_keep 10 = .ok (.getfield 35, 3) := by decide +kernel
theorem dX8_keep_13 : decode cX8_keep 13 = .ok (.aload_n 0, 1) := by decide +kernel
theorem dX8_keep_14 : decode cX8_keep 14 = .ok (.getfield 11, 3) := by decide +kernel
theorem dX8_keep_17 : decode cX8_keep 17 = .ok (.iload_n 1, 1) := by decide +kernel
theorem dX8_keep_18 : decode cX8_keep 18 = .ok (.aaload, 1) := by decide +kernel
theorem dX8_keep_19 : decode cX8_keep 19 = .ok (.invokevirtual 160, 3) := by decide +kernel
theorem dX8_keep_22 : decode cX8_keep 22 = .ok (.ireturn, 1) := by decide +kernel
theorem dX8_keepDelta_0 : decode cX8_keepDelta 0 = .ok (.aload_n 0, 1) := by decide +kernel
theorem dX8_keepDelta_1 : decode cX8_keepDelta 1 = .ok (.iload_n 1, 1) := by decide +kernel
theorem dX8_keepDelta_2 : decode cX8_keepDelta 2 = .ok (.invokevirtual 59, 3) := by decide +kernel
theorem dX8_keepDelta_5 : decode cX8_keepDelta 5 = .ok (.iload_n 2, 1) := by decide +kernel
theorem dX8_keepDelta_6 : decode cX8_keepDelta 6 = .ok (.aload_n 0, 1) := by decide +kernel
theorem dX8_keepDelta_7 : decode cX8_keepDelta 7 = .ok (.getfield 35, 3) := by decide +kernel
theorem dX8_keepDelta_10 : decode cX8_keepDelta 10 = .ok (.getfield 164, 3) := by decide +kernel
theorem dX8_keepDelta_13 : decode cX8_keepDelta 13 = .ok (.invokestatic 75, 3) := by decide +kernel
theorem dX8_keepDelta_16 : decode cX8_keepDelta 16 = .ok (.iload_n 3, 1) := by decide +kernel
theorem dX8_keepDelta_17 : decode cX8_keepDelta 17 = .ok (.iconst 1, 1) := by decide +kernel
theorem dX8_keepDelta_18 : decode cX8_keepDelta 18 = .ok (.bipush 7, 2) := by decide +kernel
theorem dX8_keepDelta_20 : decode cX8_keepDelta 20 = .ok (.invokestatic 63, 3) := by decide +kernel
theorem dX8_keepDelta_23 : decode cX8_keepDelta 23 = .ok (.aload_n 0, 1) := by decide +kernel
theorem dX8_keepDelta_24 : decode cX8_keepDelta 24 = .ok (.invokevirtual 157, 3) := by decide +kernel
theorem dX8_keepDelta_27 : decode cX8_keepDelta 27 = .ok (.aload_n 0, 1) := by decide +kernel
theorem dX8_keepDelta_28 : decode cX8_keepDelta 28 = .ok (.iload_n 2, 1) := by decide +kernel
theorem dX8_keepDelta_29 : decode cX8_keepDelta 29 = .ok (.invokevirtual 165, 3) := by decide +kernel
theorem dX8_keepDelta_32 : decode cX8_keepDelta 32 = .ok (.aload_n 0, 1) := by decide +kernel
theorem dX8_keepDelta_33 : decode cX8_keepDelta 33 = .ok (.getfield 35, 3) := by decide +kernel
theorem dX8_keepDelta_36 : decode cX8_keepDelta 36 = .ok (.aload_n 0, 1) := by decide +kernel
theorem dX8_keepDelta_37 : decode cX8_keepDelta 37 = .ok (.getfield 11, 3) := by decide +kernel
theorem dX8_keepDelta_40 : decode cX8_keepDelta 40 = .ok (.iload_n 1, 1) := by decide +kernel
theorem dX8_keepDelta_41 : decode cX8_keepDelta 41 = .ok (.aaload, 1) := by decide +kernel
theorem dX8_keepDelta_42 : decode cX8_keepDelta 42 = .ok (.iload_n 2, 1) := by decide +kernel
theorem dX8_keepDelta_43 : decode cX8_keepDelta 43 = .ok (.iload_n 3, 1) := by decide +kernel
theorem dX8_keepDelta_44 : decode cX8_keepDelta 44 = .ok (.invokevirtual 168, 3) := by decide +kernel
theorem dX8_keepDelta_47 : decode cX8_keepDelta 47 = .ok (.ireturn, 1) := by decide +kernel
theorem dX8_lose_0 : decode cX8_lose 0 = .ok (.iload_n 1, 1) := by decide +kernel
theorem dX8_lose_1 : decode cX8_lose 1 = .ok (.aload_n 0, 1) := by decide +kernel
theorem dX8_lose_2 : decode cX8_lose 2 = .ok (.getfield 35, 3) := by decide +kernel
theorem dX8_lose_5 : decode cX8_lose 5 = .ok (.getfield 164, 3) := by decide +kernel
theorem dX8_lose_8 : decode cX8_lose 8 = .ok (.invokestatic 75, 3) := by decide +kernel
theorem dX8_lose_11 : decode cX8_lose 11 = .ok (.aload_n 0, 1) := by decide +kernel
theorem dX8_lose_12 : decode cX8_lose 12 = .ok (.getfield 35, 3) := by decide +kernel
theorem dX8_lose_15 : decode cX8_lose 15 = .ok (.getfield 172, 3) := by decide +kernel
theorem dX8_lose_18 : decode cX8_lose 18 = .ok (.iload_n 1, 1) := by decide +kernel
theorem dX8_lose_19 : decode cX8_lose 19 = .ok (.aaload, 1) := by decide +kernel
theorem dX8_lose_20 : decode cX8_lose 20 = .ok (.invokevirtual 176, 3) := by decide +kernel
theorem dX8_lose_23 : decode cX8_lose 23 = .ok (.istore_n 2, 1) := by decide +kernel
theorem dX8_lose_24 : decode cX8_lose 24 = .ok (.aload_n 0, 1) := by decide +kernel
theorem dX8_lose_25 : decode cX8_lose 25 = .ok (.getfield 35, 3) := by decide +kernel
theorem dX8_lose_28 : decode cX8_lose 28 = .ok (.getfield 172, 3) := by decide +kernel
theorem dX8_lose_31 : decode cX8_lose 31 = .ok (.iload_n 1, 1) := by decide +kernel
theorem dX8_lose_32 : decode cX8_lose 32 = .ok (.aaload, 1) := by decide +kernel
theorem dX8_lose_33 : decode cX8_lose 33 = .ok (.iconst 2, 1) := by decide +kernel
theorem dX8_lose_34 : decode cX8_lose 34 = .ok (.putfield 181, 3) := by decide +kernel
theorem dX8_lose_37 : decode cX8_lose 37 = .ok (.iload_n 2, 1) := by decide +kernel
theorem dX8_lose_38 : decode cX8_lose 38 = .ok (.ireturn, 1) := by decide +kernel
theorem dX8_replace_0 : decode cX8_replace 0 = .ok (.iload_n 1, 1) := by decide +kernel
theorem dX8_replace_1 : decode cX8_replace 1 = .ok (.aload_n 0, 1) := by decide +kernel
theorem dX8_replace_2 : decode cX8_replace 2 = .ok (.getfield 35, 3) := by decide +kernel
theorem dX8_replace_5 : decode cX8_replace 5 = .ok (.getfield 164, 3) := by decide +kernel
theorem dX8_replace_8 : decode cX8_replace 8 = .ok (.invokestatic 75, 3) := by decide +kernel
theorem dX8_replace_11 : decode cX8_replace 11 = .ok (.aload_n 0, 1) := by decide +kernel
theorem dX8_replace_12 : decode cX8_replace 12 = .ok (.iload_n 2, 1) := by decide +kernel
theorem dX8_replace_13 : decode cX8_replace 13 = .ok (.invokevirtual 59, 3) := by decide +kernel
theorem dX8_replace_16 : decode cX8_replace 16 = .ok (.aload_n 0, 1) := by decide +kernel
theorem dX8_replace_17 : decode cX8_replace 17 = .ok (.getfield 35, 3) := by decide +kernel
theorem dX8_replace_20 : decode cX8_replace 20 = .ok (.getfield 172, 3) := by decide +kernel
theorem dX8_replace_23 : decode cX8_replace 23 = .ok (.iload_n 1, 1) := by decide +kernel
theorem dX8_replace_24 : decode cX8_replace 24 = .ok (.aaload, 1) := by decide +kernel
theorem dX8_replace_25 : decode cX8_replace 25 = .ok (.aload_n 0, 1) := by decide +kernel
theorem dX8_replace_26 : decode cX8_replace 26 = .ok (.getfield 11, 3) := by decide +kernel
theorem dX8_replace_29 : decode cX8_replace 29 = .ok (.iload_n 2, 1) := by decide +kernel
theorem dX8_replace_30 : decode cX8_replace 30 = .ok (.aaload, 1) := by decide +kernel
theorem dX8_replace_31 : decode cX8_replace 31 = .ok (.invokevirtual 184, 3) := by decide +kernel
theorem dX8_replace_34 : decode cX8_replace 34 = .ok (.return_, 1) := by decide +kernel
theorem dX8_rebuild_0 : decode cX8_rebuild 0 = .ok (.iload_n 1, 1) := by decide +kernel
theorem dX8_rebuild_1 : decode cX8_rebuild 1 = .ok (.aload_n 0, 1) := by decide +kernel
theorem dX8_rebuild_2 : decode cX8_rebuild 2 = .ok (.getfield 35, 3) := by decide +kernel
theorem dX8_rebuild_5 : decode cX8_rebuild 5 = .ok (.getfield 164, 3) := by decide +kernel
theorem dX8_rebuild_8 : decode cX8_rebuild 8 = .ok (.invokestatic 75, 3) := by decide +kernel
theorem dX8_rebuild_11 : decode cX8_rebuild 11 = .ok (.aload_n 0, 1) := by decide +kernel
theorem dX8_rebuild_12 : decode cX8_rebuild 12 = .ok (.iload_n 2, 1) := by decide +kernel
theorem dX8_rebuild_13 : decode cX8_rebuild 13 = .ok (.invokevirtual 59, 3) := by decide +kernel
theorem dX8_rebuild_16 : decode cX8_rebuild 16 = .ok (.aload_n 0, 1) := by decide +kernel
theorem dX8_rebuild_17 : decode cX8_rebuild 17 = .ok (.iload_n 1, 1) := by decide +kernel
theorem dX8_rebuild_18 : decode cX8_rebuild 18 = .ok (.invokevirtual 165, 3) := by decide +kernel
theorem dX8_rebuild_21 : decode cX8_rebuild 21 = .ok (.aload_n 0, 1) := by decide +kernel
theorem dX8_rebuild_22 : decode cX8_rebuild 22 = .ok (.getfield 11, 3) := by decide +kernel
theorem dX8_rebuild_25 : decode cX8_rebuild 25 = .ok (.iload_n 2, 1) := by decide +kernel
theorem dX8_rebuild_26 : decode cX8_rebuild 26 = .ok (.aaload, 1) := by decide +kernel
theorem dX8_rebuild_27 : decode cX8_rebuild 27 = .ok (.aload_n 0, 1) := by decide +kernel
theorem dX8_rebuild_28 : decode cX8_rebuild 28 = .ok (.getfield 35, 3) := by decide +kernel
theorem dX8_rebuild_31 : decode cX8_rebuild 31 = .ok (.getfield 187, 3) := by decide +kernel
theorem dX8_rebuild_34 : decode cX8_rebuild 34 = .ok (.invokevirtual 87, 3) := by decide +kernel
theorem dX8_rebuild_37 : decode cX8_rebuild 37 = .ok (.aload_n 0, 1) := by decide +kernel
theorem dX8_rebuild_38 : decode cX8_rebuild 38 = .ok (.getfield 11, 3) := by decide +kernel
theorem dX8_rebuild_41 : decode cX8_rebuild 41 = .ok (.iload_n 2, 1) := by decide +kernel
theorem dX8_rebuild_42 : decode cX8_rebuild 42 = .ok (.aaload, 1) := by decide +kernel
theorem dX8_rebuild_43 : decode cX8_rebuild 43 = .ok (.getfield 67, 3) := by decide +kernel
theorem dX8_rebuild_46 : decode cX8_rebuild 46 = .ok (.ireturn, 1) := by decide +kernel
theorem dX8_versions_0 : decode cX8_versions 0 = .ok (.aload_n 0, 1) := by decide +kernel
theorem dX8_versions_1 : decode cX8_versions 1 = .ok (.getfield 35, 3) := by decide +kernel
theorem dX8_versions_4 : decode cX8_versions 4 = .ok (.getfield 164, 3) := by decide +kernel
theorem dX8_versions_7 : decode cX8_versions 7 = .ok (.ireturn, 1) := by decide +kernel
theorem dX8_brokenAt_0 : decode cX8_brokenAt 0 = .ok (.iload_n 1, 1) := by decide +kernel
theorem dX8_brokenAt_1 : decode cX8_brokenAt 1 = .ok (.aload_n 0, 1) := by decide +kernel
theorem dX8_brokenAt_2 : decode cX8_brokenAt 2 = .ok (.getfield 35, 3) := by decide +kernel
theorem dX8_brokenAt_5 : decode cX8_brokenAt 5 = .ok (.getfield 164, 3) := by decide +kernel
theorem dX8_brokenAt_8 : decode cX8_brokenAt 8 = .ok (.invokestatic 75, 3) := by decide +kernel
theorem dX8_brokenAt_11 : decode cX8_brokenAt 11 = .ok (.aload_n 0, 1) := by decide +kernel
theorem dX8_brokenAt_12 : decode cX8_brokenAt 12 = .ok (.getfield 35, 3) := by decide +kernel
theorem dX8_brokenAt_15 : decode cX8_brokenAt 15 = .ok (.iload_n 1, 1) := by decide +kernel
theorem dX8_brokenAt_16 : decode cX8_brokenAt 16 = .ok (.invokevirtual 190, 3) := by decide +kernel
theorem dX8_brokenAt_19 : decode cX8_brokenAt 19 = .ok (.aload_n 0, 1) := by decide +kernel
theorem dX8_brokenAt_20 : decode cX8_brokenAt 20 = .ok (.getfield 35, 3) := by decide +kernel
theorem dX8_brokenAt_23 : decode cX8_brokenAt 23 = .ok (.getfield 193, 3) := by decide +kernel
theorem dX8_brokenAt_26 : decode cX8_brokenAt 26 = .ok (.ireturn, 1) := by decide +kernel
theorem dX8_brokenAfter_0 : decode cX8_brokenAfter 0 = .ok (.iload_n 1, 1) := by decide +kernel
theorem dX8_brokenAfter_1 : decode cX8_brokenAfter 1 = .ok (.aload_n 0, 1) := by decide +kernel
theorem dX8_brokenAfter_2 : decode cX8_brokenAfter 2 = .ok (.getfield 35, 3) := by decide +kernel
theorem dX8_brokenAfter_5 : decode cX8_brokenAfter 5 = .ok (.getfield 164, 3) := by decide +kernel
theorem dX8_brokenAfter_8 : decode cX8_brokenAfter 8 = .ok (.invokestatic 75, 3) := by decide +kernel
theorem dX8_brokenAfter_11 : decode cX8_brokenAfter 11 = .ok (.aload_n 0, 1) := by decide +kernel
theorem dX8_brokenAfter_12 : decode cX8_brokenAfter 12 = .ok (.getfield 35, 3) := by decide +kernel
theorem dX8_brokenAfter_15 : decode cX8_brokenAfter 15 = .ok (.iload_n 1, 1) := by decide +kernel
theorem dX8_brokenAfter_16 : decode cX8_brokenAfter 16 = .ok (.invokevirtual 190, 3) := by decide +kernel
theorem dX8_brokenAfter_19 : decode cX8_brokenAfter 19 = .ok (.aload_n 0, 1) := by decide +kernel
theorem dX8_brokenAfter_20 : decode cX8_brokenAfter 20 = .ok (.getfield 35, 3) := by decide +kernel
theorem dX8_brokenAfter_23 : decode cX8_brokenAfter 23 = .ok (.getfield 196, 3) := by decide +kernel
theorem dX8_brokenAfter_26 : decode cX8_brokenAfter 26 = .ok (.ireturn, 1) := by decide +kernel
theorem dX8_reason_0 : decode cX8_reason 0 = .ok (.iload_n 1, 1) := by decide +kernel
theorem dX8_reason_1 : decode cX8_reason 1 = .ok (.aload_n 0, 1) := by decide +kernel
theorem dX8_reason_2 : decode cX8_reason 2 = .ok (.getfield 35, 3) := by decide +kernel
theorem dX8_reason_5 : decode cX8_reason 5 = .ok (.getfield 164, 3) := by decide +kernel
theorem dX8_reason_8 : decode cX8_reason 8 = .ok (.invokestatic 75, 3) := by decide +kernel
theorem dX8_reason_11 : decode cX8_reason 11 = .ok (.aload_n 0, 1) := by decide +kernel
theorem dX8_reason_12 : decode cX8_reason 12 = .ok (.getfield 35, 3) := by decide +kernel
theorem dX8_reason_15 : decode cX8_reason 15 = .ok (.iload_n 1, 1) := by decide +kernel
theorem dX8_reason_16 : decode cX8_reason 16 = .ok (.invokevirtual 190, 3) := by decide +kernel
theorem dX8_reason_19 : decode cX8_reason 19 = .ok (.aload_n 0, 1) := by decide +kernel
theorem dX8_reason_20 : decode cX8_reason 20 = .ok (.getfield 35, 3) := by decide +kernel
theorem dX8_reason_23 : decode cX8_reason 23 = .ok (.getfield 199, 3) := by decide +kernel
theorem dX8_reason_26 : decode cX8_reason 26 = .ok (.ireturn, 1) := by decide +kernel
theorem dX8_heldBy_0 : decode cX8_heldBy 0 = .ok (.iload_n 1, 1) := by decide +kernel
theorem dX8_heldBy_1 : decode cX8_heldBy 1 = .ok (.aload_n 0, 1) := by decide +kernel
theorem dX8_heldBy_2 : decode cX8_heldBy 2 = .ok (.getfield 35, 3) := by decide +kernel
theorem dX8_heldBy_5 : decode cX8_heldBy 5 = .ok (.getfield 164, 3) := by decide +kernel
theorem dX8_heldBy_8 : decode cX8_heldBy 8 = .ok (.invokestatic 75, 3) := by decide +kernel
theorem dX8_heldBy_11 : decode cX8_heldBy 11 = .ok (.aload_n 0, 1) := by decide +kernel
theorem dX8_heldBy_12 : decode cX8_heldBy 12 = .ok (.getfield 35, 3) := by decide +kernel
theorem dX8_heldBy_15 : decode cX8_heldBy 15 = .ok (.getfield 172, 3) := by decide +kernel
theorem dX8_heldBy_18 : decode cX8_heldBy 18 = .ok (.iload_n 1, 1) := by decide +kernel
theorem dX8_heldBy_19 : decode cX8_heldBy 19 = .ok (.aaload, 1) := by decide +kernel
theorem dX8_heldBy_20 : decode cX8_heldBy 20 = .ok (.invokevirtual 176, 3) := by decide +kernel
theorem dX8_heldBy_23 : decode cX8_heldBy 23 = .ok (.ireturn, 1) := by decide +kernel
theorem dX8_cuts_0 : decode cX8_cuts 0 = .ok (.iload_n 1, 1) := by decide +kernel
theorem dX8_cuts_1 : decode cX8_cuts 1 = .ok (.iconst 1, 1) := by decide +kernel
theorem dX8_cuts_2 : decode cX8_cuts 2 = .ok (.bipush 16, 2) := by decide +kernel
theorem dX8_cuts_4 : decode cX8_cuts 4 = .ok (.invokestatic 63, 3) := by decide +kernel
theorem dX8_cuts_7 : decode cX8_cuts 7 = .ok (.iload_n 2, 1) := by decide +kernel
theorem dX8_cuts_8 : decode cX8_cuts 8 = .ok (.iload_n 1, 1) := by decide +kernel
theorem dX8_cuts_9 : decode cX8_cuts 9 = .ok (.bipush 40, 2) := by decide +kernel
theorem dX8_cuts_11 : decode cX8_cuts 11 = .ok (.invokestatic 63, 3) := by decide +kernel
theorem dX8_cuts_14 : decode cX8_cuts 14 = .ok (.iload_n 3, 1) := by decide +kernel
theorem dX8_cuts_15 : decode cX8_cuts 15 = .ok (.iconst 1, 1) := by decide +kernel
theorem dX8_cuts_16 : decode cX8_cuts 16 = .ok (.bipush 64, 2) := by decide +kernel
theorem dX8_cuts_18 : decode cX8_cuts 18 = .ok (.invokestatic 63, 3) := by decide +kernel
theorem dX8_cuts_21 : decode cX8_cuts 21 = .ok (.aload_n 0, 1) := by decide +kernel
theorem dX8_cuts_22 : decode cX8_cuts 22 = .ok (.getfield 42, 3) := by decide +kernel
theorem dX8_cuts_25 : decode cX8_cuts 25 = .ok (.iload_n 1, 1) := by decide +kernel
theorem dX8_cuts_26 : decode cX8_cuts 26 = .ok (.putfield 202, 3) := by decide +kernel
theorem dX8_cuts_29 : decode cX8_cuts 29 = .ok (.aload_n 0, 1) := by decide +kernel
theorem dX8_cuts_30 : decode cX8_cuts 30 = .ok (.getfield 42, 3) := by decide +kernel
theorem dX8_cuts_33 : decode cX8_cuts 33 = .ok (.iload_n 2, 1) := by decide +kernel
theorem dX8_cuts_34 : decode cX8_cuts 34 = .ok (.putfield 205, 3) := by decide +kernel
theorem dX8_cuts_37 : decode cX8_cuts 37 = .ok (.aload_n 0, 1) := by decide +kernel
theorem dX8_cuts_38 : decode cX8_cuts 38 = .ok (.getfield 42, 3) := by decide +kernel
theorem dX8_cuts_41 : decode cX8_cuts 41 = .ok (.iload_n 3, 1) := by decide +kernel
theorem dX8_cuts_42 : decode cX8_cuts 42 = .ok (.putfield 208, 3) := by decide +kernel
theorem dX8_cuts_45 : decode cX8_cuts 45 = .ok (.return_, 1) := by decide +kernel
theorem dX8_store_0 : decode cX8_store 0 = .ok (.aload_n 0, 1) := by decide +kernel
theorem dX8_store_1 : decode cX8_store 1 = .ok (.iload_n 1, 1) := by decide +kernel
theorem dX8_store_2 : decode cX8_store 2 = .ok (.invokevirtual 59, 3) := by decide +kernel
theorem dX8_store_5 : decode cX8_store 5 = .ok (.aload_n 0, 1) := by decide +kernel
theorem dX8_store_6 : decode cX8_store 6 = .ok (.getfield 42, 3) := by decide +kernel
theorem dX8_store_9 : decode cX8_store 9 = .ok (.invokevirtual 211, 3) := by decide +kernel
theorem dX8_store_12 : decode cX8_store 12 = .ok (.istore_n 2, 1) := by decide +kernel
theorem dX8_store_13 : decode cX8_store 13 = .ok (.iload_n 2, 1) := by decide +kernel
theorem dX8_store_14 : decode cX8_store 14 = .ok (.iconst (-1), 1) := by decide +kernel
theorem dX8_store_15 : decode cX8_store 15 = .ok (.if_icmp .ne 13, 3) := by decide +kernel
theorem dX8_store_18 : decode cX8_store 18 = .ok (.new 52, 3) := by decide +kernel
theorem dX8_store_21 : decode cX8_store 21 = .ok (.dup, 1) := by decide +kernel
theorem dX8_store_22 : decode cX8_store 22 = .ok (.ldc 214, 2) := by decide +kernel
theorem dX8_store_24 : decode cX8_store 24 = .ok (.invokespecial 56, 3) := by decide +kernel
theorem dX8_store_27 : decode cX8_store 27 = .ok (.athrow, 1) := by decide +kernel
theorem dX8_store_28 : decode cX8_store 28 = .ok (.aload_n 0, 1) := by decide +kernel
theorem dX8_store_29 : decode cX8_store 29 = .ok (.getfield 42, 3) := by decide +kernel
theorem dX8_store_32 : decode cX8_store 32 = .ok (.iload_n 2, 1) := by decide +kernel
theorem dX8_store_33 : decode cX8_store 33 = .ok (.aload_n 0, 1) := by decide +kernel
theorem dX8_store_34 : decode cX8_store 34 = .ok (.getfield 11, 3) := by decide +kernel
theorem dX8_store_37 : decode cX8_store 37 = .ok (.iload_n 1, 1) := by decide +kernel
theorem dX8_store_38 : decode cX8_store 38 = .ok (.aaload, 1) := by decide +kernel
theorem dX8_store_39 : decode cX8_store 39 = .ok (.invokevirtual 216, 3) := by decide +kernel
theorem dX8_store_42 : decode cX8_store 42 = .ok (.iload_n 2, 1) := by decide +kernel
theorem dX8_store_43 : decode cX8_store 43 = .ok (.ireturn, 1) := by decide +kernel
theorem dX8_release_0 : decode cX8_release 0 = .ok (.aload_n 0, 1) := by decide +kernel
theorem dX8_release_1 : decode cX8_release 1 = .ok (.iload_n 1, 1) := by decide +kernel
theorem dX8_release_2 : decode cX8_release 2 = .ok (.invokevirtual 220, 3) := by decide +kernel
theorem dX8_release_5 : decode cX8_release 5 = .ok (.aload_n 0, 1) := by decide +kernel
theorem dX8_release_6 : decode cX8_release 6 = .ok (.getfield 42, 3) := by decide +kernel
theorem dX8_release_9 : decode cX8_release 9 = .ok (.iload_n 1, 1) := by decide +kernel
theorem dX8_release_10 : decode cX8_release 10 = .ok (.invokevirtual 223, 3) := by decide +kernel
theorem dX8_release_13 : decode cX8_release 13 = .ok (.ireturn, 1) := by decide +kernel
theorem dX8_fetch_0 : decode cX8_fetch 0 = .ok (.aload_n 0, 1) := by decide +kernel
theorem dX8_fetch_1 : decode cX8_fetch 1 = .ok (.iload_n 1, 1) := by decide +kernel
theorem dX8_fetch_2 : decode cX8_fetch 2 = .ok (.invokevirtual 220, 3) := by decide +kernel
theorem dX8_fetch_5 : decode cX8_fetch 5 = .ok (.aload_n 0, 1) := by decide +kernel
theorem dX8_fetch_6 : decode cX8_fetch 6 = .ok (.iload_n 2, 1) := by decide +kernel
theorem dX8_fetch_7 : decode cX8_fetch 7 = .ok (.invokevirtual 59, 3) := by decide +kernel
theorem dX8_fetch_10 : decode cX8_fetch 10 = .ok (.aload_n 0, 1) := by decide +kernel
theorem dX8_fetch_11 : decode cX8_fetch 11 = .ok (.getfield 42, 3) := by decide +kernel
theorem dX8_fetch_14 : decode cX8_fetch 14 = .ok (.getfield 226, 3) := by decide +kernel
theorem dX8_fetch_17 : decode cX8_fetch 17 = .ok (.iload_n 1, 1) := by decide +kernel
theorem dX8_fetch_18 : decode cX8_fetch 18 = .ok (.aaload, 1) := by decide +kernel
theorem dX8_fetch_19 : decode cX8_fetch 19 = .ok (.aload_n 0, 1) := by decide +kernel
theorem dX8_fetch_20 : decode cX8_fetch 20 = .ok (.getfield 11, 3) := by decide +kernel
theorem dX8_fetch_23 : decode cX8_fetch 23 = .ok (.iload_n 2, 1) := by decide +kernel
theorem dX8_fetch_24 : decode cX8_fetch 24 = .ok (.aaload, 1) := by decide +kernel
theorem dX8_fetch_25 : decode cX8_fetch 25 = .ok (.invokevirtual 230, 3) := by decide +kernel
theorem dX8_fetch_28 : decode cX8_fetch 28 = .ok (.aload_n 0, 1) := by decide +kernel
theorem dX8_fetch_29 : decode cX8_fetch 29 = .ok (.getfield 11, 3) := by decide +kernel
theorem dX8_fetch_32 : decode cX8_fetch 32 = .ok (.iload_n 2, 1) := by decide +kernel
theorem dX8_fetch_33 : decode cX8_fetch 33 = .ok (.aaload, 1) := by decide +kernel
theorem dX8_fetch_34 : decode cX8_fetch 34 = .ok (.getfield 67, 3) := by decide +kernel
theorem dX8_fetch_37 : decode cX8_fetch 37 = .ok (.ireturn, 1) := by decide +kernel
theorem dX8_papers_0 : decode cX8_papers 0 = .ok (.aload_n 0, 1) := by decide +kernel
theorem dX8_papers_1 : decode cX8_papers 1 = .ok (.getfield 42, 3) := by decide +kernel
theorem dX8_papers_4 : decode cX8_papers 4 = .ok (.invokevirtual 235, 3) := by decide +kernel
theorem dX8_papers_7 : decode cX8_papers 7 = .ok (.ireturn, 1) := by decide +kernel
theorem dX8_chunks_0 : decode cX8_chunks 0 = .ok (.aload_n 0, 1) := by decide +kernel
theorem dX8_chunks_1 : decode cX8_chunks 1 = .ok (.getfield 42, 3) := by decide +kernel
theorem dX8_chunks_4 : decode cX8_chunks 4 = .ok (.invokevirtual 238, 3) := by decide +kernel
theorem dX8_chunks_7 : decode cX8_chunks 7 = .ok (.ireturn, 1) := by decide +kernel
theorem dX8_heldBytes_0 : decode cX8_heldBytes 0 = .ok (.aload_n 0, 1) := by decide +kernel
theorem dX8_heldBytes_1 : decode cX8_heldBytes 1 = .ok (.getfield 42, 3) := by decide +kernel
theorem dX8_heldBytes_4 : decode cX8_heldBytes 4 = .ok (.invokevirtual 241, 3) := by decide +kernel
theorem dX8_heldBytes_7 : decode cX8_heldBytes 7 = .ok (.ireturn, 1) := by decide +kernel
theorem dX8_parts_0 : decode cX8_parts 0 = .ok (.aload_n 0, 1) := by decide +kernel
theorem dX8_parts_1 : decode cX8_parts 1 = .ok (.iload_n 1, 1) := by decide +kernel
theorem dX8_parts_2 : decode cX8_parts 2 = .ok (.invokevirtual 220, 3) := by decide +kernel
theorem dX8_parts_5 : decode cX8_parts 5 = .ok (.aload_n 0, 1) := by decide +kernel
theorem dX8_parts_6 : decode cX8_parts 6 = .ok (.getfield 42, 3) := by decide +kernel
theorem dX8_parts_9 : decode cX8_parts 9 = .ok (.getfield 226, 3) := by decide +kernel
theorem dX8_parts_12 : decode cX8_parts 12 = .ok (.iload_n 1, 1) := by decide +kernel
theorem dX8_parts_13 : decode cX8_parts 13 = .ok (.aaload, 1) := by decide +kernel
theorem dX8_parts_14 : decode cX8_parts 14 = .ok (.getfield 244, 3) := by decide +kernel
theorem dX8_parts_17 : decode cX8_parts 17 = .ok (.invokevirtual 248, 3) := by decide +kernel
theorem dX8_parts_20 : decode cX8_parts 20 = .ok (.ireturn, 1) := by decide +kernel
theorem dX8_partLength_0 : decode cX8_partLength 0 = .ok (.aload_n 0, 1) := by decide +kernel
theorem dX8_partLength_1 : decode cX8_partLength 1 = .ok (.iload_n 1, 1) := by decide +kernel
theorem dX8_partLength_2 : decode cX8_partLength 2 = .ok (.invokevirtual 220, 3) := by decide +kernel
theorem dX8_partLength_5 : decode cX8_partLength 5 = .ok (.iload_n 2, 1) := by decide +kernel
theorem dX8_partLength_6 : decode cX8_partLength 6 = .ok (.aload_n 0, 1) := by decide +kernel
theorem dX8_partLength_7 : decode cX8_partLength 7 = .ok (.getfield 42, 3) := by decide +kernel
theorem dX8_partLength_10 : decode cX8_partLength 10 = .ok (.getfield 226, 3) := by decide +kernel
theorem dX8_partLength_13 : decode cX8_partLength 13 = .ok (.iload_n 1, 1) := by decide +kernel
theorem dX8_partLength_14 : decode cX8_partLength 14 = .ok (.aaload, 1) := by decide +kernel
theorem dX8_partLength_15 : decode cX8_partLength 15 = .ok (.getfield 244, 3) := by decide +kernel
theorem dX8_partLength_18 : decode cX8_partLength 18 = .ok (.invokevirtual 248, 3) := by decide +kernel
theorem dX8_partLength_21 : decode cX8_partLength 21 = .ok (.invokestatic 75, 3) := by decide +kernel
theorem dX8_partLength_24 : decode cX8_partLength 24 = .ok (.aload_n 0, 1) := by decide +kernel
theorem dX8_partLength_25 : decode cX8_partLength 25 = .ok (.getfield 42, 3) := by decide +kernel
theorem dX8_partLength_28 : decode cX8_partLength 28 = .ok (.getfield 226, 3) := by decide +kernel
theorem dX8_partLength_31 : decode cX8_partLength 31 = .ok (.iload_n 1, 1) := by decide +kernel
theorem dX8_partLength_32 : decode cX8_partLength 32 = .ok (.aaload, 1) := by decide +kernel
theorem dX8_partLength_33 : decode cX8_partLength 33 = .ok (.getfield 244, 3) := by decide +kernel
theorem dX8_partLength_36 : decode cX8_partLength 36 = .ok (.iload_n 2, 1) := by decide +kernel
theorem dX8_partLength_37 : decode cX8_partLength 37 = .ok (.invokevirtual 252, 3) := by decide +kernel
theorem dX8_partLength_40 : decode cX8_partLength 40 = .ok (.checkcast 256, 3) := by decide +kernel
theorem dX8_partLength_43 : decode cX8_partLength 43 = .ok (.getfield 258, 3) := by decide +kernel
theorem dX8_partLength_46 : decode cX8_partLength 46 = .ok (.ireturn, 1) := by decide +kernel
theorem dX8_shared_0 : decode cX8_shared 0 = .ok (.aload_n 0, 1) := by decide +kernel
theorem dX8_shared_1 : decode cX8_shared 1 = .ok (.iload_n 1, 1) := by decide +kernel
theorem dX8_shared_2 : decode cX8_shared 2 = .ok (.invokevirtual 220, 3) := by decide +kernel
theorem dX8_shared_5 : decode cX8_shared 5 = .ok (.iload_n 2, 1) := by decide +kernel
theorem dX8_shared_6 : decode cX8_shared 6 = .ok (.aload_n 0, 1) := by decide +kernel
theorem dX8_shared_7 : decode cX8_shared 7 = .ok (.getfield 42, 3) := by decide +kernel
theorem dX8_shared_10 : decode cX8_shared 10 = .ok (.getfield 226, 3) := by decide +kernel
theorem dX8_shared_13 : decode cX8_shared 13 = .ok (.iload_n 1, 1) := by decide +kernel
theorem dX8_shared_14 : decode cX8_shared 14 = .ok (.aaload, 1) := by decide +kernel
theorem dX8_shared_15 : decode cX8_shared 15 = .ok (.getfield 244, 3) := by decide +kernel
theorem dX8_shared_18 : decode cX8_shared 18 = .ok (.invokevirtual 248, 3) := by decide +kernel
theorem dX8_shared_21 : decode cX8_shared 21 = .ok (.invokestatic 75, 3) := by decide +kernel
theorem dX8_shared_24 : decode cX8_shared 24 = .ok (.aload_n 0, 1) := by decide +kernel
theorem dX8_shared_25 : decode cX8_shared 25 = .ok (.getfield 42, 3) := by decide +kernel
theorem dX8_shared_28 : decode cX8_shared 28 = .ok (.getfield 226, 3) := by decide +kernel
theorem dX8_shared_31 : decode cX8_shared 31 = .ok (.iload_n 1, 1) := by decide +kernel
theorem dX8_shared_32 : decode cX8_shared 32 = .ok (.aaload, 1) := by decide +kernel
theorem dX8_shared_33 : decode cX8_shared 33 = .ok (.getfield 244, 3) := by decide +kernel
theorem dX8_shared_36 : decode cX8_shared 36 = .ok (.iload_n 2, 1) := by decide +kernel
theorem dX8_shared_37 : decode cX8_shared 37 = .ok (.invokevirtual 252, 3) := by decide +kernel
theorem dX8_shared_40 : decode cX8_shared 40 = .ok (.checkcast 256, 3) := by decide +kernel
theorem dX8_shared_43 : decode cX8_shared 43 = .ok (.getfield 259, 3) := by decide +kernel
theorem dX8_shared_46 : decode cX8_shared 46 = .ok (.ireturn, 1) := by decide +kernel
theorem dX8_checkIndex_0 : decode cX8_checkIndex 0 = .ok (.iload_n 0, 1) := by decide +kernel
theorem dX8_checkIndex_1 : decode cX8_checkIndex 1 = .ok (.ifCond .lt 8, 3) := by decide +kernel
theorem dX8_checkIndex_4 : decode cX8_checkIndex 4 = .ok (.iload_n 0, 1) := by decide +kernel
theorem dX8_checkIndex_5 : decode cX8_checkIndex 5 = .ok (.iload_n 1, 1) := by decide +kernel
theorem dX8_checkIndex_6 : decode cX8_checkIndex 6 = .ok (.if_icmp .lt 14, 3) := by decide +kernel
theorem dX8_checkIndex_9 : decode cX8_checkIndex 9 = .ok (.new 262, 3) := by decide +kernel
theorem dX8_checkIndex_12 : decode cX8_checkIndex 12 = .ok (.dup, 1) := by decide +kernel
theorem dX8_checkIndex_13 : decode cX8_checkIndex 13 = .ok (.ldc_w 264, 3) := by decide +kernel
theorem dX8_checkIndex_16 : decode cX8_checkIndex 16 = .ok (.invokespecial 266, 3) := by decide +kernel
theorem dX8_checkIndex_19 : decode cX8_checkIndex 19 = .ok (.athrow, 1) := by decide +kernel
theorem dX8_checkIndex_20 : decode cX8_checkIndex 20 = .ok (.return_, 1) := by decide +kernel
theorem dX8_checkRange_0 : decode cX8_checkRange 0 = .ok (.iload_n 0, 1) := by decide +kernel
theorem dX8_checkRange_1 : decode cX8_checkRange 1 = .ok (.iload_n 1, 1) := by decide +kernel
theorem dX8_checkRange_2 : decode cX8_checkRange 2 = .ok (.if_icmp .lt 8, 3) := by decide +kernel
theorem dX8_checkRange_5 : decode cX8_checkRange 5 = .ok (.iload_n 0, 1) := by decide +kernel
theorem dX8_checkRange_6 : decode cX8_checkRange 6 = .ok (.iload_n 2, 1) := by decide +kernel
theorem dX8_checkRange_7 : decode cX8_checkRange 7 = .ok (.if_icmp .le 14, 3) := by decide +kernel
theorem dX8_checkRange_10 : decode cX8_checkRange 10 = .ok (.new 267, 3) := by decide +kernel
theorem dX8_checkRange_13 : decode cX8_checkRange 13 = .ok (.dup, 1) := by decide +kernel
theorem dX8_checkRange_14 : decode cX8_checkRange 14 = .ok (.ldc_w 269, 3) := by decide +kernel
theorem dX8_checkRange_17 : decode cX8_checkRange 17 = .ok (.invokespecial 271, 3) := by decide +kernel
theorem dX8_checkRange_20 : decode cX8_checkRange 20 = .ok (.athrow, 1) := by decide +kernel
theorem dX8_checkRange_21 : decode cX8_checkRange 21 = .ok (.return_, 1) := by decide +kernel
theorem dX8_checkFile_0 : decode cX8_checkFile 0 = .ok (.iload_n 1, 1) := by decide +kernel
theorem dX8_checkFile_1 : decode cX8_checkFile 1 = .ok (.aload_n 0, 1) := by decide +kernel
theorem dX8_checkFile_2 : decode cX8_checkFile 2 = .ok (.getfield 48, 3) := by decide +kernel
theorem dX8_checkFile_5 : decode cX8_checkFile 5 = .ok (.invokestatic 75, 3) := by decide +kernel
theorem dX8_checkFile_8 : decode cX8_checkFile 8 = .ok (.return_, 1) := by decide +kernel
theorem dX8_checkBlock_0 : decode cX8_checkBlock 0 = .ok (.iload_n 1, 1) := by decide +kernel
theorem dX8_checkBlock_1 : decode cX8_checkBlock 1 = .ok (.iconst 4, 1) := by decide +kernel
theorem dX8_checkBlock_2 : decode cX8_checkBlock 2 = .ok (.invokestatic 75, 3) := by decide +kernel
theorem dX8_checkBlock_5 : decode cX8_checkBlock 5 = .ok (.iload_n 2, 1) := by decide +kernel
theorem dX8_checkBlock_6 : decode cX8_checkBlock 6 = .ok (.aload_n 0, 1) := by decide +kernel
theorem dX8_checkBlock_7 : decode cX8_checkBlock 7 = .ok (.getfield 17, 3) := by decide +kernel
theorem dX8_checkBlock_10 : decode cX8_checkBlock 10 = .ok (.iload_n 1, 1) := by decide +kernel
theorem dX8_checkBlock_11 : decode cX8_checkBlock 11 = .ok (.aaload, 1) := by decide +kernel
theorem dX8_checkBlock_12 : decode cX8_checkBlock 12 = .ok (.getfield 103, 3) := by decide +kernel
theorem dX8_checkBlock_15 : decode cX8_checkBlock 15 = .ok (.invokestatic 75, 3) := by decide +kernel
theorem dX8_checkBlock_18 : decode cX8_checkBlock 18 = .ok (.return_, 1) := by decide +kernel
theorem dX8_checkInstruction_0 : decode cX8_checkInstruction 0 = .ok (.iload_n 1, 1) := by decide +kernel
theorem dX8_checkInstruction_1 : decode cX8_checkInstruction 1 = .ok (.iconst 4, 1) := by decide +kernel
theorem dX8_checkInstruction_2 : decode cX8_checkInstruction 2 = .ok (.invokestatic 75, 3) := by decide +kernel
theorem dX8_checkInstruction_5 : decode cX8_checkInstruction 5 = .ok (.iload_n 2, 1) := by decide +kernel
theorem dX8_checkInstruction_6 : decode cX8_checkInstruction 6 = .ok (.aload_n 0, 1) := by decide +kernel
theorem dX8_checkInstruction_7 : decode cX8_checkInstruction 7 = .ok (.getfield 23, 3) := by decide +kernel
theorem dX8_checkInstruction_10 : decode cX8_checkInstruction 10 = .ok (.iload_n 1, 1) := by decide +kernel
theorem dX8_checkInstruction_11 : decode cX8_checkInstruction 11 = .ok (.aaload, 1) := by decide +kernel
theorem dX8_checkInstruction_12 : decode cX8_checkInstruction 12 = .ok (.getfield 126, 3) := by decide +kernel
theorem dX8_checkInstruction_15 : decode cX8_checkInstruction 15 = .ok (.invokestatic 75, 3) := by decide +kernel
theorem dX8_checkInstruction_18 : decode cX8_checkInstruction 18 = .ok (.return_, 1) := by decide +kernel
theorem dX8_checkPaper_0 : decode cX8_checkPaper 0 = .ok (.iload_n 1, 1) := by decide +kernel
theorem dX8_checkPaper_1 : decode cX8_checkPaper 1 = .ok (.bipush 12, 2) := by decide +kernel
theorem dX8_checkPaper_3 : decode cX8_checkPaper 3 = .ok (.invokestatic 75, 3) := by decide +kernel
theorem dX8_checkPaper_6 : decode cX8_checkPaper 6 = .ok (.aload_n 0, 1) := by decide +kernel
theorem dX8_checkPaper_7 : decode cX8_checkPaper 7 = .ok (.getfield 42, 3) := by decide +kernel
theorem dX8_checkPaper_10 : decode cX8_checkPaper 10 = .ok (.getfield 226, 3) := by decide +kernel
theorem dX8_checkPaper_13 : decode cX8_checkPaper 13 = .ok (.iload_n 1, 1) := by decide +kernel
theorem dX8_checkPaper_14 : decode cX8_checkPaper 14 = .ok (.aaload, 1) := by decide +kernel
theorem dX8_checkPaper_15 : decode cX8_checkPaper 15 = .ok (.getfield 272, 3) := by decide +kernel
theorem dX8_checkPaper_18 : decode cX8_checkPaper 18 = .ok (.ifCond .ne 14, 3) := by decide +kernel
theorem dX8_checkPaper_21 : decode cX8_checkPaper 21 = .ok (.new 262, 3) := by decide +kernel
theorem dX8_checkPaper_24 : decode cX8_checkPaper 24 = .ok (.dup, 1) := by decide +kernel
theorem dX8_checkPaper_25 : decode cX8_checkPaper 25 = .ok (.ldc_w 275, 3) := by decide +kernel
theorem dX8_checkPaper_28 : decode cX8_checkPaper 28 = .ok (.invokespecial 266, 3) := by decide +kernel
theorem dX8_checkPaper_31 : decode cX8_checkPaper 31 = .ok (.athrow, 1) := by decide +kernel
theorem dX8_checkPaper_32 : decode cX8_checkPaper 32 = .ok (.return_, 1) := by decide +kernel
theorem dX8_checkRoomForVersion_0 : decode cX8_checkRoomForVersion 0 = .ok (.aload_n 0, 1) := by decide +kernel
theorem dX8_checkRoomForVersion_1 : decode cX8_checkRoomForVersion 1 = .ok (.getfield 35, 3) := by decide +kernel
theorem dX8_checkRoomForVersion_4 : decode cX8_checkRoomForVersion 4 = .ok (.getfield 164, 3) := by decide +kernel
theorem dX8_checkRoomForVersion_7 : decode cX8_checkRoomForVersion 7 = .ok (.bipush 20, 2) := by decide +kernel
theorem dX8_checkRoomForVersion_9 : decode cX8_checkRoomForVersion 9 = .ok (.if_icmp .lt 14, 3) := by decide +kernel
theorem dX8_checkRoomForVersion_12 : decode cX8_checkRoomForVersion 12 = .ok (.new 52, 3) := by decide +kernel
theorem dX8_checkRoomForVersion_15 : decode cX8_checkRoomForVersion 15 = .ok (.dup, 1) := by decide +kernel
theorem dX8_checkRoomForVersion_16 : decode cX8_checkRoomForVersion 16 = .ok (.ldc_w 277, 3) := by decide +kernel
theorem dX8_checkRoomForVersion_19 : decode cX8_checkRoomForVersion 19 = .ok (.invokespecial 56, 3) := by decide +kernel
theorem dX8_checkRoomForVersion_22 : decode cX8_checkRoomForVersion 22 = .ok (.athrow, 1) := by decide +kernel
theorem dX8_checkRoomForVersion_23 : decode cX8_checkRoomForVersion 23 = .ok (.return_, 1) := by decide +kernel
theorem dX8_checkNotBroken_0 : decode cX8_checkNotBroken 0 = .ok (.aload_n 0, 1) := by decide +kernel
theorem dX8_checkNotBroken_1 : decode cX8_checkNotBroken 1 = .ok (.getfield 35, 3) := by decide +kernel
theorem dX8_checkNotBroken_4 : decode cX8_checkNotBroken 4 = .ok (.iload_n 1, 1) := by decide +kernel
theorem dX8_checkNotBroken_5 : decode cX8_checkNotBroken 5 = .ok (.invokevirtual 190, 3) := by decide +kernel
theorem dX8_checkNotBroken_8 : decode cX8_checkNotBroken 8 = .ok (.aload_n 0, 1) := by decide +kernel
theorem dX8_checkNotBroken_9 : decode cX8_checkNotBroken 9 = .ok (.getfield 35, 3) := by decide +kernel
theorem dX8_checkNotBroken_12 : decode cX8_checkNotBroken 12 = .ok (.getfield 199, 3) := by decide +kernel
theorem dX8_checkNotBroken_15 : decode cX8_checkNotBroken 15 = .ok (.iconst (-1), 1) := by decide +kernel
theorem dX8_checkNotBroken_16 : decode cX8_checkNotBroken 16 = .ok (.if_icmp .eq 14, 3) := by decide +kernel
theorem dX8_checkNotBroken_19 : decode cX8_checkNotBroken 19 = .ok (.new 52, 3) := by decide +kernel
theorem dX8_checkNotBroken_22 : decode cX8_checkNotBroken 22 = .ok (.dup, 1) := by decide +kernel
theorem dX8_checkNotBroken_23 : decode cX8_checkNotBroken 23 = .ok (.ldc_w 279, 3) := by decide +kernel
theorem dX8_checkNotBroken_26 : decode cX8_checkNotBroken 26 = .ok (.invokespecial 56, 3) := by decide +kernel
theorem dX8_checkNotBroken_29 : decode cX8_checkNotBroken 29 = .ok (.athrow, 1) := by decide +kernel
theorem dX8_checkNotBroken_30 : decode cX8_checkNotBroken 30 = .ok (.return_, 1) := by decide +kernel
theorem dX9_init_0 : decode cX9_init 0 = .ok (.aload_n 0, 1) := by decide +kernel
theorem dX9_init_1 : decode cX9_init 1 = .ok (.invokespecial 1, 3) := by decide +kernel
theorem dX9_init_4 : decode cX9_init 4 = .ok (.aload_n 0, 1) := by decide +kernel
theorem dX9_init_5 : decode cX9_init 5 = .ok (.bipush 6, 2) := by decide +kernel
theorem dX9_init_7 : decode cX9_init 7 = .ok (.newarray .int, 2) := by decide +kernel
theorem dX9_init_9 : decode cX9_init 9 = .ok (.putfield 7, 3) := by decide +kernel
theorem dX9_init_12 : decode cX9_init 12 = .ok (.aload_n 0, 1) := by decide +kernel
theorem dX9_init_13 : decode cX9_init 13 = .ok (.sipush 720, 3) := by decide +kernel
theorem dX9_init_16 : decode cX9_init 16 = .ok (.newarray .int, 2) := by decide +kernel
theorem dX9_init_18 : decode cX9_init 18 = .ok (.putfield 13, 3) := by decide +kernel
theorem dX9_init_21 : decode cX9_init 21 = .ok (.aload_n 0, 1) := by decide +kernel
theorem dX9_init_22 : decode cX9_init 22 = .ok (.iconst 5, 1) := by decide +kernel
theorem dX9_init_23 : decode cX9_init 23 = .ok (.newarray .int, 2) := by decide +kernel
theorem dX9_init_25 : decode cX9_init 25 = .ok (.putfield 16, 3) := by decide +kernel
theorem dX9_init_28 : decode cX9_init 28 = .ok (.aload_n 0, 1) := by decide +kernel
theorem dX9_init_29 : decode cX9_init 29 = .ok (.iconst 5, 1) := by decide +kernel
theorem dX9_init_30 : decode cX9_init 30 = .ok (.newarray .int, 2) := by decide +kernel
theorem dX9_init_32 : decode cX9_init 32 = .ok (.putfield 19, 3) := by decide +kernel
theorem dX9_init_35 : decode cX9_init 35 = .ok (.aload_n 0, 1) := by decide +kernel
theorem dX9_init_36 : decode cX9_init 36 = .ok (.iconst 5, 1) := by decide +kernel
theorem dX9_init_37 : decode cX9_init 37 = .ok (.newarray .int, 2) := by decide +kernel
theorem dX9_init_39 : decode cX9_init 39 = .ok (.putfield 22, 3) := by decide +kernel
theorem dX9_init_42 : decode cX9_init 42 = .ok (.aload_n 0, 1) := by decide +kernel
theorem dX9_init_43 : decode cX9_init 43 = .ok (.iconst 5, 1) := by decide +kernel
theorem dX9_init_44 : decode cX9_init 44 = .ok (.newarray .int, 2) := by decide +kernel
theorem dX9_init_46 : decode cX9_init 46 = .ok (.putfield 25, 3) := by decide +kernel
theorem dX9_init_49 : decode cX9_init 49 = .ok (.aload_n 0, 1) := by decide +kernel
theorem dX9_init_50 : decode cX9_init 50 = .ok (.sipush 600, 3) := by decide +kernel
theorem dX9_init_53 : decode cX9_init 53 = .ok (.newarray .int, 2) := by decide +kernel
theorem dX9_init_55 : decode cX9_init 55 = .ok (.putfield 28, 3) := by decide +kernel
theorem dX9_init_58 : decode cX9_init 58 = .ok (.aload_n 0, 1) := by decide +kernel
theorem dX9_init_59 : decode cX9_init 59 = .ok (.sipush 600, 3) := by decide +kernel
theorem dX9_init_62 : decode cX9_init 62 = .ok (.newarray .long, 2) := by decide +kernel
theorem dX9_init_64 : decode cX9_init 64 = .ok (.putfield 31, 3) := by decide +kernel
theorem dX9_init_67 : decode cX9_init 67 = .ok (.aload_n 0, 1) := by decide +kernel
theorem dX9_init_68 : decode cX9_init 68 = .ok (.bipush 24, 2) := by decide +kernel
theorem dX9_init_70 : decode cX9_init 70 = .ok (.newarray .boolean, 2) := by decide +kernel
theorem dX9_init_72 : decode cX9_init 72 = .ok (.putfield 35, 3) := by decide +kernel
theorem dX9_init_75 : decode cX9_init 75 = .ok (.aload_n 0, 1) := by decide +kernel
theorem dX9_init_76 : decode cX9_init 76 = .ok (.bipush 24, 2) := by decide +kernel
theorem dX9_init_78 : decode cX9_init 78 = .ok (.newarray .int, 2) := by decide +kernel
theorem dX9_init_80 : decode cX9_init 80 = .ok (.putfield 39, 3) := by decide +kernel
theorem dX9_init_83 : decode cX9_init 83 = .ok (.aload_n 0, 1) := by decide +kernel
theorem dX9_init_84 : decode cX9_init 84 = .ok (.bipush 24, 2) := by decide +kernel
theorem dX9_init_86 : decode cX9_init 86 = .ok (.newarray .int, 2) := by decide +kernel
theorem dX9_init_88 : decode cX9_init 88 = .ok (.putfield 42, 3) := by decide +kernel
theorem dX9_init_91 : decode cX9_init 91 = .ok (.aload_n 0, 1) := by decide +kernel
theorem dX9_init_92 : decode cX9_init 92 = .ok (.sipush 2880, 3) := by decide +kernel
theorem dX9_init_95 : decode cX9_init 95 = .ok (.newarray .boolean, 2) := by decide +kernel
theorem dX9_init_97 : decode cX9_init 97 = .ok (.putfield 45, 3) := by decide +kernel
theorem dX9_init_100 : decode cX9_init 100 = .ok (.aload_n 0, 1) := by decide +kernel
theorem dX9_init_101 : decode cX9_init 101 = .ok (.sipush 2880, 3) := by decide +kernel
theorem dX9_init_104 : decode cX9_init 104 = .ok (.newarray .int, 2) := by decide +kernel
theorem dX9_init_106 : decode cX9_init 106 = .ok (.putfield 48, 3) := by decide +kernel
theorem dX9_init_109 : decode cX9_init 109 = .ok (.aload_n 0, 1) := by decide +kernel
theorem dX9_init_110 : decode cX9_init 110 = .ok (.sipush 2880, 3) := by decide +kernel
theorem dX9_init_113 : decode cX9_init 113 = .ok (.newarray .int, 2) := by decide +kernel
theorem dX9_init_115 : decode cX9_init 115 = .ok (.putfield 51, 3) := by decide +kernel
theorem dX9_init_118 : decode cX9_init 118 = .ok (.aload_n 0, 1) := by decide +kernel
theorem dX9_init_119 : decode cX9_init 119 = .ok (.sipush 2880, 3) := by decide +kernel
theorem dX9_init_122 : decode cX9_init 122 = .ok (.newarray .int, 2) := by decide +kernel
theorem dX9_init_124 : decode cX9_init 124 = .ok (.putfield 54, 3) := by decide +kernel
theorem dX9_init_127 : decode cX9_init 127 = .ok (.aload_n 0, 1) := by decide +kernel
theorem dX9_init_128 : decode cX9_init 128 = .ok (.bipush 20, 2) := by decide +kernel
theorem dX9_init_130 : decode cX9_init 130 = .ok (.newarray .int, 2) := by decide +kernel
theorem dX9_init_132 : decode cX9_init 132 = .ok (.putfield 57, 3) := by decide +kernel
theorem dX9_init_135 : decode cX9_init 135 = .ok (.aload_n 0, 1) := by decide +kernel
theorem dX9_init_136 : decode cX9_init 136 = .ok (.bipush 20, 2) := by decide +kernel
theorem dX9_init_138 : decode cX9_init 138 = .ok (.newarray .int, 2) := by decide +kernel
theorem dX9_init_140 : decode cX9_init 140 = .ok (.putfield 60, 3) := by decide +kernel
theorem dX9_init_143 : decode cX9_init 143 = .ok (.aload_n 0, 1) := by decide +kernel
theorem dX9_init_144 : decode cX9_init 144 = .ok (.bipush 20, 2) := by decide +kernel
theorem dX9_init_146 : decode cX9_init 146 = .ok (.newarray .int, 2) := by decide +kernel
theorem dX9_init_148 : decode cX9_init 148 = .ok (.putfield 63, 3) := by decide +kernel
theorem dX9_init_151 : decode cX9_init 151 = .ok (.aload_n 0, 1) := by decide +kernel
theorem dX9_init_152 : decode cX9_init 152 = .ok (.sipush 2400, 3) := by decide +kernel
theorem dX9_init_155 : decode cX9_init 155 = .ok (.newarray .int, 2) := by decide +kernel
theorem dX9_init_157 : decode cX9_init 157 = .ok (.putfield 66, 3) := by decide +kernel
theorem dX9_init_160 : decode cX9_init 160 = .ok (.aload_n 0, 1) := by decide +kernel
theorem dX9_init_161 : decode cX9_init 161 = .ok (.bipush 20, 2) := by decide +kernel
theorem dX9_init_163 : decode cX9_init 163 = .ok (.newarray .int, 2) := by decide +kernel
theorem dX9_init_165 : decode cX9_init 165 = .ok (.putfield 69, 3) := by decide +kernel
theorem dX9_init_168 : decode cX9_init 168 = .ok (.aload_n 0, 1) := by decide +kernel
theorem dX9_init_169 : decode cX9_init 169 = .ok (.bipush 120, 2) := by decide +kernel
theorem dX9_init_171 : decode cX9_init 171 = .ok (.newarray .int, 2) := by decide +kernel
theorem dX9_init_173 : decode cX9_init 173 = .ok (.putfield 72, 3) := by decide +kernel
theorem dX9_init_176 : decode cX9_init 176 = .ok (.aload_n 0, 1) := by decide +kernel
theorem dX9_init_177 : decode cX9_init 177 = .ok (.bipush 120, 2) := by decide +kernel
theorem dX9_init_179 : decode cX9_init 179 = .ok (.newarray .int, 2) := by decide +kernel
theorem dX9_init_181 : decode cX9_init 181 = .ok (.putfield 75, 3) := by decide +kernel
theorem dX9_init_184 : decode cX9_init 184 = .ok (.aload_n 0, 1) := by decide +kernel
theorem dX9_init_185 : decode cX9_init 185 = .ok (.iconst 4, 1) := by decide +kernel
theorem dX9_init_186 : decode cX9_init 186 = .ok (.putfield 78, 3) := by decide +kernel
theorem dX9_init_189 : decode cX9_init 189 = .ok (.aload_n 0, 1) := by decide +kernel
theorem dX9_init_190 : decode cX9_init 190 = .ok (.bipush 16, 2) := by decide +kernel
theorem dX9_init_192 : decode cX9_init 192 = .ok (.putfield 82, 3) := by decide +kernel
theorem dX9_init_195 : decode cX9_init 195 = .ok (.aload_n 0, 1) := by decide +kernel
theorem dX9_init_196 : decode cX9_init 196 = .ok (.bipush 8, 2) := by decide +kernel
theorem dX9_init_198 : decode cX9_init 198 = .ok (.putfield 85, 3) := by decide +kernel
theorem dX9_init_201 : decode cX9_init 201 = .ok (.aload_n 0, 1) := by decide +kernel
theorem dX9_init_202 : decode cX9_init 202 = .ok (.bipush 12, 2) := by decide +kernel
theorem dX9_init_204 : decode cX9_init 204 = .ok (.newarray .boolean, 2) := by decide +kernel
theorem dX9_init_206 : decode cX9_init 206 = .ok (.putfield 88, 3) := by decide +kernel
theorem dX9_init_209 : decode cX9_init 209 = .ok (.aload_n 0, 1) := by decide +kernel
theorem dX9_init_210 : decode cX9_init 210 = .ok (.bipush 12, 2) := by decide +kernel
theorem dX9_init_212 : decode cX9_init 212 = .ok (.newarray .int, 2) := by decide +kernel
theorem dX9_init_214 : decode cX9_init 214 = .ok (.putfield 91, 3) := by decide +kernel
theorem dX9_init_217 : decode cX9_init 217 = .ok (.aload_n 0, 1) := by decide +kernel
theorem dX9_init_218 : decode cX9_init 218 = .ok (.sipush 1440, 3) := by decide +kernel
theorem dX9_init_221 : decode cX9_init 221 = .ok (.newarray .int, 2) := by decide +kernel
theorem dX9_init_223 : decode cX9_init 223 = .ok (.putfield 94, 3) := by decide +kernel
theorem dX9_init_226 : decode cX9_init 226 = .ok (.aload_n 0, 1) := by decide +kernel
theorem dX9_init_227 : decode cX9_init 227 = .ok (.sipush 1440, 3) := by decide +kernel
theorem dX9_init_230 : decode cX9_init 230 = .ok (.newarray .int, 2) := by decide +kernel
theorem dX9_init_232 : decode cX9_init 232 = .ok (.putfield 97, 3) := by decide +kernel
theorem dX9_init_235 : decode cX9_init 235 = .ok (.return_, 1) := by decide +kernel
theorem dX9_thrown_0 : decode cX9_thrown 0 = .ok (.aload_n 0, 1) := by decide +kernel
theorem dX9_thrown_1 : decode cX9_thrown 1 = .ok (.getfield 100, 3) := by decide +kernel
theorem dX9_thrown_4 : decode cX9_thrown 4 = .ok (.ireturn, 1) := by decide +kernel
theorem dX9_may_0 : decode cX9_may 0 = .ok (.aload_n 0, 1) := by decide +kernel
theorem dX9_may_1 : decode cX9_may 1 = .ok (.iload_n 1, 1) := by decide +kernel
theorem dX9_may_2 : decode cX9_may 2 = .ok (.ifCond .eq 7, 3) := by decide +kernel
theorem dX9_may_5 : decode cX9_may 5 = .ok (.iconst 0, 1) := by decide +kernel
theorem dX9_may_6 : decode cX9_may 6 = .ok (.goto 4, 3) := by decide +kernel
theorem dX9_may_9 : decode cX9_may 9 = .ok (.iconst 1, 1) := by decide +kernel
theorem dX9_may_10 : decode cX9_may 10 = .ok (.putfield 100, 3) := by decide +kernel
theorem dX9_may_13 : decode cX9_may 13 = .ok (.iload_n 1, 1) := by decide +kernel
theorem dX9_may_14 : decode cX9_may 14 = .ok (.ireturn, 1) := by decide +kernel
theorem dX9_mayBoth_0 : decode cX9_mayBoth 0 = .ok (.aload_n 0, 1) := by decide +kernel
theorem dX9_mayBoth_1 : decode cX9_mayBoth 1 = .ok (.iload_n 1, 1) := by decide +kernel
theorem dX9_mayBoth_2 : decode cX9_mayBoth 2 = .ok (.ifCond .ne 7, 3) := by decide +kernel
theorem dX9_mayBoth_5 : decode cX9_mayBoth 5 = .ok (.iconst 1, 1) := by decide +kernel
theorem dX9_mayBoth_6 : decode cX9_mayBoth 6 = .ok (.goto 12, 3) := by decide +kernel
theorem dX9_mayBoth_9 : decode cX9_mayBoth 9 = .ok (.iload_n 2, 1) := by decide +kernel
theorem dX9_mayBoth_10 : decode cX9_mayBoth 10 = .ok (.ifCond .ne 7, 3) := by decide +kernel
theorem dX9_mayBoth_13 : decode cX9_mayBoth 13 = .ok (.iconst 2, 1) := by decide +kernel
theorem dX9_mayBoth_14 : decode cX9_mayBoth 14 = .ok (.goto 4, 3) := by decide +kernel
theorem dX9_mayBoth_17 : decode cX9_mayBoth 17 = .ok (.iconst 0, 1) := by decide +kernel
theorem dX9_mayBoth_18 : decode cX9_mayBoth 18 = .ok (.putfield 100, 3) := by decide +kernel
theorem dX9_mayBoth_21 : decode cX9_mayBoth 21 = .ok (.aload_n 0, 1) := by decide +kernel
theorem dX9_mayBoth_22 : decode cX9_mayBoth 22 = .ok (.getfield 100, 3) := by decide +kernel
theorem dX9_mayBoth_25 : decode cX9_mayBoth 25 = .ok (.ifCond .ne 7, 3) := by decide +kernel
theorem dX9_mayBoth_28 : decode cX9_mayBoth 28 = .ok (.iconst 1, 1) := by decide +kernel
theorem dX9_mayBoth_29 : decode cX9_mayBoth 29 = .ok (.goto 4, 3) := by decide +kernel
theorem dX9_mayBoth_32 : decode cX9_mayBoth 32 = .ok (.iconst 0, 1) := by decide +kernel
theorem dX9_mayBoth_33 : decode cX9_mayBoth 33 = .ok (.ireturn, 1) := by decide +kernel
theorem dX9_mayAll_0 : decode cX9_mayAll 0 = .ok (.aload_n 0, 1) := by decide +kernel
theorem dX9_mayAll_1 : decode cX9_mayAll 1 = .ok (.iload_n 1, 1) := by decide +kernel
theorem dX9_mayAll_2 : decode cX9_mayAll 2 = .ok (.ifCond .ne 7, 3) := by decide +kernel
theorem dX9_mayAll_5 : decode cX9_mayAll 5 = .ok (.iconst 1, 1) := by decide +kernel
theorem dX9_mayAll_6 : decode cX9_mayAll 6 = .ok (.goto 20, 3) := by decide +kernel
theorem dX9_mayAll_9 : decode cX9_mayAll 9 = .ok (.iload_n 2, 1) := by decide +kernel
theorem dX9_mayAll_10 : decode cX9_mayAll 10 = .ok (.ifCond .ne 7, 3) := by decide +kernel
theorem dX9_mayAll_13 : decode cX9_mayAll 13 = .ok (.iconst 2, 1) := by decide +kernel
theorem dX9_mayAll_14 : decode cX9_mayAll 14 = .ok (.goto 12, 3) := by decide +kernel
theorem dX9_mayAll_17 : decode cX9_mayAll 17 = .ok (.iload_n 3, 1) := by decide +kernel
theorem dX9_mayAll_18 : decode cX9_mayAll 18 = .ok (.ifCond .ne 7, 3) := by decide +kernel
theorem dX9_mayAll_21 : decode cX9_mayAll 21 = .ok (.iconst 3, 1) := by decide +kernel
theorem dX9_mayAll_22 : decode cX9_mayAll 22 = .ok (.goto 4, 3) := by decide +kernel
theorem dX9_mayAll_25 : decode cX9_mayAll 25 = .ok (.iconst 0, 1) := by decide +kernel
theorem dX9_mayAll_26 : decode cX9_mayAll 26 = .ok (.putfield 100, 3) := by decide +kernel
theorem dX9_mayAll_29 : decode cX9_mayAll 29 = .ok (.aload_n 0, 1) := by decide +kernel
theorem dX9_mayAll_30 : decode cX9_mayAll 30 = .ok (.getfield 100, 3) := by decide +kernel
theorem dX9_mayAll_33 : decode cX9_mayAll 33 = .ok (.ifCond .ne 7, 3) := by decide +kernel
theorem dX9_mayAll_36 : decode cX9_mayAll 36 = .ok (.iconst 1, 1) := by decide +kernel
theorem dX9_mayAll_37 : decode cX9_mayAll 37 = .ok (.goto 4, 3) := by decide +kernel
theorem dX9_mayAll_40 : decode cX9_mayAll 40 = .ok (.iconst 0, 1) := by decide +kernel
theorem dX9_mayAll_41 : decode cX9_mayAll 41 = .ok (.ireturn, 1) := by decide +kernel
theorem dX9_isFile_0 : decode cX9_isFile 0 = .ok (.iload_n 1, 1) := by decide +kernel
theorem dX9_isFile_1 : decode cX9_isFile 1 = .ok (.ifCond .lt 15, 3) := by decide +kernel
theorem dX9_isFile_4 : decode cX9_isFile 4 = .ok (.iload_n 1, 1) := by decide +kernel
theorem dX9_isFile_5 : decode cX9_isFile 5 = .ok (.aload_n 0, 1) := by decide +kernel
theorem dX9_isFile_6 : decode cX9_isFile 6 = .ok (.getfield 103, 3) := by decide +kernel
theorem dX9_isFile_9 : decode cX9_isFile 9 = .ok (.if_icmp .ge 7, 3) := by decide +kernel
theorem dX9_isFile_12 : decode cX9_isFile 12 = .ok (.iconst 1, 1) := by decide +kernel
theorem dX9_isFile_13 : decode cX9_isFile 13 = .ok (.goto 4, 3) := by decide +kernel
theorem dX9_isFile_16 : decode cX9_isFile 16 = .ok (.iconst 0, 1) := by decide +kernel
theorem dX9_isFile_17 : decode cX9_isFile 17 = .ok (.ireturn, 1) := by decide +kernel
theorem dX9_isPlace_0 : decode cX9_isPlace 0 = .ok (.iload_n 0, 1) := by decide +kernel
theorem dX9_isPlace_1 : decode cX9_isPlace 1 = .ok (.ifCond .lt 12, 3) := by decide +kernel
theorem dX9_isPlace_4 : decode cX9_isPlace 4 = .ok (.iload_n 0, 1) := by decide +kernel
theorem dX9_isPlace_5 : decode cX9_isPlace 5 = .ok (.iconst 4, 1) := by decide +kernel
theorem dX9_isPlace_6 : decode cX9_isPlace 6 = .ok (.if_icmp .ge 7, 3) := by decide +kernel
theorem dX9_isPlace_9 : decode cX9_isPlace 9 = .ok (.iconst 1, 1) := by decide +kernel
theorem dX9_isPlace_10 : decode cX9_isPlace 10 = .ok (.goto 4, 3) := by decide +kernel
theorem dX9_isPlace_13 : decode cX9_isPlace 13 = .ok (.iconst 0, 1) := by decide +kernel
theorem dX9_isPlace_14 : decode cX9_isPlace 14 = .ok (.ireturn, 1) := by decide +kernel
theorem dX9_isByte_0 : decode cX9_isByte 0 = .ok (.iload_n 0, 1) := by decide +kernel
theorem dX9_isByte_1 : decode cX9_isByte 1 = .ok (.ifCond .lt 14, 3) := by decide +kernel
theorem dX9_isByte_4 : decode cX9_isByte 4 = .ok (.iload_n 0, 1) := by decide +kernel
theorem dX9_isByte_5 : decode cX9_isByte 5 = .ok (.sipush 256, 3) := by decide +kernel
theorem dX9_isByte_8 : decode cX9_isByte 8 = .ok (.if_icmp .ge 7, 3) := by decide +kernel
theorem dX9_isByte_11 : decode cX9_isByte 11 = .ok (.iconst 1, 1) := by decide +kernel
theorem dX9_isByte_12 : decode cX9_isByte 12 = .ok (.goto 4, 3) := by decide +kernel
theorem dX9_isByte_15 : decode cX9_isByte 15 = .ok (.iconst 0, 1) := by decide +kernel
theorem dX9_isByte_16 : decode cX9_isByte 16 = .ok (.ireturn, 1) := by decide +kernel
theorem dX9_file_0 : decode cX9_file 0 = .ok (.aload_n 0, 1) := by decide +kernel
theorem dX9_file_1 : decode cX9_file 1 = .ok (.aload_n 0, 1) := by decide +kernel
theorem dX9_file_2 : decode cX9_file 2 = .ok (.getfield 103, 3) := by decide +kernel
theorem dX9_file_5 : decode cX9_file 5 = .ok (.bipush 6, 2) := by decide +kernel
theorem dX9_file_7 : decode cX9_file 7 = .ok (.if_icmp .ge 7, 3) := by decide +kernel
theorem dX9_file_10 : decode cX9_file 10 = .ok (.iconst 1, 1) := by decide +kernel
theorem dX9_file_11 : decode cX9_file 11 = .ok (.goto 4, 3) := by decide +kernel
theorem dX9_file_14 : decode cX9_file 14 = .ok (.iconst 0, 1) := by decide +kernel
theorem dX9_file_15 : decode cX9_file 15 = .ok (.invokevirtual 106, 3) := by decide +kernel
theorem dX9_file_18 : decode cX9_file 18 = .ok (.ifCond .ne 5, 3) := by decide +kernel
theorem dX9_file_21 : decode cX9_file 21 = .ok (.iconst 0, 1) := by decide +kernel
theorem dX9_file_22 : decode cX9_file 22 = .ok (.ireturn, 1) := by decide +kernel
theorem dX9_file_23 : decode cX9_file 23 = .ok (.aload_n 0, 1) := by decide +kernel
theorem dX9_file_24 : decode cX9_file 24 = .ok (.dup, 1) := by decide +kernel
theorem dX9_file_25 : decode cX9_file 25 = .ok (.getfield 103, 3) := by decide +kernel
theorem dX9_file_28 : decode cX9_file 28 = .ok (.iconst 1, 1) := by decide +kernel
theorem dX9_file_29 : decode cX9_file 29 = .ok (.iadd, 1) := by decide +kernel
theorem dX9_file_30 : decode cX9_file 30 = .ok (.putfield 103, 3) := by decide +kernel
theorem dX9_file_33 : decode cX9_file 33 = .ok (.aload_n 0, 1) := by decide +kernel
theorem dX9_file_34 : decode cX9_file 34 = .ok (.getfield 103, 3) := by decide +kernel
theorem dX9_file_37 : decode cX9_file 37 = .ok (.iconst 1, 1) := by decide +kernel
theorem dX9_file_38 : decode cX9_file 38 = .ok (.isub, 1) := by decide +kernel
theorem dX9_file_39 : decode cX9_file 39 = .ok (.ireturn, 1) := by decide +kernel
theorem dX9_add_0 : decode cX9_add 0 = .ok (.iload_n 2, 1) := by decide +kernel
theorem dX9_add_1 : decode cX9_add 1 = .ok (.invokestatic 110, 3) := by decide +kernel
theorem dX9_add_4 : decode cX9_add 4 = .ok (.ifCond .eq 27, 3) := by decide +kernel
theorem dX9_add_7 : decode cX9_add 7 = .ok (.iload_n 3, 1) := by decide +kernel
theorem dX9_add_8 : decode cX9_add 8 = .ok (.invokestatic 110, 3) := by decide +kernel
theorem dX9_add_11 : decode cX9_add 11 = .ok (.ifCond .eq 20, 3) := by decide +kernel
theorem dX9_add_14 : decode cX9_add 14 = .ok (.iload 4, 2) := by decide +kernel
theorem dX9_add_16 : decode cX9_add 16 = .ok (.iconst 1, 1) := by decide +kernel
theorem dX9_add_17 : decode cX9_add 17 = .ok (.if_icmp .lt 14, 3) := by decide +kernel
theorem dX9_add_20 : decode cX9_add 20 = .ok (.iload 4, 2) := by decide +kernel
theorem dX9_add_22 : decode cX9_add 22 = .ok (.bipush 120, 2) := by decide +kernel
theorem dX9_add_24 : decode cX9_add 24 = .ok (.if_icmp .gt 7, 3) := by decide +kernel
theorem dX9_add_27 : decode cX9_add 27 = .ok (.iconst 1, 1) := by decide +kernel
theorem dX9_add_28 : decode cX9_add 28 = .ok (.goto 4, 3) := by decide +kernel
theorem dX9_add_31 : decode cX9_add 31 = .ok (.iconst 0, 1) := by decide +kernel
theorem dX9_add_32 : decode cX9_add 32 = .ok (.istore 5, 2) := by decide +kernel
theorem dX9_add_34 : decode cX9_add 34 = .ok (.aload_n 0, 1) := by decide +kernel
theorem dX9_add_35 : decode cX9_add 35 = .ok (.aload_n 0, 1) := by decide +kernel
theorem dX9_add_36 : decode cX9_add 36 = .ok (.iload_n 1, 1) := by decide +kernel
theorem dX9_add_37 : decode cX9_add 37 = .ok (.invokevirtual 114, 3) := by decide +kernel
theorem dX9_add_40 : decode cX9_add 40 = .ok (.iload 5, 2) := by decide +kernel
theorem dX9_add_42 : decode cX9_add 42 = .ok (.aload_n 0, 1) := by decide +kernel
theorem dX9_add_43 : decode cX9_add 43 = .ok (.iload_n 1, 1) := by decide +kernel
theorem dX9_add_44 : decode cX9_add 44 = .ok (.invokevirtual 114, 3) := by decide +kernel
theorem dX9_add_47 : decode cX9_add 47 = .ok (.ifCond .eq 26, 3) := by decide +kernel
theorem dX9_add_50 : decode cX9_add 50 = .ok (.iload 5, 2) := by decide +kernel
theorem dX9_add_52 : decode cX9_add 52 = .ok (.ifCond .eq 21, 3) := by decide +kernel
theorem dX9_add_55 : decode cX9_add 55 = .ok (.aload_n 0, 1) := by decide +kernel
theorem dX9_add_56 : decode cX9_add 56 = .ok (.getfield 7, 3) := by decide +kernel
theorem dX9_add_59 : decode cX9_add 59 = .ok (.iload_n 1, 1) := by decide +kernel
theorem dX9_add_60 : decode cX9_add 60 = .ok (.iaload, 1) := by decide +kernel
theorem dX9_add_61 : decode cX9_add 61 = .ok (.iload 4, 2) := by decide +kernel
theorem dX9_add_63 : decode cX9_add 63 = .ok (.iadd, 1) := by decide +kernel
theorem dX9_add_64 : decode cX9_add 64 = .ok (.bipush 120, 2) := by decide +kernel
theorem dX9_add_66 : decode cX9_add 66 = .ok (.if_icmp .gt 7, 3) := by decide +kernel
theorem dX9_add_69 : decode cX9_add 69 = .ok (.iconst 1, 1) := by decide +kernel
theorem dX9_add_70 : decode cX9_add 70 = .ok (.goto 4, 3) := by decide +kernel
theorem dX9_add_73 : decode cX9_add 73 = .ok (.iconst 0, 1) := by decide +kernel
theorem dX9_add_74 : decode cX9_add 74 = .ok (.invokevirtual 117, 3) := by decide +kernel
theorem dX9_add_77 : decode cX9_add 77 = .ok (.ifCond .ne 5, 3) := by decide +kernel
theorem dX9_add_80 : decode cX9_add 80 = .ok (.iconst 0, 1) := by decide +kernel
theorem dX9_add_81 : decode cX9_add 81 = .ok (.ireturn, 1) := by decide +kernel
theorem dX9_add_82 : decode cX9_add 82 = .ok (.iload_n 2, 1) := by decide +kernel
theorem dX9_add_83 : decode cX9_add 83 = .ok (.istore 6, 2) := by decide +kernel
theorem dX9_add_85 : decode cX9_add 85 = .ok (.iconst 0, 1) := by decide +kernel
theorem dX9_add_86 : decode cX9_add 86 = .ok (.istore 7, 2) := by decide +kernel
theorem dX9_add_88 : decode cX9_add 88 = .ok (.iload 7, 2) := by decide +kernel
theorem dX9_add_90 : decode cX9_add 90 = .ok (.iload 4, 2) := by decide +kernel
theorem dX9_add_92 : decode cX9_add 92 = .ok (.if_icmp .ge 47, 3) := by decide +kernel
theorem dX9_add_95 : decode cX9_add 95 = .ok (.aload_n 0, 1) := by decide +kernel
theorem dX9_add_96 : decode cX9_add 96 = .ok (.getfield 13, 3) := by decide +kernel
theorem dX9_add_99 : decode cX9_add 99 = .ok (.bipush 120, 2) := by decide +kernel
theorem dX9_add_101 : decode cX9_add 101 = .ok (.iload_n 1, 1) := by decide +kernel
theorem dX9_add_102 : decode cX9_add 102 = .ok (.imul, 1) := by decide +kernel
theorem dX9_add_103 : decode cX9_add 103 = .ok (.aload_n 0, 1) := by decide +kernel
theorem dX9_add_104 : decode cX9_add 104 = .ok (.getfield 7, 3) := by decide +kernel
theorem dX9_add_107 : decode cX9_add 107 = .ok (.iload_n 1, 1) := by decide +kernel
theorem dX9_add_108 : decode cX9_add 108 = .ok (.iaload, 1) := by decide +kernel
theorem dX9_add_109 : decode cX9_add 109 = .ok (.iadd, 1) := by decide +kernel
theorem dX9_add_110 : decode cX9_add 110 = .ok (.iload 6, 2) := by decide +kernel
theorem dX9_add_112 : decode cX9_add 112 = .ok (.iastore, 1) := by decide +kernel
theorem dX9_add_113 : decode cX9_add 113 = .ok (.aload_n 0, 1) := by decide +kernel
theorem dX9_add_114 : decode cX9_add 114 = .ok (.getfield 7, 3) := by decide +kernel
theorem dX9_add_117 : decode cX9_add 117 = .ok (.iload_n 1, 1) := by decide +kernel
theorem dX9_add_118 : decode cX9_add 118 = .ok (.dup2, 1) := by decide +kernel
theorem dX9_add_119 : decode cX9_add 119 = .ok (.iaload, 1) := by decide +kernel
theorem dX9_add_120 : decode cX9_add 120 = .ok (.iconst 1, 1) := by decide +kernel
theorem dX9_add_121 : decode cX9_add 121 = .ok (.iadd, 1) := by decide +kernel
theorem dX9_add_122 : decode cX9_add 122 = .ok (.iastore, 1) := by decide +kernel
theorem dX9_add_123 : decode cX9_add 123 = .ok (.iload 6, 2) := by decide +kernel
theorem dX9_add_125 : decode cX9_add 125 = .ok (.iload_n 3, 1) := by decide +kernel
theorem dX9_add_126 : decode cX9_add 126 = .ok (.iadd, 1) := by decide +kernel
theorem dX9_add_127 : decode cX9_add 127 = .ok (.sipush 256, 3) := by decide +kernel
theorem dX9_add_130 : decode cX9_add 130 = .ok (.irem, 1) := by decide +kernel
theorem dX9_add_131 : decode cX9_add 131 = .ok (.istore 6, 2) := by decide +kernel
theorem dX9_add_133 : decode cX9_add 133 = .ok (.iinc 7 1, 3) := by decide +kernel
theorem dX9_add_136 : decode cX9_add 136 = .ok (.goto (-48), 3) := by decide +kernel
theorem dX9_add_139 : decode cX9_add 139 = .ok (.aload_n 0, 1) := by decide +kernel
theorem dX9_add_140 : decode cX9_add 140 = .ok (.getfield 7, 3) := by decide +kernel
theorem dX9_add_143 : decode cX9_add 143 = .ok (.iload_n 1, 1) := by decide +kernel
theorem dX9_add_144 : decode cX9_add 144 = .ok (.iaload, 1) := by decide +kernel
theorem dX9_add_145 : decode cX9_add 145 = .ok (.ireturn, 1) := by decide +kernel
theorem dX9_insert_0 : decode cX9_insert 0 = .ok (.aload_n 0, 1) := by decide +kernel
theorem dX9_insert_1 : decode cX9_insert 1 = .ok (.iload_n 1, 1) := by decide +kernel
theorem dX9_insert_2 : decode cX9_insert 2 = .ok (.invokevirtual 114, 3) := by decide +kernel
theorem dX9_insert_5 : decode cX9_insert 5 = .ok (.ifCond .eq 21, 3) := by decide +kernel
theorem dX9_insert_8 : decode cX9_insert 8 = .ok (.iload_n 2, 1) := by decide +kernel
theorem dX9_insert_9 : decode cX9_insert 9 = .ok (.ifCond .lt 17, 3) := by decide +kernel
theorem dX9_insert_12 : decode cX9_insert 12 = .ok (.iload_n 2, 1) := by decide +kernel
theorem dX9_insert_13 : decode cX9_insert 13 = .ok (.aload_n 0, 1) := by decide +kernel
theorem dX9_insert_14 : decode cX9_insert 14 = .ok (.getfield 7, 3) := by decide +kernel
theorem dX9_insert_17 : decode cX9_insert 17 = .ok (.iload_n 1, 1) := by decide +kernel
theorem dX9_insert_18 : decode cX9_insert 18 = .ok (.iaload, 1) := by decide +kernel
theorem dX9_insert_19 : decode cX9_insert 19 = .ok (.if_icmp .gt 7, 3) := by decide +kernel
theorem dX9_insert_22 : decode cX9_insert 22 = .ok (.iconst 1, 1) := by decide +kernel
theorem dX9_insert_23 : decode cX9_insert 23 = .ok (.goto 4, 3) := by decide +kernel
theorem dX9_insert_26 : decode cX9_insert 26 = .ok (.iconst 0, 1) := by decide +kernel
theorem dX9_insert_27 : decode cX9_insert 27 = .ok (.istore 4, 2) := by decide +kernel
theorem dX9_insert_29 : decode cX9_insert 29 = .ok (.aload_n 0, 1) := by decide +kernel
theorem dX9_insert_30 : decode cX9_insert 30 = .ok (.iload 4, 2) := by decide +kernel
theorem dX9_insert_32 : decode cX9_insert 32 = .ok (.iload_n 3, 1) := by decide +kernel
theorem dX9_insert_33 : decode cX9_insert 33 = .ok (.invokestatic 110, 3) := by decide +kernel
theorem dX9_insert_36 : decode cX9_insert 36 = .ok (.iload 4, 2) := by decide +kernel
theorem dX9_insert_38 : decode cX9_insert 38 = .ok (.ifCond .eq 18, 3) := by decide +kernel
theorem dX9_insert_41 : decode cX9_insert 41 = .ok (.aload_n 0, 1) := by decide +kernel
theorem dX9_insert_42 : decode cX9_insert 42 = .ok (.getfield 7, 3) := by decide +kernel
theorem dX9_insert_45 : decode cX9_insert 45 = .ok (.iload_n 1, 1) := by decide +kernel
theorem dX9_insert_46 : decode cX9_insert 46 = .ok (.iaload, 1) := by decide +kernel
theorem dX9_insert_47 : decode cX9_insert 47 = .ok (.bipush 120, 2) := by decide +kernel
theorem dX9_insert_49 : decode cX9_insert 49 = .ok (.if_icmp .ge 7, 3) := by decide +kernel
theorem dX9_insert_52 : decode cX9_insert 52 = .ok (.iconst 1, 1) := by decide +kernel
theorem dX9_insert_53 : decode cX9_insert 53 = .ok (.goto 4, 3) := by decide +kernel
theorem dX9_insert_56 : decode cX9_insert 56 = .ok (.iconst 0, 1) := by decide +kernel
theorem dX9_insert_57 : decode cX9_insert 57 = .ok (.invokevirtual 117, 3) := by decide +kernel
theorem dX9_insert_60 : decode cX9_insert 60 = .ok (.ifCond .ne 5, 3) := by decide +kernel
theorem dX9_insert_63 : decode cX9_insert 63 = .ok (.iconst 0, 1) := by decide +kernel
theorem dX9_insert_64 : decode cX9_insert 64 = .ok (.ireturn, 1) := by decide +kernel
theorem dX9_insert_65 : decode cX9_insert 65 = .ok (.aload_n 0, 1) := by decide +kernel
theorem dX9_insert_66 : decode cX9_insert 66 = .ok (.getfield 7, 3) := by decide +kernel
theorem dX9_insert_69 : decode cX9_insert 69 = .ok (.iload_n 1, 1) := by decide +kernel
theorem dX9_insert_70 : decode cX9_insert 70 = .ok (.iaload, 1) := by decide +kernel
theorem dX9_insert_71 : decode cX9_insert 71 = .ok (.istore 5, 2) := by decide +kernel
theorem dX9_insert_73 : decode cX9_insert 73 = .ok (.iload 5, 2) := by decide +kernel
theorem dX9_insert_75 : decode cX9_insert 75 = .ok (.iload_n 2, 1) := by decide +kernel
theorem dX9_insert_76 : decode cX9_insert 76 = .ok (.if_icmp .le 35, 3) := by decide +kernel
theorem dX9_insert_79 : decode cX9_insert 79 = .ok (.aload_n 0, 1) := by decide +kernel
theorem dX9_insert_80 : decode cX9_insert 80 = .ok (.getfield 13, 3) := by decide +kernel
theorem dX9_insert_83 : decode cX9_insert 83 = .ok (.bipush 120, 2) := by decide +kernel
theorem dX9_insert_85 : decode cX9_insert 85 = .ok (.iload_n 1, 1) := by decide +kernel
theorem dX9_insert_86 : decode cX9_insert 86 = .ok (.imul, 1) := by decide +kernel
theorem dX9_insert_87 : decode cX9_insert 87 = .ok (.iload 5, 2) := by decide +kernel
theorem dX9_insert_89 : decode cX9_insert 89 = .ok (.iadd, 1) := by decide +kernel
theorem dX9_insert_90 : decode cX9_insert 90 = .ok (.aload_n 0, 1) := by decide +kernel
theorem dX9_insert_91 : decode cX9_insert 91 = .ok (.getfield 13, 3) := by decide +kernel
theorem dX9_insert_94 : decode cX9_insert 94 = .ok (.bipush 120, 2) := by decide +kernel
theorem dX9_insert_96 : decode cX9_insert 96 = .ok (.iload_n 1, 1) := by decide +kernel
theorem dX9_insert_97 : decode cX9_insert 97 = .ok (.imul, 1) := by decide +kernel
theorem dX9_insert_98 : decode cX9_insert 98 = .ok (.iload 5, 2) := by decide +kernel
theorem dX9_insert_100 : decode cX9_insert 100 = .ok (.iadd, 1) := by decide +kernel
theorem dX9_insert_101 : decode cX9_insert 101 = .ok (.iconst 1, 1) := by decide +kernel
theorem dX9_insert_102 : decode cX9_insert 102 = .ok (.isub, 1) := by decide +kernel
theorem dX9_insert_103 : decode cX9_insert 103 = .ok (.iaload, 1) := by decide +kernel
theorem dX9_insert_104 : decode cX9_insert 104 = .ok (.iastore, 1) := by decide +kernel
theorem dX9_insert_105 : decode cX9_insert 105 = .ok (.iinc 5 (-1), 3) := by decide +kernel
theorem dX9_insert_108 : decode cX9_insert 108 = .ok (.goto (-35), 3) := by decide +kernel
theorem dX9_insert_111 : decode cX9_insert 111 = .ok (.aload_n 0, 1) := by decide +kernel
theorem dX9_insert_112 : decode cX9_insert 112 = .ok (.getfield 13, 3) := by decide +kernel
theorem dX9_insert_115 : decode cX9_insert 115 = .ok (.bipush 120, 2) := by decide +kernel
theorem dX9_insert_117 : decode cX9_insert 117 = .ok (.iload_n 1, 1) := by decide +kernel
theorem dX9_insert_118 : decode cX9_insert 118 = .ok (.imul, 1) := by decide +kernel
theorem dX9_insert_119 : decode cX9_insert 119 = .ok (.iload_n 2, 1) := by decide +kernel
theorem dX9_insert_120 : decode cX9_insert 120 = .ok (.iadd, 1) := by decide +kernel
theorem dX9_insert_121 : decode cX9_insert 121 = .ok (.iload_n 3, 1) := by decide +kernel
theorem dX9_insert_122 : decode cX9_insert 122 = .ok (.iastore, 1) := by decide +kernel
theorem dX9_insert_123 : decode cX9_insert 123 = .ok (.aload_n 0, 1) := by decide +kernel
theorem dX9_insert_124 : decode cX9_insert 124 = .ok (.getfield 7, 3) := by decide +kernel
theorem dX9_insert_127 : decode cX9_insert 127 = .ok (.iload_n 1, 1) := by decide +kernel
theorem dX9_insert_128 : decode cX9_insert 128 = .ok (.dup2, 1) := by decide +kernel
theorem dX9_insert_129 : decode cX9_insert 129 = .ok (.iaload, 1) := by decide +kernel
theorem dX9_insert_130 : decode cX9_insert 130 = .ok (.iconst 1, 1) := by decide +kernel
theorem dX9_insert_131 : decode cX9_insert 131 = .ok (.iadd, 1) := by decide +kernel
theorem dX9_insert_132 : decode cX9_insert 132 = .ok (.iastore, 1) := by decide +kernel
theorem dX9_insert_133 : decode cX9_insert 133 = .ok (.aload_n 0, 1) := by decide +kernel
theorem dX9_insert_134 : decode cX9_insert 134 = .ok (.getfield 7, 3) := by decide +kernel
theorem dX9_insert_137 : decode cX9_insert 137 = .ok (.iload_n 1, 1) := by decide +kernel
theorem dX9_insert_138 : decode cX9_insert 138 = .ok (.iaload, 1) := by decide +kernel
theorem dX9_insert_139 : decode cX9_insert 139 = .ok (.ireturn, 1) := by decide +kernel
theorem dX9_remove_0 : decode cX9_remove 0 = .ok (.aload_n 0, 1) := by decide +kernel
theorem dX9_remove_1 : decode cX9_remove 1 = .ok (.iload_n 1, 1) := by decide +kernel
theorem dX9_remove_2 : decode cX9_remove 2 = .ok (.invokevirtual 114, 3) := by decide +kernel
theorem dX9_remove_5 : decode cX9_remove 5 = .ok (.ifCond .eq 21, 3) := by decide +kernel
theorem dX9_remove_8 : decode cX9_remove 8 = .ok (.iload_n 2, 1) := by decide +kernel
theorem dX9_remove_9 : decode cX9_remove 9 = .ok (.ifCond .lt 17, 3) := by decide +kernel
theorem dX9_remove_12 : decode cX9_remove 12 = .ok (.iload_n 2, 1) := by decide +kernel
theorem dX9_remove_13 : decode cX9_remove 13 = .ok (.aload_n 0, 1) := by decide +kernel
theorem dX9_remove_14 : decode cX9_remove 14 = .ok (.getfield 7, 3) := by decide +kernel
theorem dX9_remove_17 : decode cX9_remove 17 = .ok (.iload_n 1, 1) := by decide +kernel
theorem dX9_remove_18 : decode cX9_remove 18 = .ok (.iaload, 1) := by decide +kernel
theorem dX9_remove_19 : decode cX9_remove 19 = .ok (.if_icmp .gt 7, 3) := by decide +kernel
theorem dX9_remove_22 : decode cX9_remove 22 = .ok (.iconst 1, 1) := by decide +kernel
theorem dX9_remove_23 : decode cX9_remove 23 = .ok (.goto 4, 3) := by decide +kernel
theorem dX9_remove_26 : decode cX9_remove 26 = .ok (.iconst 0, 1) := by decide +kernel
theorem dX9_remove_27 : decode cX9_remove 27 = .ok (.istore 4, 2) := by decide +kernel
theorem dX9_remove_29 : decode cX9_remove 29 = .ok (.aload_n 0, 1) := by decide +kernel
theorem dX9_remove_30 : decode cX9_remove 30 = .ok (.iload 4, 2) := by decide +kernel
theorem dX9_remove_32 : decode cX9_remove 32 = .ok (.iload 4, 2) := by decide +kernel
theorem dX9_remove_34 : decode cX9_remove 34 = .ok (.ifCond .eq 23, 3) := by decide +kernel
theorem dX9_remove_37 : decode cX9_remove 37 = .ok (.iload_n 3, 1) := by decide +kernel
theorem dX9_remove_38 : decode cX9_remove 38 = .ok (.ifCond .lt 19, 3) := by decide +kernel
theorem dX9_remove_41 : decode cX9_remove 41 = .ok (.iload_n 3, 1) := by decide +kernel
theorem dX9_remove_42 : decode cX9_remove 42 = .ok (.aload_n 0, 1) := by decide +kernel
theorem dX9_remove_43 : decode cX9_remove 43 = .ok (.getfield 7, 3) := by decide +kernel
theorem dX9_remove_46 : decode cX9_remove 46 = .ok (.iload_n 1, 1) := by decide +kernel
theorem dX9_remove_47 : decode cX9_remove 47 = .ok (.iaload, 1) := by decide +kernel
theorem dX9_remove_48 : decode cX9_remove 48 = .ok (.iload_n 2, 1) := by decide +kernel
theorem dX9_remove_49 : decode cX9_remove 49 = .ok (.isub, 1) := by decide +kernel
theorem dX9_remove_50 : decode cX9_remove 50 = .ok (.if_icmp .gt 7, 3) := by decide +kernel
theorem dX9_remove_53 : decode cX9_remove 53 = .ok (.iconst 1, 1) := by decide +kernel
theorem dX9_remove_54 : decode cX9_remove 54 = .ok (.goto 4, 3) := by decide +kernel
theorem dX9_remove_57 : decode cX9_remove 57 = .ok (.iconst 0, 1) := by decide +kernel
theorem dX9_remove_58 : decode cX9_remove 58 = .ok (.invokevirtual 121, 3) := by decide +kernel
theorem dX9_remove_61 : decode cX9_remove 61 = .ok (.ifCond .ne 5, 3) := by decide +kernel
theorem dX9_remove_64 : decode cX9_remove 64 = .ok (.iconst 0, 1) := by decide +kernel
theorem dX9_remove_65 : decode cX9_remove 65 = .ok (.ireturn, 1) := by decide +kernel
theorem dX9_remove_66 : decode cX9_remove 66 = .ok (.aload_n 0, 1) := by decide +kernel
theorem dX9_remove_67 : decode cX9_remove 67 = .ok (.getfield 7, 3) := by decide +kernel
theorem dX9_remove_70 : decode cX9_remove 70 = .ok (.iload_n 1, 1) := by decide +kernel
theorem dX9_remove_71 : decode cX9_remove 71 = .ok (.dup2, 1) := by decide +kernel
theorem dX9_remove_72 : decode cX9_remove 72 = .ok (.iaload, 1) := by decide +kernel
theorem dX9_remove_73 : decode cX9_remove 73 = .ok (.iload_n 3, 1) := by decide +kernel
theorem dX9_remove_74 : decode cX9_remove 74 = .ok (.isub, 1) := by decide +kernel
theorem dX9_remove_75 : decode cX9_remove 75 = .ok (.iastore, 1) := by decide +kernel
theorem dX9_remove_76 : decode cX9_remove 76 = .ok (.iload_n 2, 1) := by decide +kernel
theorem dX9_remove_77 : decode cX9_remove 77 = .ok (.istore 5, 2) := by decide +kernel
theorem dX9_remove_79 : decode cX9_remove 79 = .ok (.iload 5, 2) := by decide +kernel
theorem dX9_remove_81 : decode cX9_remove 81 = .ok (.aload_n 0, 1) := by decide +kernel
theorem dX9_remove_82 : decode cX9_remove 82 = .ok (.getfield 7, 3) := by decide +kernel
theorem dX9_remove_85 : decode cX9_remove 85 = .ok (.iload_n 1, 1) := by decide +kernel
theorem dX9_remove_86 : decode cX9_remove 86 = .ok (.iaload, 1) := by decide +kernel
theorem dX9_remove_87 : decode cX9_remove 87 = .ok (.if_icmp .ge 35, 3) := by decide +kernel
theorem dX9_remove_90 : decode cX9_remove 90 = .ok (.aload_n 0, 1) := by decide +kernel
theorem dX9_remove_91 : decode cX9_remove 91 = .ok (.getfield 13, 3) := by decide +kernel
theorem dX9_remove_94 : decode cX9_remove 94 = .ok (.bipush 120, 2) := by decide +kernel
theorem dX9_remove_96 : decode cX9_remove 96 = .ok (.iload_n 1, 1) := by decide +kernel
theorem dX9_remove_97 : decode cX9_remove 97 = .ok (.imul, 1) := by decide +kernel
theorem dX9_remove_98 : decode cX9_remove 98 = .ok (.iload 5, 2) := by decide +kernel
theorem dX9_remove_100 : decode cX9_remove 100 = .ok (.iadd, 1) := by decide +kernel
theorem dX9_remove_101 : decode cX9_remove 101 = .ok (.aload_n 0, 1) := by decide +kernel
theorem dX9_remove_102 : decode cX9_remove 102 = .ok (.getfield 13, 3) := by decide +kernel
theorem dX9_remove_105 : decode cX9_remove 105 = .ok (.bipush 120, 2) := by decide +kernel
theorem dX9_remove_107 : decode cX9_remove 107 = .ok (.iload_n 1, 1) := by decide +kernel
theorem dX9_remove_108 : decode cX9_remove 108 = .ok (.imul, 1) := by decide +kernel
theorem dX9_remove_109 : decode cX9_remove 109 = .ok (.iload 5, 2) := by decide +kernel
theorem dX9_remove_111 : decode cX9_remove 111 = .ok (.iadd, 1) := by decide +kernel
theorem dX9_remove_112 : decode cX9_remove 112 = .ok (.iload_n 3, 1) := by decide +kernel
theorem dX9_remove_113 : decode cX9_remove 113 = .ok (.iadd, 1) := by decide +kernel
theorem dX9_remove_114 : decode cX9_remove 114 = .ok (.iaload, 1) := by decide +kernel
theorem dX9_remove_115 : decode cX9_remove 115 = .ok (.iastore, 1) := by decide +kernel
theorem dX9_remove_116 : decode cX9_remove 116 = .ok (.iinc 5 1, 3) := by decide +kernel
theorem dX9_remove_119 : decode cX9_remove 119 = .ok (.goto (-40), 3) := by decide +kernel
theorem dX9_remove_122 : decode cX9_remove 122 = .ok (.aload_n 0, 1) := by decide +kernel
theorem dX9_remove_123 : decode cX9_remove 123 = .ok (.getfield 7, 3) := by decide +kernel
theorem dX9_remove_126 : decode cX9_remove 126 = .ok (.iload_n 1, 1) := by decide +kernel
theorem dX9_remove_127 : decode cX9_remove 127 = .ok (.iaload, 1) := by decide +kernel
theorem dX9_remove_128 : decode cX9_remove 128 = .ok (.ireturn, 1) := by decide +kernel
theorem dX9_copy_0 : decode cX9_copy 0 = .ok (.aload_n 0, 1) := by decide +kernel
theorem dX9_copy_1 : decode cX9_copy 1 = .ok (.aload_n 0, 1) := by decide +kernel
theorem dX9_copy_2 : decode cX9_copy 2 = .ok (.iload_n 1, 1) := by decide +kernel
theorem dX9_copy_3 : decode cX9_copy 3 = .ok (.invokevirtual 114, 3) := by decide +kernel
theorem dX9_copy_6 : decode cX9_copy 6 = .ok (.ifCond .eq 15, 3) := by decide +kernel
theorem dX9_copy_9 : decode cX9_copy 9 = .ok (.aload_n 0, 1) := by decide +kernel
theorem dX9_copy_10 : decode cX9_copy 10 = .ok (.iload_n 2, 1) := by decide +kernel
theorem dX9_copy_11 : decode cX9_copy 11 = .ok (.invokevirtual 114, 3) := by decide +kernel
theorem dX9_copy_14 : decode cX9_copy 14 = .ok (.ifCond .eq 7, 3) := by decide +kernel
theorem dX9_copy_17 : decode cX9_copy 17 = .ok (.iconst 1, 1) := by decide +kernel
theorem dX9_copy_18 : decode cX9_copy 18 = .ok (.goto 4, 3) := by decide +kernel
theorem dX9_copy_21 : decode cX9_copy 21 = .ok (.iconst 0, 1) := by decide +kernel
theorem dX9_copy_22 : decode cX9_copy 22 = .ok (.invokevirtual 106, 3) := by decide +kernel
theorem dX9_copy_25 : decode cX9_copy 25 = .ok (.ifCond .eq 55, 3) := by decide +kernel
theorem dX9_copy_28 : decode cX9_copy 28 = .ok (.aload_n 0, 1) := by decide +kernel
theorem dX9_copy_29 : decode cX9_copy 29 = .ok (.getfield 7, 3) := by decide +kernel
theorem dX9_copy_32 : decode cX9_copy 32 = .ok (.iload_n 2, 1) := by decide +kernel
theorem dX9_copy_33 : decode cX9_copy 33 = .ok (.aload_n 0, 1) := by decide +kernel
theorem dX9_copy_34 : decode cX9_copy 34 = .ok (.getfield 7, 3) := by decide +kernel
theorem dX9_copy_37 : decode cX9_copy 37 = .ok (.iload_n 1, 1) := by decide +kernel
theorem dX9_copy_38 : decode cX9_copy 38 = .ok (.iaload, 1) := by decide +kernel
theorem dX9_copy_39 : decode cX9_copy 39 = .ok (.iastore, 1) := by decide +kernel
theorem dX9_copy_40 : decode cX9_copy 40 = .ok (.iconst 0, 1) := by decide +kernel
theorem dX9_copy_41 : decode cX9_copy 41 = .ok (.istore_n 3, 1) := by decide +kernel
theorem dX9_copy_42 : decode cX9_copy 42 = .ok (.iload_n 3, 1) := by decide +kernel
theorem dX9_copy_43 : decode cX9_copy 43 = .ok (.aload_n 0, 1) := by decide +kernel
theorem dX9_copy_44 : decode cX9_copy 44 = .ok (.getfield 7, 3) := by decide +kernel
theorem dX9_copy_47 : decode cX9_copy 47 = .ok (.iload_n 1, 1) := by decide +kernel
theorem dX9_copy_48 : decode cX9_copy 48 = .ok (.iaload, 1) := by decide +kernel
theorem dX9_copy_49 : decode cX9_copy 49 = .ok (.if_icmp .ge 31, 3) := by decide +kernel
theorem dX9_copy_52 : decode cX9_copy 52 = .ok (.aload_n 0, 1) := by decide +kernel
theorem dX9_copy_53 : decode cX9_copy 53 = .ok (.getfield 13, 3) := by decide +kernel
theorem dX9_copy_56 : decode cX9_copy 56 = .ok (.bipush 120, 2) := by decide +kernel
theorem dX9_copy_58 : decode cX9_copy 58 = .ok (.iload_n 2, 1) := by decide +kernel
theorem dX9_copy_59 : decode cX9_copy 59 = .ok (.imul, 1) := by decide +kernel
theorem dX9_copy_60 : decode cX9_copy 60 = .ok (.iload_n 3, 1) := by decide +kernel
theorem dX9_copy_61 : decode cX9_copy 61 = .ok (.iadd, 1) := by decide +kernel
theorem dX9_copy_62 : decode cX9_copy 62 = .ok (.aload_n 0, 1) := by decide +kernel
theorem dX9_copy_63 : decode cX9_copy 63 = .ok (.getfield 13, 3) := by decide +kernel
theorem dX9_copy_66 : decode cX9_copy 66 = .ok (.bipush 120, 2) := by decide +kernel
theorem dX9_copy_68 : decode cX9_copy 68 = .ok (.iload_n 1, 1) := by decide +kernel
theorem dX9_copy_69 : decode cX9_copy 69 = .ok (.imul, 1) := by decide +kernel
theorem dX9_copy_70 : decode cX9_copy 70 = .ok (.iload_n 3, 1) := by decide +kernel
theorem dX9_copy_71 : decode cX9_copy 71 = .ok (.iadd, 1) := by decide +kernel
theorem dX9_copy_72 : decode cX9_copy 72 = .ok (.iaload, 1) := by decide +kernel
theorem dX9_copy_73 : decode cX9_copy 73 = .ok (.iastore, 1) := by decide +kernel
theorem dX9_copy_74 : decode cX9_copy 74 = .ok (.iinc 3 1, 3) := by decide +kernel
theorem dX9_copy_77 : decode cX9_copy 77 = .ok (.goto (-35), 3) := by decide +kernel
theorem dX9_copy_80 : decode cX9_copy 80 = .ok (.return_, 1) := by decide +kernel
theorem dX9_length_0 : decode cX9_length 0 = .ok (.aload_n 0, 1) := by decide +kernel
theorem dX9_length_1 : decode cX9_length 1 = .ok (.aload_n 0, 1) := by decide +kernel
theorem dX9_length_2 : decode cX9_length 2 = .ok (.iload_n 1, 1) := by decide +kernel
theorem dX9_length_3 : decode cX9_length 3 = .ok (.invokevirtual 114, 3) := by decide +kernel
theorem dX9_length_6 : decode cX9_length 6 = .ok (.invokevirtual 106, 3) := by decide +kernel
theorem dX9_length_9 : decode cX9_length 9 = .ok (.ifCond .eq 12, 3) := by decide +kernel
theorem dX9_length_12 : decode cX9_length 12 = .ok (.aload_n 0, 1) := by decide +kernel
theorem dX9_length_13 : decode cX9_length 13 = .ok (.getfield 7, 3) := by decide +kernel
theorem dX9_length_16 : decode cX9_length 16 = .ok (.iload_n 1, 1) := by decide +kernel
theorem dX9_length_17 : decode cX9_length 17 = .ok (.iaload, 1) := by decide +kernel
theorem dX9_length_18 : decode cX9_length 18 = .ok (.goto 4, 3) := by decide +kernel
theorem dX9_length_21 : decode cX9_length 21 = .ok (.iconst 0, 1) := by decide +kernel
theorem dX9_length_22 : decode cX9_length 22 = .ok (.ireturn, 1) := by decide +kernel
theorem dX9_byteAt_0 : decode cX9_byteAt 0 = .ok (.aload_n 0, 1) := by decide +kernel
theorem dX9_byteAt_1 : decode cX9_byteAt 1 = .ok (.aload_n 0, 1) := by decide +kernel
theorem dX9_byteAt_2 : decode cX9_byteAt 2 = .ok (.iload_n 1, 1) := by decide +kernel
theorem dX9_byteAt_3 : decode cX9_byteAt 3 = .ok (.invokevirtual 114, 3) := by decide +kernel
theorem dX9_byteAt_6 : decode cX9_byteAt 6 = .ok (.ifCond .eq 21, 3) := by decide +kernel
theorem dX9_byteAt_9 : decode cX9_byteAt 9 = .ok (.iload_n 2, 1) := by decide +kernel
theorem dX9_byteAt_10 : decode cX9_byteAt 10 = .ok (.ifCond .lt 17, 3) := by decide +kernel
theorem dX9_byteAt_13 : decode cX9_byteAt 13 = .ok (.iload_n 2, 1) := by decide +kernel
theorem dX9_byteAt_14 : decode cX9_byteAt 14 = .ok (.aload_n 0, 1) := by decide +kernel
theorem dX9_byteAt_15 : decode cX9_byteAt 15 = .ok (.getfield 7, 3) := by decide +kernel
theorem dX9_byteAt_18 : decode cX9_byteAt 18 = .ok (.iload_n 1, 1) := by decide +kernel
theorem dX9_byteAt_19 : decode cX9_byteAt 19 = .ok (.iaload, 1) := by decide +kernel
theorem dX9_byteAt_20 : decode cX9_byteAt 20 = .ok (.if_icmp .ge 7, 3) := by decide +kernel
theorem dX9_byteAt_23 : decode cX9_byteAt 23 = .ok (.iconst 1, 1) := by decide +kernel
theorem dX9_byteAt_24 : decode cX9_byteAt 24 = .ok (.goto 4, 3) := by decide +kernel
theorem dX9_byteAt_27 : decode cX9_byteAt 27 = .ok (.iconst 0, 1) := by decide +kernel
theorem dX9_byteAt_28 : decode cX9_byteAt 28 = .ok (.invokevirtual 106, 3) := by decide +kernel
theorem dX9_byteAt_31 : decode cX9_byteAt 31 = .ok (.ifCond .eq 17, 3) := by decide +kernel
theorem dX9_byteAt_34 : decode cX9_byteAt 34 = .ok (.aload_n 0, 1) := by decide +kernel
theorem dX9_byteAt_35 : decode cX9_byteAt 35 = .ok (.getfield 13, 3) := by decide +kernel
theorem dX9_byteAt_38 : decode cX9_byteAt 38 = .ok (.bipush 120, 2) := by decide +kernel
theorem dX9_byteAt_40 : decode cX9_byteAt 40 = .ok (.iload_n 1, 1) := by decide +kernel
theorem dX9_byteAt_41 : decode cX9_byteAt 41 = .ok (.imul, 1) := by decide +kernel
theorem dX9_byteAt_42 : decode cX9_byteAt 42 = .ok (.iload_n 2, 1) := by decide +kernel
theorem dX9_byteAt_43 : decode cX9_byteAt 43 = .ok (.iadd, 1) := by decide +kernel
theorem dX9_byteAt_44 : decode cX9_byteAt 44 = .ok (.iaload, 1) := by decide +kernel
theorem dX9_byteAt_45 : decode cX9_byteAt 45 = .ok (.goto 4, 3) := by decide +kernel
theorem dX9_byteAt_48 : decode cX9_byteAt 48 = .ok (.iconst 0, 1) := by decide +kernel
theorem dX9_byteAt_49 : decode cX9_byteAt 49 = .ok (.ireturn, 1) := by decide +kernel
theorem dX9_same_0 : decode cX9_same 0 = .ok (.aload_n 0, 1) := by decide +kernel
theorem dX9_same_1 : decode cX9_same 1 = .ok (.aload_n 0, 1) := by decide +kernel
theorem dX9_same_2 : decode cX9_same 2 = .ok (.iload_n 1, 1) := by decide +kernel
theorem dX9_same_3 : decode cX9_same 3 = .ok (.invokevirtual 114, 3) := by decide +kernel
theorem dX9_same_6 : decode cX9_same 6 = .ok (.ifCond .eq 15, 3) := by decide +kernel
theorem dX9_same_9 : decode cX9_same 9 = .ok (.aload_n 0, 1) := by decide +kernel
theorem dX9_same_10 : decode cX9_same 10 = .ok (.iload_n 2, 1) := by decide +kernel
theorem dX9_same_11 : decode cX9_same 11 = .ok (.invokevirtual 114, 3) := by decide +kernel
theorem dX9_same_14 : decode cX9_same 14 = .ok (.ifCond .eq 7, 3) := by decide +kernel
theorem dX9_same_17 : decode cX9_same 17 = .ok (.iconst 1, 1) := by decide +kernel
theorem dX9_same_18 : decode cX9_same 18 = .ok (.goto 4, 3) := by decide +kernel
theorem dX9_same_21 : decode cX9_same 21 = .ok (.iconst 0, 1) := by decide +kernel
theorem dX9_same_22 : decode cX9_same 22 = .ok (.invokevirtual 106, 3) := by decide +kernel
theorem dX9_same_25 : decode cX9_same 25 = .ok (.ifCond .eq 18, 3) := by decide +kernel
theorem dX9_same_28 : decode cX9_same 28 = .ok (.aload_n 0, 1) := by decide +kernel
theorem dX9_same_29 : decode cX9_same 29 = .ok (.getfield 7, 3) := by decide +kernel
theorem dX9_same_32 : decode cX9_same 32 = .ok (.iload_n 1, 1) := by decide +kernel
theorem dX9_same_33 : decode cX9_same 33 = .ok (.iaload, 1) := by decide +kernel
theorem dX9_same_34 : decode cX9_same 34 = .ok (.aload_n 0, 1) := by decide +kernel
theorem dX9_same_35 : decode cX9_same 35 = .ok (.getfield 7, 3) := by decide +kernel
theorem dX9_same_38 : decode cX9_same 38 = .ok (.iload_n 2, 1) := by decide +kernel
theorem dX9_same_39 : decode cX9_same 39 = .ok (.iaload, 1) := by decide +kernel
theorem dX9_same_40 : decode cX9_same 40 = .ok (.if_icmp .eq 5, 3) := by decide +kernel
theorem dX9_same_43 : decode cX9_same 43 = .ok (.iconst 0, 1) := by decide +kernel
theorem dX9_same_44 : decode cX9_same 44 = .ok (.ireturn, 1) := by decide +kernel
theorem dX9_same_45 : decode cX9_same 45 = .ok (.iconst 0, 1) := by decide +kernel
theorem dX9_same_46 : decode cX9_same 46 = .ok (.istore_n 3, 1) := by decide +kernel
theorem dX9_same_47 : decode cX9_same 47 = .ok (.iload_n 3, 1) := by decide +kernel
theorem dX9_same_48 : decode cX9_same 48 = .ok (.aload_n 0, 1) := by decide +kernel
theorem dX9_same_49 : decode cX9_same 49 = .ok (.getfield 7, 3) := by decide +kernel
theorem dX9_same_52 : decode cX9_same 52 = .ok (.iload_n 1, 1) := by decide +kernel
theorem dX9_same_53 : decode cX9_same 53 = .ok (.iaload, 1) := by decide +kernel
theorem dX9_same_54 : decode cX9_same 54 = .ok (.if_icmp .ge 36, 3) := by decide +kernel
theorem dX9_same_57 : decode cX9_same 57 = .ok (.aload_n 0, 1) := by decide +kernel
theorem dX9_same_58 : decode cX9_same 58 = .ok (.getfield 13, 3) := by decide +kernel
theorem dX9_same_61 : decode cX9_same 61 = .ok (.bipush 120, 2) := by decide +kernel
theorem dX9_same_63 : decode cX9_same 63 = .ok (.iload_n 1, 1) := by decide +kernel
theorem dX9_same_64 : decode cX9_same 64 = .ok (.imul, 1) := by decide +kernel
theorem dX9_same_65 : decode cX9_same 65 = .ok (.iload_n 3, 1) := by decide +kernel
theorem dX9_same_66 : decode cX9_same 66 = .ok (.iadd, 1) := by decide +kernel
theorem dX9_same_67 : decode cX9_same 67 = .ok (.iaload, 1) := by decide +kernel
theorem dX9_same_68 : decode cX9_same 68 = .ok (.aload_n 0, 1) := by decide +kernel
theorem dX9_same_69 : decode cX9_same 69 = .ok (.getfield 13, 3) := by decide +kernel
theorem dX9_same_72 : decode cX9_same 72 = .ok (.bipush 120, 2) := by decide +kernel
theorem dX9_same_74 : decode cX9_same 74 = .ok (.iload_n 2, 1) := by decide +kernel
theorem dX9_same_75 : decode cX9_same 75 = .ok (.imul, 1) := by decide +kernel
theorem dX9_same_76 : decode cX9_same 76 = .ok (.iload_n 3, 1) := by decide +kernel
theorem dX9_same_77 : decode cX9_same 77 = .ok (.iadd, 1) := by decide +kernel
theorem dX9_same_78 : decode cX9_same 78 = .ok (.iaload, 1) := by decide +kernel
theorem dX9_same_79 : decode cX9_same 79 = .ok (.if_icmp .eq 5, 3) := by decide +kernel
theorem dX9_same_82 : decode cX9_same 82 = .ok (.iconst 0, 1) := by decide +kernel
theorem dX9_same_83 : decode cX9_same 83 = .ok (.ireturn, 1) := by decide +kernel
theorem dX9_same_84 : decode cX9_same 84 = .ok (.iinc 3 1, 3) := by decide +kernel
theorem dX9_same_87 : decode cX9_same 87 = .ok (.goto (-40), 3) := by decide +kernel
theorem dX9_same_90 : decode cX9_same 90 = .ok (.iconst 1, 1) := by decide +kernel
theorem dX9_same_91 : decode cX9_same 91 = .ok (.ireturn, 1) := by decide +kernel
theorem dX9_bring_0 : decode cX9_bring 0 = .ok (.aload_n 0, 1) := by decide +kernel
theorem dX9_bring_1 : decode cX9_bring 1 = .ok (.aload_n 0, 1) := by decide +kernel
theorem dX9_bring_2 : decode cX9_bring 2 = .ok (.getfield 7, 3) := by decide +kernel
theorem dX9_bring_5 : decode cX9_bring 5 = .ok (.iload_n 1, 1) := by decide +kernel
theorem dX9_bring_6 : decode cX9_bring 6 = .ok (.iaload, 1) := by decide +kernel
theorem dX9_bring_7 : decode cX9_bring 7 = .ok (.putfield 125, 3) := by decide +kernel
theorem dX9_bring_10 : decode cX9_bring 10 = .ok (.iconst 0, 1) := by decide +kernel
theorem dX9_bring_11 : decode cX9_bring 11 = .ok (.istore_n 2, 1) := by decide +kernel
theorem dX9_bring_12 : decode cX9_bring 12 = .ok (.iload_n 2, 1) := by decide +kernel
theorem dX9_bring_13 : decode cX9_bring 13 = .ok (.aload_n 0, 1) := by decide +kernel
theorem dX9_bring_14 : decode cX9_bring 14 = .ok (.getfield 125, 3) := by decide +kernel
theorem dX9_bring_17 : decode cX9_bring 17 = .ok (.if_icmp .ge 26, 3) := by decide +kernel
theorem dX9_bring_20 : decode cX9_bring 20 = .ok (.aload_n 0, 1) := by decide +kernel
theorem dX9_bring_21 : decode cX9_bring 21 = .ok (.getfield 72, 3) := by decide +kernel
theorem dX9_bring_24 : decode cX9_bring 24 = .ok (.iload_n 2, 1) := by decide +kernel
theorem dX9_bring_25 : decode cX9_bring 25 = .ok (.aload_n 0, 1) := by decide +kernel
theorem dX9_bring_26 : decode cX9_bring 26 = .ok (.getfield 13, 3) := by decide +kernel
theorem dX9_bring_29 : decode cX9_bring 29 = .ok (.bipush 120, 2) := by decide +kernel
theorem dX9_bring_31 : decode cX9_bring 31 = .ok (.iload_n 1, 1) := by decide +kernel
theorem dX9_bring_32 : decode cX9_bring 32 = .ok (.imul, 1) := by decide +kernel
theorem dX9_bring_33 : decode cX9_bring 33 = .ok (.iload_n 2, 1) := by decide +kernel
theorem dX9_bring_34 : decode cX9_bring 34 = .ok (.iadd, 1) := by decide +kernel
theorem dX9_bring_35 : decode cX9_bring 35 = .ok (.iaload, 1) := by decide +kernel
theorem dX9_bring_36 : decode cX9_bring 36 = .ok (.iastore, 1) := by decide +kernel
theorem dX9_bring_37 : decode cX9_bring 37 = .ok (.iinc 2 1, 3) := by decide +kernel
theorem dX9_bring_40 : decode cX9_bring 40 = .ok (.goto (-28), 3) := by decide +kernel
theorem dX9_bring_43 : decode cX9_bring 43 = .ok (.return_, 1) := by decide +kernel
theorem dX9_give_0 : decode cX9_give 0 = .ok (.aload_n 0, 1) := by decide +kernel
theorem dX9_give_1 : decode cX9_give 1 = .ok (.getfield 7, 3) := by decide +kernel
theorem dX9_give_4 : decode cX9_give 4 = .ok (.iload_n 1, 1) := by decide +kernel
theorem dX9_give_5 : decode cX9_give 5 = .ok (.aload_n 0, 1) := by decide +kernel
theorem dX9_give_6 : decode cX9_give 6 = .ok (.getfield 125, 3) := by decide +kernel
theorem dX9_give_9 : decode cX9_give 9 = .ok (.iastore, 1) := by decide +kernel
theorem dX9_give_10 : decode cX9_give 10 = .ok (.iconst 0, 1) := by decide +kernel
theorem dX9_give_11 : decode cX9_give 11 = .ok (.istore_n 2, 1) := by decide +kernel
theorem dX9_give_12 : decode cX9_give 12 = .ok (.iload_n 2, 1) := by decide +kernel
theorem dX9_give_13 : decode cX9_give 13 = .ok (.aload_n 0, 1) := by decide +kernel
theorem dX9_give_14 : decode cX9_give 14 = .ok (.getfield 125, 3) := by decide +kernel
theorem dX9_give_17 : decode cX9_give 17 = .ok (.if_icmp .ge 26, 3) := by decide +kernel
theorem dX9_give_20 : decode cX9_give 20 = .ok (.aload_n 0, 1) := by decide +kernel
theorem dX9_give_21 : decode cX9_give 21 = .ok (.getfield 13, 3) := by decide +kernel
theorem dX9_give_24 : decode cX9_give 24 = .ok (.bipush 120, 2) := by decide +kernel
theorem dX9_give_26 : decode cX9_give 26 = .ok (.iload_n 1, 1) := by decide +kernel
theorem dX9_give_27 : decode cX9_give 27 = .ok (.imul, 1) := by decide +kernel
theorem dX9_give_28 : decode cX9_give 28 = .ok (.iload_n 2, 1) := by decide +kernel
theorem dX9_give_29 : decode cX9_give 29 = .ok (.iadd, 1) := by decide +kernel
theorem dX9_give_30 : decode cX9_give 30 = .ok (.aload_n 0, 1) := by decide +kernel
theorem dX9_give_31 : decode cX9_give 31 = .ok (.getfield 72, 3) := by decide +kernel
theorem dX9_give_34 : decode cX9_give 34 = .ok (.iload_n 2, 1) := by decide +kernel
theorem dX9_give_35 : decode cX9_give 35 = .ok (.iaload, 1) := by decide +kernel
theorem dX9_give_36 : decode cX9_give 36 = .ok (.iastore, 1) := by decide +kernel
theorem dX9_give_37 : decode cX9_give 37 = .ok (.iinc 2 1, 3) := by decide +kernel
theorem dX9_give_40 : decode cX9_give 40 = .ok (.goto (-28), 3) := by decide +kernel
theorem dX9_give_43 : decode cX9_give 43 = .ok (.aload_n 0, 1) := by decide +kernel
theorem dX9_give_44 : decode cX9_give 44 = .ok (.getfield 125, 3) := by decide +kernel
theorem dX9_give_47 : decode cX9_give 47 = .ok (.ireturn, 1) := by decide +kernel
theorem dX9_weakOf_0 : decode cX9_weakOf 0 = .ok (.iconst 0, 1) := by decide +kernel
theorem dX9_weakOf_1 : decode cX9_weakOf 1 = .ok (.istore 4, 2) := by decide +kernel
theorem dX9_weakOf_3 : decode cX9_weakOf 3 = .ok (.iconst 0, 1) := by decide +kernel
theorem dX9_weakOf_4 : decode cX9_weakOf 4 = .ok (.istore 5, 2) := by decide +kernel
theorem dX9_weakOf_6 : decode cX9_weakOf 6 = .ok (.iconst 0, 1) := by decide +kernel
theorem dX9_weakOf_7 : decode cX9_weakOf 7 = .ok (.istore 6, 2) := by decide +kernel
theorem dX9_weakOf_9 : decode cX9_weakOf 9 = .ok (.iload 6, 2) := by decide +kernel
theorem dX9_weakOf_11 : decode cX9_weakOf 11 = .ok (.iload_n 2, 1) := by decide +kernel
theorem dX9_weakOf_12 : decode cX9_weakOf 12 = .ok (.if_icmp .ge 36, 3) := by decide +kernel
theorem dX9_weakOf_15 : decode cX9_weakOf 15 = .ok (.iload 4, 2) := by decide +kernel
theorem dX9_weakOf_17 : decode cX9_weakOf 17 = .ok (.aload_n 0, 1) := by decide +kernel
theorem dX9_weakOf_18 : decode cX9_weakOf 18 = .ok (.iload_n 1, 1) := by decide +kernel
theorem dX9_weakOf_19 : decode cX9_weakOf 19 = .ok (.iload 6, 2) := by decide +kernel
theorem dX9_weakOf_21 : decode cX9_weakOf 21 = .ok (.iadd, 1) := by decide +kernel
theorem dX9_weakOf_22 : decode cX9_weakOf 22 = .ok (.iaload, 1) := by decide +kernel
theorem dX9_weakOf_23 : decode cX9_weakOf 23 = .ok (.iadd, 1) := by decide +kernel
theorem dX9_weakOf_24 : decode cX9_weakOf 24 = .ok (.istore 4, 2) := by decide +kernel
theorem dX9_weakOf_26 : decode cX9_weakOf 26 = .ok (.iload 5, 2) := by decide +kernel
theorem dX9_weakOf_28 : decode cX9_weakOf 28 = .ok (.iload_n 2, 1) := by decide +kernel
theorem dX9_weakOf_29 : decode cX9_weakOf 29 = .ok (.iload 6, 2) := by decide +kernel
theorem dX9_weakOf_31 : decode cX9_weakOf 31 = .ok (.isub, 1) := by decide +kernel
theorem dX9_weakOf_32 : decode cX9_weakOf 32 = .ok (.aload_n 0, 1) := by decide +kernel
theorem dX9_weakOf_33 : decode cX9_weakOf 33 = .ok (.iload_n 1, 1) := by decide +kernel
theorem dX9_weakOf_34 : decode cX9_weakOf 34 = .ok (.iload 6, 2) := by decide +kernel
theorem dX9_weakOf_36 : decode cX9_weakOf 36 = .ok (.iadd, 1) := by decide +kernel
theorem dX9_weakOf_37 : decode cX9_weakOf 37 = .ok (.iaload, 1) := by decide +kernel
theorem dX9_weakOf_38 : decode cX9_weakOf 38 = .ok (.imul, 1) := by decide +kernel
theorem dX9_weakOf_39 : decode cX9_weakOf 39 = .ok (.iadd, 1) := by decide +kernel
theorem dX9_weakOf_40 : decode cX9_weakOf 40 = .ok (.istore 5, 2) := by decide +kernel
theorem dX9_weakOf_42 : decode cX9_weakOf 42 = .ok (.iinc 6 1, 3) := by decide +kernel
theorem dX9_weakOf_45 : decode cX9_weakOf 45 = .ok (.goto (-36), 3) := by decide +kernel
theorem dX9_weakOf_48 : decode cX9_weakOf 48 = .ok (.iload 5, 2) := by decide +kernel
theorem dX9_weakOf_50 : decode cX9_weakOf 50 = .ok (.iload_n 3, 1) := by decide +kernel
theorem dX9_weakOf_51 : decode cX9_weakOf 51 = .ok (.irem, 1) := by decide +kernel
theorem dX9_weakOf_52 : decode cX9_weakOf 52 = .ok (.iload_n 3, 1) := by decide +kernel
theorem dX9_weakOf_53 : decode cX9_weakOf 53 = .ok (.imul, 1) := by decide +kernel
theorem dX9_weakOf_54 : decode cX9_weakOf 54 = .ok (.iload 4, 2) := by decide +kernel
theorem dX9_weakOf_56 : decode cX9_weakOf 56 = .ok (.iload_n 3, 1) := by decide +kernel
theorem dX9_weakOf_57 : decode cX9_weakOf 57 = .ok (.irem, 1) := by decide +kernel
theorem dX9_weakOf_58 : decode cX9_weakOf 58 = .ok (.iadd, 1) := by decide +kernel
theorem dX9_weakOf_59 : decode cX9_weakOf 59 = .ok (.ireturn, 1) := by decide +kernel
theorem dX9_strongOf_0 : decode cX9_strongOf 0 = .ok (.lconst 0, 1) := by decide +kernel
theorem dX9_strongOf_1 : decode cX9_strongOf 1 = .ok (.lstore_n 3, 1) := by decide +kernel
theorem dX9_strongOf_2 : decode cX9_strongOf 2 = .ok (.iload_n 2, 1) := by decide +kernel
theorem dX9_strongOf_3 : decode cX9_strongOf 3 = .ok (.iconst 1, 1) := by decide +kernel
theorem dX9_strongOf_4 : decode cX9_strongOf 4 = .ok (.isub, 1) := by decide +kernel
theorem dX9_strongOf_5 : decode cX9_strongOf 5 = .ok (.istore 5, 2) := by decide +kernel
theorem dX9_strongOf_7 : decode cX9_strongOf 7 = .ok (.iload 5, 2) := by decide +kernel
theorem dX9_strongOf_9 : decode cX9_strongOf 9 = .ok (.ifCond .lt 25, 3) := by decide +kernel
theorem dX9_strongOf_12 : decode cX9_strongOf 12 = .ok (.ldc2_w 128, 3) := by decide +kernel
theorem dX9_strongOf_15 : decode cX9_strongOf 15 = .ok (.lload_n 3, 1) := by decide +kernel
theorem dX9_strongOf_16 : decode cX9_strongOf 16 = .ok (.lmul, 1) := by decide +kernel
theorem dX9_strongOf_17 : decode cX9_strongOf 17 = .ok (.aload_n 0, 1) := by decide +kernel
theorem dX9_strongOf_18 : decode cX9_strongOf 18 = .ok (.iload_n 1, 1) := by decide +kernel
theorem dX9_strongOf_19 : decode cX9_strongOf 19 = .ok (.iload 5, 2) := by decide +kernel
theorem dX9_strongOf_21 : decode cX9_strongOf 21 = .ok (.iadd, 1) := by decide +kernel
theorem dX9_strongOf_22 : decode cX9_strongOf 22 = .ok (.iaload, 1) := by decide +kernel
theorem dX9_strongOf_23 : decode cX9_strongOf 23 = .ok (.i2l, 1) := by decide +kernel
theorem dX9_strongOf_24 : decode cX9_strongOf 24 = .ok (.ladd, 1) := by decide +kernel
theorem dX9_strongOf_25 : decode cX9_strongOf 25 = .ok (.lconst 1, 1) := by decide +kernel
theorem dX9_strongOf_26 : decode cX9_strongOf 26 = .ok (.ladd, 1) := by decide +kernel
theorem dX9_strongOf_27 : decode cX9_strongOf 27 = .ok (.lstore_n 3, 1) := by decide +kernel
theorem dX9_strongOf_28 : decode cX9_strongOf 28 = .ok (.iinc 5 (-1), 3) := by decide +kernel
theorem dX9_strongOf_31 : decode cX9_strongOf 31 = .ok (.goto (-24), 3) := by decide +kernel
theorem dX9_strongOf_34 : decode cX9_strongOf 34 = .ok (.lload_n 3, 1) := by decide +kernel
theorem dX9_strongOf_35 : decode cX9_strongOf 35 = .ok (.lreturn, 1) := by decide +kernel
theorem dX9_signs_0 : decode cX9_signs 0 = .ok (.aload_n 0, 1) := by decide +kernel
theorem dX9_signs_1 : decode cX9_signs 1 = .ok (.getfield 16, 3) := by decide +kernel
theorem dX9_signs_4 : decode cX9_signs 4 = .ok (.iload_n 1, 1) := by decide +kernel
theorem dX9_signs_5 : decode cX9_signs 5 = .ok (.iload_n 2, 1) := by decide +kernel
theorem dX9_signs_6 : decode cX9_signs 6 = .ok (.iastore, 1) := by decide +kernel
theorem dX9_signs_7 : decode cX9_signs 7 = .ok (.aload_n 0, 1) := by decide +kernel
theorem dX9_signs_8 : decode cX9_signs 8 = .ok (.getfield 19, 3) := by decide +kernel
theorem dX9_signs_11 : decode cX9_signs 11 = .ok (.iload_n 1, 1) := by decide +kernel
theorem dX9_signs_12 : decode cX9_signs 12 = .ok (.iload_n 3, 1) := by decide +kernel
theorem dX9_signs_13 : decode cX9_signs 13 = .ok (.iastore, 1) := by decide +kernel
theorem dX9_signs_14 : decode cX9_signs 14 = .ok (.aload_n 0, 1) := by decide +kernel
theorem dX9_signs_15 : decode cX9_signs 15 = .ok (.getfield 22, 3) := by decide +kernel
theorem dX9_signs_18 : decode cX9_signs 18 = .ok (.iload_n 1, 1) := by decide +kernel
theorem dX9_signs_19 : decode cX9_signs 19 = .ok (.aload_n 0, 1) := by decide +kernel
theorem dX9_signs_20 : decode cX9_signs 20 = .ok (.getfield 125, 3) := by decide +kernel
theorem dX9_signs_23 : decode cX9_signs 23 = .ok (.iastore, 1) := by decide +kernel
theorem dX9_signs_24 : decode cX9_signs 24 = .ok (.aload_n 0, 1) := by decide +kernel
theorem dX9_signs_25 : decode cX9_signs 25 = .ok (.getfield 25, 3) := by decide +kernel
theorem dX9_signs_28 : decode cX9_signs 28 = .ok (.iload_n 1, 1) := by decide +kernel
theorem dX9_signs_29 : decode cX9_signs 29 = .ok (.aload_n 0, 1) := by decide +kernel
theorem dX9_signs_30 : decode cX9_signs 30 = .ok (.getfield 125, 3) := by decide +kernel
theorem dX9_signs_33 : decode cX9_signs 33 = .ok (.iload_n 2, 1) := by decide +kernel
theorem dX9_signs_34 : decode cX9_signs 34 = .ok (.iadd, 1) := by decide +kernel
theorem dX9_signs_35 : decode cX9_signs 35 = .ok (.iconst 1, 1) := by decide +kernel
theorem dX9_signs_36 : decode cX9_signs 36 = .ok (.isub, 1) := by decide +kernel
theorem dX9_signs_37 : decode cX9_signs 37 = .ok (.iload_n 2, 1) := by decide +kernel
theorem dX9_signs_38 : decode cX9_signs 38 = .ok (.idiv, 1) := by decide +kernel
theorem dX9_signs_39 : decode cX9_signs 39 = .ok (.iastore, 1) := by decide +kernel
theorem dX9_signs_40 : decode cX9_signs 40 = .ok (.iconst 0, 1) := by decide +kernel
theorem dX9_signs_41 : decode cX9_signs 41 = .ok (.istore 4, 2) := by decide +kernel
theorem dX9_signs_43 : decode cX9_signs 43 = .ok (.iload 4, 2) := by decide +kernel
theorem dX9_signs_45 : decode cX9_signs 45 = .ok (.aload_n 0, 1) := by decide +kernel
theorem dX9_signs_46 : decode cX9_signs 46 = .ok (.getfield 25, 3) := by decide +kernel
theorem dX9_signs_49 : decode cX9_signs 49 = .ok (.iload_n 1, 1) := by decide +kernel
theorem dX9_signs_50 : decode cX9_signs 50 = .ok (.iaload, 1) := by decide +kernel
theorem dX9_signs_51 : decode cX9_signs 51 = .ok (.if_icmp .ge 70, 3) := by decide +kernel
theorem dX9_signs_54 : decode cX9_signs 54 = .ok (.aload_n 0, 1) := by decide +kernel
theorem dX9_signs_55 : decode cX9_signs 55 = .ok (.getfield 28, 3) := by decide +kernel
theorem dX9_signs_58 : decode cX9_signs 58 = .ok (.bipush 120, 2) := by decide +kernel
theorem dX9_signs_60 : decode cX9_signs 60 = .ok (.iload_n 1, 1) := by decide +kernel
theorem dX9_signs_61 : decode cX9_signs 61 = .ok (.imul, 1) := by decide +kernel
theorem dX9_signs_62 : decode cX9_signs 62 = .ok (.iload 4, 2) := by decide +kernel
theorem dX9_signs_64 : decode cX9_signs 64 = .ok (.iadd, 1) := by decide +kernel
theorem dX9_signs_65 : decode cX9_signs 65 = .ok (.aload_n 0, 1) := by decide +kernel
theorem dX9_signs_66 : decode cX9_signs 66 = .ok (.getfield 72, 3) := by decide +kernel
theorem dX9_signs_69 : decode cX9_signs 69 = .ok (.iload 4, 2) := by decide +kernel
theorem dX9_signs_71 : decode cX9_signs 71 = .ok (.iload_n 2, 1) := by decide +kernel
theorem dX9_signs_72 : decode cX9_signs 72 = .ok (.imul, 1) := by decide +kernel
theorem dX9_signs_73 : decode cX9_signs 73 = .ok (.aload_n 0, 1) := by decide +kernel
theorem dX9_signs_74 : decode cX9_signs 74 = .ok (.iload_n 1, 1) := by decide +kernel
theorem dX9_signs_75 : decode cX9_signs 75 = .ok (.iload 4, 2) := by decide +kernel
theorem dX9_signs_77 : decode cX9_signs 77 = .ok (.invokevirtual 130, 3) := by decide +kernel
theorem dX9_signs_80 : decode cX9_signs 80 = .ok (.iload_n 3, 1) := by decide +kernel
theorem dX9_signs_81 : decode cX9_signs 81 = .ok (.invokestatic 134, 3) := by decide +kernel
theorem dX9_signs_84 : decode cX9_signs 84 = .ok (.iastore, 1) := by decide +kernel
theorem dX9_signs_85 : decode cX9_signs 85 = .ok (.aload_n 0, 1) := by decide +kernel
theorem dX9_signs_86 : decode cX9_signs 86 = .ok (.getfield 31, 3) := by decide +kernel
theorem dX9_signs_89 : decode cX9_signs 89 = .ok (.bipush 120, 2) := by decide +kernel
theorem dX9_signs_91 : decode cX9_signs 91 = .ok (.iload_n 1, 1) := by decide +kernel
theorem dX9_signs_92 : decode cX9_signs 92 = .ok (.imul, 1) := by decide +kernel
theorem dX9_signs_93 : decode cX9_signs 93 = .ok (.iload 4, 2) := by decide +kernel
theorem dX9_signs_95 : decode cX9_signs 95 = .ok (.iadd, 1) := by decide +kernel
theorem dX9_signs_96 : decode cX9_signs 96 = .ok (.aload_n 0, 1) := by decide +kernel
theorem dX9_signs_97 : decode cX9_signs 97 = .ok (.getfield 72, 3) := by decide +kernel
theorem dX9_signs_100 : decode cX9_signs 100 = .ok (.iload 4, 2) := by decide +kernel
theorem dX9_signs_102 : decode cX9_signs 102 = .ok (.iload_n 2, 1) := by decide +kernel
theorem dX9_signs_103 : decode cX9_signs 103 = .ok (.imul, 1) := by decide +kernel
theorem dX9_signs_104 : decode cX9_signs 104 = .ok (.aload_n 0, 1) := by decide +kernel
theorem dX9_signs_105 : decode cX9_signs 105 = .ok (.iload_n 1, 1) := by decide +kernel
theorem dX9_signs_106 : decode cX9_signs 106 = .ok (.iload 4, 2) := by decide +kernel
theorem dX9_signs_108 : decode cX9_signs 108 = .ok (.invokevirtual 130, 3) := by decide +kernel
theorem dX9_signs_111 : decode cX9_signs 111 = .ok (.invokestatic 138, 3) := by decide +kernel
theorem dX9_signs_114 : decode cX9_signs 114 = .ok (.lastore, 1) := by decide +kernel
theorem dX9_signs_115 : decode cX9_signs 115 = .ok (.iinc 4 1, 3) := by decide +kernel
theorem dX9_signs_118 : decode cX9_signs 118 = .ok (.goto (-75), 3) := by decide +kernel
theorem dX9_signs_121 : decode cX9_signs 121 = .ok (.return_, 1) := by decide +kernel
theorem dX9_lengthOf_0 : decode cX9_lengthOf 0 = .ok (.aload_n 0, 1) := by decide +kernel
theorem dX9_lengthOf_1 : decode cX9_lengthOf 1 = .ok (.getfield 22, 3) := by decide +kernel
theorem dX9_lengthOf_4 : decode cX9_lengthOf 4 = .ok (.iload_n 1, 1) := by decide +kernel
theorem dX9_lengthOf_5 : decode cX9_lengthOf 5 = .ok (.iaload, 1) := by decide +kernel
theorem dX9_lengthOf_6 : decode cX9_lengthOf 6 = .ok (.iload_n 2, 1) := by decide +kernel
theorem dX9_lengthOf_7 : decode cX9_lengthOf 7 = .ok (.aload_n 0, 1) := by decide +kernel
theorem dX9_lengthOf_8 : decode cX9_lengthOf 8 = .ok (.getfield 16, 3) := by decide +kernel
theorem dX9_lengthOf_11 : decode cX9_lengthOf 11 = .ok (.iload_n 1, 1) := by decide +kernel
theorem dX9_lengthOf_12 : decode cX9_lengthOf 12 = .ok (.iaload, 1) := by decide +kernel
theorem dX9_lengthOf_13 : decode cX9_lengthOf 13 = .ok (.imul, 1) := by decide +kernel
theorem dX9_lengthOf_14 : decode cX9_lengthOf 14 = .ok (.isub, 1) := by decide +kernel
theorem dX9_lengthOf_15 : decode cX9_lengthOf 15 = .ok (.istore_n 3, 1) := by decide +kernel
theorem dX9_lengthOf_16 : decode cX9_lengthOf 16 = .ok (.iload_n 3, 1) := by decide +kernel
theorem dX9_lengthOf_17 : decode cX9_lengthOf 17 = .ok (.aload_n 0, 1) := by decide +kernel
theorem dX9_lengthOf_18 : decode cX9_lengthOf 18 = .ok (.getfield 16, 3) := by decide +kernel
theorem dX9_lengthOf_21 : decode cX9_lengthOf 21 = .ok (.iload_n 1, 1) := by decide +kernel
theorem dX9_lengthOf_22 : decode cX9_lengthOf 22 = .ok (.iaload, 1) := by decide +kernel
theorem dX9_lengthOf_23 : decode cX9_lengthOf 23 = .ok (.if_icmp .ge 7, 3) := by decide +kernel
theorem dX9_lengthOf_26 : decode cX9_lengthOf 26 = .ok (.iload_n 3, 1) := by decide +kernel
theorem dX9_lengthOf_27 : decode cX9_lengthOf 27 = .ok (.goto 9, 3) := by decide +kernel
theorem dX9_lengthOf_30 : decode cX9_lengthOf 30 = .ok (.aload_n 0, 1) := by decide +kernel
theorem dX9_lengthOf_31 : decode cX9_lengthOf 31 = .ok (.getfield 16, 3) := by decide +kernel
theorem dX9_lengthOf_34 : decode cX9_lengthOf 34 = .ok (.iload_n 1, 1) := by decide +kernel
theorem dX9_lengthOf_35 : decode cX9_lengthOf 35 = .ok (.iaload, 1) := by decide +kernel
theorem dX9_lengthOf_36 : decode cX9_lengthOf 36 = .ok (.ireturn, 1) := by decide +kernel
theorem dX9_sign_0 : decode cX9_sign 0 = .ok (.iload_n 3, 1) := by decide +kernel
theorem dX9_sign_1 : decode cX9_sign 1 = .ok (.iconst 1, 1) := by decide +kernel
theorem dX9_sign_2 : decode cX9_sign 2 = .ok (.if_icmp .lt 27, 3) := by decide +kernel
theorem dX9_sign_5 : decode cX9_sign 5 = .ok (.iload_n 3, 1) := by decide +kernel
theorem dX9_sign_6 : decode cX9_sign 6 = .ok (.bipush 7, 2) := by decide +kernel
theorem dX9_sign_8 : decode cX9_sign 8 = .ok (.if_icmp .gt 21, 3) := by decide +kernel
theorem dX9_sign_11 : decode cX9_sign 11 = .ok (.iload 4, 2) := by decide +kernel
theorem dX9_sign_13 : decode cX9_sign 13 = .ok (.iconst 1, 1) := by decide +kernel
theorem dX9_sign_14 : decode cX9_sign 14 = .ok (.if_icmp .lt 15, 3) := by decide +kernel
theorem dX9_sign_17 : decode cX9_sign 17 = .ok (.iload 4, 2) := by decide +kernel
theorem dX9_sign_19 : decode cX9_sign 19 = .ok (.sipush 4096, 3) := by decide +kernel
theorem dX9_sign_22 : decode cX9_sign 22 = .ok (.if_icmp .gt 7, 3) := by decide +kernel
theorem dX9_sign_25 : decode cX9_sign 25 = .ok (.iconst 1, 1) := by decide +kernel
theorem dX9_sign_26 : decode cX9_sign 26 = .ok (.goto 4, 3) := by decide +kernel
theorem dX9_sign_29 : decode cX9_sign 29 = .ok (.iconst 0, 1) := by decide +kernel
theorem dX9_sign_30 : decode cX9_sign 30 = .ok (.istore 5, 2) := by decide +kernel
theorem dX9_sign_32 : decode cX9_sign 32 = .ok (.aload_n 0, 1) := by decide +kernel
theorem dX9_sign_33 : decode cX9_sign 33 = .ok (.iload_n 1, 1) := by decide +kernel
theorem dX9_sign_34 : decode cX9_sign 34 = .ok (.invokestatic 142, 3) := by decide +kernel
theorem dX9_sign_37 : decode cX9_sign 37 = .ok (.ifCond .eq 15, 3) := by decide +kernel
theorem dX9_sign_40 : decode cX9_sign 40 = .ok (.aload_n 0, 1) := by decide +kernel
theorem dX9_sign_41 : decode cX9_sign 41 = .ok (.iload_n 2, 1) := by decide +kernel
theorem dX9_sign_42 : decode cX9_sign 42 = .ok (.invokevirtual 114, 3) := by decide +kernel
theorem dX9_sign_45 : decode cX9_sign 45 = .ok (.ifCond .eq 7, 3) := by decide +kernel
theorem dX9_sign_48 : decode cX9_sign 48 = .ok (.iconst 1, 1) := by decide +kernel
theorem dX9_sign_49 : decode cX9_sign 49 = .ok (.goto 4, 3) := by decide +kernel
theorem dX9_sign_52 : decode cX9_sign 52 = .ok (.iconst 0, 1) := by decide +kernel
theorem dX9_sign_53 : decode cX9_sign 53 = .ok (.iload 5, 2) := by decide +kernel
theorem dX9_sign_55 : decode cX9_sign 55 = .ok (.invokevirtual 121, 3) := by decide +kernel
theorem dX9_sign_58 : decode cX9_sign 58 = .ok (.ifCond .ne 5, 3) := by decide +kernel
theorem dX9_sign_61 : decode cX9_sign 61 = .ok (.iconst 0, 1) := by decide +kernel
theorem dX9_sign_62 : decode cX9_sign 62 = .ok (.ireturn, 1) := by decide +kernel
theorem dX9_sign_63 : decode cX9_sign 63 = .ok (.aload_n 0, 1) := by decide +kernel
theorem dX9_sign_64 : decode cX9_sign 64 = .ok (.iload_n 2, 1) := by decide +kernel
theorem dX9_sign_65 : decode cX9_sign 65 = .ok (.invokevirtual 145, 3) := by decide +kernel
theorem dX9_sign_68 : decode cX9_sign 68 = .ok (.aload_n 0, 1) := by decide +kernel
theorem dX9_sign_69 : decode cX9_sign 69 = .ok (.iload_n 1, 1) := by decide +kernel
theorem dX9_sign_70 : decode cX9_sign 70 = .ok (.iload_n 3, 1) := by decide +kernel
theorem dX9_sign_71 : decode cX9_sign 71 = .ok (.iload 4, 2) := by decide +kernel
theorem dX9_sign_73 : decode cX9_sign 73 = .ok (.invokevirtual 149, 3) := by decide +kernel
theorem dX9_sign_76 : decode cX9_sign 76 = .ok (.aload_n 0, 1) := by decide +kernel
theorem dX9_sign_77 : decode cX9_sign 77 = .ok (.getfield 25, 3) := by decide +kernel
theorem dX9_sign_80 : decode cX9_sign 80 = .ok (.iload_n 1, 1) := by decide +kernel
theorem dX9_sign_81 : decode cX9_sign 81 = .ok (.iaload, 1) := by decide +kernel
theorem dX9_sign_82 : decode cX9_sign 82 = .ok (.ireturn, 1) := by decide +kernel
theorem dX9_blocks_0 : decode cX9_blocks 0 = .ok (.aload_n 0, 1) := by decide +kernel
theorem dX9_blocks_1 : decode cX9_blocks 1 = .ok (.iload_n 1, 1) := by decide +kernel
theorem dX9_blocks_2 : decode cX9_blocks 2 = .ok (.invokestatic 142, 3) := by decide +kernel
theorem dX9_blocks_5 : decode cX9_blocks 5 = .ok (.invokevirtual 106, 3) := by decide +kernel
theorem dX9_blocks_8 : decode cX9_blocks 8 = .ok (.ifCond .eq 12, 3) := by decide +kernel
theorem dX9_blocks_11 : decode cX9_blocks 11 = .ok (.aload_n 0, 1) := by decide +kernel
theorem dX9_blocks_12 : decode cX9_blocks 12 = .ok (.getfield 25, 3) := by decide +kernel
theorem dX9_blocks_15 : decode cX9_blocks 15 = .ok (.iload_n 1, 1) := by decide +kernel
theorem dX9_blocks_16 : decode cX9_blocks 16 = .ok (.iaload, 1) := by decide +kernel
theorem dX9_blocks_17 : decode cX9_blocks 17 = .ok (.goto 4, 3) := by decide +kernel
theorem dX9_blocks_20 : decode cX9_blocks 20 = .ok (.iconst 0, 1) := by decide +kernel
theorem dX9_blocks_21 : decode cX9_blocks 21 = .ok (.ireturn, 1) := by decide +kernel
theorem dX9_isBlock_0 : decode cX9_isBlock 0 = .ok (.iload_n 1, 1) := by decide +kernel
theorem dX9_isBlock_1 : decode cX9_isBlock 1 = .ok (.invokestatic 142, 3) := by decide +kernel
theorem dX9_isBlock_4 : decode cX9_isBlock 4 = .ok (.ifCond .eq 21, 3) := by decide +kernel
theorem dX9_isBlock_7 : decode cX9_isBlock 7 = .ok (.iload_n 2, 1) := by decide +kernel
theorem dX9_isBlock_8 : decode cX9_isBlock 8 = .ok (.ifCond .lt 17, 3) := by decide +kernel
theorem dX9_isBlock_11 : decode cX9_isBlock 11 = .ok (.iload_n 2, 1) := by decide +kernel
theorem dX9_isBlock_12 : decode cX9_isBlock 12 = .ok (.aload_n 0, 1) := by decide +kernel
theorem dX9_isBlock_13 : decode cX9_isBlock 13 = .ok (.getfield 25, 3) := by decide +kernel
theorem dX9_isBlock_16 : decode cX9_isBlock 16 = .ok (.iload_n 1, 1) := by decide +kernel
theorem dX9_isBlock_17 : decode cX9_isBlock 17 = .ok (.iaload, 1) := by decide +kernel
theorem dX9_isBlock_18 : decode cX9_isBlock 18 = .ok (.if_icmp .ge 7, 3) := by decide +kernel
theorem dX9_isBlock_21 : decode cX9_isBlock 21 = .ok (.iconst 1, 1) := by decide +kernel
theorem dX9_isBlock_22 : decode cX9_isBlock 22 = .ok (.goto 4, 3) := by decide +kernel
theorem dX9_isBlock_25 : decode cX9_isBlock 25 = .ok (.iconst 0, 1) := by decide +kernel
theorem dX9_isBlock_26 : decode cX9_isBlock 26 = .ok (.ireturn, 1) := by decide +kernel
theorem dX9_weak_0 : decode cX9_weak 0 = .ok (.aload_n 0, 1) := by decide +kernel
theorem dX9_weak_1 : decode cX9_weak 1 = .ok (.aload_n 0, 1) := by decide +kernel
theorem dX9_weak_2 : decode cX9_weak 2 = .ok (.iload_n 1, 1) := by decide +kernel
theorem dX9_weak_3 : decode cX9_weak 3 = .ok (.iload_n 2, 1) := by decide +kernel
theorem dX9_weak_4 : decode cX9_weak 4 = .ok (.invokevirtual 153, 3) := by decide +kernel
theorem dX9_weak_7 : decode cX9_weak 7 = .ok (.invokevirtual 106, 3) := by decide +kernel
theorem dX9_weak_10 : decode cX9_weak 10 = .ok (.ifCond .eq 17, 3) := by decide +kernel
theorem dX9_weak_13 : decode cX9_weak 13 = .ok (.aload_n 0, 1) := by decide +kernel
theorem dX9_weak_14 : decode cX9_weak 14 = .ok (.getfield 28, 3) := by decide +kernel
theorem dX9_weak_17 : decode cX9_weak 17 = .ok (.bipush 120, 2) := by decide +kernel
theorem dX9_weak_19 : decode cX9_weak 19 = .ok (.iload_n 1, 1) := by decide +kernel
theorem dX9_weak_20 : decode cX9_weak 20 = .ok (.imul, 1) := by decide +kernel
theorem dX9_weak_21 : decode cX9_weak 21 = .ok (.iload_n 2, 1) := by decide +kernel
theorem dX9_weak_22 : decode cX9_weak 22 = .ok (.iadd, 1) := by decide +kernel
theorem dX9_weak_23 : decode cX9_weak 23 = .ok (.iaload, 1) := by decide +kernel
theorem dX9_weak_24 : decode cX9_weak 24 = .ok (.goto 4, 3) := by decide +kernel
theorem dX9_weak_27 : decode cX9_weak 27 = .ok (.iconst 0, 1) := by decide +kernel
theorem dX9_weak_28 : decode cX9_weak 28 = .ok (.ireturn, 1) := by decide +kernel
theorem dX9_strong_0 : decode cX9_strong 0 = .ok (.aload_n 0, 1) := by decide +kernel
theorem dX9_strong_1 : decode cX9_strong 1 = .ok (.aload_n 0, 1) := by decide +kernel
theorem dX9_strong_2 : decode cX9_strong 2 = .ok (.iload_n 1, 1) := by decide +kernel
theorem dX9_strong_3 : decode cX9_strong 3 = .ok (.iload_n 2, 1) := by decide +kernel
theorem dX9_strong_4 : decode cX9_strong 4 = .ok (.invokevirtual 153, 3) := by decide +kernel
theorem dX9_strong_7 : decode cX9_strong 7 = .ok (.invokevirtual 106, 3) := by decide +kernel
theorem dX9_strong_10 : decode cX9_strong 10 = .ok (.ifCond .eq 17, 3) := by decide +kernel
theorem dX9_strong_13 : decode cX9_strong 13 = .ok (.aload_n 0, 1) := by decide +kernel
theorem dX9_strong_14 : decode cX9_strong 14 = .ok (.getfield 31, 3) := by decide +kernel
theorem dX9_strong_17 : decode cX9_strong 17 = .ok (.bipush 120, 2) := by decide +kernel
theorem dX9_strong_19 : decode cX9_strong 19 = .ok (.iload_n 1, 1) := by decide +kernel
theorem dX9_strong_20 : decode cX9_strong 20 = .ok (.imul, 1) := by decide +kernel
theorem dX9_strong_21 : decode cX9_strong 21 = .ok (.iload_n 2, 1) := by decide +kernel
theorem dX9_strong_22 : decode cX9_strong 22 = .ok (.iadd, 1) := by decide +kernel
theorem dX9_strong_23 : decode cX9_strong 23 = .ok (.laload, 1) := by decide +kernel
theorem dX9_strong_24 : decode cX9_strong 24 = .ok (.goto 4, 3) := by decide +kernel
theorem dX9_strong_27 : decode cX9_strong 27 = .ok (.lconst 0, 1) := by decide +kernel
theorem dX9_strong_28 : decode cX9_strong 28 = .ok (.lreturn, 1) := by decide +kernel
theorem dX9_compares_0 : decode cX9_compares 0 = .ok (.bipush 120, 2) := by decide +kernel
theorem dX9_compares_2 : decode cX9_compares 2 = .ok (.iload_n 1, 1) := by decide +kernel
theorem dX9_compares_3 : decode cX9_compares 3 = .ok (.imul, 1) := by decide +kernel
theorem dX9_compares_4 : decode cX9_compares 4 = .ok (.istore 4, 2) := by decide +kernel
theorem dX9_compares_6 : decode cX9_compares 6 = .ok (.bipush 120, 2) := by decide +kernel
theorem dX9_compares_8 : decode cX9_compares 8 = .ok (.iload_n 3, 1) := by decide +kernel
theorem dX9_compares_9 : decode cX9_compares 9 = .ok (.imul, 1) := by decide +kernel
theorem dX9_compares_10 : decode cX9_compares 10 = .ok (.istore 5, 2) := by decide +kernel
theorem dX9_compares_12 : decode cX9_compares 12 = .ok (.aload_n 0, 1) := by decide +kernel
theorem dX9_compares_13 : decode cX9_compares 13 = .ok (.getfield 16, 3) := by decide +kernel
theorem dX9_compares_16 : decode cX9_compares 16 = .ok (.iload_n 2, 1) := by decide +kernel
theorem dX9_compares_17 : decode cX9_compares 17 = .ok (.iaload, 1) := by decide +kernel
theorem dX9_compares_18 : decode cX9_compares 18 = .ok (.istore 6, 2) := by decide +kernel
theorem dX9_compares_20 : decode cX9_compares 20 = .ok (.aload_n 0, 1) := by decide +kernel
theorem dX9_compares_21 : decode cX9_compares 21 = .ok (.getfield 35, 3) := by decide +kernel
theorem dX9_compares_24 : decode cX9_compares 24 = .ok (.iload_n 1, 1) := by decide +kernel
theorem dX9_compares_25 : decode cX9_compares 25 = .ok (.iconst 1, 1) := by decide +kernel
theorem dX9_compares_26 : decode cX9_compares 26 = .ok (.bastore, 1) := by decide +kernel
theorem dX9_compares_27 : decode cX9_compares 27 = .ok (.aload_n 0, 1) := by decide +kernel
theorem dX9_compares_28 : decode cX9_compares 28 = .ok (.getfield 39, 3) := by decide +kernel
theorem dX9_compares_31 : decode cX9_compares 31 = .ok (.iload_n 1, 1) := by decide +kernel
theorem dX9_compares_32 : decode cX9_compares 32 = .ok (.iconst 0, 1) := by decide +kernel
theorem dX9_compares_33 : decode cX9_compares 33 = .ok (.iastore, 1) := by decide +kernel
theorem dX9_compares_34 : decode cX9_compares 34 = .ok (.aload_n 0, 1) := by decide +kernel
theorem dX9_compares_35 : decode cX9_compares 35 = .ok (.getfield 42, 3) := by decide +kernel
theorem dX9_compares_38 : decode cX9_compares 38 = .ok (.iload_n 1, 1) := by decide +kernel
theorem dX9_compares_39 : decode cX9_compares 39 = .ok (.iconst 0, 1) := by decide +kernel
theorem dX9_compares_40 : decode cX9_compares 40 = .ok (.iastore, 1) := by decide +kernel
theorem dX9_compares_41 : decode cX9_compares 41 = .ok (.iconst 0, 1) := by decide +kernel
theorem dX9_compares_42 : decode cX9_compares 42 = .ok (.istore 7, 2) := by decide +kernel
theorem dX9_compares_44 : decode cX9_compares 44 = .ok (.iload 7, 2) := by decide +kernel
theorem dX9_compares_46 : decode cX9_compares 46 = .ok (.aload_n 0, 1) := by decide +kernel
theorem dX9_compares_47 : decode cX9_compares 47 = .ok (.getfield 7, 3) := by decide +kernel
theorem dX9_compares_50 : decode cX9_compares 50 = .ok (.iload_n 3, 1) := by decide +kernel
theorem dX9_compares_51 : decode cX9_compares 51 = .ok (.iaload, 1) := by decide +kernel
theorem dX9_compares_52 : decode cX9_compares 52 = .ok (.if_icmp .ge 29, 3) := by decide +kernel
theorem dX9_compares_55 : decode cX9_compares 55 = .ok (.aload_n 0, 1) := by decide +kernel
theorem dX9_compares_56 : decode cX9_compares 56 = .ok (.getfield 54, 3) := by decide +kernel
theorem dX9_compares_59 : decode cX9_compares 59 = .ok (.iload 4, 2) := by decide +kernel
theorem dX9_compares_61 : decode cX9_compares 61 = .ok (.iload 7, 2) := by decide +kernel
theorem dX9_compares_63 : decode cX9_compares 63 = .ok (.iadd, 1) := by decide +kernel
theorem dX9_compares_64 : decode cX9_compares 64 = .ok (.aload_n 0, 1) := by decide +kernel
theorem dX9_compares_65 : decode cX9_compares 65 = .ok (.getfield 13, 3) := by decide +kernel
theorem dX9_compares_68 : decode cX9_compares 68 = .ok (.iload 5, 2) := by decide +kernel
theorem dX9_compares_70 : decode cX9_compares 70 = .ok (.iload 7, 2) := by decide +kernel
theorem dX9_compares_72 : decode cX9_compares 72 = .ok (.iadd, 1) := by decide +kernel
theorem dX9_compares_73 : decode cX9_compares 73 = .ok (.iaload, 1) := by decide +kernel
theorem dX9_compares_74 : decode cX9_compares 74 = .ok (.iastore, 1) := by decide +kernel
theorem dX9_compares_75 : decode cX9_compares 75 = .ok (.iinc 7 1, 3) := by decide +kernel
theorem dX9_compares_78 : decode cX9_compares 78 = .ok (.goto (-34), 3) := by decide +kernel
theorem dX9_compares_81 : decode cX9_compares 81 = .ok (.iconst (-1), 1) := by decide +kernel
theorem dX9_compares_82 : decode cX9_compares 82 = .ok (.istore 7, 2) := by decide +kernel
theorem dX9_compares_84 : decode cX9_compares 84 = .ok (.iconst 0, 1) := by decide +kernel
theorem dX9_compares_85 : decode cX9_compares 85 = .ok (.istore 8, 2) := by decide +kernel
theorem dX9_compares_87 : decode cX9_compares 87 = .ok (.iload 8, 2) := by decide +kernel
theorem dX9_compares_89 : decode cX9_compares 89 = .ok (.aload_n 0, 1) := by decide +kernel
theorem dX9_compares_90 : decode cX9_compares 90 = .ok (.getfield 7, 3) := by decide +kernel
theorem dX9_compares_93 : decode cX9_compares 93 = .ok (.iload_n 3, 1) := by decide +kernel
theorem dX9_compares_94 : decode cX9_compares 94 = .ok (.iaload, 1) := by decide +kernel
theorem dX9_compares_95 : decode cX9_compares 95 = .ok (.if_icmp .ge 318, 3) := by decide +kernel
theorem dX9_compares_98 : decode cX9_compares 98 = .ok (.aload_n 0, 1) := by decide +kernel
theorem dX9_compares_99 : decode cX9_compares 99 = .ok (.getfield 7, 3) := by decide +kernel
theorem dX9_compares_102 : decode cX9_compares 102 = .ok (.iload_n 3, 1) := by decide +kernel
theorem dX9_compares_103 : decode cX9_compares 103 = .ok (.iaload, 1) := by decide +kernel
theorem dX9_compares_104 : decode cX9_compares 104 = .ok (.iload 8, 2) := by decide +kernel
theorem dX9_compares_106 : decode cX9_compares 106 = .ok (.isub, 1) := by decide +kernel
theorem dX9_compares_107 : decode cX9_compares 107 = .ok (.istore 9, 2) := by decide +kernel
theorem dX9_compares_109 : decode cX9_compares 109 = .ok (.iload 9, 2) := by decide +kernel
theorem dX9_compares_111 : decode cX9_compares 111 = .ok (.iload 6, 2) := by decide +kernel
theorem dX9_compares_113 : decode cX9_compares 113 = .ok (.if_icmp .lt 8, 3) := by decide +kernel
theorem dX9_compares_116 : decode cX9_compares 116 = .ok (.iload 6, 2) := by decide +kernel
theorem dX9_compares_118 : decode cX9_compares 118 = .ok (.goto 5, 3) := by decide +kernel
theorem dX9_compares_121 : decode cX9_compares 121 = .ok (.iload 9, 2) := by decide +kernel
theorem dX9_compares_123 : decode cX9_compares 123 = .ok (.istore 10, 2) := by decide +kernel
theorem dX9_compares_125 : decode cX9_compares 125 = .ok (.aload_n 0, 1) := by decide +kernel
theorem dX9_compares_126 : decode cX9_compares 126 = .ok (.getfield 13, 3) := by decide +kernel
theorem dX9_compares_129 : decode cX9_compares 129 = .ok (.iload 5, 2) := by decide +kernel
theorem dX9_compares_131 : decode cX9_compares 131 = .ok (.iload 8, 2) := by decide +kernel
theorem dX9_compares_133 : decode cX9_compares 133 = .ok (.iadd, 1) := by decide +kernel
theorem dX9_compares_134 : decode cX9_compares 134 = .ok (.iload 10, 2) := by decide +kernel
theorem dX9_compares_136 : decode cX9_compares 136 = .ok (.aload_n 0, 1) := by decide +kernel
theorem dX9_compares_137 : decode cX9_compares 137 = .ok (.getfield 19, 3) := by decide +kernel
theorem dX9_compares_140 : decode cX9_compares 140 = .ok (.iload_n 2, 1) := by decide +kernel
theorem dX9_compares_141 : decode cX9_compares 141 = .ok (.iaload, 1) := by decide +kernel
theorem dX9_compares_142 : decode cX9_compares 142 = .ok (.invokestatic 134, 3) := by decide +kernel
theorem dX9_compares_145 : decode cX9_compares 145 = .ok (.istore 11, 2) := by decide +kernel
theorem dX9_compares_147 : decode cX9_compares 147 = .ok (.aload_n 0, 1) := by decide +kernel
theorem dX9_compares_148 : decode cX9_compares 148 = .ok (.getfield 13, 3) := by decide +kernel
theorem dX9_compares_151 : decode cX9_compares 151 = .ok (.iload 5, 2) := by decide +kernel
theorem dX9_compares_153 : decode cX9_compares 153 = .ok (.iload 8, 2) := by decide +kernel
theorem dX9_compares_155 : decode cX9_compares 155 = .ok (.iadd, 1) := by decide +kernel
theorem dX9_compares_156 : decode cX9_compares 156 = .ok (.iload 10, 2) := by decide +kernel
theorem dX9_compares_158 : decode cX9_compares 158 = .ok (.invokestatic 138, 3) := by decide +kernel
theorem dX9_compares_161 : decode cX9_compares 161 = .ok (.lstore 12, 2) := by decide +kernel
theorem dX9_compares_163 : decode cX9_compares 163 = .ok (.iconst (-1), 1) := by decide +kernel
theorem dX9_compares_164 : decode cX9_compares 164 = .ok (.istore 14, 2) := by decide +kernel
theorem dX9_compares_166 : decode cX9_compares 166 = .ok (.iconst 0, 1) := by decide +kernel
theorem dX9_compares_167 : decode cX9_compares 167 = .ok (.istore 15, 2) := by decide +kernel
theorem dX9_compares_169 : decode cX9_compares 169 = .ok (.iconst 0, 1) := by decide +kernel
theorem dX9_compares_170 : decode cX9_compares 170 = .ok (.istore 16, 2) := by decide +kernel
theorem dX9_compares_172 : decode cX9_compares 172 = .ok (.iload 16, 2) := by decide +kernel
theorem dX9_compares_174 : decode cX9_compares 174 = .ok (.aload_n 0, 1) := by decide +kernel
theorem dX9_compares_175 : decode cX9_compares 175 = .ok (.getfield 25, 3) := by decide +kernel
theorem dX9_compares_178 : decode cX9_compares 178 = .ok (.iload_n 2, 1) := by decide +kernel
theorem dX9_compares_179 : decode cX9_compares 179 = .ok (.iaload, 1) := by decide +kernel
theorem dX9_compares_180 : decode cX9_compares 180 = .ok (.if_icmp .ge 93, 3) := by decide +kernel
theorem dX9_compares_183 : decode cX9_compares 183 = .ok (.aload_n 0, 1) := by decide +kernel
theorem dX9_compares_184 : decode cX9_compares 184 = .ok (.iload_n 2, 1) := by decide +kernel
theorem dX9_compares_185 : decode cX9_compares 185 = .ok (.iload 16, 2) := by decide +kernel
theorem dX9_compares_187 : decode cX9_compares 187 = .ok (.invokevirtual 130, 3) := by decide +kernel
theorem dX9_compares_190 : decode cX9_compares 190 = .ok (.iload 10, 2) := by decide +kernel
theorem dX9_compares_192 : decode cX9_compares 192 = .ok (.if_icmp .ne 75, 3) := by decide +kernel
theorem dX9_compares_195 : decode cX9_compares 195 = .ok (.aload_n 0, 1) := by decide +kernel
theorem dX9_compares_196 : decode cX9_compares 196 = .ok (.getfield 28, 3) := by decide +kernel
theorem dX9_compares_199 : decode cX9_compares 199 = .ok (.bipush 120, 2) := by decide +kernel
theorem dX9_compares_201 : decode cX9_compares 201 = .ok (.iload_n 2, 1) := by decide +kernel
theorem dX9_compares_202 : decode cX9_compares 202 = .ok (.imul, 1) := by decide +kernel
theorem dX9_compares_203 : decode cX9_compares 203 = .ok (.iload 16, 2) := by decide +kernel
theorem dX9_compares_205 : decode cX9_compares 205 = .ok (.iadd, 1) := by decide +kernel
theorem dX9_compares_206 : decode cX9_compares 206 = .ok (.iaload, 1) := by decide +kernel
theorem dX9_compares_207 : decode cX9_compares 207 = .ok (.iload 11, 2) := by decide +kernel
theorem dX9_compares_209 : decode cX9_compares 209 = .ok (.if_icmp .ne 58, 3) := by decide +kernel
theorem dX9_compares_212 : decode cX9_compares 212 = .ok (.aload_n 0, 1) := by decide +kernel
theorem dX9_compares_213 : decode cX9_compares 213 = .ok (.getfield 31, 3) := by decide +kernel
theorem dX9_compares_216 : decode cX9_compares 216 = .ok (.bipush 120, 2) := by decide +kernel
theorem dX9_compares_218 : decode cX9_compares 218 = .ok (.iload_n 2, 1) := by decide +kernel
theorem dX9_compares_219 : decode cX9_compares 219 = .ok (.imul, 1) := by decide +kernel
theorem dX9_compares_220 : decode cX9_compares 220 = .ok (.iload 16, 2) := by decide +kernel
theorem dX9_compares_222 : decode cX9_compares 222 = .ok (.iadd, 1) := by decide +kernel
theorem dX9_compares_223 : decode cX9_compares 223 = .ok (.laload, 1) := by decide +kernel
theorem dX9_compares_224 : decode cX9_compares 224 = .ok (.lload 12, 2) := by decide +kernel
theorem dX9_compares_226 : decode cX9_compares 226 = .ok (.lcmp, 1) := by decide +kernel
theorem dX9_compares_227 : decode cX9_compares 227 = .ok (.ifCond .ne 7, 3) := by decide +kernel
theorem dX9_compares_230 : decode cX9_compares 230 = .ok (.iconst 1, 1) := by decide +kernel
theorem dX9_compares_231 : decode cX9_compares 231 = .ok (.goto 4, 3) := by decide +kernel
theorem dX9_compares_234 : decode cX9_compares 234 = .ok (.iconst 0, 1) := by decide +kernel
theorem dX9_compares_235 : decode cX9_compares 235 = .ok (.istore 17, 2) := by decide +kernel
theorem dX9_compares_237 : decode cX9_compares 237 = .ok (.iconst 1, 1) := by decide +kernel
theorem dX9_compares_238 : decode cX9_compares 238 = .ok (.istore 15, 2) := by decide +kernel
theorem dX9_compares_240 : decode cX9_compares 240 = .ok (.iload 17, 2) := by decide +kernel
theorem dX9_compares_242 : decode cX9_compares 242 = .ok (.ifCond .eq 21, 3) := by decide +kernel
theorem dX9_compares_245 : decode cX9_compares 245 = .ok (.iload 14, 2) := by decide +kernel
theorem dX9_compares_247 : decode cX9_compares 247 = .ok (.iconst (-1), 1) := by decide +kernel
theorem dX9_compares_248 : decode cX9_compares 248 = .ok (.if_icmp .eq 10, 3) := by decide +kernel
theorem dX9_compares_251 : decode cX9_compares 251 = .ok (.iload 16, 2) := by decide +kernel
theorem dX9_compares_253 : decode cX9_compares 253 = .ok (.iload 7, 2) := by decide +kernel
theorem dX9_compares_255 : decode cX9_compares 255 = .ok (.if_icmp .ne 8, 3) := by decide +kernel
theorem dX9_compares_258 : decode cX9_compares 258 = .ok (.iload 16, 2) := by decide +kernel
theorem dX9_compares_260 : decode cX9_compares 260 = .ok (.goto 5, 3) := by decide +kernel
theorem dX9_compares_263 : decode cX9_compares 263 = .ok (.iload 14, 2) := by decide +kernel
theorem dX9_compares_265 : decode cX9_compares 265 = .ok (.istore 14, 2) := by decide +kernel
theorem dX9_compares_267 : decode cX9_compares 267 = .ok (.iinc 16 1, 3) := by decide +kernel
theorem dX9_compares_270 : decode cX9_compares 270 = .ok (.goto (-98), 3) := by decide +kernel
theorem dX9_compares_273 : decode cX9_compares 273 = .ok (.iload 4, 2) := by decide +kernel
theorem dX9_compares_275 : decode cX9_compares 275 = .ok (.aload_n 0, 1) := by decide +kernel
theorem dX9_compares_276 : decode cX9_compares 276 = .ok (.getfield 39, 3) := by decide +kernel
theorem dX9_compares_279 : decode cX9_compares 279 = .ok (.iload_n 1, 1) := by decide +kernel
theorem dX9_compares_280 : decode cX9_compares 280 = .ok (.iaload, 1) := by decide +kernel
theorem dX9_compares_281 : decode cX9_compares 281 = .ok (.iadd, 1) := by decide +kernel
theorem dX9_compares_282 : decode cX9_compares 282 = .ok (.iconst 1, 1) := by decide +kernel
theorem dX9_compares_283 : decode cX9_compares 283 = .ok (.isub, 1) := by decide +kernel
theorem dX9_compares_284 : decode cX9_compares 284 = .ok (.istore 16, 2) := by decide +kernel
theorem dX9_compares_286 : decode cX9_compares 286 = .ok (.iload 14, 2) := by decide +kernel
theorem dX9_compares_288 : decode cX9_compares 288 = .ok (.iconst (-1), 1) := by decide +kernel
theorem dX9_compares_289 : decode cX9_compares 289 = .ok (.if_icmp .eq 54, 3) := by decide +kernel
theorem dX9_compares_292 : decode cX9_compares 292 = .ok (.iload 14, 2) := by decide +kernel
theorem dX9_compares_294 : decode cX9_compares 294 = .ok (.iload 7, 2) := by decide +kernel
theorem dX9_compares_296 : decode cX9_compares 296 = .ok (.if_icmp .ne 18, 3) := by decide +kernel
theorem dX9_compares_299 : decode cX9_compares 299 = .ok (.aload_n 0, 1) := by decide +kernel
theorem dX9_compares_300 : decode cX9_compares 300 = .ok (.getfield 51, 3) := by decide +kernel
theorem dX9_compares_303 : decode cX9_compares 303 = .ok (.iload 16, 2) := by decide +kernel
theorem dX9_compares_305 : decode cX9_compares 305 = .ok (.dup2, 1) := by decide +kernel
theorem dX9_compares_306 : decode cX9_compares 306 = .ok (.iaload, 1) := by decide +kernel
theorem dX9_compares_307 : decode cX9_compares 307 = .ok (.iload 10, 2) := by decide +kernel
theorem dX9_compares_309 : decode cX9_compares 309 = .ok (.iadd, 1) := by decide +kernel
theorem dX9_compares_310 : decode cX9_compares 310 = .ok (.iastore, 1) := by decide +kernel
theorem dX9_compares_311 : decode cX9_compares 311 = .ok (.goto 16, 3) := by decide +kernel
theorem dX9_compares_314 : decode cX9_compares 314 = .ok (.aload_n 0, 1) := by decide +kernel
theorem dX9_compares_315 : decode cX9_compares 315 = .ok (.iload_n 1, 1) := by decide +kernel
theorem dX9_compares_316 : decode cX9_compares 316 = .ok (.iconst 1, 1) := by decide +kernel
theorem dX9_compares_317 : decode cX9_compares 317 = .ok (.iload 14, 2) := by decide +kernel
theorem dX9_compares_319 : decode cX9_compares 319 = .ok (.iload 6, 2) := by decide +kernel
theorem dX9_compares_321 : decode cX9_compares 321 = .ok (.imul, 1) := by decide +kernel
theorem dX9_compares_322 : decode cX9_compares 322 = .ok (.iload 10, 2) := by decide +kernel
theorem dX9_compares_324 : decode cX9_compares 324 = .ok (.invokevirtual 157, 3) := by decide +kernel
theorem dX9_compares_327 : decode cX9_compares 327 = .ok (.iload 14, 2) := by decide +kernel
theorem dX9_compares_329 : decode cX9_compares 329 = .ok (.iconst 1, 1) := by decide +kernel
theorem dX9_compares_330 : decode cX9_compares 330 = .ok (.iadd, 1) := by decide +kernel
theorem dX9_compares_331 : decode cX9_compares 331 = .ok (.istore 7, 2) := by decide +kernel
theorem dX9_compares_333 : decode cX9_compares 333 = .ok (.iload 8, 2) := by decide +kernel
theorem dX9_compares_335 : decode cX9_compares 335 = .ok (.iload 10, 2) := by decide +kernel
theorem dX9_compares_337 : decode cX9_compares 337 = .ok (.iadd, 1) := by decide +kernel
theorem dX9_compares_338 : decode cX9_compares 338 = .ok (.istore 8, 2) := by decide +kernel
theorem dX9_compares_340 : decode cX9_compares 340 = .ok (.goto 70, 3) := by decide +kernel
theorem dX9_compares_343 : decode cX9_compares 343 = .ok (.aload_n 0, 1) := by decide +kernel
theorem dX9_compares_344 : decode cX9_compares 344 = .ok (.getfield 42, 3) := by decide +kernel
theorem dX9_compares_347 : decode cX9_compares 347 = .ok (.iload_n 1, 1) := by decide +kernel
theorem dX9_compares_348 : decode cX9_compares 348 = .ok (.dup2, 1) := by decide +kernel
theorem dX9_compares_349 : decode cX9_compares 349 = .ok (.iaload, 1) := by decide +kernel
theorem dX9_compares_350 : decode cX9_compares 350 = .ok (.iload 15, 2) := by decide +kernel
theorem dX9_compares_352 : decode cX9_compares 352 = .ok (.ifCond .eq 7, 3) := by decide +kernel
theorem dX9_compares_355 : decode cX9_compares 355 = .ok (.iconst 1, 1) := by decide +kernel
theorem dX9_compares_356 : decode cX9_compares 356 = .ok (.goto 4, 3) := by decide +kernel
theorem dX9_compares_359 : decode cX9_compares 359 = .ok (.iconst 0, 1) := by decide +kernel
theorem dX9_compares_360 : decode cX9_compares 360 = .ok (.iadd, 1) := by decide +kernel
theorem dX9_compares_361 : decode cX9_compares 361 = .ok (.iastore, 1) := by decide +kernel
theorem dX9_compares_362 : decode cX9_compares 362 = .ok (.aload_n 0, 1) := by decide +kernel
theorem dX9_compares_363 : decode cX9_compares 363 = .ok (.getfield 39, 3) := by decide +kernel
theorem dX9_compares_366 : decode cX9_compares 366 = .ok (.iload_n 1, 1) := by decide +kernel
theorem dX9_compares_367 : decode cX9_compares 367 = .ok (.iaload, 1) := by decide +kernel
theorem dX9_compares_368 : decode cX9_compares 368 = .ok (.ifCond .le 27, 3) := by decide +kernel
theorem dX9_compares_371 : decode cX9_compares 371 = .ok (.aload_n 0, 1) := by decide +kernel
theorem dX9_compares_372 : decode cX9_compares 372 = .ok (.getfield 45, 3) := by decide +kernel
theorem dX9_compares_375 : decode cX9_compares 375 = .ok (.iload 16, 2) := by decide +kernel
theorem dX9_compares_377 : decode cX9_compares 377 = .ok (.baload, 1) := by decide +kernel
theorem dX9_compares_378 : decode cX9_compares 378 = .ok (.ifCond .ne 17, 3) := by decide +kernel
theorem dX9_compares_381 : decode cX9_compares 381 = .ok (.aload_n 0, 1) := by decide +kernel
theorem dX9_compares_382 : decode cX9_compares 382 = .ok (.getfield 51, 3) := by decide +kernel
theorem dX9_compares_385 : decode cX9_compares 385 = .ok (.iload 16, 2) := by decide +kernel
theorem dX9_compares_387 : decode cX9_compares 387 = .ok (.dup2, 1) := by decide +kernel
theorem dX9_compares_388 : decode cX9_compares 388 = .ok (.iaload, 1) := by decide +kernel
theorem dX9_compares_389 : decode cX9_compares 389 = .ok (.iconst 1, 1) := by decide +kernel
theorem dX9_compares_390 : decode cX9_compares 390 = .ok (.iadd, 1) := by decide +kernel
theorem dX9_compares_391 : decode cX9_compares 391 = .ok (.iastore, 1) := by decide +kernel
theorem dX9_compares_392 : decode cX9_compares 392 = .ok (.goto 12, 3) := by decide +kernel
theorem dX9_compares_395 : decode cX9_compares 395 = .ok (.aload_n 0, 1) := by decide +kernel
theorem dX9_compares_396 : decode cX9_compares 396 = .ok (.iload_n 1, 1) := by decide +kernel
theorem dX9_compares_397 : decode cX9_compares 397 = .ok (.iconst 0, 1) := by decide +kernel
theorem dX9_compares_398 : decode cX9_compares 398 = .ok (.iload 8, 2) := by decide +kernel
theorem dX9_compares_400 : decode cX9_compares 400 = .ok (.iconst 1, 1) := by decide +kernel
theorem dX9_compares_401 : decode cX9_compares 401 = .ok (.invokevirtual 157, 3) := by decide +kernel
theorem dX9_compares_404 : decode cX9_compares 404 = .ok (.iconst (-1), 1) := by decide +kernel
theorem dX9_compares_405 : decode cX9_compares 405 = .ok (.istore 7, 2) := by decide +kernel
theorem dX9_compares_407 : decode cX9_compares 407 = .ok (.iinc 8 1, 3) := by decide +kernel
theorem dX9_compares_410 : decode cX9_compares 410 = .ok (.goto (-323), 3) := by decide +kernel
theorem dX9_compares_413 : decode cX9_compares 413 = .ok (.return_, 1) := by decide +kernel
theorem dX9_begins_0 : decode cX9_begins 0 = .ok (.bipush 120, 2) := by decide +kernel
theorem dX9_begins_2 : decode cX9_begins 2 = .ok (.iload_n 1, 1) := by decide +kernel
theorem dX9_begins_3 : decode cX9_begins 3 = .ok (.imul, 1) := by decide +kernel
theorem dX9_begins_4 : decode cX9_begins 4 = .ok (.aload_n 0, 1) := by decide +kernel
theorem dX9_begins_5 : decode cX9_begins 5 = .ok (.getfield 39, 3) := by decide +kernel
theorem dX9_begins_8 : decode cX9_begins 8 = .ok (.iload_n 1, 1) := by decide +kernel
theorem dX9_begins_9 : decode cX9_begins 9 = .ok (.iaload, 1) := by decide +kernel
theorem dX9_begins_10 : decode cX9_begins 10 = .ok (.iadd, 1) := by decide +kernel
theorem dX9_begins_11 : decode cX9_begins 11 = .ok (.istore 5, 2) := by decide +kernel
theorem dX9_begins_13 : decode cX9_begins 13 = .ok (.aload_n 0, 1) := by decide +kernel
theorem dX9_begins_14 : decode cX9_begins 14 = .ok (.getfield 45, 3) := by decide +kernel
theorem dX9_begins_17 : decode cX9_begins 17 = .ok (.iload 5, 2) := by decide +kernel
theorem dX9_begins_19 : decode cX9_begins 19 = .ok (.iload_n 2, 1) := by decide +kernel
theorem dX9_begins_20 : decode cX9_begins 20 = .ok (.bastore, 1) := by decide +kernel
theorem dX9_begins_21 : decode cX9_begins 21 = .ok (.aload_n 0, 1) := by decide +kernel
theorem dX9_begins_22 : decode cX9_begins 22 = .ok (.getfield 48, 3) := by decide +kernel
theorem dX9_begins_25 : decode cX9_begins 25 = .ok (.iload 5, 2) := by decide +kernel
theorem dX9_begins_27 : decode cX9_begins 27 = .ok (.iload_n 3, 1) := by decide +kernel
theorem dX9_begins_28 : decode cX9_begins 28 = .ok (.iastore, 1) := by decide +kernel
theorem dX9_begins_29 : decode cX9_begins 29 = .ok (.aload_n 0, 1) := by decide +kernel
theorem dX9_begins_30 : decode cX9_begins 30 = .ok (.getfield 51, 3) := by decide +kernel
theorem dX9_begins_33 : decode cX9_begins 33 = .ok (.iload 5, 2) := by decide +kernel
theorem dX9_begins_35 : decode cX9_begins 35 = .ok (.iload 4, 2) := by decide +kernel
theorem dX9_begins_37 : decode cX9_begins 37 = .ok (.iastore, 1) := by decide +kernel
theorem dX9_begins_38 : decode cX9_begins 38 = .ok (.aload_n 0, 1) := by decide +kernel
theorem dX9_begins_39 : decode cX9_begins 39 = .ok (.getfield 39, 3) := by decide +kernel
theorem dX9_begins_42 : decode cX9_begins 42 = .ok (.iload_n 1, 1) := by decide +kernel
theorem dX9_begins_43 : decode cX9_begins 43 = .ok (.dup2, 1) := by decide +kernel
theorem dX9_begins_44 : decode cX9_begins 44 = .ok (.iaload, 1) := by decide +kernel
theorem dX9_begins_45 : decode cX9_begins 45 = .ok (.iconst 1, 1) := by decide +kernel
theorem dX9_begins_46 : decode cX9_begins 46 = .ok (.iadd, 1) := by decide +kernel
theorem dX9_begins_47 : decode cX9_begins 47 = .ok (.iastore, 1) := by decide +kernel
theorem dX9_begins_48 : decode cX9_begins 48 = .ok (.return_, 1) := by decide +kernel
theorem dX9_compare_0 : decode cX9_compare 0 = .ok (.iload_n 1, 1) := by decide +kernel
theorem dX9_compare_1 : decode cX9_compare 1 = .ok (.invokestatic 142, 3) := by decide +kernel
theorem dX9_compare_4 : decode cX9_compare 4 = .ok (.ifCond .eq 22, 3) := by decide +kernel
theorem dX9_compare_7 : decode cX9_compare 7 = .ok (.iload_n 2, 1) := by decide +kernel
theorem dX9_compare_8 : decode cX9_compare 8 = .ok (.invokestatic 142, 3) := by decide +kernel
theorem dX9_compare_11 : decode cX9_compare 11 = .ok (.ifCond .eq 15, 3) := by decide +kernel
theorem dX9_compare_14 : decode cX9_compare 14 = .ok (.aload_n 0, 1) := by decide +kernel
theorem dX9_compare_15 : decode cX9_compare 15 = .ok (.iload_n 3, 1) := by decide +kernel
theorem dX9_compare_16 : decode cX9_compare 16 = .ok (.invokevirtual 114, 3) := by decide +kernel
theorem dX9_compare_19 : decode cX9_compare 19 = .ok (.ifCond .eq 7, 3) := by decide +kernel
theorem dX9_compare_22 : decode cX9_compare 22 = .ok (.iconst 1, 1) := by decide +kernel
theorem dX9_compare_23 : decode cX9_compare 23 = .ok (.goto 4, 3) := by decide +kernel
theorem dX9_compare_26 : decode cX9_compare 26 = .ok (.iconst 0, 1) := by decide +kernel
theorem dX9_compare_27 : decode cX9_compare 27 = .ok (.istore 4, 2) := by decide +kernel
theorem dX9_compare_29 : decode cX9_compare 29 = .ok (.aload_n 0, 1) := by decide +kernel
theorem dX9_compare_30 : decode cX9_compare 30 = .ok (.iload 4, 2) := by decide +kernel
theorem dX9_compare_32 : decode cX9_compare 32 = .ok (.iload 4, 2) := by decide +kernel
theorem dX9_compare_34 : decode cX9_compare 34 = .ok (.ifCond .eq 16, 3) := by decide +kernel
theorem dX9_compare_37 : decode cX9_compare 37 = .ok (.aload_n 0, 1) := by decide +kernel
theorem dX9_compare_38 : decode cX9_compare 38 = .ok (.getfield 16, 3) := by decide +kernel
theorem dX9_compare_41 : decode cX9_compare 41 = .ok (.iload_n 2, 1) := by decide +kernel
theorem dX9_compare_42 : decode cX9_compare 42 = .ok (.iaload, 1) := by decide +kernel
theorem dX9_compare_43 : decode cX9_compare 43 = .ok (.ifCond .le 7, 3) := by decide +kernel
theorem dX9_compare_46 : decode cX9_compare 46 = .ok (.iconst 1, 1) := by decide +kernel
theorem dX9_compare_47 : decode cX9_compare 47 = .ok (.goto 4, 3) := by decide +kernel
theorem dX9_compare_50 : decode cX9_compare 50 = .ok (.iconst 0, 1) := by decide +kernel
theorem dX9_compare_51 : decode cX9_compare 51 = .ok (.invokevirtual 121, 3) := by decide +kernel
theorem dX9_compare_54 : decode cX9_compare 54 = .ok (.ifCond .ne 5, 3) := by decide +kernel
theorem dX9_compare_57 : decode cX9_compare 57 = .ok (.iconst 0, 1) := by decide +kernel
theorem dX9_compare_58 : decode cX9_compare 58 = .ok (.ireturn, 1) := by decide +kernel
theorem dX9_compare_59 : decode cX9_compare 59 = .ok (.aload_n 0, 1) := by decide +kernel
theorem dX9_compare_60 : decode cX9_compare 60 = .ok (.iload_n 1, 1) := by decide +kernel
theorem dX9_compare_61 : decode cX9_compare 61 = .ok (.iload_n 2, 1) := by decide +kernel
theorem dX9_compare_62 : decode cX9_compare 62 = .ok (.iload_n 3, 1) := by decide +kernel
theorem dX9_compare_63 : decode cX9_compare 63 = .ok (.invokevirtual 161, 3) := by decide +kernel
theorem dX9_compare_66 : decode cX9_compare 66 = .ok (.aload_n 0, 1) := by decide +kernel
theorem dX9_compare_67 : decode cX9_compare 67 = .ok (.getfield 39, 3) := by decide +kernel
theorem dX9_compare_70 : decode cX9_compare 70 = .ok (.iload_n 1, 1) := by decide +kernel
theorem dX9_compare_71 : decode cX9_compare 71 = .ok (.iaload, 1) := by decide +kernel
theorem dX9_compare_72 : decode cX9_compare 72 = .ok (.ireturn, 1) := by decide +kernel
theorem dX9_instructions_0 : decode cX9_instructions 0 = .ok (.aload_n 0, 1) := by decide +kernel
theorem dX9_instructions_1 : decode cX9_instructions 1 = .ok (.iload_n 1, 1) := by decide +kernel
theorem dX9_instructions_2 : decode cX9_instructions 2 = .ok (.invokestatic 142, 3) := by decide +kernel
theorem dX9_instructions_5 : decode cX9_instructions 5 = .ok (.invokevirtual 106, 3) := by decide +kernel
theorem dX9_instructions_8 : decode cX9_instructions 8 = .ok (.ifCond .eq 12, 3) := by decide +kernel
theorem dX9_instructions_11 : decode cX9_instructions 11 = .ok (.aload_n 0, 1) := by decide +kernel
theorem dX9_instructions_12 : decode cX9_instructions 12 = .ok (.getfield 39, 3) := by decide +kernel
theorem dX9_instructions_15 : decode cX9_instructions 15 = .ok (.iload_n 1, 1) := by decide +kernel
theorem dX9_instructions_16 : decode cX9_instructions 16 = .ok (.iaload, 1) := by decide +kernel
theorem dX9_instructions_17 : decode cX9_instructions 17 = .ok (.goto 4, 3) := by decide +kernel
theorem dX9_instructions_20 : decode cX9_instructions 20 = .ok (.iconst 0, 1) := by decide +kernel
theorem dX9_instructions_21 : decode cX9_instructions 21 = .ok (.ireturn, 1) := by decide +kernel
theorem dX9_isInstruction_0 : decode cX9_isInstruction 0 = .ok (.iload_n 1, 1) := by decide +kernel
theorem dX9_isInstruction_1 : decode cX9_isInstruction 1 = .ok (.invokestatic 142, 3) := by decide +kernel
theorem dX9_isInstruction_4 : decode cX9_isInstruction 4 = .ok (.ifCond .eq 21, 3) := by decide +kernel
theorem dX9_isInstruction_7 : decode cX9_isInstruction 7 = .ok (.iload_n 2, 1) := by decide +kernel
theorem dX9_isInstruction_8 : decode cX9_isInstruction 8 = .ok (.ifCond .lt 17, 3) := by decide +kernel
theorem dX9_isInstruction_11 : decode cX9_isInstruction 11 = .ok (.iload_n 2, 1) := by decide +kernel
theorem dX9_isInstruction_12 : decode cX9_isInstruction 12 = .ok (.aload_n 0, 1) := by decide +kernel
theorem dX9_isInstruction_13 : decode cX9_isInstruction 13 = .ok (.getfield 39, 3) := by decide +kernel
theorem dX9_isInstruction_16 : decode cX9_isInstruction 16 = .ok (.iload_n 1, 1) := by decide +kernel
theorem dX9_isInstruction_17 : decode cX9_isInstruction 17 = .ok (.iaload, 1) := by decide +kernel
theorem dX9_isInstruction_18 : decode cX9_isInstruction 18 = .ok (.if_icmp .ge 7, 3) := by decide +kernel
theorem dX9_isInstruction_21 : decode cX9_isInstruction 21 = .ok (.iconst 1, 1) := by decide +kernel
theorem dX9_isInstruction_22 : decode cX9_isInstruction 22 = .ok (.goto 4, 3) := by decide +kernel
theorem dX9_isInstruction_25 : decode cX9_isInstruction 25 = .ok (.iconst 0, 1) := by decide +kernel
theorem dX9_isInstruction_26 : decode cX9_isInstruction 26 = .ok (.ireturn, 1) := by decide +kernel
theorem dX9_isCopy_0 : decode cX9_isCopy 0 = .ok (.aload_n 0, 1) := by decide +kernel
theorem dX9_isCopy_1 : decode cX9_isCopy 1 = .ok (.aload_n 0, 1) := by decide +kernel
theorem dX9_isCopy_2 : decode cX9_isCopy 2 = .ok (.iload_n 1, 1) := by decide +kernel
theorem dX9_isCopy_3 : decode cX9_isCopy 3 = .ok (.iload_n 2, 1) := by decide +kernel
theorem dX9_isCopy_4 : decode cX9_isCopy 4 = .ok (.invokevirtual 164, 3) := by decide +kernel
theorem dX9_isCopy_7 : decode cX9_isCopy 7 = .ok (.invokevirtual 106, 3) := by decide +kernel
theorem dX9_isCopy_10 : decode cX9_isCopy 10 = .ok (.ifCond .eq 21, 3) := by decide +kernel
theorem dX9_isCopy_13 : decode cX9_isCopy 13 = .ok (.aload_n 0, 1) := by decide +kernel
theorem dX9_isCopy_14 : decode cX9_isCopy 14 = .ok (.getfield 45, 3) := by decide +kernel
theorem dX9_isCopy_17 : decode cX9_isCopy 17 = .ok (.bipush 120, 2) := by decide +kernel
theorem dX9_isCopy_19 : decode cX9_isCopy 19 = .ok (.iload_n 1, 1) := by decide +kernel
theorem dX9_isCopy_20 : decode cX9_isCopy 20 = .ok (.imul, 1) := by decide +kernel
theorem dX9_isCopy_21 : decode cX9_isCopy 21 = .ok (.iload_n 2, 1) := by decide +kernel
theorem dX9_isCopy_22 : decode cX9_isCopy 22 = .ok (.iadd, 1) := by decide +kernel
theorem dX9_isCopy_23 : decode cX9_isCopy 23 = .ok (.baload, 1) := by decide +kernel
theorem dX9_isCopy_24 : decode cX9_isCopy 24 = .ok (.ifCond .eq 7, 3) := by decide +kernel
theorem dX9_isCopy_27 : decode cX9_isCopy 27 = .ok (.iconst 1, 1) := by decide +kernel
theorem dX9_isCopy_28 : decode cX9_isCopy 28 = .ok (.goto 4, 3) := by decide +kernel
theorem dX9_isCopy_31 : decode cX9_isCopy 31 = .ok (.iconst 0, 1) := by decide +kernel
theorem dX9_isCopy_32 : decode cX9_isCopy 32 = .ok (.ireturn, 1) := by decide +kernel
theorem dX9_startOf_0 : decode cX9_startOf 0 = .ok (.aload_n 0, 1) := by decide +kernel
theorem dX9_startOf_1 : decode cX9_startOf 1 = .ok (.aload_n 0, 1) := by decide +kernel
theorem dX9_startOf_2 : decode cX9_startOf 2 = .ok (.iload_n 1, 1) := by decide +kernel
theorem dX9_startOf_3 : decode cX9_startOf 3 = .ok (.iload_n 2, 1) := by decide +kernel
theorem dX9_startOf_4 : decode cX9_startOf 4 = .ok (.invokevirtual 164, 3) := by decide +kernel
theorem dX9_startOf_7 : decode cX9_startOf 7 = .ok (.invokevirtual 106, 3) := by decide +kernel
theorem dX9_startOf_10 : decode cX9_startOf 10 = .ok (.ifCond .eq 17, 3) := by decide +kernel
theorem dX9_startOf_13 : decode cX9_startOf 13 = .ok (.aload_n 0, 1) := by decide +kernel
theorem dX9_startOf_14 : decode cX9_startOf 14 = .ok (.getfield 48, 3) := by decide +kernel
theorem dX9_startOf_17 : decode cX9_startOf 17 = .ok (.bipush 120, 2) := by decide +kernel
theorem dX9_startOf_19 : decode cX9_startOf 19 = .ok (.iload_n 1, 1) := by decide +kernel
theorem dX9_startOf_20 : decode cX9_startOf 20 = .ok (.imul, 1) := by decide +kernel
theorem dX9_startOf_21 : decode cX9_startOf 21 = .ok (.iload_n 2, 1) := by decide +kernel
theorem dX9_startOf_22 : decode cX9_startOf 22 = .ok (.iadd, 1) := by decide +kernel
theorem dX9_startOf_23 : decode cX9_startOf 23 = .ok (.iaload, 1) := by decide +kernel
theorem dX9_startOf_24 : decode cX9_startOf 24 = .ok (.goto 4, 3) := by decide +kernel
theorem dX9_startOf_27 : decode cX9_startOf 27 = .ok (.iconst 0, 1) := by decide +kernel
theorem dX9_startOf_28 : decode cX9_startOf 28 = .ok (.ireturn, 1) := by decide +kernel
theorem dX9_bytesOf_0 : decode cX9_bytesOf 0 = .ok (.aload_n 0, 1) := by decide +kernel
theorem dX9_bytesOf_1 : decode cX9_bytesOf 1 = .ok (.aload_n 0, 1) := by decide +kernel
theorem dX9_bytesOf_2 : decode cX9_bytesOf 2 = .ok (.iload_n 1, 1) := by decide +kernel
theorem dX9_bytesOf_3 : decode cX9_bytesOf 3 = .ok (.iload_n 2, 1) := by decide +kernel
theorem dX9_bytesOf_4 : decode cX9_bytesOf 4 = .ok (.invokevirtual 164, 3) := by decide +kernel
theorem dX9_bytesOf_7 : decode cX9_bytesOf 7 = .ok (.invokevirtual 106, 3) := by decide +kernel
theorem dX9_bytesOf_10 : decode cX9_bytesOf 10 = .ok (.ifCond .eq 17, 3) := by decide +kernel
theorem dX9_bytesOf_13 : decode cX9_bytesOf 13 = .ok (.aload_n 0, 1) := by decide +kernel
theorem dX9_bytesOf_14 : decode cX9_bytesOf 14 = .ok (.getfield 51, 3) := by decide +kernel
theorem dX9_bytesOf_17 : decode cX9_bytesOf 17 = .ok (.bipush 120, 2) := by decide +kernel
theorem dX9_bytesOf_19 : decode cX9_bytesOf 19 = .ok (.iload_n 1, 1) := by decide +kernel
theorem dX9_bytesOf_20 : decode cX9_bytesOf 20 = .ok (.imul, 1) := by decide +kernel
theorem dX9_bytesOf_21 : decode cX9_bytesOf 21 = .ok (.iload_n 2, 1) := by decide +kernel
theorem dX9_bytesOf_22 : decode cX9_bytesOf 22 = .ok (.iadd, 1) := by decide +kernel
theorem dX9_bytesOf_23 : decode cX9_bytesOf 23 = .ok (.iaload, 1) := by decide +kernel
theorem dX9_bytesOf_24 : decode cX9_bytesOf 24 = .ok (.goto 4, 3) := by decide +kernel
theorem dX9_bytesOf_27 : decode cX9_bytesOf 27 = .ok (.iconst 0, 1) := by decide +kernel
theorem dX9_bytesOf_28 : decode cX9_bytesOf 28 = .ok (.ireturn, 1) := by decide +kernel
theorem dX9_costOf_0 : decode cX9_costOf 0 = .ok (.iconst 0, 1) := by decide +kernel
theorem dX9_costOf_1 : decode cX9_costOf 1 = .ok (.istore_n 2, 1) := by decide +kernel
theorem dX9_costOf_2 : decode cX9_costOf 2 = .ok (.bipush 120, 2) := by decide +kernel
theorem dX9_costOf_4 : decode cX9_costOf 4 = .ok (.iload_n 1, 1) := by decide +kernel
theorem dX9_costOf_5 : decode cX9_costOf 5 = .ok (.imul, 1) := by decide +kernel
theorem dX9_costOf_6 : decode cX9_costOf 6 = .ok (.istore_n 3, 1) := by decide +kernel
theorem dX9_costOf_7 : decode cX9_costOf 7 = .ok (.iload_n 3, 1) := by decide +kernel
theorem dX9_costOf_8 : decode cX9_costOf 8 = .ok (.bipush 120, 2) := by decide +kernel
theorem dX9_costOf_10 : decode cX9_costOf 10 = .ok (.iload_n 1, 1) := by decide +kernel
theorem dX9_costOf_11 : decode cX9_costOf 11 = .ok (.imul, 1) := by decide +kernel
theorem dX9_costOf_12 : decode cX9_costOf 12 = .ok (.aload_n 0, 1) := by decide +kernel
theorem dX9_costOf_13 : decode cX9_costOf 13 = .ok (.getfield 39, 3) := by decide +kernel
theorem dX9_costOf_16 : decode cX9_costOf 16 = .ok (.iload_n 1, 1) := by decide +kernel
theorem dX9_costOf_17 : decode cX9_costOf 17 = .ok (.iaload, 1) := by decide +kernel
theorem dX9_costOf_18 : decode cX9_costOf 18 = .ok (.iadd, 1) := by decide +kernel
theorem dX9_costOf_19 : decode cX9_costOf 19 = .ok (.if_icmp .ge 33, 3) := by decide +kernel
theorem dX9_costOf_22 : decode cX9_costOf 22 = .ok (.iload_n 2, 1) := by decide +kernel
theorem dX9_costOf_23 : decode cX9_costOf 23 = .ok (.aload_n 0, 1) := by decide +kernel
theorem dX9_costOf_24 : decode cX9_costOf 24 = .ok (.getfield 45, 3) := by decide +kernel
theorem dX9_costOf_27 : decode cX9_costOf 27 = .ok (.iload_n 3, 1) := by decide +kernel
theorem dX9_costOf_28 : decode cX9_costOf 28 = .ok (.baload, 1) := by decide +kernel
theorem dX9_costOf_29 : decode cX9_costOf 29 = .ok (.ifCond .eq 7, 3) := by decide +kernel
theorem dX9_costOf_32 : decode cX9_costOf 32 = .ok (.iconst 3, 1) := by decide +kernel
theorem dX9_costOf_33 : decode cX9_costOf 33 = .ok (.goto 11, 3) := by decide +kernel
theorem dX9_costOf_36 : decode cX9_costOf 36 = .ok (.iconst 1, 1) := by decide +kernel
theorem dX9_costOf_37 : decode cX9_costOf 37 = .ok (.aload_n 0, 1) := by decide +kernel
theorem dX9_costOf_38 : decode cX9_costOf 38 = .ok (.getfield 51, 3) := by decide +kernel
theorem dX9_costOf_41 : decode cX9_costOf 41 = .ok (.iload_n 3, 1) := by decide +kernel
theorem dX9_costOf_42 : decode cX9_costOf 42 = .ok (.iaload, 1) := by decide +kernel
theorem dX9_costOf_43 : decode cX9_costOf 43 = .ok (.iadd, 1) := by decide +kernel
theorem dX9_costOf_44 : decode cX9_costOf 44 = .ok (.iadd, 1) := by decide +kernel
theorem dX9_costOf_45 : decode cX9_costOf 45 = .ok (.istore_n 2, 1) := by decide +kernel
theorem dX9_costOf_46 : decode cX9_costOf 46 = .ok (.iinc 3 1, 3) := by decide +kernel
theorem dX9_costOf_49 : decode cX9_costOf 49 = .ok (.goto (-42), 3) := by decide +kernel
theorem dX9_costOf_52 : decode cX9_costOf 52 = .ok (.iload_n 2, 1) := by decide +kernel
theorem dX9_costOf_53 : decode cX9_costOf 53 = .ok (.ireturn, 1) := by decide +kernel
theorem dX9_cost_0 : decode cX9_cost 0 = .ok (.aload_n 0, 1) := by decide +kernel
theorem dX9_cost_1 : decode cX9_cost 1 = .ok (.iload_n 1, 1) := by decide +kernel
theorem dX9_cost_2 : decode cX9_cost 2 = .ok (.invokestatic 142, 3) := by decide +kernel
theorem dX9_cost_5 : decode cX9_cost 5 = .ok (.invokevirtual 106, 3) := by decide +kernel
theorem dX9_cost_8 : decode cX9_cost 8 = .ok (.ifCond .eq 11, 3) := by decide +kernel
theorem dX9_cost_11 : decode cX9_cost 11 = .ok (.aload_n 0, 1) := by decide +kernel
theorem dX9_cost_12 : decode cX9_cost 12 = .ok (.iload_n 1, 1) := by decide +kernel
theorem dX9_cost_13 : decode cX9_cost 13 = .ok (.invokevirtual 167, 3) := by decide +kernel
theorem dX9_cost_16 : decode cX9_cost 16 = .ok (.goto 4, 3) := by decide +kernel
theorem dX9_cost_19 : decode cX9_cost 19 = .ok (.iconst 0, 1) := by decide +kernel
theorem dX9_cost_20 : decode cX9_cost 20 = .ok (.ireturn, 1) := by decide +kernel
theorem dX9_alarms_0 : decode cX9_alarms 0 = .ok (.aload_n 0, 1) := by decide +kernel
theorem dX9_alarms_1 : decode cX9_alarms 1 = .ok (.iload_n 1, 1) := by decide +kernel
theorem dX9_alarms_2 : decode cX9_alarms 2 = .ok (.invokestatic 142, 3) := by decide +kernel
theorem dX9_alarms_5 : decode cX9_alarms 5 = .ok (.invokevirtual 106, 3) := by decide +kernel
theorem dX9_alarms_8 : decode cX9_alarms 8 = .ok (.ifCond .eq 12, 3) := by decide +kernel
theorem dX9_alarms_11 : decode cX9_alarms 11 = .ok (.aload_n 0, 1) := by decide +kernel
theorem dX9_alarms_12 : decode cX9_alarms 12 = .ok (.getfield 42, 3) := by decide +kernel
theorem dX9_alarms_15 : decode cX9_alarms 15 = .ok (.iload_n 1, 1) := by decide +kernel
theorem dX9_alarms_16 : decode cX9_alarms 16 = .ok (.iaload, 1) := by decide +kernel
theorem dX9_alarms_17 : decode cX9_alarms 17 = .ok (.goto 4, 3) := by decide +kernel
theorem dX9_alarms_20 : decode cX9_alarms 20 = .ok (.iconst 0, 1) := by decide +kernel
theorem dX9_alarms_21 : decode cX9_alarms 21 = .ok (.ireturn, 1) := by decide +kernel
theorem dX9_goesBeyond_0 : decode cX9_goesBeyond 0 = .ok (.bipush 120, 2) := by decide +kernel
theorem dX9_goesBeyond_2 : decode cX9_goesBeyond 2 = .ok (.iload_n 1, 1) := by decide +kernel
theorem dX9_goesBeyond_3 : decode cX9_goesBeyond 3 = .ok (.imul, 1) := by decide +kernel
theorem dX9_goesBeyond_4 : decode cX9_goesBeyond 4 = .ok (.istore_n 2, 1) := by decide +kernel
theorem dX9_goesBeyond_5 : decode cX9_goesBeyond 5 = .ok (.iload_n 2, 1) := by decide +kernel
theorem dX9_goesBeyond_6 : decode cX9_goesBeyond 6 = .ok (.bipush 120, 2) := by decide +kernel
theorem dX9_goesBeyond_8 : decode cX9_goesBeyond 8 = .ok (.iload_n 1, 1) := by decide +kernel
theorem dX9_goesBeyond_9 : decode cX9_goesBeyond 9 = .ok (.imul, 1) := by decide +kernel
theorem dX9_goesBeyond_10 : decode cX9_goesBeyond 10 = .ok (.aload_n 0, 1) := by decide +kernel
theorem dX9_goesBeyond_11 : decode cX9_goesBeyond 11 = .ok (.getfield 39, 3) := by decide +kernel
theorem dX9_goesBeyond_14 : decode cX9_goesBeyond 14 = .ok (.iload_n 1, 1) := by decide +kernel
theorem dX9_goesBeyond_15 : decode cX9_goesBeyond 15 = .ok (.iaload, 1) := by decide +kernel
theorem dX9_goesBeyond_16 : decode cX9_goesBeyond 16 = .ok (.iadd, 1) := by decide +kernel
theorem dX9_goesBeyond_17 : decode cX9_goesBeyond 17 = .ok (.if_icmp .ge 40, 3) := by decide +kernel
theorem dX9_goesBeyond_20 : decode cX9_goesBeyond 20 = .ok (.aload_n 0, 1) := by decide +kernel
theorem dX9_goesBeyond_21 : decode cX9_goesBeyond 21 = .ok (.getfield 45, 3) := by decide +kernel
theorem dX9_goesBeyond_24 : decode cX9_goesBeyond 24 = .ok (.iload_n 2, 1) := by decide +kernel
theorem dX9_goesBeyond_25 : decode cX9_goesBeyond 25 = .ok (.baload, 1) := by decide +kernel
theorem dX9_goesBeyond_26 : decode cX9_goesBeyond 26 = .ok (.ifCond .eq 25, 3) := by decide +kernel
theorem dX9_goesBeyond_29 : decode cX9_goesBeyond 29 = .ok (.aload_n 0, 1) := by decide +kernel
theorem dX9_goesBeyond_30 : decode cX9_goesBeyond 30 = .ok (.getfield 48, 3) := by decide +kernel
theorem dX9_goesBeyond_33 : decode cX9_goesBeyond 33 = .ok (.iload_n 2, 1) := by decide +kernel
theorem dX9_goesBeyond_34 : decode cX9_goesBeyond 34 = .ok (.iaload, 1) := by decide +kernel
theorem dX9_goesBeyond_35 : decode cX9_goesBeyond 35 = .ok (.aload_n 0, 1) := by decide +kernel
theorem dX9_goesBeyond_36 : decode cX9_goesBeyond 36 = .ok (.getfield 51, 3) := by decide +kernel
theorem dX9_goesBeyond_39 : decode cX9_goesBeyond 39 = .ok (.iload_n 2, 1) := by decide +kernel
theorem dX9_goesBeyond_40 : decode cX9_goesBeyond 40 = .ok (.iaload, 1) := by decide +kernel
theorem dX9_goesBeyond_41 : decode cX9_goesBeyond 41 = .ok (.iadd, 1) := by decide +kernel
theorem dX9_goesBeyond_42 : decode cX9_goesBeyond 42 = .ok (.aload_n 0, 1) := by decide +kernel
theorem dX9_goesBeyond_43 : decode cX9_goesBeyond 43 = .ok (.getfield 125, 3) := by decide +kernel
theorem dX9_goesBeyond_46 : decode cX9_goesBeyond 46 = .ok (.if_icmp .le 5, 3) := by decide +kernel
theorem dX9_goesBeyond_49 : decode cX9_goesBeyond 49 = .ok (.iconst 1, 1) := by decide +kernel
theorem dX9_goesBeyond_50 : decode cX9_goesBeyond 50 = .ok (.ireturn, 1) := by decide +kernel
theorem dX9_goesBeyond_51 : decode cX9_goesBeyond 51 = .ok (.iinc 2 1, 3) := by decide +kernel
theorem dX9_goesBeyond_54 : decode cX9_goesBeyond 54 = .ok (.goto (-49), 3) := by decide +kernel
theorem dX9_goesBeyond_57 : decode cX9_goesBeyond 57 = .ok (.iconst 0, 1) := by decide +kernel
theorem dX9_goesBeyond_58 : decode cX9_goesBeyond 58 = .ok (.ireturn, 1) := by decide +kernel
theorem dX9_applies_0 : decode cX9_applies 0 = .ok (.iconst 0, 1) := by decide +kernel
theorem dX9_applies_1 : decode cX9_applies 1 = .ok (.istore_n 2, 1) := by decide +kernel
theorem dX9_applies_2 : decode cX9_applies 2 = .ok (.bipush 120, 2) := by decide +kernel
theorem dX9_applies_4 : decode cX9_applies 4 = .ok (.iload_n 1, 1) := by decide +kernel
theorem dX9_applies_5 : decode cX9_applies 5 = .ok (.imul, 1) := by decide +kernel
theorem dX9_applies_6 : decode cX9_applies 6 = .ok (.istore_n 3, 1) := by decide +kernel
theorem dX9_applies_7 : decode cX9_applies 7 = .ok (.iload_n 3, 1) := by decide +kernel
theorem dX9_applies_8 : decode cX9_applies 8 = .ok (.bipush 120, 2) := by decide +kernel
theorem dX9_applies_10 : decode cX9_applies 10 = .ok (.iload_n 1, 1) := by decide +kernel
theorem dX9_applies_11 : decode cX9_applies 11 = .ok (.imul, 1) := by decide +kernel
theorem dX9_applies_12 : decode cX9_applies 12 = .ok (.aload_n 0, 1) := by decide +kernel
theorem dX9_applies_13 : decode cX9_applies 13 = .ok (.getfield 39, 3) := by decide +kernel
theorem dX9_applies_16 : decode cX9_applies 16 = .ok (.iload_n 1, 1) := by decide +kernel
theorem dX9_applies_17 : decode cX9_applies 17 = .ok (.iaload, 1) := by decide +kernel
theorem dX9_applies_18 : decode cX9_applies 18 = .ok (.iadd, 1) := by decide +kernel
theorem dX9_applies_19 : decode cX9_applies 19 = .ok (.if_icmp .ge 83, 3) := by decide +kernel
theorem dX9_applies_22 : decode cX9_applies 22 = .ok (.iconst 0, 1) := by decide +kernel
theorem dX9_applies_23 : decode cX9_applies 23 = .ok (.istore 4, 2) := by decide +kernel
theorem dX9_applies_25 : decode cX9_applies 25 = .ok (.iload 4, 2) := by decide +kernel
theorem dX9_applies_27 : decode cX9_applies 27 = .ok (.aload_n 0, 1) := by decide +kernel
theorem dX9_applies_28 : decode cX9_applies 28 = .ok (.getfield 51, 3) := by decide +kernel
theorem dX9_applies_31 : decode cX9_applies 31 = .ok (.iload_n 3, 1) := by decide +kernel
theorem dX9_applies_32 : decode cX9_applies 32 = .ok (.iaload, 1) := by decide +kernel
theorem dX9_applies_33 : decode cX9_applies 33 = .ok (.if_icmp .ge 63, 3) := by decide +kernel
theorem dX9_applies_36 : decode cX9_applies 36 = .ok (.aload_n 0, 1) := by decide +kernel
theorem dX9_applies_37 : decode cX9_applies 37 = .ok (.getfield 75, 3) := by decide +kernel
theorem dX9_applies_40 : decode cX9_applies 40 = .ok (.iload_n 2, 1) := by decide +kernel
theorem dX9_applies_41 : decode cX9_applies 41 = .ok (.aload_n 0, 1) := by decide +kernel
theorem dX9_applies_42 : decode cX9_applies 42 = .ok (.getfield 45, 3) := by decide +kernel
theorem dX9_applies_45 : decode cX9_applies 45 = .ok (.iload_n 3, 1) := by decide +kernel
theorem dX9_applies_46 : decode cX9_applies 46 = .ok (.baload, 1) := by decide +kernel
theorem dX9_applies_47 : decode cX9_applies 47 = .ok (.ifCond .eq 20, 3) := by decide +kernel
theorem dX9_applies_50 : decode cX9_applies 50 = .ok (.aload_n 0, 1) := by decide +kernel
theorem dX9_applies_51 : decode cX9_applies 51 = .ok (.getfield 72, 3) := by decide +kernel
theorem dX9_applies_54 : decode cX9_applies 54 = .ok (.aload_n 0, 1) := by decide +kernel
theorem dX9_applies_55 : decode cX9_applies 55 = .ok (.getfield 48, 3) := by decide +kernel
theorem dX9_applies_58 : decode cX9_applies 58 = .ok (.iload_n 3, 1) := by decide +kernel
theorem dX9_applies_59 : decode cX9_applies 59 = .ok (.iaload, 1) := by decide +kernel
theorem dX9_applies_60 : decode cX9_applies 60 = .ok (.iload 4, 2) := by decide +kernel
theorem dX9_applies_62 : decode cX9_applies 62 = .ok (.iadd, 1) := by decide +kernel
theorem dX9_applies_63 : decode cX9_applies 63 = .ok (.iaload, 1) := by decide +kernel
theorem dX9_applies_64 : decode cX9_applies 64 = .ok (.goto 22, 3) := by decide +kernel
theorem dX9_applies_67 : decode cX9_applies 67 = .ok (.aload_n 0, 1) := by decide +kernel
theorem dX9_applies_68 : decode cX9_applies 68 = .ok (.getfield 54, 3) := by decide +kernel
theorem dX9_applies_71 : decode cX9_applies 71 = .ok (.bipush 120, 2) := by decide +kernel
theorem dX9_applies_73 : decode cX9_applies 73 = .ok (.iload_n 1, 1) := by decide +kernel
theorem dX9_applies_74 : decode cX9_applies 74 = .ok (.imul, 1) := by decide +kernel
theorem dX9_applies_75 : decode cX9_applies 75 = .ok (.aload_n 0, 1) := by decide +kernel
theorem dX9_applies_76 : decode cX9_applies 76 = .ok (.getfield 48, 3) := by decide +kernel
theorem dX9_applies_79 : decode cX9_applies 79 = .ok (.iload_n 3, 1) := by decide +kernel
theorem dX9_applies_80 : decode cX9_applies 80 = .ok (.iaload, 1) := by decide +kernel
theorem dX9_applies_81 : decode cX9_applies 81 = .ok (.iadd, 1) := by decide +kernel
theorem dX9_applies_82 : decode cX9_applies 82 = .ok (.iload 4, 2) := by decide +kernel
theorem dX9_applies_84 : decode cX9_applies 84 = .ok (.iadd, 1) := by decide +kernel
theorem dX9_applies_85 : decode cX9_applies 85 = .ok (.iaload, 1) := by decide +kernel
theorem dX9_applies_86 : decode cX9_applies 86 = .ok (.iastore, 1) := by decide +kernel
theorem dX9_applies_87 : decode cX9_applies 87 = .ok (.iinc 2 1, 3) := by decide +kernel
theorem dX9_applies_90 : decode cX9_applies 90 = .ok (.iinc 4 1, 3) := by decide +kernel
theorem dX9_applies_93 : decode cX9_applies 93 = .ok (.goto (-68), 3) := by decide +kernel
theorem dX9_applies_96 : decode cX9_applies 96 = .ok (.iinc 3 1, 3) := by decide +kernel
theorem dX9_applies_99 : decode cX9_applies 99 = .ok (.goto (-92), 3) := by decide +kernel
theorem dX9_applies_102 : decode cX9_applies 102 = .ok (.aload_n 0, 1) := by decide +kernel
theorem dX9_applies_103 : decode cX9_applies 103 = .ok (.iload_n 2, 1) := by decide +kernel
theorem dX9_applies_104 : decode cX9_applies 104 = .ok (.putfield 125, 3) := by decide +kernel
theorem dX9_applies_107 : decode cX9_applies 107 = .ok (.iconst 0, 1) := by decide +kernel
theorem dX9_applies_108 : decode cX9_applies 108 = .ok (.istore_n 3, 1) := by decide +kernel
theorem dX9_applies_109 : decode cX9_applies 109 = .ok (.iload_n 3, 1) := by decide +kernel
theorem dX9_applies_110 : decode cX9_applies 110 = .ok (.iload_n 2, 1) := by decide +kernel
theorem dX9_applies_111 : decode cX9_applies 111 = .ok (.if_icmp .ge 21, 3) := by decide +kernel
theorem dX9_applies_114 : decode cX9_applies 114 = .ok (.aload_n 0, 1) := by decide +kernel
theorem dX9_applies_115 : decode cX9_applies 115 = .ok (.getfield 72, 3) := by decide +kernel
theorem dX9_applies_118 : decode cX9_applies 118 = .ok (.iload_n 3, 1) := by decide +kernel
theorem dX9_applies_119 : decode cX9_applies 119 = .ok (.aload_n 0, 1) := by decide +kernel
theorem dX9_applies_120 : decode cX9_applies 120 = .ok (.getfield 75, 3) := by decide +kernel
theorem dX9_applies_123 : decode cX9_applies 123 = .ok (.iload_n 3, 1) := by decide +kernel
theorem dX9_applies_124 : decode cX9_applies 124 = .ok (.iaload, 1) := by decide +kernel
theorem dX9_applies_125 : decode cX9_applies 125 = .ok (.iastore, 1) := by decide +kernel
theorem dX9_applies_126 : decode cX9_applies 126 = .ok (.iinc 3 1, 3) := by decide +kernel
theorem dX9_applies_129 : decode cX9_applies 129 = .ok (.goto (-20), 3) := by decide +kernel
theorem dX9_applies_132 : decode cX9_applies 132 = .ok (.return_, 1) := by decide +kernel
theorem dX9_apply_0 : decode cX9_apply 0 = .ok (.iload_n 1, 1) := by decide +kernel
theorem dX9_apply_1 : decode cX9_apply 1 = .ok (.invokestatic 142, 3) := by decide +kernel
theorem dX9_apply_4 : decode cX9_apply 4 = .ok (.ifCond .eq 23, 3) := by decide +kernel
theorem dX9_apply_7 : decode cX9_apply 7 = .ok (.aload_n 0, 1) := by decide +kernel
theorem dX9_apply_8 : decode cX9_apply 8 = .ok (.iload_n 2, 1) := by decide +kernel
theorem dX9_apply_9 : decode cX9_apply 9 = .ok (.invokevirtual 114, 3) := by decide +kernel
theorem dX9_apply_12 : decode cX9_apply 12 = .ok (.ifCond .eq 15, 3) := by decide +kernel
theorem dX9_apply_15 : decode cX9_apply 15 = .ok (.aload_n 0, 1) := by decide +kernel
theorem dX9_apply_16 : decode cX9_apply 16 = .ok (.iload_n 3, 1) := by decide +kernel
theorem dX9_apply_17 : decode cX9_apply 17 = .ok (.invokevirtual 114, 3) := by decide +kernel
theorem dX9_apply_20 : decode cX9_apply 20 = .ok (.ifCond .eq 7, 3) := by decide +kernel
theorem dX9_apply_23 : decode cX9_apply 23 = .ok (.iconst 1, 1) := by decide +kernel
theorem dX9_apply_24 : decode cX9_apply 24 = .ok (.goto 4, 3) := by decide +kernel
theorem dX9_apply_27 : decode cX9_apply 27 = .ok (.iconst 0, 1) := by decide +kernel
theorem dX9_apply_28 : decode cX9_apply 28 = .ok (.istore 4, 2) := by decide +kernel
theorem dX9_apply_30 : decode cX9_apply 30 = .ok (.iload 4, 2) := by decide +kernel
theorem dX9_apply_32 : decode cX9_apply 32 = .ok (.ifCond .eq 8, 3) := by decide +kernel
theorem dX9_apply_35 : decode cX9_apply 35 = .ok (.aload_n 0, 1) := by decide +kernel
theorem dX9_apply_36 : decode cX9_apply 36 = .ok (.iload_n 2, 1) := by decide +kernel
theorem dX9_apply_37 : decode cX9_apply 37 = .ok (.invokevirtual 145, 3) := by decide +kernel
theorem dX9_apply_40 : decode cX9_apply 40 = .ok (.aload_n 0, 1) := by decide +kernel
theorem dX9_apply_41 : decode cX9_apply 41 = .ok (.iload 4, 2) := by decide +kernel
theorem dX9_apply_43 : decode cX9_apply 43 = .ok (.iload 4, 2) := by decide +kernel
theorem dX9_apply_45 : decode cX9_apply 45 = .ok (.ifCond .eq 24, 3) := by decide +kernel
theorem dX9_apply_48 : decode cX9_apply 48 = .ok (.aload_n 0, 1) := by decide +kernel
theorem dX9_apply_49 : decode cX9_apply 49 = .ok (.getfield 35, 3) := by decide +kernel
theorem dX9_apply_52 : decode cX9_apply 52 = .ok (.iload_n 1, 1) := by decide +kernel
theorem dX9_apply_53 : decode cX9_apply 53 = .ok (.baload, 1) := by decide +kernel
theorem dX9_apply_54 : decode cX9_apply 54 = .ok (.ifCond .eq 15, 3) := by decide +kernel
theorem dX9_apply_57 : decode cX9_apply 57 = .ok (.aload_n 0, 1) := by decide +kernel
theorem dX9_apply_58 : decode cX9_apply 58 = .ok (.iload_n 1, 1) := by decide +kernel
theorem dX9_apply_59 : decode cX9_apply 59 = .ok (.invokevirtual 171, 3) := by decide +kernel
theorem dX9_apply_62 : decode cX9_apply 62 = .ok (.ifCond .ne 7, 3) := by decide +kernel
theorem dX9_apply_65 : decode cX9_apply 65 = .ok (.iconst 1, 1) := by decide +kernel
theorem dX9_apply_66 : decode cX9_apply 66 = .ok (.goto 4, 3) := by decide +kernel
theorem dX9_apply_69 : decode cX9_apply 69 = .ok (.iconst 0, 1) := by decide +kernel
theorem dX9_apply_70 : decode cX9_apply 70 = .ok (.invokevirtual 121, 3) := by decide +kernel
theorem dX9_apply_73 : decode cX9_apply 73 = .ok (.ifCond .ne 5, 3) := by decide +kernel
theorem dX9_apply_76 : decode cX9_apply 76 = .ok (.iconst 0, 1) := by decide +kernel
theorem dX9_apply_77 : decode cX9_apply 77 = .ok (.ireturn, 1) := by decide +kernel
theorem dX9_apply_78 : decode cX9_apply 78 = .ok (.aload_n 0, 1) := by decide +kernel
theorem dX9_apply_79 : decode cX9_apply 79 = .ok (.iload_n 1, 1) := by decide +kernel
theorem dX9_apply_80 : decode cX9_apply 80 = .ok (.invokevirtual 174, 3) := by decide +kernel
theorem dX9_apply_83 : decode cX9_apply 83 = .ok (.aload_n 0, 1) := by decide +kernel
theorem dX9_apply_84 : decode cX9_apply 84 = .ok (.iload_n 3, 1) := by decide +kernel
theorem dX9_apply_85 : decode cX9_apply 85 = .ok (.invokevirtual 177, 3) := by decide +kernel
theorem dX9_apply_88 : decode cX9_apply 88 = .ok (.ireturn, 1) := by decide +kernel
theorem dX9_isVersion_0 : decode cX9_isVersion 0 = .ok (.iload_n 1, 1) := by decide +kernel
theorem dX9_isVersion_1 : decode cX9_isVersion 1 = .ok (.ifCond .lt 15, 3) := by decide +kernel
theorem dX9_isVersion_4 : decode cX9_isVersion 4 = .ok (.iload_n 1, 1) := by decide +kernel
theorem dX9_isVersion_5 : decode cX9_isVersion 5 = .ok (.aload_n 0, 1) := by decide +kernel
theorem dX9_isVersion_6 : decode cX9_isVersion 6 = .ok (.getfield 180, 3) := by decide +kernel
theorem dX9_isVersion_9 : decode cX9_isVersion 9 = .ok (.if_icmp .ge 7, 3) := by decide +kernel
theorem dX9_isVersion_12 : decode cX9_isVersion 12 = .ok (.iconst 1, 1) := by decide +kernel
theorem dX9_isVersion_13 : decode cX9_isVersion 13 = .ok (.goto 4, 3) := by decide +kernel
theorem dX9_isVersion_16 : decode cX9_isVersion 16 = .ok (.iconst 0, 1) := by decide +kernel
theorem dX9_isVersion_17 : decode cX9_isVersion 17 = .ok (.ireturn, 1) := by decide +kernel
theorem dX9_holds_0 : decode cX9_holds 0 = .ok (.aload_n 0, 1) := by decide +kernel
theorem dX9_holds_1 : decode cX9_holds 1 = .ok (.getfield 57, 3) := by decide +kernel
theorem dX9_holds_4 : decode cX9_holds 4 = .ok (.iload_n 1, 1) := by decide +kernel
theorem dX9_holds_5 : decode cX9_holds 5 = .ok (.iconst 1, 1) := by decide +kernel
theorem dX9_holds_6 : decode cX9_holds 6 = .ok (.iastore, 1) := by decide +kernel
theorem dX9_holds_7 : decode cX9_holds 7 = .ok (.aload_n 0, 1) := by decide +kernel
theorem dX9_holds_8 : decode cX9_holds 8 = .ok (.getfield 63, 3) := by decide +kernel
theorem dX9_holds_11 : decode cX9_holds 11 = .ok (.iload_n 1, 1) := by decide +kernel
theorem dX9_holds_12 : decode cX9_holds 12 = .ok (.aload_n 0, 1) := by decide +kernel
theorem dX9_holds_13 : decode cX9_holds 13 = .ok (.getfield 7, 3) := by decide +kernel
theorem dX9_holds_16 : decode cX9_holds 16 = .ok (.iload_n 2, 1) := by decide +kernel
theorem dX9_holds_17 : decode cX9_holds 17 = .ok (.iaload, 1) := by decide +kernel
theorem dX9_holds_18 : decode cX9_holds 18 = .ok (.iastore, 1) := by decide +kernel
theorem dX9_holds_19 : decode cX9_holds 19 = .ok (.iconst 0, 1) := by decide +kernel
theorem dX9_holds_20 : decode cX9_holds 20 = .ok (.istore_n 3, 1) := by decide +kernel
theorem dX9_holds_21 : decode cX9_holds 21 = .ok (.iload_n 3, 1) := by decide +kernel
theorem dX9_holds_22 : decode cX9_holds 22 = .ok (.aload_n 0, 1) := by decide +kernel
theorem dX9_holds_23 : decode cX9_holds 23 = .ok (.getfield 7, 3) := by decide +kernel
theorem dX9_holds_26 : decode cX9_holds 26 = .ok (.iload_n 2, 1) := by decide +kernel
theorem dX9_holds_27 : decode cX9_holds 27 = .ok (.iaload, 1) := by decide +kernel
theorem dX9_holds_28 : decode cX9_holds 28 = .ok (.if_icmp .ge 31, 3) := by decide +kernel
theorem dX9_holds_31 : decode cX9_holds 31 = .ok (.aload_n 0, 1) := by decide +kernel
theorem dX9_holds_32 : decode cX9_holds 32 = .ok (.getfield 66, 3) := by decide +kernel
theorem dX9_holds_35 : decode cX9_holds 35 = .ok (.bipush 120, 2) := by decide +kernel
theorem dX9_holds_37 : decode cX9_holds 37 = .ok (.iload_n 1, 1) := by decide +kernel
theorem dX9_holds_38 : decode cX9_holds 38 = .ok (.imul, 1) := by decide +kernel
theorem dX9_holds_39 : decode cX9_holds 39 = .ok (.iload_n 3, 1) := by decide +kernel
theorem dX9_holds_40 : decode cX9_holds 40 = .ok (.iadd, 1) := by decide +kernel
theorem dX9_holds_41 : decode cX9_holds 41 = .ok (.aload_n 0, 1) := by decide +kernel
theorem dX9_holds_42 : decode cX9_holds 42 = .ok (.getfield 13, 3) := by decide +kernel
theorem dX9_holds_45 : decode cX9_holds 45 = .ok (.bipush 120, 2) := by decide +kernel
theorem dX9_holds_47 : decode cX9_holds 47 = .ok (.iload_n 2, 1) := by decide +kernel
theorem dX9_holds_48 : decode cX9_holds 48 = .ok (.imul, 1) := by decide +kernel
theorem dX9_holds_49 : decode cX9_holds 49 = .ok (.iload_n 3, 1) := by decide +kernel
theorem dX9_holds_50 : decode cX9_holds 50 = .ok (.iadd, 1) := by decide +kernel
theorem dX9_holds_51 : decode cX9_holds 51 = .ok (.iaload, 1) := by decide +kernel
theorem dX9_holds_52 : decode cX9_holds 52 = .ok (.iastore, 1) := by decide +kernel
theorem dX9_holds_53 : decode cX9_holds 53 = .ok (.iinc 3 1, 3) := by decide +kernel
theorem dX9_holds_56 : decode cX9_holds 56 = .ok (.goto (-35), 3) := by decide +kernel
theorem dX9_holds_59 : decode cX9_holds 59 = .ok (.return_, 1) := by decide +kernel
theorem dX9_makes_0 : decode cX9_makes 0 = .ok (.iconst 0, 1) := by decide +kernel
theorem dX9_makes_1 : decode cX9_makes 1 = .ok (.istore_n 2, 1) := by decide +kernel
theorem dX9_makes_2 : decode cX9_makes 2 = .ok (.iload_n 1, 1) := by decide +kernel
theorem dX9_makes_3 : decode cX9_makes 3 = .ok (.istore_n 3, 1) := by decide +kernel
theorem dX9_makes_4 : decode cX9_makes 4 = .ok (.aload_n 0, 1) := by decide +kernel
theorem dX9_makes_5 : decode cX9_makes 5 = .ok (.getfield 57, 3) := by decide +kernel
theorem dX9_makes_8 : decode cX9_makes 8 = .ok (.iload_n 3, 1) := by decide +kernel
theorem dX9_makes_9 : decode cX9_makes 9 = .ok (.iaload, 1) := by decide +kernel
theorem dX9_makes_10 : decode cX9_makes 10 = .ok (.iconst 2, 1) := by decide +kernel
theorem dX9_makes_11 : decode cX9_makes 11 = .ok (.if_icmp .ne 23, 3) := by decide +kernel
theorem dX9_makes_14 : decode cX9_makes 14 = .ok (.aload_n 0, 1) := by decide +kernel
theorem dX9_makes_15 : decode cX9_makes 15 = .ok (.getfield 69, 3) := by decide +kernel
theorem dX9_makes_18 : decode cX9_makes 18 = .ok (.iload_n 2, 1) := by decide +kernel
theorem dX9_makes_19 : decode cX9_makes 19 = .ok (.iload_n 3, 1) := by decide +kernel
theorem dX9_makes_20 : decode cX9_makes 20 = .ok (.iastore, 1) := by decide +kernel
theorem dX9_makes_21 : decode cX9_makes 21 = .ok (.iinc 2 1, 3) := by decide +kernel
theorem dX9_makes_24 : decode cX9_makes 24 = .ok (.aload_n 0, 1) := by decide +kernel
theorem dX9_makes_25 : decode cX9_makes 25 = .ok (.getfield 60, 3) := by decide +kernel
theorem dX9_makes_28 : decode cX9_makes 28 = .ok (.iload_n 3, 1) := by decide +kernel
theorem dX9_makes_29 : decode cX9_makes 29 = .ok (.iaload, 1) := by decide +kernel
theorem dX9_makes_30 : decode cX9_makes 30 = .ok (.istore_n 3, 1) := by decide +kernel
theorem dX9_makes_31 : decode cX9_makes 31 = .ok (.goto (-27), 3) := by decide +kernel
theorem dX9_makes_34 : decode cX9_makes 34 = .ok (.aload_n 0, 1) := by decide +kernel
theorem dX9_makes_35 : decode cX9_makes 35 = .ok (.iconst (-1), 1) := by decide +kernel
theorem dX9_makes_36 : decode cX9_makes 36 = .ok (.putfield 183, 3) := by decide +kernel
theorem dX9_makes_39 : decode cX9_makes 39 = .ok (.aload_n 0, 1) := by decide +kernel
theorem dX9_makes_40 : decode cX9_makes 40 = .ok (.iconst (-1), 1) := by decide +kernel
theorem dX9_makes_41 : decode cX9_makes 41 = .ok (.putfield 186, 3) := by decide +kernel
theorem dX9_makes_44 : decode cX9_makes 44 = .ok (.aload_n 0, 1) := by decide +kernel
theorem dX9_makes_45 : decode cX9_makes 45 = .ok (.iconst (-1), 1) := by decide +kernel
theorem dX9_makes_46 : decode cX9_makes 46 = .ok (.putfield 189, 3) := by decide +kernel
theorem dX9_makes_49 : decode cX9_makes 49 = .ok (.aload_n 0, 1) := by decide +kernel
theorem dX9_makes_50 : decode cX9_makes 50 = .ok (.getfield 57, 3) := by decide +kernel
theorem dX9_makes_53 : decode cX9_makes 53 = .ok (.iload_n 3, 1) := by decide +kernel
theorem dX9_makes_54 : decode cX9_makes 54 = .ok (.iaload, 1) := by decide +kernel
theorem dX9_makes_55 : decode cX9_makes 55 = .ok (.ifCond .ne 20, 3) := by decide +kernel
theorem dX9_makes_58 : decode cX9_makes 58 = .ok (.aload_n 0, 1) := by decide +kernel
theorem dX9_makes_59 : decode cX9_makes 59 = .ok (.iload_n 3, 1) := by decide +kernel
theorem dX9_makes_60 : decode cX9_makes 60 = .ok (.putfield 183, 3) := by decide +kernel
theorem dX9_makes_63 : decode cX9_makes 63 = .ok (.aload_n 0, 1) := by decide +kernel
theorem dX9_makes_64 : decode cX9_makes 64 = .ok (.iload_n 2, 1) := by decide +kernel
theorem dX9_makes_65 : decode cX9_makes 65 = .ok (.putfield 186, 3) := by decide +kernel
theorem dX9_makes_68 : decode cX9_makes 68 = .ok (.aload_n 0, 1) := by decide +kernel
theorem dX9_makes_69 : decode cX9_makes 69 = .ok (.iconst 1, 1) := by decide +kernel
theorem dX9_makes_70 : decode cX9_makes 70 = .ok (.putfield 189, 3) := by decide +kernel
theorem dX9_makes_73 : decode cX9_makes 73 = .ok (.iconst 0, 1) := by decide +kernel
theorem dX9_makes_74 : decode cX9_makes 74 = .ok (.ireturn, 1) := by decide +kernel
theorem dX9_makes_75 : decode cX9_makes 75 = .ok (.aload_n 0, 1) := by decide +kernel
theorem dX9_makes_76 : decode cX9_makes 76 = .ok (.aload_n 0, 1) := by decide +kernel
theorem dX9_makes_77 : decode cX9_makes 77 = .ok (.getfield 63, 3) := by decide +kernel
theorem dX9_makes_80 : decode cX9_makes 80 = .ok (.iload_n 3, 1) := by decide +kernel
theorem dX9_makes_81 : decode cX9_makes 81 = .ok (.iaload, 1) := by decide +kernel
theorem dX9_makes_82 : decode cX9_makes 82 = .ok (.putfield 125, 3) := by decide +kernel
theorem dX9_makes_85 : decode cX9_makes 85 = .ok (.iconst 0, 1) := by decide +kernel
theorem dX9_makes_86 : decode cX9_makes 86 = .ok (.istore 4, 2) := by decide +kernel
theorem dX9_makes_88 : decode cX9_makes 88 = .ok (.iload 4, 2) := by decide +kernel
theorem dX9_makes_90 : decode cX9_makes 90 = .ok (.aload_n 0, 1) := by decide +kernel
theorem dX9_makes_91 : decode cX9_makes 91 = .ok (.getfield 125, 3) := by decide +kernel
theorem dX9_makes_94 : decode cX9_makes 94 = .ok (.if_icmp .ge 28, 3) := by decide +kernel
theorem dX9_makes_97 : decode cX9_makes 97 = .ok (.aload_n 0, 1) := by decide +kernel
theorem dX9_makes_98 : decode cX9_makes 98 = .ok (.getfield 72, 3) := by decide +kernel
theorem dX9_makes_101 : decode cX9_makes 101 = .ok (.iload 4, 2) := by decide +kernel
theorem dX9_makes_103 : decode cX9_makes 103 = .ok (.aload_n 0, 1) := by decide +kernel
theorem dX9_makes_104 : decode cX9_makes 104 = .ok (.getfield 66, 3) := by decide +kernel
theorem dX9_makes_107 : decode cX9_makes 107 = .ok (.bipush 120, 2) := by decide +kernel
theorem dX9_makes_109 : decode cX9_makes 109 = .ok (.iload_n 3, 1) := by decide +kernel
theorem dX9_makes_110 : decode cX9_makes 110 = .ok (.imul, 1) := by decide +kernel
theorem dX9_makes_111 : decode cX9_makes 111 = .ok (.iload 4, 2) := by decide +kernel
theorem dX9_makes_113 : decode cX9_makes 113 = .ok (.iadd, 1) := by decide +kernel
theorem dX9_makes_114 : decode cX9_makes 114 = .ok (.iaload, 1) := by decide +kernel
theorem dX9_makes_115 : decode cX9_makes 115 = .ok (.iastore, 1) := by decide +kernel
theorem dX9_makes_116 : decode cX9_makes 116 = .ok (.iinc 4 1, 3) := by decide +kernel
theorem dX9_makes_119 : decode cX9_makes 119 = .ok (.goto (-31), 3) := by decide +kernel
theorem dX9_makes_122 : decode cX9_makes 122 = .ok (.iload_n 2, 1) := by decide +kernel
theorem dX9_makes_123 : decode cX9_makes 123 = .ok (.iconst 1, 1) := by decide +kernel
theorem dX9_makes_124 : decode cX9_makes 124 = .ok (.isub, 1) := by decide +kernel
theorem dX9_makes_125 : decode cX9_makes 125 = .ok (.istore 4, 2) := by decide +kernel
theorem dX9_makes_127 : decode cX9_makes 127 = .ok (.iload 4, 2) := by decide +kernel
theorem dX9_makes_129 : decode cX9_makes 129 = .ok (.ifCond .lt 62, 3) := by decide +kernel
theorem dX9_makes_132 : decode cX9_makes 132 = .ok (.aload_n 0, 1) := by decide +kernel
theorem dX9_makes_133 : decode cX9_makes 133 = .ok (.iconst 4, 1) := by decide +kernel
theorem dX9_makes_134 : decode cX9_makes 134 = .ok (.aload_n 0, 1) := by decide +kernel
theorem dX9_makes_135 : decode cX9_makes 135 = .ok (.getfield 69, 3) := by decide +kernel
theorem dX9_makes_138 : decode cX9_makes 138 = .ok (.iload 4, 2) := by decide +kernel
theorem dX9_makes_140 : decode cX9_makes 140 = .ok (.iaload, 1) := by decide +kernel
theorem dX9_makes_141 : decode cX9_makes 141 = .ok (.iadd, 1) := by decide +kernel
theorem dX9_makes_142 : decode cX9_makes 142 = .ok (.invokevirtual 171, 3) := by decide +kernel
theorem dX9_makes_145 : decode cX9_makes 145 = .ok (.ifCond .eq 27, 3) := by decide +kernel
theorem dX9_makes_148 : decode cX9_makes 148 = .ok (.aload_n 0, 1) := by decide +kernel
theorem dX9_makes_149 : decode cX9_makes 149 = .ok (.aload_n 0, 1) := by decide +kernel
theorem dX9_makes_150 : decode cX9_makes 150 = .ok (.getfield 69, 3) := by decide +kernel
theorem dX9_makes_153 : decode cX9_makes 153 = .ok (.iload 4, 2) := by decide +kernel
theorem dX9_makes_155 : decode cX9_makes 155 = .ok (.iaload, 1) := by decide +kernel
theorem dX9_makes_156 : decode cX9_makes 156 = .ok (.putfield 183, 3) := by decide +kernel
theorem dX9_makes_159 : decode cX9_makes 159 = .ok (.aload_n 0, 1) := by decide +kernel
theorem dX9_makes_160 : decode cX9_makes 160 = .ok (.iload 4, 2) := by decide +kernel
theorem dX9_makes_162 : decode cX9_makes 162 = .ok (.putfield 186, 3) := by decide +kernel
theorem dX9_makes_165 : decode cX9_makes 165 = .ok (.aload_n 0, 1) := by decide +kernel
theorem dX9_makes_166 : decode cX9_makes 166 = .ok (.iconst 2, 1) := by decide +kernel
theorem dX9_makes_167 : decode cX9_makes 167 = .ok (.putfield 189, 3) := by decide +kernel
theorem dX9_makes_170 : decode cX9_makes 170 = .ok (.iconst 0, 1) := by decide +kernel
theorem dX9_makes_171 : decode cX9_makes 171 = .ok (.ireturn, 1) := by decide +kernel
theorem dX9_makes_172 : decode cX9_makes 172 = .ok (.aload_n 0, 1) := by decide +kernel
theorem dX9_makes_173 : decode cX9_makes 173 = .ok (.iconst 4, 1) := by decide +kernel
theorem dX9_makes_174 : decode cX9_makes 174 = .ok (.aload_n 0, 1) := by decide +kernel
theorem dX9_makes_175 : decode cX9_makes 175 = .ok (.getfield 69, 3) := by decide +kernel
theorem dX9_makes_178 : decode cX9_makes 178 = .ok (.iload 4, 2) := by decide +kernel
theorem dX9_makes_180 : decode cX9_makes 180 = .ok (.iaload, 1) := by decide +kernel
theorem dX9_makes_181 : decode cX9_makes 181 = .ok (.iadd, 1) := by decide +kernel
theorem dX9_makes_182 : decode cX9_makes 182 = .ok (.invokevirtual 174, 3) := by decide +kernel
theorem dX9_makes_185 : decode cX9_makes 185 = .ok (.iinc 4 (-1), 3) := by decide +kernel
theorem dX9_makes_188 : decode cX9_makes 188 = .ok (.goto (-61), 3) := by decide +kernel
theorem dX9_makes_191 : decode cX9_makes 191 = .ok (.iconst 1, 1) := by decide +kernel
theorem dX9_makes_192 : decode cX9_makes 192 = .ok (.ireturn, 1) := by decide +kernel
theorem dX9_keep_0 : decode cX9_keep 0 = .ok (.aload_n 0, 1) := by decide +kernel
theorem dX9_keep_1 : decode cX9_keep 1 = .ok (.aload_n 0, 1) := by decide +kernel
theorem dX9_keep_2 : decode cX9_keep 2 = .ok (.iload_n 1, 1) := by decide +kernel
theorem dX9_keep_3 : decode cX9_keep 3 = .ok (.invokevirtual 114, 3) := by decide +kernel
theorem dX9_keep_6 : decode cX9_keep 6 = .ok (.aload_n 0, 1) := by decide +kernel
theorem dX9_keep_7 : decode cX9_keep 7 = .ok (.getfield 180, 3) := by decide +kernel
theorem dX9_keep_10 : decode cX9_keep 10 = .ok (.bipush 20, 2) := by decide +kernel
theorem dX9_keep_12 : decode cX9_keep 12 = .ok (.if_icmp .ge 7, 3) := by decide +kernel
theorem dX9_keep_15 : decode cX9_keep 15 = .ok (.iconst 1, 1) := by decide +kernel
theorem dX9_keep_16 : decode cX9_keep 16 = .ok (.goto 4, 3) := by decide +kernel
theorem dX9_keep_19 : decode cX9_keep 19 = .ok (.iconst 0, 1) := by decide +kernel
theorem dX9_keep_20 : decode cX9_keep 20 = .ok (.invokevirtual 121, 3) := by decide +kernel
theorem dX9_keep_23 : decode cX9_keep 23 = .ok (.ifCond .ne 5, 3) := by decide +kernel
theorem dX9_keep_26 : decode cX9_keep 26 = .ok (.iconst 0, 1) := by decide +kernel
theorem dX9_keep_27 : decode cX9_keep 27 = .ok (.ireturn, 1) := by decide +kernel
theorem dX9_keep_28 : decode cX9_keep 28 = .ok (.aload_n 0, 1) := by decide +kernel
theorem dX9_keep_29 : decode cX9_keep 29 = .ok (.aload_n 0, 1) := by decide +kernel
theorem dX9_keep_30 : decode cX9_keep 30 = .ok (.getfield 180, 3) := by decide +kernel
theorem dX9_keep_33 : decode cX9_keep 33 = .ok (.iload_n 1, 1) := by decide +kernel
theorem dX9_keep_34 : decode cX9_keep 34 = .ok (.invokevirtual 192, 3) := by decide +kernel
theorem dX9_keep_37 : decode cX9_keep 37 = .ok (.aload_n 0, 1) := by decide +kernel
theorem dX9_keep_38 : decode cX9_keep 38 = .ok (.dup, 1) := by decide +kernel
theorem dX9_keep_39 : decode cX9_keep 39 = .ok (.getfield 180, 3) := by decide +kernel
theorem dX9_keep_42 : decode cX9_keep 42 = .ok (.iconst 1, 1) := by decide +kernel
theorem dX9_keep_43 : decode cX9_keep 43 = .ok (.iadd, 1) := by decide +kernel
theorem dX9_keep_44 : decode cX9_keep 44 = .ok (.putfield 180, 3) := by decide +kernel
theorem dX9_keep_47 : decode cX9_keep 47 = .ok (.aload_n 0, 1) := by decide +kernel
theorem dX9_keep_48 : decode cX9_keep 48 = .ok (.getfield 180, 3) := by decide +kernel
theorem dX9_keep_51 : decode cX9_keep 51 = .ok (.iconst 1, 1) := by decide +kernel
theorem dX9_keep_52 : decode cX9_keep 52 = .ok (.isub, 1) := by decide +kernel
theorem dX9_keep_53 : decode cX9_keep 53 = .ok (.ireturn, 1) := by decide +kernel
theorem dX9_keepDelta_0 : decode cX9_keepDelta 0 = .ok (.aload_n 0, 1) := by decide +kernel
theorem dX9_keepDelta_1 : decode cX9_keepDelta 1 = .ok (.iload_n 1, 1) := by decide +kernel
theorem dX9_keepDelta_2 : decode cX9_keepDelta 2 = .ok (.invokevirtual 114, 3) := by decide +kernel
theorem dX9_keepDelta_5 : decode cX9_keepDelta 5 = .ok (.ifCond .eq 15, 3) := by decide +kernel
theorem dX9_keepDelta_8 : decode cX9_keepDelta 8 = .ok (.aload_n 0, 1) := by decide +kernel
theorem dX9_keepDelta_9 : decode cX9_keepDelta 9 = .ok (.iload_n 2, 1) := by decide +kernel
theorem dX9_keepDelta_10 : decode cX9_keepDelta 10 = .ok (.invokevirtual 196, 3) := by decide +kernel
theorem dX9_keepDelta_13 : decode cX9_keepDelta 13 = .ok (.ifCond .eq 7, 3) := by decide +kernel
theorem dX9_keepDelta_16 : decode cX9_keepDelta 16 = .ok (.iconst 1, 1) := by decide +kernel
theorem dX9_keepDelta_17 : decode cX9_keepDelta 17 = .ok (.goto 4, 3) := by decide +kernel
theorem dX9_keepDelta_20 : decode cX9_keepDelta 20 = .ok (.iconst 0, 1) := by decide +kernel
theorem dX9_keepDelta_21 : decode cX9_keepDelta 21 = .ok (.istore 4, 2) := by decide +kernel
theorem dX9_keepDelta_23 : decode cX9_keepDelta 23 = .ok (.iload_n 3, 1) := by decide +kernel
theorem dX9_keepDelta_24 : decode cX9_keepDelta 24 = .ok (.iconst 1, 1) := by decide +kernel
theorem dX9_keepDelta_25 : decode cX9_keepDelta 25 = .ok (.if_icmp .lt 13, 3) := by decide +kernel
theorem dX9_keepDelta_28 : decode cX9_keepDelta 28 = .ok (.iload_n 3, 1) := by decide +kernel
theorem dX9_keepDelta_29 : decode cX9_keepDelta 29 = .ok (.bipush 7, 2) := by decide +kernel
theorem dX9_keepDelta_31 : decode cX9_keepDelta 31 = .ok (.if_icmp .gt 7, 3) := by decide +kernel
theorem dX9_keepDelta_34 : decode cX9_keepDelta 34 = .ok (.iconst 1, 1) := by decide +kernel
theorem dX9_keepDelta_35 : decode cX9_keepDelta 35 = .ok (.goto 4, 3) := by decide +kernel
theorem dX9_keepDelta_38 : decode cX9_keepDelta 38 = .ok (.iconst 0, 1) := by decide +kernel
theorem dX9_keepDelta_39 : decode cX9_keepDelta 39 = .ok (.istore 5, 2) := by decide +kernel
theorem dX9_keepDelta_41 : decode cX9_keepDelta 41 = .ok (.aload_n 0, 1) := by decide +kernel
theorem dX9_keepDelta_42 : decode cX9_keepDelta 42 = .ok (.iload 4, 2) := by decide +kernel
theorem dX9_keepDelta_44 : decode cX9_keepDelta 44 = .ok (.iload 5, 2) := by decide +kernel
theorem dX9_keepDelta_46 : decode cX9_keepDelta 46 = .ok (.iload 4, 2) := by decide +kernel
theorem dX9_keepDelta_48 : decode cX9_keepDelta 48 = .ok (.ifCond .eq 24, 3) := by decide +kernel
theorem dX9_keepDelta_51 : decode cX9_keepDelta 51 = .ok (.aload_n 0, 1) := by decide +kernel
theorem dX9_keepDelta_52 : decode cX9_keepDelta 52 = .ok (.getfield 180, 3) := by decide +kernel
theorem dX9_keepDelta_55 : decode cX9_keepDelta 55 = .ok (.bipush 20, 2) := by decide +kernel
theorem dX9_keepDelta_57 : decode cX9_keepDelta 57 = .ok (.if_icmp .ge 15, 3) := by decide +kernel
theorem dX9_keepDelta_60 : decode cX9_keepDelta 60 = .ok (.aload_n 0, 1) := by decide +kernel
theorem dX9_keepDelta_61 : decode cX9_keepDelta 61 = .ok (.iload_n 2, 1) := by decide +kernel
theorem dX9_keepDelta_62 : decode cX9_keepDelta 62 = .ok (.invokevirtual 199, 3) := by decide +kernel
theorem dX9_keepDelta_65 : decode cX9_keepDelta 65 = .ok (.ifCond .eq 7, 3) := by decide +kernel
theorem dX9_keepDelta_68 : decode cX9_keepDelta 68 = .ok (.iconst 1, 1) := by decide +kernel
theorem dX9_keepDelta_69 : decode cX9_keepDelta 69 = .ok (.goto 4, 3) := by decide +kernel
theorem dX9_keepDelta_72 : decode cX9_keepDelta 72 = .ok (.iconst 0, 1) := by decide +kernel
theorem dX9_keepDelta_73 : decode cX9_keepDelta 73 = .ok (.invokevirtual 117, 3) := by decide +kernel
theorem dX9_keepDelta_76 : decode cX9_keepDelta 76 = .ok (.ifCond .ne 5, 3) := by decide +kernel
theorem dX9_keepDelta_79 : decode cX9_keepDelta 79 = .ok (.iconst 0, 1) := by decide +kernel
theorem dX9_keepDelta_80 : decode cX9_keepDelta 80 = .ok (.ireturn, 1) := by decide +kernel
theorem dX9_keepDelta_81 : decode cX9_keepDelta 81 = .ok (.aload_n 0, 1) := by decide +kernel
theorem dX9_keepDelta_82 : decode cX9_keepDelta 82 = .ok (.iconst 4, 1) := by decide +kernel
theorem dX9_keepDelta_83 : decode cX9_keepDelta 83 = .ok (.iload_n 3, 1) := by decide +kernel
theorem dX9_keepDelta_84 : decode cX9_keepDelta 84 = .ok (.sipush 256, 3) := by decide +kernel
theorem dX9_keepDelta_87 : decode cX9_keepDelta 87 = .ok (.invokevirtual 149, 3) := by decide +kernel
theorem dX9_keepDelta_90 : decode cX9_keepDelta 90 = .ok (.aload_n 0, 1) := by decide +kernel
theorem dX9_keepDelta_91 : decode cX9_keepDelta 91 = .ok (.getfield 180, 3) := by decide +kernel
theorem dX9_keepDelta_94 : decode cX9_keepDelta 94 = .ok (.istore 6, 2) := by decide +kernel
theorem dX9_keepDelta_96 : decode cX9_keepDelta 96 = .ok (.aload_n 0, 1) := by decide +kernel
theorem dX9_keepDelta_97 : decode cX9_keepDelta 97 = .ok (.getfield 57, 3) := by decide +kernel
theorem dX9_keepDelta_100 : decode cX9_keepDelta 100 = .ok (.iload 6, 2) := by decide +kernel
theorem dX9_keepDelta_102 : decode cX9_keepDelta 102 = .ok (.iconst 2, 1) := by decide +kernel
theorem dX9_keepDelta_103 : decode cX9_keepDelta 103 = .ok (.iastore, 1) := by decide +kernel
theorem dX9_keepDelta_104 : decode cX9_keepDelta 104 = .ok (.aload_n 0, 1) := by decide +kernel
theorem dX9_keepDelta_105 : decode cX9_keepDelta 105 = .ok (.getfield 60, 3) := by decide +kernel
theorem dX9_keepDelta_108 : decode cX9_keepDelta 108 = .ok (.iload 6, 2) := by decide +kernel
theorem dX9_keepDelta_110 : decode cX9_keepDelta 110 = .ok (.iload_n 2, 1) := by decide +kernel
theorem dX9_keepDelta_111 : decode cX9_keepDelta 111 = .ok (.iastore, 1) := by decide +kernel
theorem dX9_keepDelta_112 : decode cX9_keepDelta 112 = .ok (.aload_n 0, 1) := by decide +kernel
theorem dX9_keepDelta_113 : decode cX9_keepDelta 113 = .ok (.iconst 4, 1) := by decide +kernel
theorem dX9_keepDelta_114 : decode cX9_keepDelta 114 = .ok (.iload 6, 2) := by decide +kernel
theorem dX9_keepDelta_116 : decode cX9_keepDelta 116 = .ok (.iadd, 1) := by decide +kernel
theorem dX9_keepDelta_117 : decode cX9_keepDelta 117 = .ok (.iconst 4, 1) := by decide +kernel
theorem dX9_keepDelta_118 : decode cX9_keepDelta 118 = .ok (.iload_n 1, 1) := by decide +kernel
theorem dX9_keepDelta_119 : decode cX9_keepDelta 119 = .ok (.invokevirtual 161, 3) := by decide +kernel
theorem dX9_keepDelta_122 : decode cX9_keepDelta 122 = .ok (.aload_n 0, 1) := by decide +kernel
theorem dX9_keepDelta_123 : decode cX9_keepDelta 123 = .ok (.dup, 1) := by decide +kernel
theorem dX9_keepDelta_124 : decode cX9_keepDelta 124 = .ok (.getfield 180, 3) := by decide +kernel
theorem dX9_keepDelta_127 : decode cX9_keepDelta 127 = .ok (.iconst 1, 1) := by decide +kernel
theorem dX9_keepDelta_128 : decode cX9_keepDelta 128 = .ok (.iadd, 1) := by decide +kernel
theorem dX9_keepDelta_129 : decode cX9_keepDelta 129 = .ok (.putfield 180, 3) := by decide +kernel
theorem dX9_keepDelta_132 : decode cX9_keepDelta 132 = .ok (.iload 6, 2) := by decide +kernel
theorem dX9_keepDelta_134 : decode cX9_keepDelta 134 = .ok (.ireturn, 1) := by decide +kernel
theorem dX9_heldOf_0 : decode cX9_heldOf 0 = .ok (.aload_n 0, 1) := by decide +kernel
theorem dX9_heldOf_1 : decode cX9_heldOf 1 = .ok (.getfield 57, 3) := by decide +kernel
theorem dX9_heldOf_4 : decode cX9_heldOf 4 = .ok (.iload_n 1, 1) := by decide +kernel
theorem dX9_heldOf_5 : decode cX9_heldOf 5 = .ok (.iaload, 1) := by decide +kernel
theorem dX9_heldOf_6 : decode cX9_heldOf 6 = .ok (.ifCond .ne 7, 3) := by decide +kernel
theorem dX9_heldOf_9 : decode cX9_heldOf 9 = .ok (.iconst 0, 1) := by decide +kernel
theorem dX9_heldOf_10 : decode cX9_heldOf 10 = .ok (.goto 29, 3) := by decide +kernel
theorem dX9_heldOf_13 : decode cX9_heldOf 13 = .ok (.aload_n 0, 1) := by decide +kernel
theorem dX9_heldOf_14 : decode cX9_heldOf 14 = .ok (.getfield 57, 3) := by decide +kernel
theorem dX9_heldOf_17 : decode cX9_heldOf 17 = .ok (.iload_n 1, 1) := by decide +kernel
theorem dX9_heldOf_18 : decode cX9_heldOf 18 = .ok (.iaload, 1) := by decide +kernel
theorem dX9_heldOf_19 : decode cX9_heldOf 19 = .ok (.iconst 1, 1) := by decide +kernel
theorem dX9_heldOf_20 : decode cX9_heldOf 20 = .ok (.if_icmp .ne 12, 3) := by decide +kernel
theorem dX9_heldOf_23 : decode cX9_heldOf 23 = .ok (.aload_n 0, 1) := by decide +kernel
theorem dX9_heldOf_24 : decode cX9_heldOf 24 = .ok (.getfield 63, 3) := by decide +kernel
theorem dX9_heldOf_27 : decode cX9_heldOf 27 = .ok (.iload_n 1, 1) := by decide +kernel
theorem dX9_heldOf_28 : decode cX9_heldOf 28 = .ok (.iaload, 1) := by decide +kernel
theorem dX9_heldOf_29 : decode cX9_heldOf 29 = .ok (.goto 10, 3) := by decide +kernel
theorem dX9_heldOf_32 : decode cX9_heldOf 32 = .ok (.aload_n 0, 1) := by decide +kernel
theorem dX9_heldOf_33 : decode cX9_heldOf 33 = .ok (.iconst 4, 1) := by decide +kernel
theorem dX9_heldOf_34 : decode cX9_heldOf 34 = .ok (.iload_n 1, 1) := by decide +kernel
theorem dX9_heldOf_35 : decode cX9_heldOf 35 = .ok (.iadd, 1) := by decide +kernel
theorem dX9_heldOf_36 : decode cX9_heldOf 36 = .ok (.invokevirtual 167, 3) := by decide +kernel
theorem dX9_heldOf_39 : decode cX9_heldOf 39 = .ok (.ireturn, 1) := by decide +kernel
theorem dX9_lose_0 : decode cX9_lose 0 = .ok (.aload_n 0, 1) := by decide +kernel
theorem dX9_lose_1 : decode cX9_lose 1 = .ok (.aload_n 0, 1) := by decide +kernel
theorem dX9_lose_2 : decode cX9_lose 2 = .ok (.iload_n 1, 1) := by decide +kernel
theorem dX9_lose_3 : decode cX9_lose 3 = .ok (.invokevirtual 196, 3) := by decide +kernel
theorem dX9_lose_6 : decode cX9_lose 6 = .ok (.invokevirtual 106, 3) := by decide +kernel
theorem dX9_lose_9 : decode cX9_lose 9 = .ok (.ifCond .ne 5, 3) := by decide +kernel
theorem dX9_lose_12 : decode cX9_lose 12 = .ok (.iconst 0, 1) := by decide +kernel
theorem dX9_lose_13 : decode cX9_lose 13 = .ok (.ireturn, 1) := by decide +kernel
theorem dX9_lose_14 : decode cX9_lose 14 = .ok (.aload_n 0, 1) := by decide +kernel
theorem dX9_lose_15 : decode cX9_lose 15 = .ok (.iload_n 1, 1) := by decide +kernel
theorem dX9_lose_16 : decode cX9_lose 16 = .ok (.invokevirtual 202, 3) := by decide +kernel
theorem dX9_lose_19 : decode cX9_lose 19 = .ok (.istore_n 2, 1) := by decide +kernel
theorem dX9_lose_20 : decode cX9_lose 20 = .ok (.aload_n 0, 1) := by decide +kernel
theorem dX9_lose_21 : decode cX9_lose 21 = .ok (.getfield 57, 3) := by decide +kernel
theorem dX9_lose_24 : decode cX9_lose 24 = .ok (.iload_n 1, 1) := by decide +kernel
theorem dX9_lose_25 : decode cX9_lose 25 = .ok (.iconst 0, 1) := by decide +kernel
theorem dX9_lose_26 : decode cX9_lose 26 = .ok (.iastore, 1) := by decide +kernel
theorem dX9_lose_27 : decode cX9_lose 27 = .ok (.iload_n 2, 1) := by decide +kernel
theorem dX9_lose_28 : decode cX9_lose 28 = .ok (.ireturn, 1) := by decide +kernel
theorem dX9_replace_0 : decode cX9_replace 0 = .ok (.aload_n 0, 1) := by decide +kernel
theorem dX9_replace_1 : decode cX9_replace 1 = .ok (.aload_n 0, 1) := by decide +kernel
theorem dX9_replace_2 : decode cX9_replace 2 = .ok (.iload_n 1, 1) := by decide +kernel
theorem dX9_replace_3 : decode cX9_replace 3 = .ok (.invokevirtual 196, 3) := by decide +kernel
theorem dX9_replace_6 : decode cX9_replace 6 = .ok (.ifCond .eq 15, 3) := by decide +kernel
theorem dX9_replace_9 : decode cX9_replace 9 = .ok (.aload_n 0, 1) := by decide +kernel
theorem dX9_replace_10 : decode cX9_replace 10 = .ok (.iload_n 2, 1) := by decide +kernel
theorem dX9_replace_11 : decode cX9_replace 11 = .ok (.invokevirtual 114, 3) := by decide +kernel
theorem dX9_replace_14 : decode cX9_replace 14 = .ok (.ifCond .eq 7, 3) := by decide +kernel
theorem dX9_replace_17 : decode cX9_replace 17 = .ok (.iconst 1, 1) := by decide +kernel
theorem dX9_replace_18 : decode cX9_replace 18 = .ok (.goto 4, 3) := by decide +kernel
theorem dX9_replace_21 : decode cX9_replace 21 = .ok (.iconst 0, 1) := by decide +kernel
theorem dX9_replace_22 : decode cX9_replace 22 = .ok (.invokevirtual 106, 3) := by decide +kernel
theorem dX9_replace_25 : decode cX9_replace 25 = .ok (.ifCond .eq 9, 3) := by decide +kernel
theorem dX9_replace_28 : decode cX9_replace 28 = .ok (.aload_n 0, 1) := by decide +kernel
theorem dX9_replace_29 : decode cX9_replace 29 = .ok (.iload_n 1, 1) := by decide +kernel
theorem dX9_replace_30 : decode cX9_replace 30 = .ok (.iload_n 2, 1) := by decide +kernel
theorem dX9_replace_31 : decode cX9_replace 31 = .ok (.invokevirtual 192, 3) := by decide +kernel
theorem dX9_replace_34 : decode cX9_replace 34 = .ok (.return_, 1) := by decide +kernel
theorem dX9_rebuild_0 : decode cX9_rebuild 0 = .ok (.aload_n 0, 1) := by decide +kernel
theorem dX9_rebuild_1 : decode cX9_rebuild 1 = .ok (.iload_n 1, 1) := by decide +kernel
theorem dX9_rebuild_2 : decode cX9_rebuild 2 = .ok (.invokevirtual 196, 3) := by decide +kernel
theorem dX9_rebuild_5 : decode cX9_rebuild 5 = .ok (.ifCond .eq 15, 3) := by decide +kernel
theorem dX9_rebuild_8 : decode cX9_rebuild 8 = .ok (.aload_n 0, 1) := by decide +kernel
theorem dX9_rebuild_9 : decode cX9_rebuild 9 = .ok (.iload_n 2, 1) := by decide +kernel
theorem dX9_rebuild_10 : decode cX9_rebuild 10 = .ok (.invokevirtual 114, 3) := by decide +kernel
theorem dX9_rebuild_13 : decode cX9_rebuild 13 = .ok (.ifCond .eq 7, 3) := by decide +kernel
theorem dX9_rebuild_16 : decode cX9_rebuild 16 = .ok (.iconst 1, 1) := by decide +kernel
theorem dX9_rebuild_17 : decode cX9_rebuild 17 = .ok (.goto 4, 3) := by decide +kernel
theorem dX9_rebuild_20 : decode cX9_rebuild 20 = .ok (.iconst 0, 1) := by decide +kernel
theorem dX9_rebuild_21 : decode cX9_rebuild 21 = .ok (.istore_n 3, 1) := by decide +kernel
theorem dX9_rebuild_22 : decode cX9_rebuild 22 = .ok (.aload_n 0, 1) := by decide +kernel
theorem dX9_rebuild_23 : decode cX9_rebuild 23 = .ok (.iload_n 3, 1) := by decide +kernel
theorem dX9_rebuild_24 : decode cX9_rebuild 24 = .ok (.iload_n 3, 1) := by decide +kernel
theorem dX9_rebuild_25 : decode cX9_rebuild 25 = .ok (.ifCond .eq 15, 3) := by decide +kernel
theorem dX9_rebuild_28 : decode cX9_rebuild 28 = .ok (.aload_n 0, 1) := by decide +kernel
theorem dX9_rebuild_29 : decode cX9_rebuild 29 = .ok (.iload_n 1, 1) := by decide +kernel
theorem dX9_rebuild_30 : decode cX9_rebuild 30 = .ok (.invokevirtual 199, 3) := by decide +kernel
theorem dX9_rebuild_33 : decode cX9_rebuild 33 = .ok (.ifCond .eq 7, 3) := by decide +kernel
theorem dX9_rebuild_36 : decode cX9_rebuild 36 = .ok (.iconst 1, 1) := by decide +kernel
theorem dX9_rebuild_37 : decode cX9_rebuild 37 = .ok (.goto 4, 3) := by decide +kernel
theorem dX9_rebuild_40 : decode cX9_rebuild 40 = .ok (.iconst 0, 1) := by decide +kernel
theorem dX9_rebuild_41 : decode cX9_rebuild 41 = .ok (.invokevirtual 121, 3) := by decide +kernel
theorem dX9_rebuild_44 : decode cX9_rebuild 44 = .ok (.ifCond .eq 11, 3) := by decide +kernel
theorem dX9_rebuild_47 : decode cX9_rebuild 47 = .ok (.aload_n 0, 1) := by decide +kernel
theorem dX9_rebuild_48 : decode cX9_rebuild 48 = .ok (.iload_n 2, 1) := by decide +kernel
theorem dX9_rebuild_49 : decode cX9_rebuild 49 = .ok (.invokevirtual 177, 3) := by decide +kernel
theorem dX9_rebuild_52 : decode cX9_rebuild 52 = .ok (.goto 4, 3) := by decide +kernel
theorem dX9_rebuild_55 : decode cX9_rebuild 55 = .ok (.iconst 0, 1) := by decide +kernel
theorem dX9_rebuild_56 : decode cX9_rebuild 56 = .ok (.ireturn, 1) := by decide +kernel
theorem dX9_versions_0 : decode cX9_versions 0 = .ok (.aload_n 0, 1) := by decide +kernel
theorem dX9_versions_1 : decode cX9_versions 1 = .ok (.iconst 0, 1) := by decide +kernel
theorem dX9_versions_2 : decode cX9_versions 2 = .ok (.putfield 100, 3) := by decide +kernel
theorem dX9_versions_5 : decode cX9_versions 5 = .ok (.aload_n 0, 1) := by decide +kernel
theorem dX9_versions_6 : decode cX9_versions 6 = .ok (.getfield 180, 3) := by decide +kernel
theorem dX9_versions_9 : decode cX9_versions 9 = .ok (.ireturn, 1) := by decide +kernel
theorem dX9_brokenAt_0 : decode cX9_brokenAt 0 = .ok (.aload_n 0, 1) := by decide +kernel
theorem dX9_brokenAt_1 : decode cX9_brokenAt 1 = .ok (.aload_n 0, 1) := by decide +kernel
theorem dX9_brokenAt_2 : decode cX9_brokenAt 2 = .ok (.iload_n 1, 1) := by decide +kernel
theorem dX9_brokenAt_3 : decode cX9_brokenAt 3 = .ok (.invokevirtual 196, 3) := by decide +kernel
theorem dX9_brokenAt_6 : decode cX9_brokenAt 6 = .ok (.invokevirtual 106, 3) := by decide +kernel
theorem dX9_brokenAt_9 : decode cX9_brokenAt 9 = .ok (.ifCond .ne 5, 3) := by decide +kernel
theorem dX9_brokenAt_12 : decode cX9_brokenAt 12 = .ok (.iconst 0, 1) := by decide +kernel
theorem dX9_brokenAt_13 : decode cX9_brokenAt 13 = .ok (.ireturn, 1) := by decide +kernel
theorem dX9_brokenAt_14 : decode cX9_brokenAt 14 = .ok (.aload_n 0, 1) := by decide +kernel
theorem dX9_brokenAt_15 : decode cX9_brokenAt 15 = .ok (.iload_n 1, 1) := by decide +kernel
theorem dX9_brokenAt_16 : decode cX9_brokenAt 16 = .ok (.invokevirtual 199, 3) := by decide +kernel
theorem dX9_brokenAt_19 : decode cX9_brokenAt 19 = .ok (.pop, 1) := by decide +kernel
theorem dX9_brokenAt_20 : decode cX9_brokenAt 20 = .ok (.aload_n 0, 1) := by decide +kernel
theorem dX9_brokenAt_21 : decode cX9_brokenAt 21 = .ok (.getfield 183, 3) := by decide +kernel
theorem dX9_brokenAt_24 : decode cX9_brokenAt 24 = .ok (.ireturn, 1) := by decide +kernel
theorem dX9_brokenAfter_0 : decode cX9_brokenAfter 0 = .ok (.aload_n 0, 1) := by decide +kernel
theorem dX9_brokenAfter_1 : decode cX9_brokenAfter 1 = .ok (.aload_n 0, 1) := by decide +kernel
theorem dX9_brokenAfter_2 : decode cX9_brokenAfter 2 = .ok (.iload_n 1, 1) := by decide +kernel
theorem dX9_brokenAfter_3 : decode cX9_brokenAfter 3 = .ok (.invokevirtual 196, 3) := by decide +kernel
theorem dX9_brokenAfter_6 : decode cX9_brokenAfter 6 = .ok (.invokevirtual 106, 3) := by decide +kernel
theorem dX9_brokenAfter_9 : decode cX9_brokenAfter 9 = .ok (.ifCond .ne 5, 3) := by decide +kernel
theorem dX9_brokenAfter_12 : decode cX9_brokenAfter 12 = .ok (.iconst 0, 1) := by decide +kernel
theorem dX9_brokenAfter_13 : decode cX9_brokenAfter 13 = .ok (.ireturn, 1) := by decide +kernel
theorem dX9_brokenAfter_14 : decode cX9_brokenAfter 14 = .ok (.aload_n 0, 1) := by decide +kernel
theorem dX9_brokenAfter_15 : decode cX9_brokenAfter 15 = .ok (.iload_n 1, 1) := by decide +kernel
theorem dX9_brokenAfter_16 : decode cX9_brokenAfter 16 = .ok (.invokevirtual 199, 3) := by decide +kernel
theorem dX9_brokenAfter_19 : decode cX9_brokenAfter 19 = .ok (.pop, 1) := by decide +kernel
theorem dX9_brokenAfter_20 : decode cX9_brokenAfter 20 = .ok (.aload_n 0, 1) := by decide +kernel
theorem dX9_brokenAfter_21 : decode cX9_brokenAfter 21 = .ok (.getfield 186, 3) := by decide +kernel
theorem dX9_brokenAfter_24 : decode cX9_brokenAfter 24 = .ok (.ireturn, 1) := by decide +kernel
theorem dX9_reason_0 : decode cX9_reason 0 = .ok (.aload_n 0, 1) := by decide +kernel
theorem dX9_reason_1 : decode cX9_reason 1 = .ok (.aload_n 0, 1) := by decide +kernel
theorem dX9_reason_2 : decode cX9_reason 2 = .ok (.iload_n 1, 1) := by decide +kernel
theorem dX9_reason_3 : decode cX9_reason 3 = .ok (.invokevirtual 196, 3) := by decide +kernel
theorem dX9_reason_6 : decode cX9_reason 6 = .ok (.invokevirtual 106, 3) := by decide +kernel
theorem dX9_reason_9 : decode cX9_reason 9 = .ok (.ifCond .ne 5, 3) := by decide +kernel
theorem dX9_reason_12 : decode cX9_reason 12 = .ok (.iconst 0, 1) := by decide +kernel
theorem dX9_reason_13 : decode cX9_reason 13 = .ok (.ireturn, 1) := by decide +kernel
theorem dX9_reason_14 : decode cX9_reason 14 = .ok (.aload_n 0, 1) := by decide +kernel
theorem dX9_reason_15 : decode cX9_reason 15 = .ok (.iload_n 1, 1) := by decide +kernel
theorem dX9_reason_16 : decode cX9_reason 16 = .ok (.invokevirtual 199, 3) := by decide +kernel
theorem dX9_reason_19 : decode cX9_reason 19 = .ok (.pop, 1) := by decide +kernel
theorem dX9_reason_20 : decode cX9_reason 20 = .ok (.aload_n 0, 1) := by decide +kernel
theorem dX9_reason_21 : decode cX9_reason 21 = .ok (.getfield 189, 3) := by decide +kernel
theorem dX9_reason_24 : decode cX9_reason 24 = .ok (.ireturn, 1) := by decide +kernel
theorem dX9_heldBy_0 : decode cX9_heldBy 0 = .ok (.aload_n 0, 1) := by decide +kernel
theorem dX9_heldBy_1 : decode cX9_heldBy 1 = .ok (.aload_n 0, 1) := by decide +kernel
theorem dX9_heldBy_2 : decode cX9_heldBy 2 = .ok (.iload_n 1, 1) := by decide +kernel
theorem dX9_heldBy_3 : decode cX9_heldBy 3 = .ok (.invokevirtual 196, 3) := by decide +kernel
theorem dX9_heldBy_6 : decode cX9_heldBy 6 = .ok (.invokevirtual 106, 3) := by decide +kernel
theorem dX9_heldBy_9 : decode cX9_heldBy 9 = .ok (.ifCond .eq 11, 3) := by decide +kernel
theorem dX9_heldBy_12 : decode cX9_heldBy 12 = .ok (.aload_n 0, 1) := by decide +kernel
theorem dX9_heldBy_13 : decode cX9_heldBy 13 = .ok (.iload_n 1, 1) := by decide +kernel
theorem dX9_heldBy_14 : decode cX9_heldBy 14 = .ok (.invokevirtual 202, 3) := by decide +kernel
theorem dX9_heldBy_17 : decode cX9_heldBy 17 = .ok (.goto 4, 3) := by decide +kernel
theorem dX9_heldBy_20 : decode cX9_heldBy 20 = .ok (.iconst 0, 1) := by decide +kernel
theorem dX9_heldBy_21 : decode cX9_heldBy 21 = .ok (.ireturn, 1) := by decide +kernel
theorem dX9_cuts_0 : decode cX9_cuts 0 = .ok (.aload_n 0, 1) := by decide +kernel
theorem dX9_cuts_1 : decode cX9_cuts 1 = .ok (.iload_n 1, 1) := by decide +kernel
theorem dX9_cuts_2 : decode cX9_cuts 2 = .ok (.iconst 1, 1) := by decide +kernel
theorem dX9_cuts_3 : decode cX9_cuts 3 = .ok (.if_icmp .lt 35, 3) := by decide +kernel
theorem dX9_cuts_6 : decode cX9_cuts 6 = .ok (.iload_n 1, 1) := by decide +kernel
theorem dX9_cuts_7 : decode cX9_cuts 7 = .ok (.bipush 16, 2) := by decide +kernel
theorem dX9_cuts_9 : decode cX9_cuts 9 = .ok (.if_icmp .gt 29, 3) := by decide +kernel
theorem dX9_cuts_12 : decode cX9_cuts 12 = .ok (.iload_n 2, 1) := by decide +kernel
theorem dX9_cuts_13 : decode cX9_cuts 13 = .ok (.iload_n 1, 1) := by decide +kernel
theorem dX9_cuts_14 : decode cX9_cuts 14 = .ok (.if_icmp .lt 24, 3) := by decide +kernel
theorem dX9_cuts_17 : decode cX9_cuts 17 = .ok (.iload_n 2, 1) := by decide +kernel
theorem dX9_cuts_18 : decode cX9_cuts 18 = .ok (.bipush 40, 2) := by decide +kernel
theorem dX9_cuts_20 : decode cX9_cuts 20 = .ok (.if_icmp .gt 18, 3) := by decide +kernel
theorem dX9_cuts_23 : decode cX9_cuts 23 = .ok (.iload_n 3, 1) := by decide +kernel
theorem dX9_cuts_24 : decode cX9_cuts 24 = .ok (.iconst 1, 1) := by decide +kernel
theorem dX9_cuts_25 : decode cX9_cuts 25 = .ok (.if_icmp .lt 13, 3) := by decide +kernel
theorem dX9_cuts_28 : decode cX9_cuts 28 = .ok (.iload_n 3, 1) := by decide +kernel
theorem dX9_cuts_29 : decode cX9_cuts 29 = .ok (.bipush 64, 2) := by decide +kernel
theorem dX9_cuts_31 : decode cX9_cuts 31 = .ok (.if_icmp .gt 7, 3) := by decide +kernel
theorem dX9_cuts_34 : decode cX9_cuts 34 = .ok (.iconst 1, 1) := by decide +kernel
theorem dX9_cuts_35 : decode cX9_cuts 35 = .ok (.goto 4, 3) := by decide +kernel
theorem dX9_cuts_38 : decode cX9_cuts 38 = .ok (.iconst 0, 1) := by decide +kernel
theorem dX9_cuts_39 : decode cX9_cuts 39 = .ok (.invokevirtual 106, 3) := by decide +kernel
theorem dX9_cuts_42 : decode cX9_cuts 42 = .ok (.ifCond .eq 18, 3) := by decide +kernel
theorem dX9_cuts_45 : decode cX9_cuts 45 = .ok (.aload_n 0, 1) := by decide +kernel
theorem dX9_cuts_46 : decode cX9_cuts 46 = .ok (.iload_n 1, 1) := by decide +kernel
theorem dX9_cuts_47 : decode cX9_cuts 47 = .ok (.putfield 78, 3) := by decide +kernel
theorem dX9_cuts_50 : decode cX9_cuts 50 = .ok (.aload_n 0, 1) := by decide +kernel
theorem dX9_cuts_51 : decode cX9_cuts 51 = .ok (.iload_n 2, 1) := by decide +kernel
theorem dX9_cuts_52 : decode cX9_cuts 52 = .ok (.putfield 82, 3) := by decide +kernel
theorem dX9_cuts_55 : decode cX9_cuts 55 = .ok (.aload_n 0, 1) := by decide +kernel
theorem dX9_cuts_56 : decode cX9_cuts 56 = .ok (.iload_n 3, 1) := by decide +kernel
theorem dX9_cuts_57 : decode cX9_cuts 57 = .ok (.putfield 85, 3) := by decide +kernel
theorem dX9_cuts_60 : decode cX9_cuts 60 = .ok (.return_, 1) := by decide +kernel
theorem dX9_hash_0 : decode cX9_hash 0 = .ok (.iconst 0, 1) := by decide +kernel
theorem dX9_hash_1 : decode cX9_hash 1 = .ok (.istore_n 3, 1) := by decide +kernel
theorem dX9_hash_2 : decode cX9_hash 2 = .ok (.iconst 0, 1) := by decide +kernel
theorem dX9_hash_3 : decode cX9_hash 3 = .ok (.istore 4, 2) := by decide +kernel
theorem dX9_hash_5 : decode cX9_hash 5 = .ok (.iload 4, 2) := by decide +kernel
theorem dX9_hash_7 : decode cX9_hash 7 = .ok (.iconst 4, 1) := by decide +kernel
theorem dX9_hash_8 : decode cX9_hash 8 = .ok (.if_icmp .ge 37, 3) := by decide +kernel
theorem dX9_hash_11 : decode cX9_hash 11 = .ok (.iload 4, 2) := by decide +kernel
theorem dX9_hash_13 : decode cX9_hash 13 = .ok (.iload_n 2, 1) := by decide +kernel
theorem dX9_hash_14 : decode cX9_hash 14 = .ok (.if_icmp .gt 31, 3) := by decide +kernel
theorem dX9_hash_17 : decode cX9_hash 17 = .ok (.iload_n 3, 1) := by decide +kernel
theorem dX9_hash_18 : decode cX9_hash 18 = .ok (.iload 4, 2) := by decide +kernel
theorem dX9_hash_20 : decode cX9_hash 20 = .ok (.iconst 1, 1) := by decide +kernel
theorem dX9_hash_21 : decode cX9_hash 21 = .ok (.iadd, 1) := by decide +kernel
theorem dX9_hash_22 : decode cX9_hash 22 = .ok (.aload_n 0, 1) := by decide +kernel
theorem dX9_hash_23 : decode cX9_hash 23 = .ok (.getfield 13, 3) := by decide +kernel
theorem dX9_hash_26 : decode cX9_hash 26 = .ok (.bipush 120, 2) := by decide +kernel
theorem dX9_hash_28 : decode cX9_hash 28 = .ok (.iload_n 1, 1) := by decide +kernel
theorem dX9_hash_29 : decode cX9_hash 29 = .ok (.imul, 1) := by decide +kernel
theorem dX9_hash_30 : decode cX9_hash 30 = .ok (.iload_n 2, 1) := by decide +kernel
theorem dX9_hash_31 : decode cX9_hash 31 = .ok (.iadd, 1) := by decide +kernel
theorem dX9_hash_32 : decode cX9_hash 32 = .ok (.iload 4, 2) := by decide +kernel
theorem dX9_hash_34 : decode cX9_hash 34 = .ok (.isub, 1) := by decide +kernel
theorem dX9_hash_35 : decode cX9_hash 35 = .ok (.iaload, 1) := by decide +kernel
theorem dX9_hash_36 : decode cX9_hash 36 = .ok (.imul, 1) := by decide +kernel
theorem dX9_hash_37 : decode cX9_hash 37 = .ok (.iadd, 1) := by decide +kernel
theorem dX9_hash_38 : decode cX9_hash 38 = .ok (.istore_n 3, 1) := by decide +kernel
theorem dX9_hash_39 : decode cX9_hash 39 = .ok (.iinc 4 1, 3) := by decide +kernel
theorem dX9_hash_42 : decode cX9_hash 42 = .ok (.goto (-37), 3) := by decide +kernel
theorem dX9_hash_45 : decode cX9_hash 45 = .ok (.iload_n 3, 1) := by decide +kernel
theorem dX9_hash_46 : decode cX9_hash 46 = .ok (.ireturn, 1) := by decide +kernel
theorem dX9_store_0 : decode cX9_store 0 = .ok (.iconst 0, 1) := by decide +kernel
theorem dX9_store_1 : decode cX9_store 1 = .ok (.istore_n 2, 1) := by decide +kernel
theorem dX9_store_2 : decode cX9_store 2 = .ok (.iload_n 2, 1) := by decide +kernel
theorem dX9_store_3 : decode cX9_store 3 = .ok (.bipush 12, 2) := by decide +kernel
theorem dX9_store_5 : decode cX9_store 5 = .ok (.if_icmp .ge 18, 3) := by decide +kernel
theorem dX9_store_8 : decode cX9_store 8 = .ok (.aload_n 0, 1) := by decide +kernel
theorem dX9_store_9 : decode cX9_store 9 = .ok (.getfield 88, 3) := by decide +kernel
theorem dX9_store_12 : decode cX9_store 12 = .ok (.iload_n 2, 1) := by decide +kernel
theorem dX9_store_13 : decode cX9_store 13 = .ok (.baload, 1) := by decide +kernel
theorem dX9_store_14 : decode cX9_store 14 = .ok (.ifCond .eq 9, 3) := by decide +kernel
theorem dX9_store_17 : decode cX9_store 17 = .ok (.iinc 2 1, 3) := by decide +kernel
theorem dX9_store_20 : decode cX9_store 20 = .ok (.goto (-18), 3) := by decide +kernel
theorem dX9_store_23 : decode cX9_store 23 = .ok (.aload_n 0, 1) := by decide +kernel
theorem dX9_store_24 : decode cX9_store 24 = .ok (.aload_n 0, 1) := by decide +kernel
theorem dX9_store_25 : decode cX9_store 25 = .ok (.iload_n 1, 1) := by decide +kernel
theorem dX9_store_26 : decode cX9_store 26 = .ok (.invokevirtual 114, 3) := by decide +kernel
theorem dX9_store_29 : decode cX9_store 29 = .ok (.iload_n 2, 1) := by decide +kernel
theorem dX9_store_30 : decode cX9_store 30 = .ok (.bipush 12, 2) := by decide +kernel
theorem dX9_store_32 : decode cX9_store 32 = .ok (.if_icmp .ge 7, 3) := by decide +kernel
theorem dX9_store_35 : decode cX9_store 35 = .ok (.iconst 1, 1) := by decide +kernel
theorem dX9_store_36 : decode cX9_store 36 = .ok (.goto 4, 3) := by decide +kernel
theorem dX9_store_39 : decode cX9_store 39 = .ok (.iconst 0, 1) := by decide +kernel
theorem dX9_store_40 : decode cX9_store 40 = .ok (.invokevirtual 121, 3) := by decide +kernel
theorem dX9_store_43 : decode cX9_store 43 = .ok (.ifCond .ne 5, 3) := by decide +kernel
theorem dX9_store_46 : decode cX9_store 46 = .ok (.iconst 0, 1) := by decide +kernel
theorem dX9_store_47 : decode cX9_store 47 = .ok (.ireturn, 1) := by decide +kernel
theorem dX9_store_48 : decode cX9_store 48 = .ok (.aload_n 0, 1) := by decide +kernel
theorem dX9_store_49 : decode cX9_store 49 = .ok (.getfield 88, 3) := by decide +kernel
theorem dX9_store_52 : decode cX9_store 52 = .ok (.iload_n 2, 1) := by decide +kernel
theorem dX9_store_53 : decode cX9_store 53 = .ok (.iconst 1, 1) := by decide +kernel
theorem dX9_store_54 : decode cX9_store 54 = .ok (.bastore, 1) := by decide +kernel
theorem dX9_store_55 : decode cX9_store 55 = .ok (.aload_n 0, 1) := by decide +kernel
theorem dX9_store_56 : decode cX9_store 56 = .ok (.getfield 91, 3) := by decide +kernel
theorem dX9_store_59 : decode cX9_store 59 = .ok (.iload_n 2, 1) := by decide +kernel
theorem dX9_store_60 : decode cX9_store 60 = .ok (.iconst 0, 1) := by decide +kernel
theorem dX9_store_61 : decode cX9_store 61 = .ok (.iastore, 1) := by decide +kernel
theorem dX9_store_62 : decode cX9_store 62 = .ok (.iconst 0, 1) := by decide +kernel
theorem dX9_store_63 : decode cX9_store 63 = .ok (.istore_n 3, 1) := by decide +kernel
theorem dX9_store_64 : decode cX9_store 64 = .ok (.iconst 0, 1) := by decide +kernel
theorem dX9_store_65 : decode cX9_store 65 = .ok (.istore 4, 2) := by decide +kernel
theorem dX9_store_67 : decode cX9_store 67 = .ok (.iload 4, 2) := by decide +kernel
theorem dX9_store_69 : decode cX9_store 69 = .ok (.aload_n 0, 1) := by decide +kernel
theorem dX9_store_70 : decode cX9_store 70 = .ok (.getfield 7, 3) := by decide +kernel
theorem dX9_store_73 : decode cX9_store 73 = .ok (.iload_n 1, 1) := by decide +kernel
theorem dX9_store_74 : decode cX9_store 74 = .ok (.iaload, 1) := by decide +kernel
theorem dX9_store_75 : decode cX9_store 75 = .ok (.if_icmp .ge 115, 3) := by decide +kernel
theorem dX9_store_78 : decode cX9_store 78 = .ok (.aload_n 0, 1) := by decide +kernel
theorem dX9_store_79 : decode cX9_store 79 = .ok (.getfield 97, 3) := by decide +kernel
theorem dX9_store_82 : decode cX9_store 82 = .ok (.bipush 120, 2) := by decide +kernel
theorem dX9_store_84 : decode cX9_store 84 = .ok (.iload_n 2, 1) := by decide +kernel
theorem dX9_store_85 : decode cX9_store 85 = .ok (.imul, 1) := by decide +kernel
theorem dX9_store_86 : decode cX9_store 86 = .ok (.iload 4, 2) := by decide +kernel
theorem dX9_store_88 : decode cX9_store 88 = .ok (.iadd, 1) := by decide +kernel
theorem dX9_store_89 : decode cX9_store 89 = .ok (.aload_n 0, 1) := by decide +kernel
theorem dX9_store_90 : decode cX9_store 90 = .ok (.getfield 13, 3) := by decide +kernel
theorem dX9_store_93 : decode cX9_store 93 = .ok (.bipush 120, 2) := by decide +kernel
theorem dX9_store_95 : decode cX9_store 95 = .ok (.iload_n 1, 1) := by decide +kernel
theorem dX9_store_96 : decode cX9_store 96 = .ok (.imul, 1) := by decide +kernel
theorem dX9_store_97 : decode cX9_store 97 = .ok (.iload 4, 2) := by decide +kernel
theorem dX9_store_99 : decode cX9_store 99 = .ok (.iadd, 1) := by decide +kernel
theorem dX9_store_100 : decode cX9_store 100 = .ok (.iaload, 1) := by decide +kernel
theorem dX9_store_101 : decode cX9_store 101 = .ok (.iastore, 1) := by decide +kernel
theorem dX9_store_102 : decode cX9_store 102 = .ok (.iinc 3 1, 3) := by decide +kernel
theorem dX9_store_105 : decode cX9_store 105 = .ok (.iload_n 3, 1) := by decide +kernel
theorem dX9_store_106 : decode cX9_store 106 = .ok (.aload_n 0, 1) := by decide +kernel
theorem dX9_store_107 : decode cX9_store 107 = .ok (.getfield 82, 3) := by decide +kernel
theorem dX9_store_110 : decode cX9_store 110 = .ok (.if_icmp .eq 45, 3) := by decide +kernel
theorem dX9_store_113 : decode cX9_store 113 = .ok (.iload_n 3, 1) := by decide +kernel
theorem dX9_store_114 : decode cX9_store 114 = .ok (.aload_n 0, 1) := by decide +kernel
theorem dX9_store_115 : decode cX9_store 115 = .ok (.getfield 78, 3) := by decide +kernel
theorem dX9_store_118 : decode cX9_store 118 = .ok (.if_icmp .lt 24, 3) := by decide +kernel
theorem dX9_store_121 : decode cX9_store 121 = .ok (.aload_n 0, 1) := by decide +kernel
theorem dX9_store_122 : decode cX9_store 122 = .ok (.iload_n 1, 1) := by decide +kernel
theorem dX9_store_123 : decode cX9_store 123 = .ok (.iload 4, 2) := by decide +kernel
theorem dX9_store_125 : decode cX9_store 125 = .ok (.invokevirtual 205, 3) := by decide +kernel
theorem dX9_store_128 : decode cX9_store 128 = .ok (.aload_n 0, 1) := by decide +kernel
theorem dX9_store_129 : decode cX9_store 129 = .ok (.getfield 85, 3) := by decide +kernel
theorem dX9_store_132 : decode cX9_store 132 = .ok (.irem, 1) := by decide +kernel
theorem dX9_store_133 : decode cX9_store 133 = .ok (.aload_n 0, 1) := by decide +kernel
theorem dX9_store_134 : decode cX9_store 134 = .ok (.getfield 85, 3) := by decide +kernel
theorem dX9_store_137 : decode cX9_store 137 = .ok (.iconst 1, 1) := by decide +kernel
theorem dX9_store_138 : decode cX9_store 138 = .ok (.isub, 1) := by decide +kernel
theorem dX9_store_139 : decode cX9_store 139 = .ok (.if_icmp .eq 16, 3) := by decide +kernel
theorem dX9_store_142 : decode cX9_store 142 = .ok (.iload 4, 2) := by decide +kernel
theorem dX9_store_144 : decode cX9_store 144 = .ok (.aload_n 0, 1) := by decide +kernel
theorem dX9_store_145 : decode cX9_store 145 = .ok (.getfield 7, 3) := by decide +kernel
theorem dX9_store_148 : decode cX9_store 148 = .ok (.iload_n 1, 1) := by decide +kernel
theorem dX9_store_149 : decode cX9_store 149 = .ok (.iaload, 1) := by decide +kernel
theorem dX9_store_150 : decode cX9_store 150 = .ok (.iconst 1, 1) := by decide +kernel
theorem dX9_store_151 : decode cX9_store 151 = .ok (.isub, 1) := by decide +kernel
theorem dX9_store_152 : decode cX9_store 152 = .ok (.if_icmp .ne 32, 3) := by decide +kernel
theorem dX9_store_155 : decode cX9_store 155 = .ok (.aload_n 0, 1) := by decide +kernel
theorem dX9_store_156 : decode cX9_store 156 = .ok (.getfield 94, 3) := by decide +kernel
theorem dX9_store_159 : decode cX9_store 159 = .ok (.bipush 120, 2) := by decide +kernel
theorem dX9_store_161 : decode cX9_store 161 = .ok (.iload_n 2, 1) := by decide +kernel
theorem dX9_store_162 : decode cX9_store 162 = .ok (.imul, 1) := by decide +kernel
theorem dX9_store_163 : decode cX9_store 163 = .ok (.aload_n 0, 1) := by decide +kernel
theorem dX9_store_164 : decode cX9_store 164 = .ok (.getfield 91, 3) := by decide +kernel
theorem dX9_store_167 : decode cX9_store 167 = .ok (.iload_n 2, 1) := by decide +kernel
theorem dX9_store_168 : decode cX9_store 168 = .ok (.iaload, 1) := by decide +kernel
theorem dX9_store_169 : decode cX9_store 169 = .ok (.iadd, 1) := by decide +kernel
theorem dX9_store_170 : decode cX9_store 170 = .ok (.iload_n 3, 1) := by decide +kernel
theorem dX9_store_171 : decode cX9_store 171 = .ok (.iastore, 1) := by decide +kernel
theorem dX9_store_172 : decode cX9_store 172 = .ok (.aload_n 0, 1) := by decide +kernel
theorem dX9_store_173 : decode cX9_store 173 = .ok (.getfield 91, 3) := by decide +kernel
theorem dX9_store_176 : decode cX9_store 176 = .ok (.iload_n 2, 1) := by decide +kernel
theorem dX9_store_177 : decode cX9_store 177 = .ok (.dup2, 1) := by decide +kernel
theorem dX9_store_178 : decode cX9_store 178 = .ok (.iaload, 1) := by decide +kernel
theorem dX9_store_179 : decode cX9_store 179 = .ok (.iconst 1, 1) := by decide +kernel
theorem dX9_store_180 : decode cX9_store 180 = .ok (.iadd, 1) := by decide +kernel
theorem dX9_store_181 : decode cX9_store 181 = .ok (.iastore, 1) := by decide +kernel
theorem dX9_store_182 : decode cX9_store 182 = .ok (.iconst 0, 1) := by decide +kernel
theorem dX9_store_183 : decode cX9_store 183 = .ok (.istore_n 3, 1) := by decide +kernel
theorem dX9_store_184 : decode cX9_store 184 = .ok (.iinc 4 1, 3) := by decide +kernel
theorem dX9_store_187 : decode cX9_store 187 = .ok (.goto (-120), 3) := by decide +kernel
theorem dX9_store_190 : decode cX9_store 190 = .ok (.iload_n 2, 1) := by decide +kernel
theorem dX9_store_191 : decode cX9_store 191 = .ok (.ireturn, 1) := by decide +kernel
theorem dX9_isThere_0 : decode cX9_isThere 0 = .ok (.iload_n 1, 1) := by decide +kernel
theorem dX9_isThere_1 : decode cX9_isThere 1 = .ok (.ifCond .lt 22, 3) := by decide +kernel
theorem dX9_isThere_4 : decode cX9_isThere 4 = .ok (.iload_n 1, 1) := by decide +kernel
theorem dX9_isThere_5 : decode cX9_isThere 5 = .ok (.bipush 12, 2) := by decide +kernel
theorem dX9_isThere_7 : decode cX9_isThere 7 = .ok (.if_icmp .ge 16, 3) := by decide +kernel
theorem dX9_isThere_10 : decode cX9_isThere 10 = .ok (.aload_n 0, 1) := by decide +kernel
theorem dX9_isThere_11 : decode cX9_isThere 11 = .ok (.getfield 88, 3) := by decide +kernel
theorem dX9_isThere_14 : decode cX9_isThere 14 = .ok (.iload_n 1, 1) := by decide +kernel
theorem dX9_isThere_15 : decode cX9_isThere 15 = .ok (.baload, 1) := by decide +kernel
theorem dX9_isThere_16 : decode cX9_isThere 16 = .ok (.ifCond .eq 7, 3) := by decide +kernel
theorem dX9_isThere_19 : decode cX9_isThere 19 = .ok (.iconst 1, 1) := by decide +kernel
theorem dX9_isThere_20 : decode cX9_isThere 20 = .ok (.goto 4, 3) := by decide +kernel
theorem dX9_isThere_23 : decode cX9_isThere 23 = .ok (.iconst 0, 1) := by decide +kernel
theorem dX9_isThere_24 : decode cX9_isThere 24 = .ok (.ireturn, 1) := by decide +kernel
theorem dX9_begin_0 : decode cX9_begin 0 = .ok (.bipush 120, 2) := by decide +kernel
theorem dX9_begin_2 : decode cX9_begin 2 = .ok (.iload_n 1, 1) := by decide +kernel
theorem dX9_begin_3 : decode cX9_begin 3 = .ok (.imul, 1) := by decide +kernel
theorem dX9_begin_4 : decode cX9_begin 4 = .ok (.istore_n 3, 1) := by decide +kernel
theorem dX9_begin_5 : decode cX9_begin 5 = .ok (.iconst 0, 1) := by decide +kernel
theorem dX9_begin_6 : decode cX9_begin 6 = .ok (.istore 4, 2) := by decide +kernel
theorem dX9_begin_8 : decode cX9_begin 8 = .ok (.iload 4, 2) := by decide +kernel
theorem dX9_begin_10 : decode cX9_begin 10 = .ok (.iload_n 2, 1) := by decide +kernel
theorem dX9_begin_11 : decode cX9_begin 11 = .ok (.if_icmp .ge 24, 3) := by decide +kernel
theorem dX9_begin_14 : decode cX9_begin 14 = .ok (.iload_n 3, 1) := by decide +kernel
theorem dX9_begin_15 : decode cX9_begin 15 = .ok (.aload_n 0, 1) := by decide +kernel
theorem dX9_begin_16 : decode cX9_begin 16 = .ok (.getfield 94, 3) := by decide +kernel
theorem dX9_begin_19 : decode cX9_begin 19 = .ok (.bipush 120, 2) := by decide +kernel
theorem dX9_begin_21 : decode cX9_begin 21 = .ok (.iload_n 1, 1) := by decide +kernel
theorem dX9_begin_22 : decode cX9_begin 22 = .ok (.imul, 1) := by decide +kernel
theorem dX9_begin_23 : decode cX9_begin 23 = .ok (.iload 4, 2) := by decide +kernel
theorem dX9_begin_25 : decode cX9_begin 25 = .ok (.iadd, 1) := by decide +kernel
theorem dX9_begin_26 : decode cX9_begin 26 = .ok (.iaload, 1) := by decide +kernel
theorem dX9_begin_27 : decode cX9_begin 27 = .ok (.iadd, 1) := by decide +kernel
theorem dX9_begin_28 : decode cX9_begin 28 = .ok (.istore_n 3, 1) := by decide +kernel
theorem dX9_begin_29 : decode cX9_begin 29 = .ok (.iinc 4 1, 3) := by decide +kernel
theorem dX9_begin_32 : decode cX9_begin 32 = .ok (.goto (-24), 3) := by decide +kernel
theorem dX9_begin_35 : decode cX9_begin 35 = .ok (.iload_n 3, 1) := by decide +kernel
theorem dX9_begin_36 : decode cX9_begin 36 = .ok (.ireturn, 1) := by decide +kernel
theorem dX9_names_0 : decode cX9_names 0 = .ok (.iconst 0, 1) := by decide +kernel
theorem dX9_names_1 : decode cX9_names 1 = .ok (.istore 6, 2) := by decide +kernel
theorem dX9_names_3 : decode cX9_names 3 = .ok (.iconst 0, 1) := by decide +kernel
theorem dX9_names_4 : decode cX9_names 4 = .ok (.istore 7, 2) := by decide +kernel
theorem dX9_names_6 : decode cX9_names 6 = .ok (.iload 7, 2) := by decide +kernel
theorem dX9_names_8 : decode cX9_names 8 = .ok (.iload_n 3, 1) := by decide +kernel
theorem dX9_names_9 : decode cX9_names 9 = .ok (.if_icmp .gt 172, 3) := by decide +kernel
theorem dX9_names_12 : decode cX9_names 12 = .ok (.bipush 120, 2) := by decide +kernel
theorem dX9_names_14 : decode cX9_names 14 = .ok (.iload 7, 2) := by decide +kernel
theorem dX9_names_16 : decode cX9_names 16 = .ok (.imul, 1) := by decide +kernel
theorem dX9_names_17 : decode cX9_names 17 = .ok (.istore 8, 2) := by decide +kernel
theorem dX9_names_19 : decode cX9_names 19 = .ok (.aload_n 0, 1) := by decide +kernel
theorem dX9_names_20 : decode cX9_names 20 = .ok (.getfield 88, 3) := by decide +kernel
theorem dX9_names_23 : decode cX9_names 23 = .ok (.iload 7, 2) := by decide +kernel
theorem dX9_names_25 : decode cX9_names 25 = .ok (.baload, 1) := by decide +kernel
theorem dX9_names_26 : decode cX9_names 26 = .ok (.ifCond .eq 10, 3) := by decide +kernel
theorem dX9_names_29 : decode cX9_names 29 = .ok (.iload 7, 2) := by decide +kernel
theorem dX9_names_31 : decode cX9_names 31 = .ok (.iload 5, 2) := by decide +kernel
theorem dX9_names_33 : decode cX9_names 33 = .ok (.if_icmp .ne 7, 3) := by decide +kernel
theorem dX9_names_36 : decode cX9_names 36 = .ok (.iconst 0, 1) := by decide +kernel
theorem dX9_names_37 : decode cX9_names 37 = .ok (.goto 21, 3) := by decide +kernel
theorem dX9_names_40 : decode cX9_names 40 = .ok (.iload 7, 2) := by decide +kernel
theorem dX9_names_42 : decode cX9_names 42 = .ok (.iload_n 3, 1) := by decide +kernel
theorem dX9_names_43 : decode cX9_names 43 = .ok (.if_icmp .ne 8, 3) := by decide +kernel
theorem dX9_names_46 : decode cX9_names 46 = .ok (.iload 4, 2) := by decide +kernel
theorem dX9_names_48 : decode cX9_names 48 = .ok (.goto 10, 3) := by decide +kernel
theorem dX9_names_51 : decode cX9_names 51 = .ok (.aload_n 0, 1) := by decide +kernel
theorem dX9_names_52 : decode cX9_names 52 = .ok (.getfield 91, 3) := by decide +kernel
theorem dX9_names_55 : decode cX9_names 55 = .ok (.iload 7, 2) := by decide +kernel
theorem dX9_names_57 : decode cX9_names 57 = .ok (.iaload, 1) := by decide +kernel
theorem dX9_names_58 : decode cX9_names 58 = .ok (.istore 9, 2) := by decide +kernel
theorem dX9_names_60 : decode cX9_names 60 = .ok (.iconst 0, 1) := by decide +kernel
theorem dX9_names_61 : decode cX9_names 61 = .ok (.istore 10, 2) := by decide +kernel
theorem dX9_names_63 : decode cX9_names 63 = .ok (.iload 10, 2) := by decide +kernel
theorem dX9_names_65 : decode cX9_names 65 = .ok (.iload 9, 2) := by decide +kernel
theorem dX9_names_67 : decode cX9_names 67 = .ok (.if_icmp .ge 108, 3) := by decide +kernel
theorem dX9_names_70 : decode cX9_names 70 = .ok (.aload_n 0, 1) := by decide +kernel
theorem dX9_names_71 : decode cX9_names 71 = .ok (.getfield 94, 3) := by decide +kernel
theorem dX9_names_74 : decode cX9_names 74 = .ok (.bipush 120, 2) := by decide +kernel
theorem dX9_names_76 : decode cX9_names 76 = .ok (.iload 7, 2) := by decide +kernel
theorem dX9_names_78 : decode cX9_names 78 = .ok (.imul, 1) := by decide +kernel
theorem dX9_names_79 : decode cX9_names 79 = .ok (.iload 10, 2) := by decide +kernel
theorem dX9_names_81 : decode cX9_names 81 = .ok (.iadd, 1) := by decide +kernel
theorem dX9_names_82 : decode cX9_names 82 = .ok (.iaload, 1) := by decide +kernel
theorem dX9_names_83 : decode cX9_names 83 = .ok (.istore 11, 2) := by decide +kernel
theorem dX9_names_85 : decode cX9_names 85 = .ok (.iload 11, 2) := by decide +kernel
theorem dX9_names_87 : decode cX9_names 87 = .ok (.iload_n 2, 1) := by decide +kernel
theorem dX9_names_88 : decode cX9_names 88 = .ok (.if_icmp .ne 7, 3) := by decide +kernel
theorem dX9_names_91 : decode cX9_names 91 = .ok (.iconst 1, 1) := by decide +kernel
theorem dX9_names_92 : decode cX9_names 92 = .ok (.goto 4, 3) := by decide +kernel
theorem dX9_names_95 : decode cX9_names 95 = .ok (.iconst 0, 1) := by decide +kernel
theorem dX9_names_96 : decode cX9_names 96 = .ok (.istore 12, 2) := by decide +kernel
theorem dX9_names_98 : decode cX9_names 98 = .ok (.iconst 0, 1) := by decide +kernel
theorem dX9_names_99 : decode cX9_names 99 = .ok (.istore 13, 2) := by decide +kernel
theorem dX9_names_101 : decode cX9_names 101 = .ok (.iload 13, 2) := by decide +kernel
theorem dX9_names_103 : decode cX9_names 103 = .ok (.iload_n 2, 1) := by decide +kernel
theorem dX9_names_104 : decode cX9_names 104 = .ok (.if_icmp .ge 43, 3) := by decide +kernel
theorem dX9_names_107 : decode cX9_names 107 = .ok (.iload 12, 2) := by decide +kernel
theorem dX9_names_109 : decode cX9_names 109 = .ok (.ifCond .eq 38, 3) := by decide +kernel
theorem dX9_names_112 : decode cX9_names 112 = .ok (.aload_n 0, 1) := by decide +kernel
theorem dX9_names_113 : decode cX9_names 113 = .ok (.getfield 97, 3) := by decide +kernel
theorem dX9_names_116 : decode cX9_names 116 = .ok (.iload_n 1, 1) := by decide +kernel
theorem dX9_names_117 : decode cX9_names 117 = .ok (.iload 13, 2) := by decide +kernel
theorem dX9_names_119 : decode cX9_names 119 = .ok (.iadd, 1) := by decide +kernel
theorem dX9_names_120 : decode cX9_names 120 = .ok (.iaload, 1) := by decide +kernel
theorem dX9_names_121 : decode cX9_names 121 = .ok (.aload_n 0, 1) := by decide +kernel
theorem dX9_names_122 : decode cX9_names 122 = .ok (.getfield 97, 3) := by decide +kernel
theorem dX9_names_125 : decode cX9_names 125 = .ok (.iload 8, 2) := by decide +kernel
theorem dX9_names_127 : decode cX9_names 127 = .ok (.iload 13, 2) := by decide +kernel
theorem dX9_names_129 : decode cX9_names 129 = .ok (.iadd, 1) := by decide +kernel
theorem dX9_names_130 : decode cX9_names 130 = .ok (.iaload, 1) := by decide +kernel
theorem dX9_names_131 : decode cX9_names 131 = .ok (.if_icmp .ne 7, 3) := by decide +kernel
theorem dX9_names_134 : decode cX9_names 134 = .ok (.iconst 1, 1) := by decide +kernel
theorem dX9_names_135 : decode cX9_names 135 = .ok (.goto 4, 3) := by decide +kernel
theorem dX9_names_138 : decode cX9_names 138 = .ok (.iconst 0, 1) := by decide +kernel
theorem dX9_names_139 : decode cX9_names 139 = .ok (.istore 12, 2) := by decide +kernel
theorem dX9_names_141 : decode cX9_names 141 = .ok (.iinc 13 1, 3) := by decide +kernel
theorem dX9_names_144 : decode cX9_names 144 = .ok (.goto (-43), 3) := by decide +kernel
theorem dX9_names_147 : decode cX9_names 147 = .ok (.iload 6, 2) := by decide +kernel
theorem dX9_names_149 : decode cX9_names 149 = .ok (.iload 12, 2) := by decide +kernel
theorem dX9_names_151 : decode cX9_names 151 = .ok (.ifCond .eq 7, 3) := by decide +kernel
theorem dX9_names_154 : decode cX9_names 154 = .ok (.iconst 1, 1) := by decide +kernel
theorem dX9_names_155 : decode cX9_names 155 = .ok (.goto 4, 3) := by decide +kernel
theorem dX9_names_158 : decode cX9_names 158 = .ok (.iconst 0, 1) := by decide +kernel
theorem dX9_names_159 : decode cX9_names 159 = .ok (.iadd, 1) := by decide +kernel
theorem dX9_names_160 : decode cX9_names 160 = .ok (.istore 6, 2) := by decide +kernel
theorem dX9_names_162 : decode cX9_names 162 = .ok (.iload 8, 2) := by decide +kernel
theorem dX9_names_164 : decode cX9_names 164 = .ok (.iload 11, 2) := by decide +kernel
theorem dX9_names_166 : decode cX9_names 166 = .ok (.iadd, 1) := by decide +kernel
theorem dX9_names_167 : decode cX9_names 167 = .ok (.istore 8, 2) := by decide +kernel
theorem dX9_names_169 : decode cX9_names 169 = .ok (.iinc 10 1, 3) := by decide +kernel
theorem dX9_names_172 : decode cX9_names 172 = .ok (.goto (-109), 3) := by decide +kernel
theorem dX9_names_175 : decode cX9_names 175 = .ok (.iinc 7 1, 3) := by decide +kernel
theorem dX9_names_178 : decode cX9_names 178 = .ok (.goto (-172), 3) := by decide +kernel
theorem dX9_names_181 : decode cX9_names 181 = .ok (.iload 6, 2) := by decide +kernel
theorem dX9_names_183 : decode cX9_names 183 = .ok (.ireturn, 1) := by decide +kernel
theorem dX9_release_0 : decode cX9_release 0 = .ok (.aload_n 0, 1) := by decide +kernel
theorem dX9_release_1 : decode cX9_release 1 = .ok (.aload_n 0, 1) := by decide +kernel
theorem dX9_release_2 : decode cX9_release 2 = .ok (.iload_n 1, 1) := by decide +kernel
theorem dX9_release_3 : decode cX9_release 3 = .ok (.invokevirtual 208, 3) := by decide +kernel
theorem dX9_release_6 : decode cX9_release 6 = .ok (.invokevirtual 106, 3) := by decide +kernel
theorem dX9_release_9 : decode cX9_release 9 = .ok (.ifCond .ne 5, 3) := by decide +kernel
theorem dX9_release_12 : decode cX9_release 12 = .ok (.iconst 0, 1) := by decide +kernel
theorem dX9_release_13 : decode cX9_release 13 = .ok (.ireturn, 1) := by decide +kernel
theorem dX9_release_14 : decode cX9_release 14 = .ok (.iconst 0, 1) := by decide +kernel
theorem dX9_release_15 : decode cX9_release 15 = .ok (.istore_n 2, 1) := by decide +kernel
theorem dX9_release_16 : decode cX9_release 16 = .ok (.bipush 120, 2) := by decide +kernel
theorem dX9_release_18 : decode cX9_release 18 = .ok (.iload_n 1, 1) := by decide +kernel
theorem dX9_release_19 : decode cX9_release 19 = .ok (.imul, 1) := by decide +kernel
theorem dX9_release_20 : decode cX9_release 20 = .ok (.istore_n 3, 1) := by decide +kernel
theorem dX9_release_21 : decode cX9_release 21 = .ok (.iconst 0, 1) := by decide +kernel
theorem dX9_release_22 : decode cX9_release 22 = .ok (.istore 4, 2) := by decide +kernel
theorem dX9_release_24 : decode cX9_release 24 = .ok (.iload 4, 2) := by decide +kernel
theorem dX9_release_26 : decode cX9_release 26 = .ok (.aload_n 0, 1) := by decide +kernel
theorem dX9_release_27 : decode cX9_release 27 = .ok (.getfield 91, 3) := by decide +kernel
theorem dX9_release_30 : decode cX9_release 30 = .ok (.iload_n 1, 1) := by decide +kernel
theorem dX9_release_31 : decode cX9_release 31 = .ok (.iaload, 1) := by decide +kernel
theorem dX9_release_32 : decode cX9_release 32 = .ok (.if_icmp .ge 92, 3) := by decide +kernel
theorem dX9_release_35 : decode cX9_release 35 = .ok (.aload_n 0, 1) := by decide +kernel
theorem dX9_release_36 : decode cX9_release 36 = .ok (.getfield 94, 3) := by decide +kernel
theorem dX9_release_39 : decode cX9_release 39 = .ok (.bipush 120, 2) := by decide +kernel
theorem dX9_release_41 : decode cX9_release 41 = .ok (.iload_n 1, 1) := by decide +kernel
theorem dX9_release_42 : decode cX9_release 42 = .ok (.imul, 1) := by decide +kernel
theorem dX9_release_43 : decode cX9_release 43 = .ok (.iload 4, 2) := by decide +kernel
theorem dX9_release_45 : decode cX9_release 45 = .ok (.iadd, 1) := by decide +kernel
theorem dX9_release_46 : decode cX9_release 46 = .ok (.iaload, 1) := by decide +kernel
theorem dX9_release_47 : decode cX9_release 47 = .ok (.istore 5, 2) := by decide +kernel
theorem dX9_release_49 : decode cX9_release 49 = .ok (.aload_n 0, 1) := by decide +kernel
theorem dX9_release_50 : decode cX9_release 50 = .ok (.iload_n 3, 1) := by decide +kernel
theorem dX9_release_51 : decode cX9_release 51 = .ok (.iload 5, 2) := by decide +kernel
theorem dX9_release_53 : decode cX9_release 53 = .ok (.iload_n 1, 1) := by decide +kernel
theorem dX9_release_54 : decode cX9_release 54 = .ok (.iload 4, 2) := by decide +kernel
theorem dX9_release_56 : decode cX9_release 56 = .ok (.iconst (-1), 1) := by decide +kernel
theorem dX9_release_57 : decode cX9_release 57 = .ok (.invokevirtual 211, 3) := by decide +kernel
theorem dX9_release_60 : decode cX9_release 60 = .ok (.aload_n 0, 1) := by decide +kernel
theorem dX9_release_61 : decode cX9_release 61 = .ok (.iload_n 3, 1) := by decide +kernel
theorem dX9_release_62 : decode cX9_release 62 = .ok (.iload 5, 2) := by decide +kernel
theorem dX9_release_64 : decode cX9_release 64 = .ok (.iload_n 1, 1) := by decide +kernel
theorem dX9_release_65 : decode cX9_release 65 = .ok (.iconst 0, 1) := by decide +kernel
theorem dX9_release_66 : decode cX9_release 66 = .ok (.iconst (-1), 1) := by decide +kernel
theorem dX9_release_67 : decode cX9_release 67 = .ok (.invokevirtual 211, 3) := by decide +kernel
theorem dX9_release_70 : decode cX9_release 70 = .ok (.if_icmp .ne 7, 3) := by decide +kernel
theorem dX9_release_73 : decode cX9_release 73 = .ok (.iconst 1, 1) := by decide +kernel
theorem dX9_release_74 : decode cX9_release 74 = .ok (.goto 4, 3) := by decide +kernel
theorem dX9_release_77 : decode cX9_release 77 = .ok (.iconst 0, 1) := by decide +kernel
theorem dX9_release_78 : decode cX9_release 78 = .ok (.istore 6, 2) := by decide +kernel
theorem dX9_release_80 : decode cX9_release 80 = .ok (.iload_n 2, 1) := by decide +kernel
theorem dX9_release_81 : decode cX9_release 81 = .ok (.iload 6, 2) := by decide +kernel
theorem dX9_release_83 : decode cX9_release 83 = .ok (.ifCond .eq 27, 3) := by decide +kernel
theorem dX9_release_86 : decode cX9_release 86 = .ok (.aload_n 0, 1) := by decide +kernel
theorem dX9_release_87 : decode cX9_release 87 = .ok (.iload_n 3, 1) := by decide +kernel
theorem dX9_release_88 : decode cX9_release 88 = .ok (.iload 5, 2) := by decide +kernel
theorem dX9_release_90 : decode cX9_release 90 = .ok (.bipush 11, 2) := by decide +kernel
theorem dX9_release_92 : decode cX9_release 92 = .ok (.aload_n 0, 1) := by decide +kernel
theorem dX9_release_93 : decode cX9_release 93 = .ok (.getfield 91, 3) := by decide +kernel
theorem dX9_release_96 : decode cX9_release 96 = .ok (.bipush 11, 2) := by decide +kernel
theorem dX9_release_98 : decode cX9_release 98 = .ok (.iaload, 1) := by decide +kernel
theorem dX9_release_99 : decode cX9_release 99 = .ok (.iload_n 1, 1) := by decide +kernel
theorem dX9_release_100 : decode cX9_release 100 = .ok (.invokevirtual 211, 3) := by decide +kernel
theorem dX9_release_103 : decode cX9_release 103 = .ok (.ifCond .ne 7, 3) := by decide +kernel
theorem dX9_release_106 : decode cX9_release 106 = .ok (.iconst 1, 1) := by decide +kernel
theorem dX9_release_107 : decode cX9_release 107 = .ok (.goto 4, 3) := by decide +kernel
theorem dX9_release_110 : decode cX9_release 110 = .ok (.iconst 0, 1) := by decide +kernel
theorem dX9_release_111 : decode cX9_release 111 = .ok (.iadd, 1) := by decide +kernel
theorem dX9_release_112 : decode cX9_release 112 = .ok (.istore_n 2, 1) := by decide +kernel
theorem dX9_release_113 : decode cX9_release 113 = .ok (.iload_n 3, 1) := by decide +kernel
theorem dX9_release_114 : decode cX9_release 114 = .ok (.iload 5, 2) := by decide +kernel
theorem dX9_release_116 : decode cX9_release 116 = .ok (.iadd, 1) := by decide +kernel
theorem dX9_release_117 : decode cX9_release 117 = .ok (.istore_n 3, 1) := by decide +kernel
theorem dX9_release_118 : decode cX9_release 118 = .ok (.iinc 4 1, 3) := by decide +kernel
theorem dX9_release_121 : decode cX9_release 121 = .ok (.goto (-97), 3) := by decide +kernel
theorem dX9_release_124 : decode cX9_release 124 = .ok (.aload_n 0, 1) := by decide +kernel
theorem dX9_release_125 : decode cX9_release 125 = .ok (.getfield 88, 3) := by decide +kernel
theorem dX9_release_128 : decode cX9_release 128 = .ok (.iload_n 1, 1) := by decide +kernel
theorem dX9_release_129 : decode cX9_release 129 = .ok (.iconst 0, 1) := by decide +kernel
theorem dX9_release_130 : decode cX9_release 130 = .ok (.bastore, 1) := by decide +kernel
theorem dX9_release_131 : decode cX9_release 131 = .ok (.iload_n 2, 1) := by decide +kernel
theorem dX9_release_132 : decode cX9_release 132 = .ok (.ireturn, 1) := by decide +kernel
theorem dX9_fetch_0 : decode cX9_fetch 0 = .ok (.aload_n 0, 1) := by decide +kernel
theorem dX9_fetch_1 : decode cX9_fetch 1 = .ok (.aload_n 0, 1) := by decide +kernel
theorem dX9_fetch_2 : decode cX9_fetch 2 = .ok (.iload_n 1, 1) := by decide +kernel
theorem dX9_fetch_3 : decode cX9_fetch 3 = .ok (.invokevirtual 208, 3) := by decide +kernel
theorem dX9_fetch_6 : decode cX9_fetch 6 = .ok (.ifCond .eq 15, 3) := by decide +kernel
theorem dX9_fetch_9 : decode cX9_fetch 9 = .ok (.aload_n 0, 1) := by decide +kernel
theorem dX9_fetch_10 : decode cX9_fetch 10 = .ok (.iload_n 2, 1) := by decide +kernel
theorem dX9_fetch_11 : decode cX9_fetch 11 = .ok (.invokevirtual 114, 3) := by decide +kernel
theorem dX9_fetch_14 : decode cX9_fetch 14 = .ok (.ifCond .eq 7, 3) := by decide +kernel
theorem dX9_fetch_17 : decode cX9_fetch 17 = .ok (.iconst 1, 1) := by decide +kernel
theorem dX9_fetch_18 : decode cX9_fetch 18 = .ok (.goto 4, 3) := by decide +kernel
theorem dX9_fetch_21 : decode cX9_fetch 21 = .ok (.iconst 0, 1) := by decide +kernel
theorem dX9_fetch_22 : decode cX9_fetch 22 = .ok (.invokevirtual 106, 3) := by decide +kernel
theorem dX9_fetch_25 : decode cX9_fetch 25 = .ok (.ifCond .ne 5, 3) := by decide +kernel
theorem dX9_fetch_28 : decode cX9_fetch 28 = .ok (.iconst 0, 1) := by decide +kernel
theorem dX9_fetch_29 : decode cX9_fetch 29 = .ok (.ireturn, 1) := by decide +kernel
theorem dX9_fetch_30 : decode cX9_fetch 30 = .ok (.aload_n 0, 1) := by decide +kernel
theorem dX9_fetch_31 : decode cX9_fetch 31 = .ok (.aload_n 0, 1) := by decide +kernel
theorem dX9_fetch_32 : decode cX9_fetch 32 = .ok (.iload_n 1, 1) := by decide +kernel
theorem dX9_fetch_33 : decode cX9_fetch 33 = .ok (.aload_n 0, 1) := by decide +kernel
theorem dX9_fetch_34 : decode cX9_fetch 34 = .ok (.getfield 91, 3) := by decide +kernel
theorem dX9_fetch_37 : decode cX9_fetch 37 = .ok (.iload_n 1, 1) := by decide +kernel
theorem dX9_fetch_38 : decode cX9_fetch 38 = .ok (.iaload, 1) := by decide +kernel
theorem dX9_fetch_39 : decode cX9_fetch 39 = .ok (.invokevirtual 215, 3) := by decide +kernel
theorem dX9_fetch_42 : decode cX9_fetch 42 = .ok (.bipush 120, 2) := by decide +kernel
theorem dX9_fetch_44 : decode cX9_fetch 44 = .ok (.iload_n 1, 1) := by decide +kernel
theorem dX9_fetch_45 : decode cX9_fetch 45 = .ok (.imul, 1) := by decide +kernel
theorem dX9_fetch_46 : decode cX9_fetch 46 = .ok (.isub, 1) := by decide +kernel
theorem dX9_fetch_47 : decode cX9_fetch 47 = .ok (.putfield 125, 3) := by decide +kernel
theorem dX9_fetch_50 : decode cX9_fetch 50 = .ok (.iconst 0, 1) := by decide +kernel
theorem dX9_fetch_51 : decode cX9_fetch 51 = .ok (.istore_n 3, 1) := by decide +kernel
theorem dX9_fetch_52 : decode cX9_fetch 52 = .ok (.iload_n 3, 1) := by decide +kernel
theorem dX9_fetch_53 : decode cX9_fetch 53 = .ok (.aload_n 0, 1) := by decide +kernel
theorem dX9_fetch_54 : decode cX9_fetch 54 = .ok (.getfield 125, 3) := by decide +kernel
theorem dX9_fetch_57 : decode cX9_fetch 57 = .ok (.if_icmp .ge 26, 3) := by decide +kernel
theorem dX9_fetch_60 : decode cX9_fetch 60 = .ok (.aload_n 0, 1) := by decide +kernel
theorem dX9_fetch_61 : decode cX9_fetch 61 = .ok (.getfield 72, 3) := by decide +kernel
theorem dX9_fetch_64 : decode cX9_fetch 64 = .ok (.iload_n 3, 1) := by decide +kernel
theorem dX9_fetch_65 : decode cX9_fetch 65 = .ok (.aload_n 0, 1) := by decide +kernel
theorem dX9_fetch_66 : decode cX9_fetch 66 = .ok (.getfield 97, 3) := by decide +kernel
theorem dX9_fetch_69 : decode cX9_fetch 69 = .ok (.bipush 120, 2) := by decide +kernel
theorem dX9_fetch_71 : decode cX9_fetch 71 = .ok (.iload_n 1, 1) := by decide +kernel
theorem dX9_fetch_72 : decode cX9_fetch 72 = .ok (.imul, 1) := by decide +kernel
theorem dX9_fetch_73 : decode cX9_fetch 73 = .ok (.iload_n 3, 1) := by decide +kernel
theorem dX9_fetch_74 : decode cX9_fetch 74 = .ok (.iadd, 1) := by decide +kernel
theorem dX9_fetch_75 : decode cX9_fetch 75 = .ok (.iaload, 1) := by decide +kernel
theorem dX9_fetch_76 : decode cX9_fetch 76 = .ok (.iastore, 1) := by decide +kernel
theorem dX9_fetch_77 : decode cX9_fetch 77 = .ok (.iinc 3 1, 3) := by decide +kernel
theorem dX9_fetch_80 : decode cX9_fetch 80 = .ok (.goto (-28), 3) := by decide +kernel
theorem dX9_fetch_83 : decode cX9_fetch 83 = .ok (.aload_n 0, 1) := by decide +kernel
theorem dX9_fetch_84 : decode cX9_fetch 84 = .ok (.iload_n 2, 1) := by decide +kernel
theorem dX9_fetch_85 : decode cX9_fetch 85 = .ok (.invokevirtual 177, 3) := by decide +kernel
theorem dX9_fetch_88 : decode cX9_fetch 88 = .ok (.ireturn, 1) := by decide +kernel
theorem dX9_papers_0 : decode cX9_papers 0 = .ok (.aload_n 0, 1) := by decide +kernel
theorem dX9_papers_1 : decode cX9_papers 1 = .ok (.iconst 0, 1) := by decide +kernel
theorem dX9_papers_2 : decode cX9_papers 2 = .ok (.putfield 100, 3) := by decide +kernel
theorem dX9_papers_5 : decode cX9_papers 5 = .ok (.iconst 0, 1) := by decide +kernel
theorem dX9_papers_6 : decode cX9_papers 6 = .ok (.istore_n 1, 1) := by decide +kernel
theorem dX9_papers_7 : decode cX9_papers 7 = .ok (.iconst 0, 1) := by decide +kernel
theorem dX9_papers_8 : decode cX9_papers 8 = .ok (.istore_n 2, 1) := by decide +kernel
theorem dX9_papers_9 : decode cX9_papers 9 = .ok (.iload_n 2, 1) := by decide +kernel
theorem dX9_papers_10 : decode cX9_papers 10 = .ok (.bipush 12, 2) := by decide +kernel
theorem dX9_papers_12 : decode cX9_papers 12 = .ok (.if_icmp .ge 26, 3) := by decide +kernel
theorem dX9_papers_15 : decode cX9_papers 15 = .ok (.iload_n 1, 1) := by decide +kernel
theorem dX9_papers_16 : decode cX9_papers 16 = .ok (.aload_n 0, 1) := by decide +kernel
theorem dX9_papers_17 : decode cX9_papers 17 = .ok (.getfield 88, 3) := by decide +kernel
theorem dX9_papers_20 : decode cX9_papers 20 = .ok (.iload_n 2, 1) := by decide +kernel
theorem dX9_papers_21 : decode cX9_papers 21 = .ok (.baload, 1) := by decide +kernel
theorem dX9_papers_22 : decode cX9_papers 22 = .ok (.ifCond .eq 7, 3) := by decide +kernel
theorem dX9_papers_25 : decode cX9_papers 25 = .ok (.iconst 1, 1) := by decide +kernel
theorem dX9_papers_26 : decode cX9_papers 26 = .ok (.goto 4, 3) := by decide +kernel
theorem dX9_papers_29 : decode cX9_papers 29 = .ok (.iconst 0, 1) := by decide +kernel
theorem dX9_papers_30 : decode cX9_papers 30 = .ok (.iadd, 1) := by decide +kernel
theorem dX9_papers_31 : decode cX9_papers 31 = .ok (.istore_n 1, 1) := by decide +kernel
theorem dX9_papers_32 : decode cX9_papers 32 = .ok (.iinc 2 1, 3) := by decide +kernel
theorem dX9_papers_35 : decode cX9_papers 35 = .ok (.goto (-26), 3) := by decide +kernel
theorem dX9_papers_38 : decode cX9_papers 38 = .ok (.iload_n 1, 1) := by decide +kernel
theorem dX9_papers_39 : decode cX9_papers 39 = .ok (.ireturn, 1) := by decide +kernel
theorem dX9_held_0 : decode cX9_held 0 = .ok (.iconst 0, 1) := by decide +kernel
theorem dX9_held_1 : decode cX9_held 1 = .ok (.istore_n 2, 1) := by decide +kernel
theorem dX9_held_2 : decode cX9_held 2 = .ok (.iconst 0, 1) := by decide +kernel
theorem dX9_held_3 : decode cX9_held 3 = .ok (.istore_n 3, 1) := by decide +kernel
theorem dX9_held_4 : decode cX9_held 4 = .ok (.iload_n 3, 1) := by decide +kernel
theorem dX9_held_5 : decode cX9_held 5 = .ok (.bipush 12, 2) := by decide +kernel
theorem dX9_held_7 : decode cX9_held 7 = .ok (.if_icmp .ge 93, 3) := by decide +kernel
theorem dX9_held_10 : decode cX9_held 10 = .ok (.bipush 120, 2) := by decide +kernel
theorem dX9_held_12 : decode cX9_held 12 = .ok (.iload_n 3, 1) := by decide +kernel
theorem dX9_held_13 : decode cX9_held 13 = .ok (.imul, 1) := by decide +kernel
theorem dX9_held_14 : decode cX9_held 14 = .ok (.istore 4, 2) := by decide +kernel
theorem dX9_held_16 : decode cX9_held 16 = .ok (.iconst 0, 1) := by decide +kernel
theorem dX9_held_17 : decode cX9_held 17 = .ok (.istore 5, 2) := by decide +kernel
theorem dX9_held_19 : decode cX9_held 19 = .ok (.iload 5, 2) := by decide +kernel
theorem dX9_held_21 : decode cX9_held 21 = .ok (.aload_n 0, 1) := by decide +kernel
theorem dX9_held_22 : decode cX9_held 22 = .ok (.getfield 91, 3) := by decide +kernel
theorem dX9_held_25 : decode cX9_held 25 = .ok (.iload_n 3, 1) := by decide +kernel
theorem dX9_held_26 : decode cX9_held 26 = .ok (.iaload, 1) := by decide +kernel
theorem dX9_held_27 : decode cX9_held 27 = .ok (.if_icmp .ge 67, 3) := by decide +kernel
theorem dX9_held_30 : decode cX9_held 30 = .ok (.aload_n 0, 1) := by decide +kernel
theorem dX9_held_31 : decode cX9_held 31 = .ok (.getfield 88, 3) := by decide +kernel
theorem dX9_held_34 : decode cX9_held 34 = .ok (.iload_n 3, 1) := by decide +kernel
theorem dX9_held_35 : decode cX9_held 35 = .ok (.baload, 1) := by decide +kernel
theorem dX9_held_36 : decode cX9_held 36 = .ok (.ifCond .eq 58, 3) := by decide +kernel
theorem dX9_held_39 : decode cX9_held 39 = .ok (.aload_n 0, 1) := by decide +kernel
theorem dX9_held_40 : decode cX9_held 40 = .ok (.getfield 94, 3) := by decide +kernel
theorem dX9_held_43 : decode cX9_held 43 = .ok (.bipush 120, 2) := by decide +kernel
theorem dX9_held_45 : decode cX9_held 45 = .ok (.iload_n 3, 1) := by decide +kernel
theorem dX9_held_46 : decode cX9_held 46 = .ok (.imul, 1) := by decide +kernel
theorem dX9_held_47 : decode cX9_held 47 = .ok (.iload 5, 2) := by decide +kernel
theorem dX9_held_49 : decode cX9_held 49 = .ok (.iadd, 1) := by decide +kernel
theorem dX9_held_50 : decode cX9_held 50 = .ok (.iaload, 1) := by decide +kernel
theorem dX9_held_51 : decode cX9_held 51 = .ok (.istore 6, 2) := by decide +kernel
theorem dX9_held_53 : decode cX9_held 53 = .ok (.aload_n 0, 1) := by decide +kernel
theorem dX9_held_54 : decode cX9_held 54 = .ok (.iload 4, 2) := by decide +kernel
theorem dX9_held_56 : decode cX9_held 56 = .ok (.iload 6, 2) := by decide +kernel
theorem dX9_held_58 : decode cX9_held 58 = .ok (.iload_n 3, 1) := by decide +kernel
theorem dX9_held_59 : decode cX9_held 59 = .ok (.iload 5, 2) := by decide +kernel
theorem dX9_held_61 : decode cX9_held 61 = .ok (.iconst (-1), 1) := by decide +kernel
theorem dX9_held_62 : decode cX9_held 62 = .ok (.invokevirtual 211, 3) := by decide +kernel
theorem dX9_held_65 : decode cX9_held 65 = .ok (.ifCond .ne 16, 3) := by decide +kernel
theorem dX9_held_68 : decode cX9_held 68 = .ok (.iload_n 2, 1) := by decide +kernel
theorem dX9_held_69 : decode cX9_held 69 = .ok (.iload_n 1, 1) := by decide +kernel
theorem dX9_held_70 : decode cX9_held 70 = .ok (.ifCond .eq 8, 3) := by decide +kernel
theorem dX9_held_73 : decode cX9_held 73 = .ok (.iload 6, 2) := by decide +kernel
theorem dX9_held_75 : decode cX9_held 75 = .ok (.goto 4, 3) := by decide +kernel
theorem dX9_held_78 : decode cX9_held 78 = .ok (.iconst 1, 1) := by decide +kernel
theorem dX9_held_79 : decode cX9_held 79 = .ok (.iadd, 1) := by decide +kernel
theorem dX9_held_80 : decode cX9_held 80 = .ok (.istore_n 2, 1) := by decide +kernel
theorem dX9_held_81 : decode cX9_held 81 = .ok (.iload 4, 2) := by decide +kernel
theorem dX9_held_83 : decode cX9_held 83 = .ok (.iload 6, 2) := by decide +kernel
theorem dX9_held_85 : decode cX9_held 85 = .ok (.iadd, 1) := by decide +kernel
theorem dX9_held_86 : decode cX9_held 86 = .ok (.istore 4, 2) := by decide +kernel
theorem dX9_held_88 : decode cX9_held 88 = .ok (.iinc 5 1, 3) := by decide +kernel
theorem dX9_held_91 : decode cX9_held 91 = .ok (.goto (-72), 3) := by decide +kernel
theorem dX9_held_94 : decode cX9_held 94 = .ok (.iinc 3 1, 3) := by decide +kernel
theorem dX9_held_97 : decode cX9_held 97 = .ok (.goto (-93), 3) := by decide +kernel
theorem dX9_held_100 : decode cX9_held 100 = .ok (.iload_n 2, 1) := by decide +kernel
theorem dX9_held_101 : decode cX9_held 101 = .ok (.ireturn, 1) := by decide +kernel
theorem dX9_chunks_0 : decode cX9_chunks 0 = .ok (.aload_n 0, 1) := by decide +kernel
theorem dX9_chunks_1 : decode cX9_chunks 1 = .ok (.iconst 0, 1) := by decide +kernel
theorem dX9_chunks_2 : decode cX9_chunks 2 = .ok (.putfield 100, 3) := by decide +kernel
theorem dX9_chunks_5 : decode cX9_chunks 5 = .ok (.aload_n 0, 1) := by decide +kernel
theorem dX9_chunks_6 : decode cX9_chunks 6 = .ok (.iconst 0, 1) := by decide +kernel
theorem dX9_chunks_7 : decode cX9_chunks 7 = .ok (.invokevirtual 218, 3) := by decide +kernel
theorem dX9_chunks_10 : decode cX9_chunks 10 = .ok (.ireturn, 1) := by decide +kernel
theorem dX9_heldBytes_0 : decode cX9_heldBytes 0 = .ok (.aload_n 0, 1) := by decide +kernel
theorem dX9_heldBytes_1 : decode cX9_heldBytes 1 = .ok (.iconst 0, 1) := by decide +kernel
theorem dX9_heldBytes_2 : decode cX9_heldBytes 2 = .ok (.putfield 100, 3) := by decide +kernel
theorem dX9_heldBytes_5 : decode cX9_heldBytes 5 = .ok (.aload_n 0, 1) := by decide +kernel
theorem dX9_heldBytes_6 : decode cX9_heldBytes 6 = .ok (.iconst 1, 1) := by decide +kernel
theorem dX9_heldBytes_7 : decode cX9_heldBytes 7 = .ok (.invokevirtual 218, 3) := by decide +kernel
theorem dX9_heldBytes_10 : decode cX9_heldBytes 10 = .ok (.ireturn, 1) := by decide +kernel
theorem dX9_parts_0 : decode cX9_parts 0 = .ok (.aload_n 0, 1) := by decide +kernel
theorem dX9_parts_1 : decode cX9_parts 1 = .ok (.aload_n 0, 1) := by decide +kernel
theorem dX9_parts_2 : decode cX9_parts 2 = .ok (.iload_n 1, 1) := by decide +kernel
theorem dX9_parts_3 : decode cX9_parts 3 = .ok (.invokevirtual 208, 3) := by decide +kernel
theorem dX9_parts_6 : decode cX9_parts 6 = .ok (.invokevirtual 106, 3) := by decide +kernel
theorem dX9_parts_9 : decode cX9_parts 9 = .ok (.ifCond .eq 12, 3) := by decide +kernel
theorem dX9_parts_12 : decode cX9_parts 12 = .ok (.aload_n 0, 1) := by decide +kernel
theorem dX9_parts_13 : decode cX9_parts 13 = .ok (.getfield 91, 3) := by decide +kernel
theorem dX9_parts_16 : decode cX9_parts 16 = .ok (.iload_n 1, 1) := by decide +kernel
theorem dX9_parts_17 : decode cX9_parts 17 = .ok (.iaload, 1) := by decide +kernel
theorem dX9_parts_18 : decode cX9_parts 18 = .ok (.goto 4, 3) := by decide +kernel
theorem dX9_parts_21 : decode cX9_parts 21 = .ok (.iconst 0, 1) := by decide +kernel
theorem dX9_parts_22 : decode cX9_parts 22 = .ok (.ireturn, 1) := by decide +kernel
theorem dX9_isPart_0 : decode cX9_isPart 0 = .ok (.aload_n 0, 1) := by decide +kernel
theorem dX9_isPart_1 : decode cX9_isPart 1 = .ok (.iload_n 1, 1) := by decide +kernel
theorem dX9_isPart_2 : decode cX9_isPart 2 = .ok (.invokevirtual 208, 3) := by decide +kernel
theorem dX9_isPart_5 : decode cX9_isPart 5 = .ok (.ifCond .eq 21, 3) := by decide +kernel
theorem dX9_isPart_8 : decode cX9_isPart 8 = .ok (.iload_n 2, 1) := by decide +kernel
theorem dX9_isPart_9 : decode cX9_isPart 9 = .ok (.ifCond .lt 17, 3) := by decide +kernel
theorem dX9_isPart_12 : decode cX9_isPart 12 = .ok (.iload_n 2, 1) := by decide +kernel
theorem dX9_isPart_13 : decode cX9_isPart 13 = .ok (.aload_n 0, 1) := by decide +kernel
theorem dX9_isPart_14 : decode cX9_isPart 14 = .ok (.getfield 91, 3) := by decide +kernel
theorem dX9_isPart_17 : decode cX9_isPart 17 = .ok (.iload_n 1, 1) := by decide +kernel
theorem dX9_isPart_18 : decode cX9_isPart 18 = .ok (.iaload, 1) := by decide +kernel
theorem dX9_isPart_19 : decode cX9_isPart 19 = .ok (.if_icmp .ge 7, 3) := by decide +kernel
theorem dX9_isPart_22 : decode cX9_isPart 22 = .ok (.iconst 1, 1) := by decide +kernel
theorem dX9_isPart_23 : decode cX9_isPart 23 = .ok (.goto 4, 3) := by decide +kernel
theorem dX9_isPart_26 : decode cX9_isPart 26 = .ok (.iconst 0, 1) := by decide +kernel
theorem dX9_isPart_27 : decode cX9_isPart 27 = .ok (.ireturn, 1) := by decide +kernel
theorem dX9_partLength_0 : decode cX9_partLength 0 = .ok (.aload_n 0, 1) := by decide +kernel
theorem dX9_partLength_1 : decode cX9_partLength 1 = .ok (.aload_n 0, 1) := by decide +kernel
theorem dX9_partLength_2 : decode cX9_partLength 2 = .ok (.iload_n 1, 1) := by decide +kernel
theorem dX9_partLength_3 : decode cX9_partLength 3 = .ok (.iload_n 2, 1) := by decide +kernel
theorem dX9_partLength_4 : decode cX9_partLength 4 = .ok (.invokevirtual 222, 3) := by decide +kernel
theorem dX9_partLength_7 : decode cX9_partLength 7 = .ok (.invokevirtual 106, 3) := by decide +kernel
theorem dX9_partLength_10 : decode cX9_partLength 10 = .ok (.ifCond .eq 17, 3) := by decide +kernel
theorem dX9_partLength_13 : decode cX9_partLength 13 = .ok (.aload_n 0, 1) := by decide +kernel
theorem dX9_partLength_14 : decode cX9_partLength 14 = .ok (.getfield 94, 3) := by decide +kernel
theorem dX9_partLength_17 : decode cX9_partLength 17 = .ok (.bipush 120, 2) := by decide +kernel
theorem dX9_partLength_19 : decode cX9_partLength 19 = .ok (.iload_n 1, 1) := by decide +kernel
theorem dX9_partLength_20 : decode cX9_partLength 20 = .ok (.imul, 1) := by decide +kernel
theorem dX9_partLength_21 : decode cX9_partLength 21 = .ok (.iload_n 2, 1) := by decide +kernel
theorem dX9_partLength_22 : decode cX9_partLength 22 = .ok (.iadd, 1) := by decide +kernel
theorem dX9_partLength_23 : decode cX9_partLength 23 = .ok (.iaload, 1) := by decide +kernel
theorem dX9_partLength_24 : decode cX9_partLength 24 = .ok (.goto 4, 3) := by decide +kernel
theorem dX9_partLength_27 : decode cX9_partLength 27 = .ok (.iconst 0, 1) := by decide +kernel
theorem dX9_partLength_28 : decode cX9_partLength 28 = .ok (.ireturn, 1) := by decide +kernel
theorem dX9_shared_0 : decode cX9_shared 0 = .ok (.aload_n 0, 1) := by decide +kernel
theorem dX9_shared_1 : decode cX9_shared 1 = .ok (.aload_n 0, 1) := by decide +kernel
theorem dX9_shared_2 : decode cX9_shared 2 = .ok (.iload_n 1, 1) := by decide +kernel
theorem dX9_shared_3 : decode cX9_shared 3 = .ok (.iload_n 2, 1) := by decide +kernel
theorem dX9_shared_4 : decode cX9_shared 4 = .ok (.invokevirtual 222, 3) := by decide +kernel
theorem dX9_shared_7 : decode cX9_shared 7 = .ok (.invokevirtual 106, 3) := by decide +kernel
theorem dX9_shared_10 : decode cX9_shared 10 = .ok (.ifCond .eq 37, 3) := by decide +kernel
theorem dX9_shared_13 : decode cX9_shared 13 = .ok (.aload_n 0, 1) := by decide +kernel
theorem dX9_shared_14 : decode cX9_shared 14 = .ok (.aload_n 0, 1) := by decide +kernel
theorem dX9_shared_15 : decode cX9_shared 15 = .ok (.iload_n 1, 1) := by decide +kernel
theorem dX9_shared_16 : decode cX9_shared 16 = .ok (.iload_n 2, 1) := by decide +kernel
theorem dX9_shared_17 : decode cX9_shared 17 = .ok (.invokevirtual 215, 3) := by decide +kernel
theorem dX9_shared_20 : decode cX9_shared 20 = .ok (.aload_n 0, 1) := by decide +kernel
theorem dX9_shared_21 : decode cX9_shared 21 = .ok (.getfield 94, 3) := by decide +kernel
theorem dX9_shared_24 : decode cX9_shared 24 = .ok (.bipush 120, 2) := by decide +kernel
theorem dX9_shared_26 : decode cX9_shared 26 = .ok (.iload_n 1, 1) := by decide +kernel
theorem dX9_shared_27 : decode cX9_shared 27 = .ok (.imul, 1) := by decide +kernel
theorem dX9_shared_28 : decode cX9_shared 28 = .ok (.iload_n 2, 1) := by decide +kernel
theorem dX9_shared_29 : decode cX9_shared 29 = .ok (.iadd, 1) := by decide +kernel
theorem dX9_shared_30 : decode cX9_shared 30 = .ok (.iaload, 1) := by decide +kernel
theorem dX9_shared_31 : decode cX9_shared 31 = .ok (.bipush 11, 2) := by decide +kernel
theorem dX9_shared_33 : decode cX9_shared 33 = .ok (.aload_n 0, 1) := by decide +kernel
theorem dX9_shared_34 : decode cX9_shared 34 = .ok (.getfield 91, 3) := by decide +kernel
theorem dX9_shared_37 : decode cX9_shared 37 = .ok (.bipush 11, 2) := by decide +kernel
theorem dX9_shared_39 : decode cX9_shared 39 = .ok (.iaload, 1) := by decide +kernel
theorem dX9_shared_40 : decode cX9_shared 40 = .ok (.iconst (-1), 1) := by decide +kernel
theorem dX9_shared_41 : decode cX9_shared 41 = .ok (.invokevirtual 211, 3) := by decide +kernel
theorem dX9_shared_44 : decode cX9_shared 44 = .ok (.goto 4, 3) := by decide +kernel
theorem dX9_shared_47 : decode cX9_shared 47 = .ok (.iconst 0, 1) := by decide +kernel
theorem dX9_shared_48 : decode cX9_shared 48 = .ok (.ireturn, 1) := by decide +kernel
theorem dJ9_max_7cf53_0 : decode cJ9_max_7cf53 0 = .ok (.iload_n 0, 1) := by decide +kernel
theorem dJ9_max_7cf53_1 : decode cJ9_max_7cf53 1 = .ok (.iload_n 1, 1) := by decide +kernel
theorem dJ9_max_7cf53_2 : decode cJ9_max_7cf53 2 = .ok (.if_icmp .lt 7, 3) := by decide +kernel
theorem dJ9_max_7cf53_5 : decode cJ9_max_7cf53 5 = .ok (.iload_n 0, 1) := by decide +kernel
theorem dJ9_max_7cf53_6 : decode cJ9_max_7cf53 6 = .ok (.goto 4, 3) := by decide +kernel
theorem dJ9_max_7cf53_9 : decode cJ9_max_7cf53 9 = .ok (.iload_n 1, 1) := by decide +kernel
theorem dJ9_max_7cf53_10 : decode cJ9_max_7cf53 10 = .ok (.ireturn, 1) := by decide +kernel
theorem dJ9_min_7cf53_0 : decode cJ9_min_7cf53 0 = .ok (.iload_n 0, 1) := by decide +kernel
theorem dJ9_min_7cf53_1 : decode cJ9_min_7cf53 1 = .ok (.iload_n 1, 1) := by decide +kernel
theorem dJ9_min_7cf53_2 : decode cJ9_min_7cf53 2 = .ok (.if_icmp .gt 7, 3) := by decide +kernel
theorem dJ9_min_7cf53_5 : decode cJ9_min_7cf53 5 = .ok (.iload_n 0, 1) := by decide +kernel
theorem dJ9_min_7cf53_6 : decode cJ9_min_7cf53 6 = .ok (.goto 4, 3) := by decide +kernel
theorem dJ9_min_7cf53_9 : decode cJ9_min_7cf53 9 = .ok (.iload_n 1, 1) := by decide +kernel
theorem dJ9_min_7cf53_10 : decode cJ9_min_7cf53 10 = .ok (.ireturn, 1) := by decide +kernel
theorem dJxa1e45_init_da8c8_0 : decode cJxa1e45_init_da8c8 0 = .ok (.aload_n 0, 1) := by decide +kernel
theorem dJxa1e45_init_da8c8_1 : decode cJxa1e45_init_da8c8 1 = .ok (.invokespecial 1, 3) := by decide +kernel
theorem dJxa1e45_init_da8c8_4 : decode cJxa1e45_init_da8c8 4 = .ok (.return_, 1) := by decide +kernel
theorem dJxc12de_init_da8c8_0 : decode cJxc12de_init_da8c8 0 = .ok (.aload_n 0, 1) := by decide +kernel
theorem dJxc12de_init_da8c8_1 : decode cJxc12de_init_da8c8 1 = .ok (.invokespecial 1, 3) := by decide +kernel
theorem dJxc12de_init_da8c8_4 : decode cJxc12de_init_da8c8 4 = .ok (.aload_n 0, 1) := by decide +kernel
theorem dJxc12de_init_da8c8_5 : decode cJxc12de_init_da8c8 5 = .ok (.iconst 0, 1) := by decide +kernel
theorem dJxc12de_init_da8c8_6 : decode cJxc12de_init_da8c8 6 = .ok (.putfield 7, 3) := by decide +kernel
theorem dJxc12de_init_da8c8_9 : decode cJxc12de_init_da8c8 9 = .ok (.return_, 1) := by decide +kernel
theorem dJx4a65c_init_da8c8_0 : decode cJx4a65c_init_da8c8 0 = .ok (.aload_n 0, 1) := by decide +kernel
theorem dJx4a65c_init_da8c8_1 : decode cJx4a65c_init_da8c8 1 = .ok (.invokespecial 1, 3) := by decide +kernel
theorem dJx4a65c_init_da8c8_4 : decode cJx4a65c_init_da8c8 4 = .ok (.aload_n 0, 1) := by decide +kernel
theorem dJx4a65c_init_da8c8_5 : decode cJx4a65c_init_da8c8 5 = .ok (.getstatic 39, 3) := by decide +kernel
theorem dJx4a65c_init_da8c8_8 : decode cJx4a65c_init_da8c8 8 = .ok (.putfield 9, 3) := by decide +kernel
theorem dJx4a65c_init_da8c8_11 : decode cJx4a65c_init_da8c8 11 = .ok (.return_, 1) := by decide +kernel
theorem dJx4a65c_grow_92f84_0 : decode cJx4a65c_grow_92f84 0 = .ok (.aload_n 0, 1) := by decide +kernel
theorem dJx4a65c_grow_92f84_1 : decode cJx4a65c_grow_92f84 1 = .ok (.getfield 9, 3) := by decide +kernel
theorem dJx4a65c_grow_92f84_4 : decode cJx4a65c_grow_92f84 4 = .ok (.arraylength, 1) := by decide +kernel
theorem dJx4a65c_grow_92f84_5 : decode cJx4a65c_grow_92f84 5 = .ok (.istore_n 2, 1) := by decide +kernel
theorem dJx4a65c_grow_92f84_6 : decode cJx4a65c_grow_92f84 6 = .ok (.iload_n 2, 1) := by decide +kernel
theorem dJx4a65c_grow_92f84_7 : decode cJx4a65c_grow_92f84 7 = .ok (.ifCond .gt 13, 3) := by decide +kernel
theorem dJx4a65c_grow_92f84_10 : decode cJx4a65c_grow_92f84 10 = .ok (.aload_n 0, 1) := by decide +kernel
theorem dJx4a65c_grow_92f84_11 : decode cJx4a65c_grow_92f84 11 = .ok (.getfield 9, 3) := by decide +kernel
theorem dJx4a65c_grow_92f84_14 : decode cJx4a65c_grow_92f84 14 = .ok (.getstatic 39, 3) := by decide +kernel
theorem dJx4a65c_grow_92f84_17 : decode cJx4a65c_grow_92f84 17 = .ok (.if_acmp .eq 28, 3) := by decide +kernel
theorem dJx4a65c_grow_92f84_20 : decode cJx4a65c_grow_92f84 20 = .ok (.iload_n 2, 1) := by decide +kernel
theorem dJx4a65c_grow_92f84_21 : decode cJx4a65c_grow_92f84 21 = .ok (.iload_n 1, 1) := by decide +kernel
theorem dJx4a65c_grow_92f84_22 : decode cJx4a65c_grow_92f84 22 = .ok (.iload_n 2, 1) := by decide +kernel
theorem dJx4a65c_grow_92f84_23 : decode cJx4a65c_grow_92f84 23 = .ok (.isub, 1) := by decide +kernel
theorem dJx4a65c_grow_92f84_24 : decode cJx4a65c_grow_92f84 24 = .ok (.iload_n 2, 1) := by decide +kernel
theorem dJx4a65c_grow_92f84_25 : decode cJx4a65c_grow_92f84 25 = .ok (.iconst 1, 1) := by decide +kernel
theorem dJx4a65c_grow_92f84_26 : decode cJx4a65c_grow_92f84 26 = .ok (.ishr, 1) := by decide +kernel
theorem dJx4a65c_grow_92f84_27 : decode cJx4a65c_grow_92f84 27 = .ok (.invokestatic 73, 3) := by decide +kernel
theorem dJx4a65c_grow_92f84_30 : decode cJx4a65c_grow_92f84 30 = .ok (.istore_n 3, 1) := by decide +kernel
theorem dJx4a65c_grow_92f84_31 : decode cJx4a65c_grow_92f84 31 = .ok (.aload_n 0, 1) := by decide +kernel
theorem dJx4a65c_grow_92f84_32 : decode cJx4a65c_grow_92f84 32 = .ok (.aload_n 0, 1) := by decide +kernel
theorem dJx4a65c_grow_92f84_33 : decode cJx4a65c_grow_92f84 33 = .ok (.getfield 9, 3) := by decide +kernel
theorem dJx4a65c_grow_92f84_36 : decode cJx4a65c_grow_92f84 36 = .ok (.iload_n 3, 1) := by decide +kernel
theorem dJx4a65c_grow_92f84_37 : decode cJx4a65c_grow_92f84 37 = .ok (.invokestatic 66, 3) := by decide +kernel
theorem dJx4a65c_grow_92f84_40 : decode cJx4a65c_grow_92f84 40 = .ok (.dup_x1, 1) := by decide +kernel
theorem dJx4a65c_grow_92f84_41 : decode cJx4a65c_grow_92f84 41 = .ok (.putfield 9, 3) := by decide +kernel
theorem dJx4a65c_grow_92f84_44 : decode cJx4a65c_grow_92f84 44 = .ok (.areturn, 1) := by decide +kernel
theorem dJx4a65c_grow_92f84_45 : decode cJx4a65c_grow_92f84 45 = .ok (.aload_n 0, 1) := by decide +kernel
theorem dJx4a65c_grow_92f84_46 : decode cJx4a65c_grow_92f84 46 = .ok (.bipush 10, 2) := by decide +kernel
theorem dJx4a65c_grow_92f84_48 : decode cJx4a65c_grow_92f84 48 = .ok (.iload_n 1, 1) := by decide +kernel
theorem dJx4a65c_grow_92f84_49 : decode cJx4a65c_grow_92f84 49 = .ok (.invokestatic 79, 3) := by decide +kernel
theorem dJx4a65c_grow_92f84_52 : decode cJx4a65c_grow_92f84 52 = .ok (.anewarray 7, 3) := by decide +kernel
theorem dJx4a65c_grow_92f84_55 : decode cJx4a65c_grow_92f84 55 = .ok (.dup_x1, 1) := by decide +kernel
theorem dJx4a65c_grow_92f84_56 : decode cJx4a65c_grow_92f84 56 = .ok (.putfield 9, 3) := by decide +kernel
theorem dJx4a65c_grow_92f84_59 : decode cJx4a65c_grow_92f84 59 = .ok (.areturn, 1) := by decide +kernel
theorem dJx4a65c_grow_d5877_0 : decode cJx4a65c_grow_d5877 0 = .ok (.aload_n 0, 1) := by decide +kernel
theorem dJx4a65c_grow_d5877_1 : decode cJx4a65c_grow_d5877 1 = .ok (.aload_n 0, 1) := by decide +kernel
theorem dJx4a65c_grow_d5877_2 : decode cJx4a65c_grow_d5877 2 = .ok (.getfield 48, 3) := by decide +kernel
theorem dJx4a65c_grow_d5877_5 : decode cJx4a65c_grow_d5877 5 = .ok (.iconst 1, 1) := by decide +kernel
theorem dJx4a65c_grow_d5877_6 : decode cJx4a65c_grow_d5877 6 = .ok (.iadd, 1) := by decide +kernel
theorem dJx4a65c_grow_d5877_7 : decode cJx4a65c_grow_d5877 7 = .ok (.invokevirtual 69, 3) := by decide +kernel
theorem dJx4a65c_grow_d5877_10 : decode cJx4a65c_grow_d5877 10 = .ok (.areturn, 1) := by decide +kernel
theorem dJx4a65c_size_8abf5_0 : decode cJx4a65c_size_8abf5 0 = .ok (.aload_n 0, 1) := by decide +kernel
theorem dJx4a65c_size_8abf5_1 : decode cJx4a65c_size_8abf5 1 = .ok (.getfield 48, 3) := by decide +kernel
theorem dJx4a65c_size_8abf5_4 : decode cJx4a65c_size_8abf5 4 = .ok (.ireturn, 1) := by decide +kernel
theorem dJx4a65c_elementData_915e3_0 : decode cJx4a65c_elementData_915e3 0 = .ok (.aload_n 0, 1) := by decide +kernel
theorem dJx4a65c_elementData_915e3_1 : decode cJx4a65c_elementData_915e3 1 = .ok (.getfield 9, 3) := by decide +kernel
theorem dJx4a65c_elementData_915e3_4 : decode cJx4a65c_elementData_915e3 4 = .ok (.iload_n 1, 1) := by decide +kernel
theorem dJx4a65c_elementData_915e3_5 : decode cJx4a65c_elementData_915e3 5 = .ok (.aaload, 1) := by decide +kernel
theorem dJx4a65c_elementData_915e3_6 : decode cJx4a65c_elementData_915e3 6 = .ok (.areturn, 1) := by decide +kernel
theorem dJx4a65c_get_915e3_0 : decode cJx4a65c_get_915e3 0 = .ok (.iload_n 1, 1) := by decide +kernel
theorem dJx4a65c_get_915e3_1 : decode cJx4a65c_get_915e3 1 = .ok (.aload_n 0, 1) := by decide +kernel
theorem dJx4a65c_get_915e3_2 : decode cJx4a65c_get_915e3 2 = .ok (.getfield 48, 3) := by decide +kernel
theorem dJx4a65c_get_915e3_5 : decode cJx4a65c_get_915e3 5 = .ok (.invokestatic 118, 3) := by decide +kernel
theorem dJx4a65c_get_915e3_8 : decode cJx4a65c_get_915e3 8 = .ok (.pop, 1) := by decide +kernel
theorem dJx4a65c_get_915e3_9 : decode cJx4a65c_get_915e3 9 = .ok (.aload_n 0, 1) := by decide +kernel
theorem dJx4a65c_get_915e3_10 : decode cJx4a65c_get_915e3 10 = .ok (.iload_n 1, 1) := by decide +kernel
theorem dJx4a65c_get_915e3_11 : decode cJx4a65c_get_915e3 11 = .ok (.invokevirtual 123, 3) := by decide +kernel
theorem dJx4a65c_get_915e3_14 : decode cJx4a65c_get_915e3 14 = .ok (.areturn, 1) := by decide +kernel
theorem dJx4a65c_add_72be8_0 : decode cJx4a65c_add_72be8 0 = .ok (.iload_n 3, 1) := by decide +kernel
theorem dJx4a65c_add_72be8_1 : decode cJx4a65c_add_72be8 1 = .ok (.aload_n 2, 1) := by decide +kernel
theorem dJx4a65c_add_72be8_2 : decode cJx4a65c_add_72be8 2 = .ok (.arraylength, 1) := by decide +kernel
theorem dJx4a65c_add_72be8_3 : decode cJx4a65c_add_72be8 3 = .ok (.if_icmp .ne 8, 3) := by decide +kernel
theorem dJx4a65c_add_72be8_6 : decode cJx4a65c_add_72be8 6 = .ok (.aload_n 0, 1) := by decide +kernel
theorem dJx4a65c_add_72be8_7 : decode cJx4a65c_add_72be8 7 = .ok (.invokevirtual 129, 3) := by decide +kernel
theorem dJx4a65c_add_72be8_10 : decode cJx4a65c_add_72be8 10 = .ok (.astore_n 2, 1) := by decide +kernel
theorem dJx4a65c_add_72be8_11 : decode cJx4a65c_add_72be8 11 = .ok (.aload_n 2, 1) := by decide +kernel
theorem dJx4a65c_add_72be8_12 : decode cJx4a65c_add_72be8 12 = .ok (.iload_n 3, 1) := by decide +kernel
theorem dJx4a65c_add_72be8_13 : decode cJx4a65c_add_72be8 13 = .ok (.aload_n 1, 1) := by decide +kernel
theorem dJx4a65c_add_72be8_14 : decode cJx4a65c_add_72be8 14 = .ok (.aastore, 1) := by decide +kernel
theorem dJx4a65c_add_72be8_15 : decode cJx4a65c_add_72be8 15 = .ok (.aload_n 0, 1) := by decide +kernel
theorem dJx4a65c_add_72be8_16 : decode cJx4a65c_add_72be8 16 = .ok (.iload_n 3, 1) := by decide +kernel
theorem dJx4a65c_add_72be8_17 : decode cJx4a65c_add_72be8 17 = .ok (.iconst 1, 1) := by decide +kernel
theorem dJx4a65c_add_72be8_18 : decode cJx4a65c_add_72be8 18 = .ok (.iadd, 1) := by decide +kernel
theorem dJx4a65c_add_72be8_19 : decode cJx4a65c_add_72be8 19 = .ok (.putfield 48, 3) := by decide +kernel
theorem dJx4a65c_add_72be8_22 : decode cJx4a65c_add_72be8 22 = .ok (.return_, 1) := by decide +kernel
theorem dJx4a65c_add_9ea2d_0 : decode cJx4a65c_add_9ea2d 0 = .ok (.aload_n 0, 1) := by decide +kernel
theorem dJx4a65c_add_9ea2d_1 : decode cJx4a65c_add_9ea2d 1 = .ok (.dup, 1) := by decide +kernel
theorem dJx4a65c_add_9ea2d_2 : decode cJx4a65c_add_9ea2d 2 = .ok (.getfield 63, 3) := by decide +kernel
theorem dJx4a65c_add_9ea2d_5 : decode cJx4a65c_add_9ea2d 5 = .ok (.iconst 1, 1) := by decide +kernel
theorem dJx4a65c_add_9ea2d_6 : decode cJx4a65c_add_9ea2d 6 = .ok (.iadd, 1) := by decide +kernel
theorem dJx4a65c_add_9ea2d_7 : decode cJx4a65c_add_9ea2d 7 = .ok (.putfield 63, 3) := by decide +kernel
theorem dJx4a65c_add_9ea2d_10 : decode cJx4a65c_add_9ea2d 10 = .ok (.aload_n 0, 1) := by decide +kernel
theorem dJx4a65c_add_9ea2d_11 : decode cJx4a65c_add_9ea2d 11 = .ok (.aload_n 1, 1) := by decide +kernel
theorem dJx4a65c_add_9ea2d_12 : decode cJx4a65c_add_9ea2d 12 = .ok (.aload_n 0, 1) := by decide +kernel
theorem dJx4a65c_add_9ea2d_13 : decode cJx4a65c_add_9ea2d 13 = .ok (.getfield 9, 3) := by decide +kernel
theorem dJx4a65c_add_9ea2d_16 : decode cJx4a65c_add_9ea2d 16 = .ok (.aload_n 0, 1) := by decide +kernel
theorem dJx4a65c_add_9ea2d_17 : decode cJx4a65c_add_9ea2d 17 = .ok (.getfield 48, 3) := by decide +kernel
theorem dJx4a65c_add_9ea2d_20 : decode cJx4a65c_add_9ea2d 20 = .ok (.invokevirtual 131, 3) := by decide +kernel
theorem dJx4a65c_add_9ea2d_23 : decode cJx4a65c_add_9ea2d 23 = .ok (.iconst 1, 1) := by decide +kernel
theorem dJx4a65c_add_9ea2d_24 : decode cJx4a65c_add_9ea2d 24 = .ok (.ireturn, 1) := by decide +kernel
theorem dJx4a65c_clear_da8c8_0 : decode cJx4a65c_clear_da8c8 0 = .ok (.aload_n 0, 1) := by decide +kernel
theorem dJx4a65c_clear_da8c8_1 : decode cJx4a65c_clear_da8c8 1 = .ok (.dup, 1) := by decide +kernel
theorem dJx4a65c_clear_da8c8_2 : decode cJx4a65c_clear_da8c8 2 = .ok (.getfield 63, 3) := by decide +kernel
theorem dJx4a65c_clear_da8c8_5 : decode cJx4a65c_clear_da8c8 5 = .ok (.iconst 1, 1) := by decide +kernel
theorem dJx4a65c_clear_da8c8_6 : decode cJx4a65c_clear_da8c8 6 = .ok (.iadd, 1) := by decide +kernel
theorem dJx4a65c_clear_da8c8_7 : decode cJx4a65c_clear_da8c8 7 = .ok (.putfield 63, 3) := by decide +kernel
theorem dJx4a65c_clear_da8c8_10 : decode cJx4a65c_clear_da8c8 10 = .ok (.aload_n 0, 1) := by decide +kernel
theorem dJx4a65c_clear_da8c8_11 : decode cJx4a65c_clear_da8c8 11 = .ok (.getfield 9, 3) := by decide +kernel
theorem dJx4a65c_clear_da8c8_14 : decode cJx4a65c_clear_da8c8 14 = .ok (.astore_n 1, 1) := by decide +kernel
theorem dJx4a65c_clear_da8c8_15 : decode cJx4a65c_clear_da8c8 15 = .ok (.aload_n 0, 1) := by decide +kernel
theorem dJx4a65c_clear_da8c8_16 : decode cJx4a65c_clear_da8c8 16 = .ok (.getfield 48, 3) := by decide +kernel
theorem dJx4a65c_clear_da8c8_19 : decode cJx4a65c_clear_da8c8 19 = .ok (.istore_n 2, 1) := by decide +kernel
theorem dJx4a65c_clear_da8c8_20 : decode cJx4a65c_clear_da8c8 20 = .ok (.aload_n 0, 1) := by decide +kernel
theorem dJx4a65c_clear_da8c8_21 : decode cJx4a65c_clear_da8c8 21 = .ok (.iconst 0, 1) := by decide +kernel
theorem dJx4a65c_clear_da8c8_22 : decode cJx4a65c_clear_da8c8 22 = .ok (.dup_x1, 1) := by decide +kernel
theorem dJx4a65c_clear_da8c8_23 : decode cJx4a65c_clear_da8c8 23 = .ok (.putfield 48, 3) := by decide +kernel
theorem dJx4a65c_clear_da8c8_26 : decode cJx4a65c_clear_da8c8 26 = .ok (.istore_n 3, 1) := by decide +kernel
theorem dJx4a65c_clear_da8c8_27 : decode cJx4a65c_clear_da8c8 27 = .ok (.iload_n 3, 1) := by decide +kernel
theorem dJx4a65c_clear_da8c8_28 : decode cJx4a65c_clear_da8c8 28 = .ok (.iload_n 2, 1) := by decide +kernel
theorem dJx4a65c_clear_da8c8_29 : decode cJx4a65c_clear_da8c8 29 = .ok (.if_icmp .ge 13, 3) := by decide +kernel
theorem dJx4a65c_clear_da8c8_32 : decode cJx4a65c_clear_da8c8 32 = .ok (.aload_n 1, 1) := by decide +kernel
theorem dJx4a65c_clear_da8c8_33 : decode cJx4a65c_clear_da8c8 33 = .ok (.iload_n 3, 1) := by decide +kernel
theorem dJx4a65c_clear_da8c8_34 : decode cJx4a65c_clear_da8c8 34 = .ok (.aconst_null, 1) := by decide +kernel
theorem dJx4a65c_clear_da8c8_35 : decode cJx4a65c_clear_da8c8 35 = .ok (.aastore, 1) := by decide +kernel
theorem dJx4a65c_clear_da8c8_36 : decode cJx4a65c_clear_da8c8 36 = .ok (.iinc 3 1, 3) := by decide +kernel
theorem dJx4a65c_clear_da8c8_39 : decode cJx4a65c_clear_da8c8 39 = .ok (.goto (-12), 3) := by decide +kernel
theorem dJx4a65c_clear_da8c8_42 : decode cJx4a65c_clear_da8c8 42 = .ok (.return_, 1) := by decide +kernel
theorem dJ7_copyOf_1904c_0 : decode cJ7_copyOf_1904c 0 = .ok (.aload_n 0, 1) := by decide +kernel
theorem dJ7_copyOf_1904c_1 : decode cJ7_copyOf_1904c 1 = .ok (.iload_n 1, 1) := by decide +kernel
theorem dJ7_copyOf_1904c_2 : decode cJ7_copyOf_1904c 2 = .ok (.aload_n 0, 1) := by decide +kernel
theorem dJ7_copyOf_1904c_3 : decode cJ7_copyOf_1904c 3 = .ok (.invokevirtual 86, 3) := by decide +kernel
theorem dJ7_copyOf_1904c_6 : decode cJ7_copyOf_1904c 6 = .ok (.invokestatic 300, 3) := by decide +kernel
theorem dJ7_copyOf_1904c_9 : decode cJ7_copyOf_1904c 9 = .ok (.areturn, 1) := by decide +kernel
theorem dJ7_copyOf_6403c_0 : decode cJ7_copyOf_6403c 0 = .ok (.aload_n 2, 1) := by decide +kernel
theorem dJ7_copyOf_6403c_1 : decode cJ7_copyOf_6403c 1 = .ok (.ldc 110, 2) := by decide +kernel
theorem dJ7_copyOf_6403c_3 : decode cJ7_copyOf_6403c 3 = .ok (.if_acmp .ne 10, 3) := by decide +kernel
theorem dJ7_copyOf_6403c_6 : decode cJ7_copyOf_6403c 6 = .ok (.iload_n 1, 1) := by decide +kernel
theorem dJ7_copyOf_6403c_7 : decode cJ7_copyOf_6403c 7 = .ok (.anewarray 2, 3) := by decide +kernel
theorem dJ7_copyOf_6403c_10 : decode cJ7_copyOf_6403c 10 = .ok (.goto 14, 3) := by decide +kernel
theorem dJ7_copyOf_6403c_13 : decode cJ7_copyOf_6403c 13 = .ok (.aload_n 2, 1) := by decide +kernel
theorem dJ7_copyOf_6403c_14 : decode cJ7_copyOf_6403c 14 = .ok (.invokevirtual 90, 3) := by decide +kernel
theorem dJ7_copyOf_6403c_17 : decode cJ7_copyOf_6403c 17 = .ok (.iload_n 1, 1) := by decide +kernel
theorem dJ7_copyOf_6403c_18 : decode cJ7_copyOf_6403c 18 = .ok (.invokestatic 95, 3) := by decide +kernel
theorem dJ7_copyOf_6403c_21 : decode cJ7_copyOf_6403c 21 = .ok (.checkcast 110, 3) := by decide +kernel
theorem dJ7_copyOf_6403c_24 : decode cJ7_copyOf_6403c 24 = .ok (.astore_n 3, 1) := by decide +kernel
theorem dJ7_copyOf_6403c_25 : decode cJ7_copyOf_6403c 25 = .ok (.aload_n 0, 1) := by decide +kernel
theorem dJ7_copyOf_6403c_26 : decode cJ7_copyOf_6403c 26 = .ok (.iconst 0, 1) := by decide +kernel
theorem dJ7_copyOf_6403c_27 : decode cJ7_copyOf_6403c 27 = .ok (.aload_n 3, 1) := by decide +kernel
theorem dJ7_copyOf_6403c_28 : decode cJ7_copyOf_6403c 28 = .ok (.iconst 0, 1) := by decide +kernel
theorem dJ7_copyOf_6403c_29 : decode cJ7_copyOf_6403c 29 = .ok (.aload_n 0, 1) := by decide +kernel
theorem dJ7_copyOf_6403c_30 : decode cJ7_copyOf_6403c 30 = .ok (.arraylength, 1) := by decide +kernel
theorem dJ7_copyOf_6403c_31 : decode cJ7_copyOf_6403c 31 = .ok (.iload_n 1, 1) := by decide +kernel
theorem dJ7_copyOf_6403c_32 : decode cJ7_copyOf_6403c 32 = .ok (.invokestatic 304, 3) := by decide +kernel
theorem dJ7_copyOf_6403c_35 : decode cJ7_copyOf_6403c 35 = .ok (.invokestatic 150, 3) := by decide +kernel
theorem dJ7_copyOf_6403c_38 : decode cJ7_copyOf_6403c 38 = .ok (.aload_n 3, 1) := by decide +kernel
theorem dJ7_copyOf_6403c_39 : decode cJ7_copyOf_6403c 39 = .ok (.areturn, 1) := by decide +kernel
theorem dJ15_checkIndex_7cf53_0 : decode cJ15_checkIndex_7cf53 0 = .ok (.iload_n 0, 1) := by decide +kernel
theorem dJ15_checkIndex_7cf53_1 : decode cJ15_checkIndex_7cf53 1 = .ok (.iload_n 1, 1) := by decide +kernel
theorem dJ15_checkIndex_7cf53_2 : decode cJ15_checkIndex_7cf53 2 = .ok (.aconst_null, 1) := by decide +kernel
theorem dJ15_checkIndex_7cf53_3 : decode cJ15_checkIndex_7cf53 3 = .ok (.invokestatic 105, 3) := by decide +kernel
theorem dJ15_checkIndex_7cf53_6 : decode cJ15_checkIndex_7cf53 6 = .ok (.ireturn, 1) := by decide +kernel
theorem dJ8_newLength_cabcc_0 : decode cJ8_newLength_cabcc 0 = .ok (.iload_n 0, 1) := by decide +kernel
theorem dJ8_newLength_cabcc_1 : decode cJ8_newLength_cabcc 1 = .ok (.iload_n 1, 1) := by decide +kernel
theorem dJ8_newLength_cabcc_2 : decode cJ8_newLength_cabcc 2 = .ok (.iload_n 2, 1) := by decide +kernel
theorem dJ8_newLength_cabcc_3 : decode cJ8_newLength_cabcc 3 = .ok (.invokestatic 194, 3) := by decide +kernel
theorem dJ8_newLength_cabcc_6 : decode cJ8_newLength_cabcc 6 = .ok (.iadd, 1) := by decide +kernel
theorem dJ8_newLength_cabcc_7 : decode cJ8_newLength_cabcc 7 = .ok (.istore_n 3, 1) := by decide +kernel
theorem dJ8_newLength_cabcc_8 : decode cJ8_newLength_cabcc 8 = .ok (.iconst 0, 1) := by decide +kernel
theorem dJ8_newLength_cabcc_9 : decode cJ8_newLength_cabcc 9 = .ok (.iload_n 3, 1) := by decide +kernel
theorem dJ8_newLength_cabcc_10 : decode cJ8_newLength_cabcc 10 = .ok (.if_icmp .ge 11, 3) := by decide +kernel
theorem dJ8_newLength_cabcc_13 : decode cJ8_newLength_cabcc 13 = .ok (.iload_n 3, 1) := by decide +kernel
theorem dJ8_newLength_cabcc_14 : decode cJ8_newLength_cabcc 14 = .ok (.ldc 200, 2) := by decide +kernel
theorem dJ8_newLength_cabcc_16 : decode cJ8_newLength_cabcc 16 = .ok (.if_icmp .gt 5, 3) := by decide +kernel
theorem dJ8_newLength_cabcc_19 : decode cJ8_newLength_cabcc 19 = .ok (.iload_n 3, 1) := by decide +kernel
theorem dJ8_newLength_cabcc_20 : decode cJ8_newLength_cabcc 20 = .ok (.ireturn, 1) := by decide +kernel
theorem dJ8_newLength_cabcc_21 : decode cJ8_newLength_cabcc 21 = .ok (.iload_n 0, 1) := by decide +kernel
theorem dJ8_newLength_cabcc_22 : decode cJ8_newLength_cabcc 22 = .ok (.iload_n 1, 1) := by decide +kernel
theorem dJ8_newLength_cabcc_23 : decode cJ8_newLength_cabcc 23 = .ok (.invokestatic 201, 3) := by decide +kernel
theorem dJ8_newLength_cabcc_26 : decode cJ8_newLength_cabcc 26 = .ok (.ireturn, 1) := by decide +kernel
theorem dJ8_hugeLength_7cf53_0 : decode cJ8_hugeLength_7cf53 0 = .ok (.iload_n 0, 1) := by decide +kernel
theorem dJ8_hugeLength_7cf53_1 : decode cJ8_hugeLength_7cf53 1 = .ok (.iload_n 1, 1) := by decide +kernel
theorem dJ8_hugeLength_7cf53_2 : decode cJ8_hugeLength_7cf53 2 = .ok (.iadd, 1) := by decide +kernel
theorem dJ8_hugeLength_7cf53_3 : decode cJ8_hugeLength_7cf53 3 = .ok (.istore_n 2, 1) := by decide +kernel
theorem dJ8_hugeLength_7cf53_4 : decode cJ8_hugeLength_7cf53 4 = .ok (.iload_n 2, 1) := by decide +kernel
theorem dJ8_hugeLength_7cf53_5 : decode cJ8_hugeLength_7cf53 5 = .ok (.ifCond .ge 44, 3) := by decide +kernel
theorem dJ8_hugeLength_7cf53_8 : decode cJ8_hugeLength_7cf53 8 = .ok (.new 204, 3) := by decide +kernel
theorem dJ8_hugeLength_7cf53_11 : decode cJ8_hugeLength_7cf53 11 = .ok (.dup, 1) := by decide +kernel
theorem dJ8_hugeLength_7cf53_12 : decode cJ8_hugeLength_7cf53 12 = .ok (.new 89, 3) := by decide +kernel
theorem dJ8_hugeLength_7cf53_15 : decode cJ8_hugeLength_7cf53 15 = .ok (.dup, 1) := by decide +kernel
theorem dJ8_hugeLength_7cf53_16 : decode cJ8_hugeLength_7cf53 16 = .ok (.invokespecial 91, 3) := by decide +kernel
theorem dJ8_hugeLength_7cf53_19 : decode cJ8_hugeLength_7cf53 19 = .ok (.ldc 206, 2) := by decide +kernel
theorem dJ8_hugeLength_7cf53_21 : decode cJ8_hugeLength_7cf53 21 = .ok (.invokevirtual 94, 3) := by decide +kernel
theorem dJ8_hugeLength_7cf53_24 : decode cJ8_hugeLength_7cf53 24 = .ok (.iload_n 0, 1) := by decide +kernel
theorem dJ8_hugeLength_7cf53_25 : decode cJ8_hugeLength_7cf53 25 = .ok (.invokevirtual 98, 3) := by decide +kernel
theorem dJ8_hugeLength_7cf53_28 : decode cJ8_hugeLength_7cf53 28 = .ok (.ldc 208, 2) := by decide +kernel
theorem dJ8_hugeLength_7cf53_30 : decode cJ8_hugeLength_7cf53 30 = .ok (.invokevirtual 94, 3) := by decide +kernel
theorem dJ8_hugeLength_7cf53_33 : decode cJ8_hugeLength_7cf53 33 = .ok (.iload_n 1, 1) := by decide +kernel
theorem dJ8_hugeLength_7cf53_34 : decode cJ8_hugeLength_7cf53 34 = .ok (.invokevirtual 98, 3) := by decide +kernel
theorem dJ8_hugeLength_7cf53_37 : decode cJ8_hugeLength_7cf53 37 = .ok (.ldc 210, 2) := by decide +kernel
theorem dJ8_hugeLength_7cf53_39 : decode cJ8_hugeLength_7cf53 39 = .ok (.invokevirtual 94, 3) := by decide +kernel
theorem dJ8_hugeLength_7cf53_42 : decode cJ8_hugeLength_7cf53 42 = .ok (.invokevirtual 101, 3) := by decide +kernel
theorem dJ8_hugeLength_7cf53_45 : decode cJ8_hugeLength_7cf53 45 = .ok (.invokespecial 212, 3) := by decide +kernel
theorem dJ8_hugeLength_7cf53_48 : decode cJ8_hugeLength_7cf53 48 = .ok (.athrow, 1) := by decide +kernel
theorem dJ8_hugeLength_7cf53_49 : decode cJ8_hugeLength_7cf53 49 = .ok (.iload_n 2, 1) := by decide +kernel
theorem dJ8_hugeLength_7cf53_50 : decode cJ8_hugeLength_7cf53 50 = .ok (.ldc 200, 2) := by decide +kernel
theorem dJ8_hugeLength_7cf53_52 : decode cJ8_hugeLength_7cf53 52 = .ok (.if_icmp .gt 6, 3) := by decide +kernel
theorem dJ8_hugeLength_7cf53_55 : decode cJ8_hugeLength_7cf53 55 = .ok (.ldc 200, 2) := by decide +kernel
theorem dJ8_hugeLength_7cf53_57 : decode cJ8_hugeLength_7cf53 57 = .ok (.ireturn, 1) := by decide +kernel
theorem dJ8_hugeLength_7cf53_58 : decode cJ8_hugeLength_7cf53 58 = .ok (.iload_n 2, 1) := by decide +kernel
theorem dJ8_hugeLength_7cf53_59 : decode cJ8_hugeLength_7cf53 59 = .ok (.ireturn, 1) := by decide +kernel
theorem dJ3_checkIndex_8e157_0 : decode cJ3_checkIndex_8e157 0 = .ok (.iload_n 0, 1) := by decide +kernel
theorem dJ3_checkIndex_8e157_1 : decode cJ3_checkIndex_8e157 1 = .ok (.ifCond .lt 8, 3) := by decide +kernel
theorem dJ3_checkIndex_8e157_4 : decode cJ3_checkIndex_8e157 4 = .ok (.iload_n 0, 1) := by decide +kernel
theorem dJ3_checkIndex_8e157_5 : decode cJ3_checkIndex_8e157 5 = .ok (.iload_n 1, 1) := by decide +kernel
theorem dJ3_checkIndex_8e157_6 : decode cJ3_checkIndex_8e157 6 = .ok (.if_icmp .lt 10, 3) := by decide +kernel
theorem dJ3_checkIndex_8e157_9 : decode cJ3_checkIndex_8e157 9 = .ok (.aload_n 2, 1) := by decide +kernel
theorem dJ3_checkIndex_8e157_10 : decode cJ3_checkIndex_8e157 10 = .ok (.iload_n 0, 1) := by decide +kernel
theorem dJ3_checkIndex_8e157_11 : decode cJ3_checkIndex_8e157 11 = .ok (.iload_n 1, 1) := by decide +kernel
theorem dJ3_checkIndex_8e157_12 : decode cJ3_checkIndex_8e157 12 = .ok (.invokestatic 95, 3) := by decide +kernel
theorem dJ3_checkIndex_8e157_15 : decode cJ3_checkIndex_8e157 15 = .ok (.athrow, 1) := by decide +kernel
theorem dJ3_checkIndex_8e157_16 : decode cJ3_checkIndex_8e157 16 = .ok (.iload_n 0, 1) := by decide +kernel
theorem dJ3_checkIndex_8e157_17 : decode cJ3_checkIndex_8e157 17 = .ok (.ireturn, 1) := by decide +kernel
theorem dL_file_0 : decode cL_file 0 = .ok (.aload_n 1, 1) := by decide +kernel
theorem dL_file_1 : decode cL_file 1 = .ok (.iconst 0, 1) := by decide +kernel
theorem dL_file_2 : decode cL_file 2 = .ok (.aload_n 0, 1) := by decide +kernel
theorem dL_file_3 : decode cL_file 3 = .ok (.invokevirtual 7, 3) := by decide +kernel
theorem dL_file_6 : decode cL_file 6 = .ok (.i2l, 1) := by decide +kernel
theorem dL_file_7 : decode cL_file 7 = .ok (.lastore, 1) := by decide +kernel
theorem dL_file_8 : decode cL_file 8 = .ok (.goto 6, 3) := by decide +kernel
theorem dL_file_11 : decode cL_file 11 = .ok (.astore_n 2, 1) := by decide +kernel
theorem dL_file_12 : decode cL_file 12 = .ok (.iconst 1, 1) := by decide +kernel
theorem dL_file_13 : decode cL_file 13 = .ok (.ireturn, 1) := by decide +kernel
theorem dL_file_14 : decode cL_file 14 = .ok (.iconst 0, 1) := by decide +kernel
theorem dL_file_15 : decode cL_file 15 = .ok (.ireturn, 1) := by decide +kernel
theorem dL_add_0 : decode cL_add 0 = .ok (.aload 5, 2) := by decide +kernel
theorem dL_add_2 : decode cL_add 2 = .ok (.iconst 0, 1) := by decide +kernel
theorem dL_add_3 : decode cL_add 3 = .ok (.aload_n 0, 1) := by decide +kernel
theorem dL_add_4 : decode cL_add 4 = .ok (.iload_n 1, 1) := by decide +kernel
theorem dL_add_5 : decode cL_add 5 = .ok (.iload_n 2, 1) := by decide +kernel
theorem dL_add_6 : decode cL_add 6 = .ok (.iload_n 3, 1) := by decide +kernel
theorem dL_add_7 : decode cL_add 7 = .ok (.iload 4, 2) := by decide +kernel
theorem dL_add_9 : decode cL_add 9 = .ok (.invokevirtual 15, 3) := by decide +kernel
theorem dL_add_12 : decode cL_add 12 = .ok (.i2l, 1) := by decide +kernel
theorem dL_add_13 : decode cL_add 13 = .ok (.lastore, 1) := by decide +kernel
theorem dL_add_14 : decode cL_add 14 = .ok (.goto 15, 3) := by decide +kernel
theorem dL_add_17 : decode cL_add 17 = .ok (.astore 6, 2) := by decide +kernel
theorem dL_add_19 : decode cL_add 19 = .ok (.iconst 1, 1) := by decide +kernel
theorem dL_add_20 : decode cL_add 20 = .ok (.ireturn, 1) := by decide +kernel
theorem dL_add_21 : decode cL_add 21 = .ok (.astore 6, 2) := by decide +kernel
theorem dL_add_23 : decode cL_add 23 = .ok (.iconst 2, 1) := by decide +kernel
theorem dL_add_24 : decode cL_add 24 = .ok (.ireturn, 1) := by decide +kernel
theorem dL_add_25 : decode cL_add 25 = .ok (.astore 6, 2) := by decide +kernel
theorem dL_add_27 : decode cL_add 27 = .ok (.iconst 3, 1) := by decide +kernel
theorem dL_add_28 : decode cL_add 28 = .ok (.ireturn, 1) := by decide +kernel
theorem dL_add_29 : decode cL_add 29 = .ok (.iconst 0, 1) := by decide +kernel
theorem dL_add_30 : decode cL_add 30 = .ok (.ireturn, 1) := by decide +kernel
theorem dL_insert_0 : decode cL_insert 0 = .ok (.aload 4, 2) := by decide +kernel
theorem dL_insert_2 : decode cL_insert 2 = .ok (.iconst 0, 1) := by decide +kernel
theorem dL_insert_3 : decode cL_insert 3 = .ok (.aload_n 0, 1) := by decide +kernel
theorem dL_insert_4 : decode cL_insert 4 = .ok (.iload_n 1, 1) := by decide +kernel
theorem dL_insert_5 : decode cL_insert 5 = .ok (.iload_n 2, 1) := by decide +kernel
theorem dL_insert_6 : decode cL_insert 6 = .ok (.iload_n 3, 1) := by decide +kernel
theorem dL_insert_7 : decode cL_insert 7 = .ok (.invokevirtual 23, 3) := by decide +kernel
theorem dL_insert_10 : decode cL_insert 10 = .ok (.i2l, 1) := by decide +kernel
theorem dL_insert_11 : decode cL_insert 11 = .ok (.lastore, 1) := by decide +kernel
theorem dL_insert_12 : decode cL_insert 12 = .ok (.goto 15, 3) := by decide +kernel
theorem dL_insert_15 : decode cL_insert 15 = .ok (.astore 5, 2) := by decide +kernel
theorem dL_insert_17 : decode cL_insert 17 = .ok (.iconst 1, 1) := by decide +kernel
theorem dL_insert_18 : decode cL_insert 18 = .ok (.ireturn, 1) := by decide +kernel
theorem dL_insert_19 : decode cL_insert 19 = .ok (.astore 5, 2) := by decide +kernel
theorem dL_insert_21 : decode cL_insert 21 = .ok (.iconst 2, 1) := by decide +kernel
theorem dL_insert_22 : decode cL_insert 22 = .ok (.ireturn, 1) := by decide +kernel
theorem dL_insert_23 : decode cL_insert 23 = .ok (.astore 5, 2) := by decide +kernel
theorem dL_insert_25 : decode cL_insert 25 = .ok (.iconst 3, 1) := by decide +kernel
theorem dL_insert_26 : decode cL_insert 26 = .ok (.ireturn, 1) := by decide +kernel
theorem dL_insert_27 : decode cL_insert 27 = .ok (.iconst 0, 1) := by decide +kernel
theorem dL_insert_28 : decode cL_insert 28 = .ok (.ireturn, 1) := by decide +kernel
theorem dL_remove_0 : decode cL_remove 0 = .ok (.aload 4, 2) := by decide +kernel
theorem dL_remove_2 : decode cL_remove 2 = .ok (.iconst 0, 1) := by decide +kernel
theorem dL_remove_3 : decode cL_remove 3 = .ok (.aload_n 0, 1) := by decide +kernel
theorem dL_remove_4 : decode cL_remove 4 = .ok (.iload_n 1, 1) := by decide +kernel
theorem dL_remove_5 : decode cL_remove 5 = .ok (.iload_n 2, 1) := by decide +kernel
theorem dL_remove_6 : decode cL_remove 6 = .ok (.iload_n 3, 1) := by decide +kernel
theorem dL_remove_7 : decode cL_remove 7 = .ok (.invokevirtual 27, 3) := by decide +kernel
theorem dL_remove_10 : decode cL_remove 10 = .ok (.i2l, 1) := by decide +kernel
theorem dL_remove_11 : decode cL_remove 11 = .ok (.lastore, 1) := by decide +kernel
theorem dL_remove_12 : decode cL_remove 12 = .ok (.goto 11, 3) := by decide +kernel
theorem dL_remove_15 : decode cL_remove 15 = .ok (.astore 5, 2) := by decide +kernel
theorem dL_remove_17 : decode cL_remove 17 = .ok (.iconst 1, 1) := by decide +kernel
theorem dL_remove_18 : decode cL_remove 18 = .ok (.ireturn, 1) := by decide +kernel
theorem dL_remove_19 : decode cL_remove 19 = .ok (.astore 5, 2) := by decide +kernel
theorem dL_remove_21 : decode cL_remove 21 = .ok (.iconst 2, 1) := by decide +kernel
theorem dL_remove_22 : decode cL_remove 22 = .ok (.ireturn, 1) := by decide +kernel
theorem dL_remove_23 : decode cL_remove 23 = .ok (.iconst 0, 1) := by decide +kernel
theorem dL_remove_24 : decode cL_remove 24 = .ok (.ireturn, 1) := by decide +kernel
theorem dL_copy_0 : decode cL_copy 0 = .ok (.aload_n 0, 1) := by decide +kernel
theorem dL_copy_1 : decode cL_copy 1 = .ok (.iload_n 1, 1) := by decide +kernel
theorem dL_copy_2 : decode cL_copy 2 = .ok (.iload_n 2, 1) := by decide +kernel
theorem dL_copy_3 : decode cL_copy 3 = .ok (.invokevirtual 30, 3) := by decide +kernel
theorem dL_copy_6 : decode cL_copy 6 = .ok (.goto 6, 3) := by decide +kernel
theorem dL_copy_9 : decode cL_copy 9 = .ok (.astore_n 3, 1) := by decide +kernel
theorem dL_copy_10 : decode cL_copy 10 = .ok (.iconst 1, 1) := by decide +kernel
theorem dL_copy_11 : decode cL_copy 11 = .ok (.ireturn, 1) := by decide +kernel
theorem dL_copy_12 : decode cL_copy 12 = .ok (.iconst 0, 1) := by decide +kernel
theorem dL_copy_13 : decode cL_copy 13 = .ok (.ireturn, 1) := by decide +kernel
theorem dL_length_0 : decode cL_length 0 = .ok (.aload_n 2, 1) := by decide +kernel
theorem dL_length_1 : decode cL_length 1 = .ok (.iconst 0, 1) := by decide +kernel
theorem dL_length_2 : decode cL_length 2 = .ok (.aload_n 0, 1) := by decide +kernel
theorem dL_length_3 : decode cL_length 3 = .ok (.iload_n 1, 1) := by decide +kernel
theorem dL_length_4 : decode cL_length 4 = .ok (.invokevirtual 34, 3) := by decide +kernel
theorem dL_length_7 : decode cL_length 7 = .ok (.i2l, 1) := by decide +kernel
theorem dL_length_8 : decode cL_length 8 = .ok (.lastore, 1) := by decide +kernel
theorem dL_length_9 : decode cL_length 9 = .ok (.goto 6, 3) := by decide +kernel
theorem dL_length_12 : decode cL_length 12 = .ok (.astore_n 3, 1) := by decide +kernel
theorem dL_length_13 : decode cL_length 13 = .ok (.iconst 1, 1) := by decide +kernel
theorem dL_length_14 : decode cL_length 14 = .ok (.ireturn, 1) := by decide +kernel
theorem dL_length_15 : decode cL_length 15 = .ok (.iconst 0, 1) := by decide +kernel
theorem dL_length_16 : decode cL_length 16 = .ok (.ireturn, 1) := by decide +kernel
theorem dL_byteAt_0 : decode cL_byteAt 0 = .ok (.aload_n 3, 1) := by decide +kernel
theorem dL_byteAt_1 : decode cL_byteAt 1 = .ok (.iconst 0, 1) := by decide +kernel
theorem dL_byteAt_2 : decode cL_byteAt 2 = .ok (.aload_n 0, 1) := by decide +kernel
theorem dL_byteAt_3 : decode cL_byteAt 3 = .ok (.iload_n 1, 1) := by decide +kernel
theorem dL_byteAt_4 : decode cL_byteAt 4 = .ok (.iload_n 2, 1) := by decide +kernel
theorem dL_byteAt_5 : decode cL_byteAt 5 = .ok (.invokevirtual 38, 3) := by decide +kernel
theorem dL_byteAt_8 : decode cL_byteAt 8 = .ok (.i2l, 1) := by decide +kernel
theorem dL_byteAt_9 : decode cL_byteAt 9 = .ok (.lastore, 1) := by decide +kernel
theorem dL_byteAt_10 : decode cL_byteAt 10 = .ok (.goto 7, 3) := by decide +kernel
theorem dL_byteAt_13 : decode cL_byteAt 13 = .ok (.astore 4, 2) := by decide +kernel
theorem dL_byteAt_15 : decode cL_byteAt 15 = .ok (.iconst 1, 1) := by decide +kernel
theorem dL_byteAt_16 : decode cL_byteAt 16 = .ok (.ireturn, 1) := by decide +kernel
theorem dL_byteAt_17 : decode cL_byteAt 17 = .ok (.iconst 0, 1) := by decide +kernel
theorem dL_byteAt_18 : decode cL_byteAt 18 = .ok (.ireturn, 1) := by decide +kernel
theorem dL_same_0 : decode cL_same 0 = .ok (.aload_n 3, 1) := by decide +kernel
theorem dL_same_1 : decode cL_same 1 = .ok (.iconst 0, 1) := by decide +kernel
theorem dL_same_2 : decode cL_same 2 = .ok (.aload_n 0, 1) := by decide +kernel
theorem dL_same_3 : decode cL_same 3 = .ok (.iload_n 1, 1) := by decide +kernel
theorem dL_same_4 : decode cL_same 4 = .ok (.iload_n 2, 1) := by decide +kernel
theorem dL_same_5 : decode cL_same 5 = .ok (.invokevirtual 42, 3) := by decide +kernel
theorem dL_same_8 : decode cL_same 8 = .ok (.ifCond .eq 7, 3) := by decide +kernel
theorem dL_same_11 : decode cL_same 11 = .ok (.lconst 1, 1) := by decide +kernel
theorem dL_same_12 : decode cL_same 12 = .ok (.goto 4, 3) := by decide +kernel
theorem dL_same_15 : decode cL_same 15 = .ok (.lconst 0, 1) := by decide +kernel
theorem dL_same_16 : decode cL_same 16 = .ok (.lastore, 1) := by decide +kernel
theorem dL_same_17 : decode cL_same 17 = .ok (.goto 7, 3) := by decide +kernel
theorem dL_same_20 : decode cL_same 20 = .ok (.astore 4, 2) := by decide +kernel
theorem dL_same_22 : decode cL_same 22 = .ok (.iconst 1, 1) := by decide +kernel
theorem dL_same_23 : decode cL_same 23 = .ok (.ireturn, 1) := by decide +kernel
theorem dL_same_24 : decode cL_same 24 = .ok (.iconst 0, 1) := by decide +kernel
theorem dL_same_25 : decode cL_same 25 = .ok (.ireturn, 1) := by decide +kernel
theorem dL_sign_0 : decode cL_sign 0 = .ok (.aload 5, 2) := by decide +kernel
theorem dL_sign_2 : decode cL_sign 2 = .ok (.iconst 0, 1) := by decide +kernel
theorem dL_sign_3 : decode cL_sign 3 = .ok (.aload_n 0, 1) := by decide +kernel
theorem dL_sign_4 : decode cL_sign 4 = .ok (.iload_n 1, 1) := by decide +kernel
theorem dL_sign_5 : decode cL_sign 5 = .ok (.iload_n 2, 1) := by decide +kernel
theorem dL_sign_6 : decode cL_sign 6 = .ok (.iload_n 3, 1) := by decide +kernel
theorem dL_sign_7 : decode cL_sign 7 = .ok (.iload 4, 2) := by decide +kernel
theorem dL_sign_9 : decode cL_sign 9 = .ok (.invokevirtual 46, 3) := by decide +kernel
theorem dL_sign_12 : decode cL_sign 12 = .ok (.i2l, 1) := by decide +kernel
theorem dL_sign_13 : decode cL_sign 13 = .ok (.lastore, 1) := by decide +kernel
theorem dL_sign_14 : decode cL_sign 14 = .ok (.goto 11, 3) := by decide +kernel
theorem dL_sign_17 : decode cL_sign 17 = .ok (.astore 6, 2) := by decide +kernel
theorem dL_sign_19 : decode cL_sign 19 = .ok (.iconst 1, 1) := by decide +kernel
theorem dL_sign_20 : decode cL_sign 20 = .ok (.ireturn, 1) := by decide +kernel
theorem dL_sign_21 : decode cL_sign 21 = .ok (.astore 6, 2) := by decide +kernel
theorem dL_sign_23 : decode cL_sign 23 = .ok (.iconst 2, 1) := by decide +kernel
theorem dL_sign_24 : decode cL_sign 24 = .ok (.ireturn, 1) := by decide +kernel
theorem dL_sign_25 : decode cL_sign 25 = .ok (.iconst 0, 1) := by decide +kernel
theorem dL_sign_26 : decode cL_sign 26 = .ok (.ireturn, 1) := by decide +kernel
theorem dL_blocks_0 : decode cL_blocks 0 = .ok (.aload_n 2, 1) := by decide +kernel
theorem dL_blocks_1 : decode cL_blocks 1 = .ok (.iconst 0, 1) := by decide +kernel
theorem dL_blocks_2 : decode cL_blocks 2 = .ok (.aload_n 0, 1) := by decide +kernel
theorem dL_blocks_3 : decode cL_blocks 3 = .ok (.iload_n 1, 1) := by decide +kernel
theorem dL_blocks_4 : decode cL_blocks 4 = .ok (.invokevirtual 49, 3) := by decide +kernel
theorem dL_blocks_7 : decode cL_blocks 7 = .ok (.i2l, 1) := by decide +kernel
theorem dL_blocks_8 : decode cL_blocks 8 = .ok (.lastore, 1) := by decide +kernel
theorem dL_blocks_9 : decode cL_blocks 9 = .ok (.goto 6, 3) := by decide +kernel
theorem dL_blocks_12 : decode cL_blocks 12 = .ok (.astore_n 3, 1) := by decide +kernel
theorem dL_blocks_13 : decode cL_blocks 13 = .ok (.iconst 1, 1) := by decide +kernel
theorem dL_blocks_14 : decode cL_blocks 14 = .ok (.ireturn, 1) := by decide +kernel
theorem dL_blocks_15 : decode cL_blocks 15 = .ok (.iconst 0, 1) := by decide +kernel
theorem dL_blocks_16 : decode cL_blocks 16 = .ok (.ireturn, 1) := by decide +kernel
theorem dL_weak_0 : decode cL_weak 0 = .ok (.aload_n 3, 1) := by decide +kernel
theorem dL_weak_1 : decode cL_weak 1 = .ok (.iconst 0, 1) := by decide +kernel
theorem dL_weak_2 : decode cL_weak 2 = .ok (.aload_n 0, 1) := by decide +kernel
theorem dL_weak_3 : decode cL_weak 3 = .ok (.iload_n 1, 1) := by decide +kernel
theorem dL_weak_4 : decode cL_weak 4 = .ok (.iload_n 2, 1) := by decide +kernel
theorem dL_weak_5 : decode cL_weak 5 = .ok (.invokevirtual 52, 3) := by decide +kernel
theorem dL_weak_8 : decode cL_weak 8 = .ok (.i2l, 1) := by decide +kernel
theorem dL_weak_9 : decode cL_weak 9 = .ok (.lastore, 1) := by decide +kernel
theorem dL_weak_10 : decode cL_weak 10 = .ok (.goto 7, 3) := by decide +kernel
theorem dL_weak_13 : decode cL_weak 13 = .ok (.astore 4, 2) := by decide +kernel
theorem dL_weak_15 : decode cL_weak 15 = .ok (.iconst 1, 1) := by decide +kernel
theorem dL_weak_16 : decode cL_weak 16 = .ok (.ireturn, 1) := by decide +kernel
theorem dL_weak_17 : decode cL_weak 17 = .ok (.iconst 0, 1) := by decide +kernel
theorem dL_weak_18 : decode cL_weak 18 = .ok (.ireturn, 1) := by decide +kernel
theorem dL_strong_0 : decode cL_strong 0 = .ok (.aload_n 3, 1) := by decide +kernel
theorem dL_strong_1 : decode cL_strong 1 = .ok (.iconst 0, 1) := by decide +kernel
theorem dL_strong_2 : decode cL_strong 2 = .ok (.aload_n 0, 1) := by decide +kernel
theorem dL_strong_3 : decode cL_strong 3 = .ok (.iload_n 1, 1) := by decide +kernel
theorem dL_strong_4 : decode cL_strong 4 = .ok (.iload_n 2, 1) := by decide +kernel
theorem dL_strong_5 : decode cL_strong 5 = .ok (.invokevirtual 55, 3) := by decide +kernel
theorem dL_strong_8 : decode cL_strong 8 = .ok (.lastore, 1) := by decide +kernel
theorem dL_strong_9 : decode cL_strong 9 = .ok (.goto 7, 3) := by decide +kernel
theorem dL_strong_12 : decode cL_strong 12 = .ok (.astore 4, 2) := by decide +kernel
theorem dL_strong_14 : decode cL_strong 14 = .ok (.iconst 1, 1) := by decide +kernel
theorem dL_strong_15 : decode cL_strong 15 = .ok (.ireturn, 1) := by decide +kernel
theorem dL_strong_16 : decode cL_strong 16 = .ok (.iconst 0, 1) := by decide +kernel
theorem dL_strong_17 : decode cL_strong 17 = .ok (.ireturn, 1) := by decide +kernel
theorem dL_compare_0 : decode cL_compare 0 = .ok (.aload 4, 2) := by decide +kernel
theorem dL_compare_2 : decode cL_compare 2 = .ok (.iconst 0, 1) := by decide +kernel
theorem dL_compare_3 : decode cL_compare 3 = .ok (.aload_n 0, 1) := by decide +kernel
theorem dL_compare_4 : decode cL_compare 4 = .ok (.iload_n 1, 1) := by decide +kernel
theorem dL_compare_5 : decode cL_compare 5 = .ok (.iload_n 2, 1) := by decide +kernel
theorem dL_compare_6 : decode cL_compare 6 = .ok (.iload_n 3, 1) := by decide +kernel
theorem dL_compare_7 : decode cL_compare 7 = .ok (.invokevirtual 59, 3) := by decide +kernel
theorem dL_compare_10 : decode cL_compare 10 = .ok (.i2l, 1) := by decide +kernel
theorem dL_compare_11 : decode cL_compare 11 = .ok (.lastore, 1) := by decide +kernel
theorem dL_compare_12 : decode cL_compare 12 = .ok (.goto 11, 3) := by decide +kernel
theorem dL_compare_15 : decode cL_compare 15 = .ok (.astore 5, 2) := by decide +kernel
theorem dL_compare_17 : decode cL_compare 17 = .ok (.iconst 1, 1) := by decide +kernel
theorem dL_compare_18 : decode cL_compare 18 = .ok (.ireturn, 1) := by decide +kernel
theorem dL_compare_19 : decode cL_compare 19 = .ok (.astore 5, 2) := by decide +kernel
theorem dL_compare_21 : decode cL_compare 21 = .ok (.iconst 2, 1) := by decide +kernel
theorem dL_compare_22 : decode cL_compare 22 = .ok (.ireturn, 1) := by decide +kernel
theorem dL_compare_23 : decode cL_compare 23 = .ok (.iconst 0, 1) := by decide +kernel
theorem dL_compare_24 : decode cL_compare 24 = .ok (.ireturn, 1) := by decide +kernel
theorem dL_instructions_0 : decode cL_instructions 0 = .ok (.aload_n 2, 1) := by decide +kernel
theorem dL_instructions_1 : decode cL_instructions 1 = .ok (.iconst 0, 1) := by decide +kernel
theorem dL_instructions_2 : decode cL_instructions 2 = .ok (.aload_n 0, 1) := by decide +kernel
theorem dL_instructions_3 : decode cL_instructions 3 = .ok (.iload_n 1, 1) := by decide +kernel
theorem dL_instructions_4 : decode cL_instructions 4 = .ok (.invokevirtual 62, 3) := by decide +kernel
theorem dL_instructions_7 : decode cL_instructions 7 = .ok (.i2l, 1) := by decide +kernel
theorem dL_instructions_8 : decode cL_instructions 8 = .ok (.lastore, 1) := by decide +kernel
theorem dL_instructions_9 : decode cL_instructions 9 = .ok (.goto 6, 3) := by decide +kernel
theorem dL_instructions_12 : decode cL_instructions 12 = .ok (.astore_n 3, 1) := by decide +kernel
theorem dL_instructions_13 : decode cL_instructions 13 = .ok (.iconst 1, 1) := by decide +kernel
theorem dL_instructions_14 : decode cL_instructions 14 = .ok (.ireturn, 1) := by decide +kernel
theorem dL_instructions_15 : decode cL_instructions 15 = .ok (.iconst 0, 1) := by decide +kernel
theorem dL_instructions_16 : decode cL_instructions 16 = .ok (.ireturn, 1) := by decide +kernel
theorem dL_isCopy_0 : decode cL_isCopy 0 = .ok (.aload_n 3, 1) := by decide +kernel
theorem dL_isCopy_1 : decode cL_isCopy 1 = .ok (.iconst 0, 1) := by decide +kernel
theorem dL_isCopy_2 : decode cL_isCopy 2 = .ok (.aload_n 0, 1) := by decide +kernel
theorem dL_isCopy_3 : decode cL_isCopy 3 = .ok (.iload_n 1, 1) := by decide +kernel
theorem dL_isCopy_4 : decode cL_isCopy 4 = .ok (.iload_n 2, 1) := by decide +kernel
theorem dL_isCopy_5 : decode cL_isCopy 5 = .ok (.invokevirtual 65, 3) := by decide +kernel
theorem dL_isCopy_8 : decode cL_isCopy 8 = .ok (.ifCond .eq 7, 3) := by decide +kernel
theorem dL_isCopy_11 : decode cL_isCopy 11 = .ok (.lconst 1, 1) := by decide +kernel
theorem dL_isCopy_12 : decode cL_isCopy 12 = .ok (.goto 4, 3) := by decide +kernel
theorem dL_isCopy_15 : decode cL_isCopy 15 = .ok (.lconst 0, 1) := by decide +kernel
theorem dL_isCopy_16 : decode cL_isCopy 16 = .ok (.lastore, 1) := by decide +kernel
theorem dL_isCopy_17 : decode cL_isCopy 17 = .ok (.goto 7, 3) := by decide +kernel
theorem dL_isCopy_20 : decode cL_isCopy 20 = .ok (.astore 4, 2) := by decide +kernel
theorem dL_isCopy_22 : decode cL_isCopy 22 = .ok (.iconst 1, 1) := by decide +kernel
theorem dL_isCopy_23 : decode cL_isCopy 23 = .ok (.ireturn, 1) := by decide +kernel
theorem dL_isCopy_24 : decode cL_isCopy 24 = .ok (.iconst 0, 1) := by decide +kernel
theorem dL_isCopy_25 : decode cL_isCopy 25 = .ok (.ireturn, 1) := by decide +kernel
theorem dL_startOf_0 : decode cL_startOf 0 = .ok (.aload_n 3, 1) := by decide +kernel
theorem dL_startOf_1 : decode cL_startOf 1 = .ok (.iconst 0, 1) := by decide +kernel
theorem dL_startOf_2 : decode cL_startOf 2 = .ok (.aload_n 0, 1) := by decide +kernel
theorem dL_startOf_3 : decode cL_startOf 3 = .ok (.iload_n 1, 1) := by decide +kernel
theorem dL_startOf_4 : decode cL_startOf 4 = .ok (.iload_n 2, 1) := by decide +kernel
theorem dL_startOf_5 : decode cL_startOf 5 = .ok (.invokevirtual 68, 3) := by decide +kernel
theorem dL_startOf_8 : decode cL_startOf 8 = .ok (.i2l, 1) := by decide +kernel
theorem dL_startOf_9 : decode cL_startOf 9 = .ok (.lastore, 1) := by decide +kernel
theorem dL_startOf_10 : decode cL_startOf 10 = .ok (.goto 7, 3) := by decide +kernel
theorem dL_startOf_13 : decode cL_startOf 13 = .ok (.astore 4, 2) := by decide +kernel
theorem dL_startOf_15 : decode cL_startOf 15 = .ok (.iconst 1, 1) := by decide +kernel
theorem dL_startOf_16 : decode cL_startOf 16 = .ok (.ireturn, 1) := by decide +kernel
theorem dL_startOf_17 : decode cL_startOf 17 = .ok (.iconst 0, 1) := by decide +kernel
theorem dL_startOf_18 : decode cL_startOf 18 = .ok (.ireturn, 1) := by decide +kernel
theorem dL_bytesOf_0 : decode cL_bytesOf 0 = .ok (.aload_n 3, 1) := by decide +kernel
theorem dL_bytesOf_1 : decode cL_bytesOf 1 = .ok (.iconst 0, 1) := by decide +kernel
theorem dL_bytesOf_2 : decode cL_bytesOf 2 = .ok (.aload_n 0, 1) := by decide +kernel
theorem dL_bytesOf_3 : decode cL_bytesOf 3 = .ok (.iload_n 1, 1) := by decide +kernel
theorem dL_bytesOf_4 : decode cL_bytesOf 4 = .ok (.iload_n 2, 1) := by decide +kernel
theorem dL_bytesOf_5 : decode cL_bytesOf 5 = .ok (.invokevirtual 71, 3) := by decide +kernel
theorem dL_bytesOf_8 : decode cL_bytesOf 8 = .ok (.i2l, 1) := by decide +kernel
theorem dL_bytesOf_9 : decode cL_bytesOf 9 = .ok (.lastore, 1) := by decide +kernel
theorem dL_bytesOf_10 : decode cL_bytesOf 10 = .ok (.goto 7, 3) := by decide +kernel
theorem dL_bytesOf_13 : decode cL_bytesOf 13 = .ok (.astore 4, 2) := by decide +kernel
theorem dL_bytesOf_15 : decode cL_bytesOf 15 = .ok (.iconst 1, 1) := by decide +kernel
theorem dL_bytesOf_16 : decode cL_bytesOf 16 = .ok (.ireturn, 1) := by decide +kernel
theorem dL_bytesOf_17 : decode cL_bytesOf 17 = .ok (.iconst 0, 1) := by decide +kernel
theorem dL_bytesOf_18 : decode cL_bytesOf 18 = .ok (.ireturn, 1) := by decide +kernel
theorem dL_cost_0 : decode cL_cost 0 = .ok (.aload_n 2, 1) := by decide +kernel
theorem dL_cost_1 : decode cL_cost 1 = .ok (.iconst 0, 1) := by decide +kernel
theorem dL_cost_2 : decode cL_cost 2 = .ok (.aload_n 0, 1) := by decide +kernel
theorem dL_cost_3 : decode cL_cost 3 = .ok (.iload_n 1, 1) := by decide +kernel
theorem dL_cost_4 : decode cL_cost 4 = .ok (.invokevirtual 74, 3) := by decide +kernel
theorem dL_cost_7 : decode cL_cost 7 = .ok (.i2l, 1) := by decide +kernel
theorem dL_cost_8 : decode cL_cost 8 = .ok (.lastore, 1) := by decide +kernel
theorem dL_cost_9 : decode cL_cost 9 = .ok (.goto 6, 3) := by decide +kernel
theorem dL_cost_12 : decode cL_cost 12 = .ok (.astore_n 3, 1) := by decide +kernel
theorem dL_cost_13 : decode cL_cost 13 = .ok (.iconst 1, 1) := by decide +kernel
theorem dL_cost_14 : decode cL_cost 14 = .ok (.ireturn, 1) := by decide +kernel
theorem dL_cost_15 : decode cL_cost 15 = .ok (.iconst 0, 1) := by decide +kernel
theorem dL_cost_16 : decode cL_cost 16 = .ok (.ireturn, 1) := by decide +kernel
theorem dL_alarms_0 : decode cL_alarms 0 = .ok (.aload_n 2, 1) := by decide +kernel
theorem dL_alarms_1 : decode cL_alarms 1 = .ok (.iconst 0, 1) := by decide +kernel
theorem dL_alarms_2 : decode cL_alarms 2 = .ok (.aload_n 0, 1) := by decide +kernel
theorem dL_alarms_3 : decode cL_alarms 3 = .ok (.iload_n 1, 1) := by decide +kernel
theorem dL_alarms_4 : decode cL_alarms 4 = .ok (.invokevirtual 77, 3) := by decide +kernel
theorem dL_alarms_7 : decode cL_alarms 7 = .ok (.i2l, 1) := by decide +kernel
theorem dL_alarms_8 : decode cL_alarms 8 = .ok (.lastore, 1) := by decide +kernel
theorem dL_alarms_9 : decode cL_alarms 9 = .ok (.goto 6, 3) := by decide +kernel
theorem dL_alarms_12 : decode cL_alarms 12 = .ok (.astore_n 3, 1) := by decide +kernel
theorem dL_alarms_13 : decode cL_alarms 13 = .ok (.iconst 1, 1) := by decide +kernel
theorem dL_alarms_14 : decode cL_alarms 14 = .ok (.ireturn, 1) := by decide +kernel
theorem dL_alarms_15 : decode cL_alarms 15 = .ok (.iconst 0, 1) := by decide +kernel
theorem dL_alarms_16 : decode cL_alarms 16 = .ok (.ireturn, 1) := by decide +kernel
theorem dL_apply_0 : decode cL_apply 0 = .ok (.aload 4, 2) := by decide +kernel
theorem dL_apply_2 : decode cL_apply 2 = .ok (.iconst 0, 1) := by decide +kernel
theorem dL_apply_3 : decode cL_apply 3 = .ok (.aload_n 0, 1) := by decide +kernel
theorem dL_apply_4 : decode cL_apply 4 = .ok (.iload_n 1, 1) := by decide +kernel
theorem dL_apply_5 : decode cL_apply 5 = .ok (.iload_n 2, 1) := by decide +kernel
theorem dL_apply_6 : decode cL_apply 6 = .ok (.iload_n 3, 1) := by decide +kernel
theorem dL_apply_7 : decode cL_apply 7 = .ok (.invokevirtual 80, 3) := by decide +kernel
theorem dL_apply_10 : decode cL_apply 10 = .ok (.i2l, 1) := by decide +kernel
theorem dL_apply_11 : decode cL_apply 11 = .ok (.lastore, 1) := by decide +kernel
theorem dL_apply_12 : decode cL_apply 12 = .ok (.goto 11, 3) := by decide +kernel
theorem dL_apply_15 : decode cL_apply 15 = .ok (.astore 5, 2) := by decide +kernel
theorem dL_apply_17 : decode cL_apply 17 = .ok (.iconst 1, 1) := by decide +kernel
theorem dL_apply_18 : decode cL_apply 18 = .ok (.ireturn, 1) := by decide +kernel
theorem dL_apply_19 : decode cL_apply 19 = .ok (.astore 5, 2) := by decide +kernel
theorem dL_apply_21 : decode cL_apply 21 = .ok (.iconst 2, 1) := by decide +kernel
theorem dL_apply_22 : decode cL_apply 22 = .ok (.ireturn, 1) := by decide +kernel
theorem dL_apply_23 : decode cL_apply 23 = .ok (.iconst 0, 1) := by decide +kernel
theorem dL_apply_24 : decode cL_apply 24 = .ok (.ireturn, 1) := by decide +kernel
theorem dL_keep_0 : decode cL_keep 0 = .ok (.aload_n 2, 1) := by decide +kernel
theorem dL_keep_1 : decode cL_keep 1 = .ok (.iconst 0, 1) := by decide +kernel
theorem dL_keep_2 : decode cL_keep 2 = .ok (.aload_n 0, 1) := by decide +kernel
theorem dL_keep_3 : decode cL_keep 3 = .ok (.iload_n 1, 1) := by decide +kernel
theorem dL_keep_4 : decode cL_keep 4 = .ok (.invokevirtual 83, 3) := by decide +kernel
theorem dL_keep_7 : decode cL_keep 7 = .ok (.i2l, 1) := by decide +kernel
theorem dL_keep_8 : decode cL_keep 8 = .ok (.lastore, 1) := by decide +kernel
theorem dL_keep_9 : decode cL_keep 9 = .ok (.goto 9, 3) := by decide +kernel
theorem dL_keep_12 : decode cL_keep 12 = .ok (.astore_n 3, 1) := by decide +kernel
theorem dL_keep_13 : decode cL_keep 13 = .ok (.iconst 1, 1) := by decide +kernel
theorem dL_keep_14 : decode cL_keep 14 = .ok (.ireturn, 1) := by decide +kernel
theorem dL_keep_15 : decode cL_keep 15 = .ok (.astore_n 3, 1) := by decide +kernel
theorem dL_keep_16 : decode cL_keep 16 = .ok (.iconst 2, 1) := by decide +kernel
theorem dL_keep_17 : decode cL_keep 17 = .ok (.ireturn, 1) := by decide +kernel
theorem dL_keep_18 : decode cL_keep 18 = .ok (.iconst 0, 1) := by decide +kernel
theorem dL_keep_19 : decode cL_keep 19 = .ok (.ireturn, 1) := by decide +kernel
theorem dL_keepDelta_0 : decode cL_keepDelta 0 = .ok (.aload 4, 2) := by decide +kernel
theorem dL_keepDelta_2 : decode cL_keepDelta 2 = .ok (.iconst 0, 1) := by decide +kernel
theorem dL_keepDelta_3 : decode cL_keepDelta 3 = .ok (.aload_n 0, 1) := by decide +kernel
theorem dL_keepDelta_4 : decode cL_keepDelta 4 = .ok (.iload_n 1, 1) := by decide +kernel
theorem dL_keepDelta_5 : decode cL_keepDelta 5 = .ok (.iload_n 2, 1) := by decide +kernel
theorem dL_keepDelta_6 : decode cL_keepDelta 6 = .ok (.iload_n 3, 1) := by decide +kernel
theorem dL_keepDelta_7 : decode cL_keepDelta 7 = .ok (.invokevirtual 86, 3) := by decide +kernel
theorem dL_keepDelta_10 : decode cL_keepDelta 10 = .ok (.i2l, 1) := by decide +kernel
theorem dL_keepDelta_11 : decode cL_keepDelta 11 = .ok (.lastore, 1) := by decide +kernel
theorem dL_keepDelta_12 : decode cL_keepDelta 12 = .ok (.goto 15, 3) := by decide +kernel
theorem dL_keepDelta_15 : decode cL_keepDelta 15 = .ok (.astore 5, 2) := by decide +kernel
theorem dL_keepDelta_17 : decode cL_keepDelta 17 = .ok (.iconst 1, 1) := by decide +kernel
theorem dL_keepDelta_18 : decode cL_keepDelta 18 = .ok (.ireturn, 1) := by decide +kernel
theorem dL_keepDelta_19 : decode cL_keepDelta 19 = .ok (.astore 5, 2) := by decide +kernel
theorem dL_keepDelta_21 : decode cL_keepDelta 21 = .ok (.iconst 2, 1) := by decide +kernel
theorem dL_keepDelta_22 : decode cL_keepDelta 22 = .ok (.ireturn, 1) := by decide +kernel
theorem dL_keepDelta_23 : decode cL_keepDelta 23 = .ok (.astore 5, 2) := by decide +kernel
theorem dL_keepDelta_25 : decode cL_keepDelta 25 = .ok (.iconst 3, 1) := by decide +kernel
theorem dL_keepDelta_26 : decode cL_keepDelta 26 = .ok (.ireturn, 1) := by decide +kernel
theorem dL_keepDelta_27 : decode cL_keepDelta 27 = .ok (.iconst 0, 1) := by decide +kernel
theorem dL_keepDelta_28 : decode cL_keepDelta 28 = .ok (.ireturn, 1) := by decide +kernel
theorem dL_lose_0 : decode cL_lose 0 = .ok (.aload_n 2, 1) := by decide +kernel
theorem dL_lose_1 : decode cL_lose 1 = .ok (.iconst 0, 1) := by decide +kernel
theorem dL_lose_2 : decode cL_lose 2 = .ok (.aload_n 0, 1) := by decide +kernel
theorem dL_lose_3 : decode cL_lose 3 = .ok (.iload_n 1, 1) := by decide +kernel
theorem dL_lose_4 : decode cL_lose 4 = .ok (.invokevirtual 89, 3) := by decide +kernel
theorem dL_lose_7 : decode cL_lose 7 = .ok (.i2l, 1) := by decide +kernel
theorem dL_lose_8 : decode cL_lose 8 = .ok (.lastore, 1) := by decide +kernel
theorem dL_lose_9 : decode cL_lose 9 = .ok (.goto 6, 3) := by decide +kernel
theorem dL_lose_12 : decode cL_lose 12 = .ok (.astore_n 3, 1) := by decide +kernel
theorem dL_lose_13 : decode cL_lose 13 = .ok (.iconst 1, 1) := by decide +kernel
theorem dL_lose_14 : decode cL_lose 14 = .ok (.ireturn, 1) := by decide +kernel
theorem dL_lose_15 : decode cL_lose 15 = .ok (.iconst 0, 1) := by decide +kernel
theorem dL_lose_16 : decode cL_lose 16 = .ok (.ireturn, 1) := by decide +kernel
theorem dL_replace_0 : decode cL_replace 0 = .ok (.aload_n 0, 1) := by decide +kernel
theorem dL_replace_1 : decode cL_replace 1 = .ok (.iload_n 1, 1) := by decide +kernel
theorem dL_replace_2 : decode cL_replace 2 = .ok (.iload_n 2, 1) := by decide +kernel
theorem dL_replace_3 : decode cL_replace 3 = .ok (.invokevirtual 92, 3) := by decide +kernel
theorem dL_replace_6 : decode cL_replace 6 = .ok (.goto 6, 3) := by decide +kernel
theorem dL_replace_9 : decode cL_replace 9 = .ok (.astore_n 3, 1) := by decide +kernel
theorem dL_replace_10 : decode cL_replace 10 = .ok (.iconst 1, 1) := by decide +kernel
theorem dL_replace_11 : decode cL_replace 11 = .ok (.ireturn, 1) := by decide +kernel
theorem dL_replace_12 : decode cL_replace 12 = .ok (.iconst 0, 1) := by decide +kernel
theorem dL_replace_13 : decode cL_replace 13 = .ok (.ireturn, 1) := by decide +kernel
theorem dL_rebuild_0 : decode cL_rebuild 0 = .ok (.aload_n 3, 1) := by decide +kernel
theorem dL_rebuild_1 : decode cL_rebuild 1 = .ok (.iconst 0, 1) := by decide +kernel
theorem dL_rebuild_2 : decode cL_rebuild 2 = .ok (.aload_n 0, 1) := by decide +kernel
theorem dL_rebuild_3 : decode cL_rebuild 3 = .ok (.iload_n 1, 1) := by decide +kernel
theorem dL_rebuild_4 : decode cL_rebuild 4 = .ok (.iload_n 2, 1) := by decide +kernel
theorem dL_rebuild_5 : decode cL_rebuild 5 = .ok (.invokevirtual 95, 3) := by decide +kernel
theorem dL_rebuild_8 : decode cL_rebuild 8 = .ok (.i2l, 1) := by decide +kernel
theorem dL_rebuild_9 : decode cL_rebuild 9 = .ok (.lastore, 1) := by decide +kernel
theorem dL_rebuild_10 : decode cL_rebuild 10 = .ok (.goto 11, 3) := by decide +kernel
theorem dL_rebuild_13 : decode cL_rebuild 13 = .ok (.astore 4, 2) := by decide +kernel
theorem dL_rebuild_15 : decode cL_rebuild 15 = .ok (.iconst 1, 1) := by decide +kernel
theorem dL_rebuild_16 : decode cL_rebuild 16 = .ok (.ireturn, 1) := by decide +kernel
theorem dL_rebuild_17 : decode cL_rebuild 17 = .ok (.astore 4, 2) := by decide +kernel
theorem dL_rebuild_19 : decode cL_rebuild 19 = .ok (.iconst 2, 1) := by decide +kernel
theorem dL_rebuild_20 : decode cL_rebuild 20 = .ok (.ireturn, 1) := by decide +kernel
theorem dL_rebuild_21 : decode cL_rebuild 21 = .ok (.iconst 0, 1) := by decide +kernel
theorem dL_rebuild_22 : decode cL_rebuild 22 = .ok (.ireturn, 1) := by decide +kernel
theorem dL_brokenAt_0 : decode cL_brokenAt 0 = .ok (.aload_n 2, 1) := by decide +kernel
theorem dL_brokenAt_1 : decode cL_brokenAt 1 = .ok (.iconst 0, 1) := by decide +kernel
theorem dL_brokenAt_2 : decode cL_brokenAt 2 = .ok (.aload_n 0, 1) := by decide +kernel
theorem dL_brokenAt_3 : decode cL_brokenAt 3 = .ok (.iload_n 1, 1) := by decide +kernel
theorem dL_brokenAt_4 : decode cL_brokenAt 4 = .ok (.invokevirtual 98, 3) := by decide +kernel
theorem dL_brokenAt_7 : decode cL_brokenAt 7 = .ok (.i2l, 1) := by decide +kernel
theorem dL_brokenAt_8 : decode cL_brokenAt 8 = .ok (.lastore, 1) := by decide +kernel
theorem dL_brokenAt_9 : decode cL_brokenAt 9 = .ok (.goto 6, 3) := by decide +kernel
theorem dL_brokenAt_12 : decode cL_brokenAt 12 = .ok (.astore_n 3, 1) := by decide +kernel
theorem dL_brokenAt_13 : decode cL_brokenAt 13 = .ok (.iconst 1, 1) := by decide +kernel
theorem dL_brokenAt_14 : decode cL_brokenAt 14 = .ok (.ireturn, 1) := by decide +kernel
theorem dL_brokenAt_15 : decode cL_brokenAt 15 = .ok (.iconst 0, 1) := by decide +kernel
theorem dL_brokenAt_16 : decode cL_brokenAt 16 = .ok (.ireturn, 1) := by decide +kernel
theorem dL_brokenAfter_0 : decode cL_brokenAfter 0 = .ok (.aload_n 2, 1) := by decide +kernel
theorem dL_brokenAfter_1 : decode cL_brokenAfter 1 = .ok (.iconst 0, 1) := by decide +kernel
theorem dL_brokenAfter_2 : decode cL_brokenAfter 2 = .ok (.aload_n 0, 1) := by decide +kernel
theorem dL_brokenAfter_3 : decode cL_brokenAfter 3 = .ok (.iload_n 1, 1) := by decide +kernel
theorem dL_brokenAfter_4 : decode cL_brokenAfter 4 = .ok (.invokevirtual 101, 3) := by decide +kernel
theorem dL_brokenAfter_7 : decode cL_brokenAfter 7 = .ok (.i2l, 1) := by decide +kernel
theorem dL_brokenAfter_8 : decode cL_brokenAfter 8 = .ok (.lastore, 1) := by decide +kernel
theorem dL_brokenAfter_9 : decode cL_brokenAfter 9 = .ok (.goto 6, 3) := by decide +kernel
theorem dL_brokenAfter_12 : decode cL_brokenAfter 12 = .ok (.astore_n 3, 1) := by decide +kernel
theorem dL_brokenAfter_13 : decode cL_brokenAfter 13 = .ok (.iconst 1, 1) := by decide +kernel
theorem dL_brokenAfter_14 : decode cL_brokenAfter 14 = .ok (.ireturn, 1) := by decide +kernel
theorem dL_brokenAfter_15 : decode cL_brokenAfter 15 = .ok (.iconst 0, 1) := by decide +kernel
theorem dL_brokenAfter_16 : decode cL_brokenAfter 16 = .ok (.ireturn, 1) := by decide +kernel
theorem dL_reason_0 : decode cL_reason 0 = .ok (.aload_n 2, 1) := by decide +kernel
theorem dL_reason_1 : decode cL_reason 1 = .ok (.iconst 0, 1) := by decide +kernel
theorem dL_reason_2 : decode cL_reason 2 = .ok (.aload_n 0, 1) := by decide +kernel
theorem dL_reason_3 : decode cL_reason 3 = .ok (.iload_n 1, 1) := by decide +kernel
theorem dL_reason_4 : decode cL_reason 4 = .ok (.invokevirtual 104, 3) := by decide +kernel
theorem dL_reason_7 : decode cL_reason 7 = .ok (.i2l, 1) := by decide +kernel
theorem dL_reason_8 : decode cL_reason 8 = .ok (.lastore, 1) := by decide +kernel
theorem dL_reason_9 : decode cL_reason 9 = .ok (.goto 6, 3) := by decide +kernel
theorem dL_reason_12 : decode cL_reason 12 = .ok (.astore_n 3, 1) := by decide +kernel
theorem dL_reason_13 : decode cL_reason 13 = .ok (.iconst 1, 1) := by decide +kernel
theorem dL_reason_14 : decode cL_reason 14 = .ok (.ireturn, 1) := by decide +kernel
theorem dL_reason_15 : decode cL_reason 15 = .ok (.iconst 0, 1) := by decide +kernel
theorem dL_reason_16 : decode cL_reason 16 = .ok (.ireturn, 1) := by decide +kernel
theorem dL_heldBy_0 : decode cL_heldBy 0 = .ok (.aload_n 2, 1) := by decide +kernel
theorem dL_heldBy_1 : decode cL_heldBy 1 = .ok (.iconst 0, 1) := by decide +kernel
theorem dL_heldBy_2 : decode cL_heldBy 2 = .ok (.aload_n 0, 1) := by decide +kernel
theorem dL_heldBy_3 : decode cL_heldBy 3 = .ok (.iload_n 1, 1) := by decide +kernel
theorem dL_heldBy_4 : decode cL_heldBy 4 = .ok (.invokevirtual 107, 3) := by decide +kernel
theorem dL_heldBy_7 : decode cL_heldBy 7 = .ok (.i2l, 1) := by decide +kernel
theorem dL_heldBy_8 : decode cL_heldBy 8 = .ok (.lastore, 1) := by decide +kernel
theorem dL_heldBy_9 : decode cL_heldBy 9 = .ok (.goto 6, 3) := by decide +kernel
theorem dL_heldBy_12 : decode cL_heldBy 12 = .ok (.astore_n 3, 1) := by decide +kernel
theorem dL_heldBy_13 : decode cL_heldBy 13 = .ok (.iconst 1, 1) := by decide +kernel
theorem dL_heldBy_14 : decode cL_heldBy 14 = .ok (.ireturn, 1) := by decide +kernel
theorem dL_heldBy_15 : decode cL_heldBy 15 = .ok (.iconst 0, 1) := by decide +kernel
theorem dL_heldBy_16 : decode cL_heldBy 16 = .ok (.ireturn, 1) := by decide +kernel
theorem dL_cuts_0 : decode cL_cuts 0 = .ok (.aload_n 0, 1) := by decide +kernel
theorem dL_cuts_1 : decode cL_cuts 1 = .ok (.iload_n 1, 1) := by decide +kernel
theorem dL_cuts_2 : decode cL_cuts 2 = .ok (.iload_n 2, 1) := by decide +kernel
theorem dL_cuts_3 : decode cL_cuts 3 = .ok (.iload_n 3, 1) := by decide +kernel
theorem dL_cuts_4 : decode cL_cuts 4 = .ok (.invokevirtual 110, 3) := by decide +kernel
theorem dL_cuts_7 : decode cL_cuts 7 = .ok (.goto 7, 3) := by decide +kernel
theorem dL_cuts_10 : decode cL_cuts 10 = .ok (.astore 4, 2) := by decide +kernel
theorem dL_cuts_12 : decode cL_cuts 12 = .ok (.iconst 1, 1) := by decide +kernel
theorem dL_cuts_13 : decode cL_cuts 13 = .ok (.ireturn, 1) := by decide +kernel
theorem dL_cuts_14 : decode cL_cuts 14 = .ok (.iconst 0, 1) := by decide +kernel
theorem dL_cuts_15 : decode cL_cuts 15 = .ok (.ireturn, 1) := by decide +kernel
theorem dL_store_0 : decode cL_store 0 = .ok (.aload_n 2, 1) := by decide +kernel
theorem dL_store_1 : decode cL_store 1 = .ok (.iconst 0, 1) := by decide +kernel
theorem dL_store_2 : decode cL_store 2 = .ok (.aload_n 0, 1) := by decide +kernel
theorem dL_store_3 : decode cL_store 3 = .ok (.iload_n 1, 1) := by decide +kernel
theorem dL_store_4 : decode cL_store 4 = .ok (.invokevirtual 114, 3) := by decide +kernel
theorem dL_store_7 : decode cL_store 7 = .ok (.i2l, 1) := by decide +kernel
theorem dL_store_8 : decode cL_store 8 = .ok (.lastore, 1) := by decide +kernel
theorem dL_store_9 : decode cL_store 9 = .ok (.goto 9, 3) := by decide +kernel
theorem dL_store_12 : decode cL_store 12 = .ok (.astore_n 3, 1) := by decide +kernel
theorem dL_store_13 : decode cL_store 13 = .ok (.iconst 1, 1) := by decide +kernel
theorem dL_store_14 : decode cL_store 14 = .ok (.ireturn, 1) := by decide +kernel
theorem dL_store_15 : decode cL_store 15 = .ok (.astore_n 3, 1) := by decide +kernel
theorem dL_store_16 : decode cL_store 16 = .ok (.iconst 2, 1) := by decide +kernel
theorem dL_store_17 : decode cL_store 17 = .ok (.ireturn, 1) := by decide +kernel
theorem dL_store_18 : decode cL_store 18 = .ok (.iconst 0, 1) := by decide +kernel
theorem dL_store_19 : decode cL_store 19 = .ok (.ireturn, 1) := by decide +kernel
theorem dL_release_0 : decode cL_release 0 = .ok (.aload_n 2, 1) := by decide +kernel
theorem dL_release_1 : decode cL_release 1 = .ok (.iconst 0, 1) := by decide +kernel
theorem dL_release_2 : decode cL_release 2 = .ok (.aload_n 0, 1) := by decide +kernel
theorem dL_release_3 : decode cL_release 3 = .ok (.iload_n 1, 1) := by decide +kernel
theorem dL_release_4 : decode cL_release 4 = .ok (.invokevirtual 117, 3) := by decide +kernel
theorem dL_release_7 : decode cL_release 7 = .ok (.i2l, 1) := by decide +kernel
theorem dL_release_8 : decode cL_release 8 = .ok (.lastore, 1) := by decide +kernel
theorem dL_release_9 : decode cL_release 9 = .ok (.goto 6, 3) := by decide +kernel
theorem dL_release_12 : decode cL_release 12 = .ok (.astore_n 3, 1) := by decide +kernel
theorem dL_release_13 : decode cL_release 13 = .ok (.iconst 1, 1) := by decide +kernel
theorem dL_release_14 : decode cL_release 14 = .ok (.ireturn, 1) := by decide +kernel
theorem dL_release_15 : decode cL_release 15 = .ok (.iconst 0, 1) := by decide +kernel
theorem dL_release_16 : decode cL_release 16 = .ok (.ireturn, 1) := by decide +kernel
theorem dL_fetch_0 : decode cL_fetch 0 = .ok (.aload_n 3, 1) := by decide +kernel
theorem dL_fetch_1 : decode cL_fetch 1 = .ok (.iconst 0, 1) := by decide +kernel
theorem dL_fetch_2 : decode cL_fetch 2 = .ok (.aload_n 0, 1) := by decide +kernel
theorem dL_fetch_3 : decode cL_fetch 3 = .ok (.iload_n 1, 1) := by decide +kernel
theorem dL_fetch_4 : decode cL_fetch 4 = .ok (.iload_n 2, 1) := by decide +kernel
theorem dL_fetch_5 : decode cL_fetch 5 = .ok (.invokevirtual 120, 3) := by decide +kernel
theorem dL_fetch_8 : decode cL_fetch 8 = .ok (.i2l, 1) := by decide +kernel
theorem dL_fetch_9 : decode cL_fetch 9 = .ok (.lastore, 1) := by decide +kernel
theorem dL_fetch_10 : decode cL_fetch 10 = .ok (.goto 7, 3) := by decide +kernel
theorem dL_fetch_13 : decode cL_fetch 13 = .ok (.astore 4, 2) := by decide +kernel
theorem dL_fetch_15 : decode cL_fetch 15 = .ok (.iconst 1, 1) := by decide +kernel
theorem dL_fetch_16 : decode cL_fetch 16 = .ok (.ireturn, 1) := by decide +kernel
theorem dL_fetch_17 : decode cL_fetch 17 = .ok (.iconst 0, 1) := by decide +kernel
theorem dL_fetch_18 : decode cL_fetch 18 = .ok (.ireturn, 1) := by decide +kernel
theorem dL_parts_0 : decode cL_parts 0 = .ok (.aload_n 2, 1) := by decide +kernel
theorem dL_parts_1 : decode cL_parts 1 = .ok (.iconst 0, 1) := by decide +kernel
theorem dL_parts_2 : decode cL_parts 2 = .ok (.aload_n 0, 1) := by decide +kernel
theorem dL_parts_3 : decode cL_parts 3 = .ok (.iload_n 1, 1) := by decide +kernel
theorem dL_parts_4 : decode cL_parts 4 = .ok (.invokevirtual 123, 3) := by decide +kernel
theorem dL_parts_7 : decode cL_parts 7 = .ok (.i2l, 1) := by decide +kernel
theorem dL_parts_8 : decode cL_parts 8 = .ok (.lastore, 1) := by decide +kernel
theorem dL_parts_9 : decode cL_parts 9 = .ok (.goto 6, 3) := by decide +kernel
theorem dL_parts_12 : decode cL_parts 12 = .ok (.astore_n 3, 1) := by decide +kernel
theorem dL_parts_13 : decode cL_parts 13 = .ok (.iconst 1, 1) := by decide +kernel
theorem dL_parts_14 : decode cL_parts 14 = .ok (.ireturn, 1) := by decide +kernel
theorem dL_parts_15 : decode cL_parts 15 = .ok (.iconst 0, 1) := by decide +kernel
theorem dL_parts_16 : decode cL_parts 16 = .ok (.ireturn, 1) := by decide +kernel
theorem dL_partLength_0 : decode cL_partLength 0 = .ok (.aload_n 3, 1) := by decide +kernel
theorem dL_partLength_1 : decode cL_partLength 1 = .ok (.iconst 0, 1) := by decide +kernel
theorem dL_partLength_2 : decode cL_partLength 2 = .ok (.aload_n 0, 1) := by decide +kernel
theorem dL_partLength_3 : decode cL_partLength 3 = .ok (.iload_n 1, 1) := by decide +kernel
theorem dL_partLength_4 : decode cL_partLength 4 = .ok (.iload_n 2, 1) := by decide +kernel
theorem dL_partLength_5 : decode cL_partLength 5 = .ok (.invokevirtual 126, 3) := by decide +kernel
theorem dL_partLength_8 : decode cL_partLength 8 = .ok (.i2l, 1) := by decide +kernel
theorem dL_partLength_9 : decode cL_partLength 9 = .ok (.lastore, 1) := by decide +kernel
theorem dL_partLength_10 : decode cL_partLength 10 = .ok (.goto 7, 3) := by decide +kernel
theorem dL_partLength_13 : decode cL_partLength 13 = .ok (.astore 4, 2) := by decide +kernel
theorem dL_partLength_15 : decode cL_partLength 15 = .ok (.iconst 1, 1) := by decide +kernel
theorem dL_partLength_16 : decode cL_partLength 16 = .ok (.ireturn, 1) := by decide +kernel
theorem dL_partLength_17 : decode cL_partLength 17 = .ok (.iconst 0, 1) := by decide +kernel
theorem dL_partLength_18 : decode cL_partLength 18 = .ok (.ireturn, 1) := by decide +kernel
theorem dL_shared_0 : decode cL_shared 0 = .ok (.aload_n 3, 1) := by decide +kernel
theorem dL_shared_1 : decode cL_shared 1 = .ok (.iconst 0, 1) := by decide +kernel
theorem dL_shared_2 : decode cL_shared 2 = .ok (.aload_n 0, 1) := by decide +kernel
theorem dL_shared_3 : decode cL_shared 3 = .ok (.iload_n 1, 1) := by decide +kernel
theorem dL_shared_4 : decode cL_shared 4 = .ok (.iload_n 2, 1) := by decide +kernel
theorem dL_shared_5 : decode cL_shared 5 = .ok (.invokevirtual 129, 3) := by decide +kernel
theorem dL_shared_8 : decode cL_shared 8 = .ok (.i2l, 1) := by decide +kernel
theorem dL_shared_9 : decode cL_shared 9 = .ok (.lastore, 1) := by decide +kernel
theorem dL_shared_10 : decode cL_shared 10 = .ok (.goto 7, 3) := by decide +kernel
theorem dL_shared_13 : decode cL_shared 13 = .ok (.astore 4, 2) := by decide +kernel
theorem dL_shared_15 : decode cL_shared 15 = .ok (.iconst 1, 1) := by decide +kernel
theorem dL_shared_16 : decode cL_shared 16 = .ok (.ireturn, 1) := by decide +kernel
theorem dL_shared_17 : decode cL_shared 17 = .ok (.iconst 0, 1) := by decide +kernel
theorem dL_shared_18 : decode cL_shared 18 = .ok (.ireturn, 1) := by decide +kernel
theorem dL_law_0 : decode cL_law 0 = .ok (.new 8, 3) := by decide +kernel
theorem dL_law_3 : decode cL_law 3 = .ok (.dup, 1) := by decide +kernel
theorem dL_law_4 : decode cL_law 4 = .ok (.invokespecial 132, 3) := by decide +kernel
theorem dL_law_7 : decode cL_law 7 = .ok (.astore_n 1, 1) := by decide +kernel
theorem dL_law_8 : decode cL_law 8 = .ok (.new 133, 3) := by decide +kernel
theorem dL_law_11 : decode cL_law 11 = .ok (.dup, 1) := by decide +kernel
theorem dL_law_12 : decode cL_law 12 = .ok (.invokespecial 135, 3) := by decide +kernel
theorem dL_law_15 : decode cL_law 15 = .ok (.astore_n 2, 1) := by decide +kernel
theorem dL_law_16 : decode cL_law 16 = .ok (.iconst 1, 1) := by decide +kernel
theorem dL_law_17 : decode cL_law 17 = .ok (.newarray .long, 2) := by decide +kernel
theorem dL_law_19 : decode cL_law 19 = .ok (.astore_n 3, 1) := by decide +kernel
theorem dL_law_20 : decode cL_law 20 = .ok (.iconst 0, 1) := by decide +kernel
theorem dL_law_21 : decode cL_law 21 = .ok (.istore 4, 2) := by decide +kernel
theorem dL_law_23 : decode cL_law 23 = .ok (.iload 4, 2) := by decide +kernel
theorem dL_law_25 : decode cL_law 25 = .ok (.aload_n 0, 1) := by decide +kernel
theorem dL_law_26 : decode cL_law 26 = .ok (.arraylength, 1) := by decide +kernel
theorem dL_law_27 : decode cL_law 27 = .ok (.iconst 5, 1) := by decide +kernel
theorem dL_law_28 : decode cL_law 28 = .ok (.isub, 1) := by decide +kernel
theorem dL_law_29 : decode cL_law 29 = .ok (.if_icmp .gt 2570, 3) := by decide +kernel
theorem dL_law_32 : decode cL_law 32 = .ok (.aload_n 0, 1) := by decide +kernel
theorem dL_law_33 : decode cL_law 33 = .ok (.iload 4, 2) := by decide +kernel
theorem dL_law_35 : decode cL_law 35 = .ok (.iaload, 1) := by decide +kernel
theorem dL_law_36 : decode cL_law 36 = .ok (.bipush 63, 2) := by decide +kernel
theorem dL_law_38 : decode cL_law 38 = .ok (.iand, 1) := by decide +kernel
theorem dL_law_39 : decode cL_law 39 = .ok (.tableswitch 2554 0 39 #[173, 217, 309, 389, 469, 517, 573, 641, 716, 808, 864, 932, 999, 1079, 1135, 1210, 1278, 1346, 1402, 1458, 1538, 1594, 1674, 1730, 1778, 1846, 1859, 1915, 1971, 2027, 2083, 2143, 2199, 2255, 2323, 2336, 2349, 2362, 2418, 2486], 173) := by decide +kernel
theorem dL_law_212 : decode cL_law 212 = .ok (.aload_n 1, 1) := by decide +kernel
theorem dL_law_213 : decode cL_law 213 = .ok (.aload_n 3, 1) := by decide +kernel
theorem dL_law_214 : decode cL_law 214 = .ok (.invokestatic 136, 3) := by decide +kernel
theorem dL_law_217 : decode cL_law 217 = .ok (.istore 5, 2) := by decide +kernel
theorem dL_law_219 : decode cL_law 219 = .ok (.aload_n 2, 1) := by decide +kernel
theorem dL_law_220 : decode cL_law 220 = .ok (.invokevirtual 141, 3) := by decide +kernel
theorem dL_law_223 : decode cL_law 223 = .ok (.istore 6, 2) := by decide +kernel
theorem dL_law_225 : decode cL_law 225 = .ok (.aload_n 2, 1) := by decide +kernel
theorem dL_law_226 : decode cL_law 226 = .ok (.invokevirtual 142, 3) := by decide +kernel
theorem dL_law_229 : decode cL_law 229 = .ok (.iload 5, 2) := by decide +kernel
theorem dL_law_231 : decode cL_law 231 = .ok (.if_icmp .eq 5, 3) := by decide +kernel
theorem dL_law_234 : decode cL_law 234 = .ok (.iconst 0, 1) := by decide +kernel
theorem dL_law_235 : decode cL_law 235 = .ok (.ireturn, 1) := by decide +kernel
theorem dL_law_236 : decode cL_law 236 = .ok (.iload 5, 2) := by decide +kernel
theorem dL_law_238 : decode cL_law 238 = .ok (.ifCond .ne 15, 3) := by decide +kernel
theorem dL_law_241 : decode cL_law 241 = .ok (.aload_n 3, 1) := by decide +kernel
theorem dL_law_242 : decode cL_law 242 = .ok (.iconst 0, 1) := by decide +kernel
theorem dL_law_243 : decode cL_law 243 = .ok (.laload, 1) := by decide +kernel
theorem dL_law_244 : decode cL_law 244 = .ok (.iload 6, 2) := by decide +kernel
theorem dL_law_246 : decode cL_law 246 = .ok (.i2l, 1) := by decide +kernel
theorem dL_law_247 : decode cL_law 247 = .ok (.lcmp, 1) := by decide +kernel
theorem dL_law_248 : decode cL_law 248 = .ok (.ifCond .eq 5, 3) := by decide +kernel
theorem dL_law_251 : decode cL_law 251 = .ok (.iconst 0, 1) := by decide +kernel
theorem dL_law_252 : decode cL_law 252 = .ok (.ireturn, 1) := by decide +kernel
theorem dL_law_253 : decode cL_law 253 = .ok (.goto 2340, 3) := by decide +kernel
theorem dL_law_256 : decode cL_law 256 = .ok (.aload_n 1, 1) := by decide +kernel
theorem dL_law_257 : decode cL_law 257 = .ok (.aload_n 0, 1) := by decide +kernel
theorem dL_law_258 : decode cL_law 258 = .ok (.iload 4, 2) := by decide +kernel
theorem dL_law_260 : decode cL_law 260 = .ok (.iconst 1, 1) := by decide +kernel
theorem dL_law_261 : decode cL_law 261 = .ok (.iadd, 1) := by decide +kernel
theorem dL_law_262 : decode cL_law 262 = .ok (.iaload, 1) := by decide +kernel
theorem dL_law_263 : decode cL_law 263 = .ok (.aload_n 0, 1) := by decide +kernel
theorem dL_law_264 : decode cL_law 264 = .ok (.iload 4, 2) := by decide +kernel
theorem dL_law_266 : decode cL_law 266 = .ok (.iconst 2, 1) := by decide +kernel
theorem dL_law_267 : decode cL_law 267 = .ok (.iadd, 1) := by decide +kernel
theorem dL_law_268 : decode cL_law 268 = .ok (.iaload, 1) := by decide +kernel
theorem dL_law_269 : decode cL_law 269 = .ok (.aload_n 0, 1) := by decide +kernel
theorem dL_law_270 : decode cL_law 270 = .ok (.iload 4, 2) := by decide +kernel
theorem dL_law_272 : decode cL_law 272 = .ok (.iconst 3, 1) := by decide +kernel
theorem dL_law_273 : decode cL_law 273 = .ok (.iadd, 1) := by decide +kernel
theorem dL_law_274 : decode cL_law 274 = .ok (.iaload, 1) := by decide +kernel
theorem dL_law_275 : decode cL_law 275 = .ok (.aload_n 0, 1) := by decide +kernel
theorem dL_law_276 : decode cL_law 276 = .ok (.iload 4, 2) := by decide +kernel
theorem dL_law_278 : decode cL_law 278 = .ok (.iconst 4, 1) := by decide +kernel
theorem dL_law_279 : decode cL_law 279 = .ok (.iadd, 1) := by decide +kernel
theorem dL_law_280 : decode cL_law 280 = .ok (.iaload, 1) := by decide +kernel
theorem dL_law_281 : decode cL_law 281 = .ok (.aload_n 3, 1) := by decide +kernel
theorem dL_law_282 : decode cL_law 282 = .ok (.invokestatic 145, 3) := by decide +kernel
theorem dL_law_285 : decode cL_law 285 = .ok (.istore 5, 2) := by decide +kernel
theorem dL_law_287 : decode cL_law 287 = .ok (.aload_n 2, 1) := by decide +kernel
theorem dL_law_288 : decode cL_law 288 = .ok (.aload_n 0, 1) := by decide +kernel
theorem dL_law_289 : decode cL_law 289 = .ok (.iload 4, 2) := by decide +kernel
theorem dL_law_291 : decode cL_law 291 = .ok (.iconst 1, 1) := by decide +kernel
theorem dL_law_292 : decode cL_law 292 = .ok (.iadd, 1) := by decide +kernel
theorem dL_law_293 : decode cL_law 293 = .ok (.iaload, 1) := by decide +kernel
theorem dL_law_294 : decode cL_law 294 = .ok (.aload_n 0, 1) := by decide +kernel
theorem dL_law_295 : decode cL_law 295 = .ok (.iload 4, 2) := by decide +kernel
theorem dL_law_297 : decode cL_law 297 = .ok (.iconst 2, 1) := by decide +kernel
theorem dL_law_298 : decode cL_law 298 = .ok (.iadd, 1) := by decide +kernel
theorem dL_law_299 : decode cL_law 299 = .ok (.iaload, 1) := by decide +kernel
theorem dL_law_300 : decode cL_law 300 = .ok (.aload_n 0, 1) := by decide +kernel
theorem dL_law_301 : decode cL_law 301 = .ok (.iload 4, 2) := by decide +kernel
theorem dL_law_303 : decode cL_law 303 = .ok (.iconst 3, 1) := by decide +kernel
theorem dL_law_304 : decode cL_law 304 = .ok (.iadd, 1) := by decide +kernel
theorem dL_law_305 : decode cL_law 305 = .ok (.iaload, 1) := by decide +kernel
theorem dL_law_306 : decode cL_law 306 = .ok (.aload_n 0, 1) := by decide +kernel
theorem dL_law_307 : decode cL_law 307 = .ok (.iload 4, 2) := by decide +kernel
theorem dL_law_309 : decode cL_law 309 = .ok (.iconst 4, 1) := by decide +kernel
theorem dL_law_310 : decode cL_law 310 = .ok (.iadd, 1) := by decide +kernel
theorem dL_law_311 : decode cL_law 311 = .ok (.iaload, 1) := by decide +kernel
theorem dL_law_312 : decode cL_law 312 = .ok (.invokevirtual 148, 3) := by decide +kernel
theorem dL_law_315 : decode cL_law 315 = .ok (.istore 6, 2) := by decide +kernel
theorem dL_law_317 : decode cL_law 317 = .ok (.aload_n 2, 1) := by decide +kernel
theorem dL_law_318 : decode cL_law 318 = .ok (.invokevirtual 142, 3) := by decide +kernel
theorem dL_law_321 : decode cL_law 321 = .ok (.iload 5, 2) := by decide +kernel
theorem dL_law_323 : decode cL_law 323 = .ok (.if_icmp .eq 5, 3) := by decide +kernel
theorem dL_law_326 : decode cL_law 326 = .ok (.iconst 0, 1) := by decide +kernel
theorem dL_law_327 : decode cL_law 327 = .ok (.ireturn, 1) := by decide +kernel
theorem dL_law_328 : decode cL_law 328 = .ok (.iload 5, 2) := by decide +kernel
theorem dL_law_330 : decode cL_law 330 = .ok (.ifCond .ne 15, 3) := by decide +kernel
theorem dL_law_333 : decode cL_law 333 = .ok (.aload_n 3, 1) := by decide +kernel
theorem dL_law_334 : decode cL_law 334 = .ok (.iconst 0, 1) := by decide +kernel
theorem dL_law_335 : decode cL_law 335 = .ok (.laload, 1) := by decide +kernel
theorem dL_law_336 : decode cL_law 336 = .ok (.iload 6, 2) := by decide +kernel
theorem dL_law_338 : decode cL_law 338 = .ok (.i2l, 1) := by decide +kernel
theorem dL_law_339 : decode cL_law 339 = .ok (.lcmp, 1) := by decide +kernel
theorem dL_law_340 : decode cL_law 340 = .ok (.ifCond .eq 5, 3) := by decide +kernel
theorem dL_law_343 : decode cL_law 343 = .ok (.iconst 0, 1) := by decide +kernel
theorem dL_law_344 : decode cL_law 344 = .ok (.ireturn, 1) := by decide +kernel
theorem dL_law_345 : decode cL_law 345 = .ok (.goto 2248, 3) := by decide +kernel
theorem dL_law_348 : decode cL_law 348 = .ok (.aload_n 1, 1) := by decide +kernel
theorem dL_law_349 : decode cL_law 349 = .ok (.aload_n 0, 1) := by decide +kernel
theorem dL_law_350 : decode cL_law 350 = .ok (.iload 4, 2) := by decide +kernel
theorem dL_law_352 : decode cL_law 352 = .ok (.iconst 1, 1) := by decide +kernel
theorem dL_law_353 : decode cL_law 353 = .ok (.iadd, 1) := by decide +kernel
theorem dL_law_354 : decode cL_law 354 = .ok (.iaload, 1) := by decide +kernel
theorem dL_law_355 : decode cL_law 355 = .ok (.aload_n 0, 1) := by decide +kernel
theorem dL_law_356 : decode cL_law 356 = .ok (.iload 4, 2) := by decide +kernel
theorem dL_law_358 : decode cL_law 358 = .ok (.iconst 2, 1) := by decide +kernel
theorem dL_law_359 : decode cL_law 359 = .ok (.iadd, 1) := by decide +kernel
theorem dL_law_360 : decode cL_law 360 = .ok (.iaload, 1) := by decide +kernel
theorem dL_law_361 : decode cL_law 361 = .ok (.aload_n 0, 1) := by decide +kernel
theorem dL_law_362 : decode cL_law 362 = .ok (.iload 4, 2) := by decide +kernel
theorem dL_law_364 : decode cL_law 364 = .ok (.iconst 3, 1) := by decide +kernel
theorem dL_law_365 : decode cL_law 365 = .ok (.iadd, 1) := by decide +kernel
theorem dL_law_366 : decode cL_law 366 = .ok (.iaload, 1) := by decide +kernel
theorem dL_law_367 : decode cL_law 367 = .ok (.aload_n 3, 1) := by decide +kernel
theorem dL_law_368 : decode cL_law 368 = .ok (.invokestatic 149, 3) := by decide +kernel
theorem dL_law_371 : decode cL_law 371 = .ok (.istore 5, 2) := by decide +kernel
theorem dL_law_373 : decode cL_law 373 = .ok (.aload_n 2, 1) := by decide +kernel
theorem dL_law_374 : decode cL_law 374 = .ok (.aload_n 0, 1) := by decide +kernel
theorem dL_law_375 : decode cL_law 375 = .ok (.iload 4, 2) := by decide +kernel
theorem dL_law_377 : decode cL_law 377 = .ok (.iconst 1, 1) := by decide +kernel
theorem dL_law_378 : decode cL_law 378 = .ok (.iadd, 1) := by decide +kernel
theorem dL_law_379 : decode cL_law 379 = .ok (.iaload, 1) := by decide +kernel
theorem dL_law_380 : decode cL_law 380 = .ok (.aload_n 0, 1) := by decide +kernel
theorem dL_law_381 : decode cL_law 381 = .ok (.iload 4, 2) := by decide +kernel
theorem dL_law_383 : decode cL_law 383 = .ok (.iconst 2, 1) := by decide +kernel
theorem dL_law_384 : decode cL_law 384 = .ok (.iadd, 1) := by decide +kernel
theorem dL_law_385 : decode cL_law 385 = .ok (.iaload, 1) := by decide +kernel
theorem dL_law_386 : decode cL_law 386 = .ok (.aload_n 0, 1) := by decide +kernel
theorem dL_law_387 : decode cL_law 387 = .ok (.iload 4, 2) := by decide +kernel
theorem dL_law_389 : decode cL_law 389 = .ok (.iconst 3, 1) := by decide +kernel
theorem dL_law_390 : decode cL_law 390 = .ok (.iadd, 1) := by decide +kernel
theorem dL_law_391 : decode cL_law 391 = .ok (.iaload, 1) := by decide +kernel
theorem dL_law_392 : decode cL_law 392 = .ok (.invokevirtual 152, 3) := by decide +kernel
theorem dL_law_395 : decode cL_law 395 = .ok (.istore 6, 2) := by decide +kernel
theorem dL_law_397 : decode cL_law 397 = .ok (.aload_n 2, 1) := by decide +kernel
theorem dL_law_398 : decode cL_law 398 = .ok (.invokevirtual 142, 3) := by decide +kernel
theorem dL_law_401 : decode cL_law 401 = .ok (.iload 5, 2) := by decide +kernel
theorem dL_law_403 : decode cL_law 403 = .ok (.if_icmp .eq 5, 3) := by decide +kernel
theorem dL_law_406 : decode cL_law 406 = .ok (.iconst 0, 1) := by decide +kernel
theorem dL_law_407 : decode cL_law 407 = .ok (.ireturn, 1) := by decide +kernel
theorem dL_law_408 : decode cL_law 408 = .ok (.iload 5, 2) := by decide +kernel
theorem dL_law_410 : decode cL_law 410 = .ok (.ifCond .ne 15, 3) := by decide +kernel
theorem dL_law_413 : decode cL_law 413 = .ok (.aload_n 3, 1) := by decide +kernel
theorem dL_law_414 : decode cL_law 414 = .ok (.iconst 0, 1) := by decide +kernel
theorem dL_law_415 : decode cL_law 415 = .ok (.laload, 1) := by decide +kernel
theorem dL_law_416 : decode cL_law 416 = .ok (.iload 6, 2) := by decide +kernel
theorem dL_law_418 : decode cL_law 418 = .ok (.i2l, 1) := by decide +kernel
theorem dL_law_419 : decode cL_law 419 = .ok (.lcmp, 1) := by decide +kernel
theorem dL_law_420 : decode cL_law 420 = .ok (.ifCond .eq 5, 3) := by decide +kernel
theorem dL_law_423 : decode cL_law 423 = .ok (.iconst 0, 1) := by decide +kernel
theorem dL_law_424 : decode cL_law 424 = .ok (.ireturn, 1) := by decide +kernel
theorem dL_law_425 : decode cL_law 425 = .ok (.goto 2168, 3) := by decide +kernel
theorem dL_law_428 : decode cL_law 428 = .ok (.aload_n 1, 1) := by decide +kernel
theorem dL_law_429 : decode cL_law 429 = .ok (.aload_n 0, 1) := by decide +kernel
theorem dL_law_430 : decode cL_law 430 = .ok (.iload 4, 2) := by decide +kernel
theorem dL_law_432 : decode cL_law 432 = .ok (.iconst 1, 1) := by decide +kernel
theorem dL_law_433 : decode cL_law 433 = .ok (.iadd, 1) := by decide +kernel
theorem dL_law_434 : decode cL_law 434 = .ok (.iaload, 1) := by decide +kernel
theorem dL_law_435 : decode cL_law 435 = .ok (.aload_n 0, 1) := by decide +kernel
theorem dL_law_436 : decode cL_law 436 = .ok (.iload 4, 2) := by decide +kernel
theorem dL_law_438 : decode cL_law 438 = .ok (.iconst 2, 1) := by decide +kernel
theorem dL_law_439 : decode cL_law 439 = .ok (.iadd, 1) := by decide +kernel
theorem dL_law_440 : decode cL_law 440 = .ok (.iaload, 1) := by decide +kernel
theorem dL_law_441 : decode cL_law 441 = .ok (.aload_n 0, 1) := by decide +kernel
theorem dL_law_442 : decode cL_law 442 = .ok (.iload 4, 2) := by decide +kernel
theorem dL_law_444 : decode cL_law 444 = .ok (.iconst 3, 1) := by decide +kernel
theorem dL_law_445 : decode cL_law 445 = .ok (.iadd, 1) := by decide +kernel
theorem dL_law_446 : decode cL_law 446 = .ok (.iaload, 1) := by decide +kernel
theorem dL_law_447 : decode cL_law 447 = .ok (.aload_n 3, 1) := by decide +kernel
theorem dL_law_448 : decode cL_law 448 = .ok (.invokestatic 153, 3) := by decide +kernel
theorem dL_law_451 : decode cL_law 451 = .ok (.istore 5, 2) := by decide +kernel
theorem dL_law_453 : decode cL_law 453 = .ok (.aload_n 2, 1) := by decide +kernel
theorem dL_law_454 : decode cL_law 454 = .ok (.aload_n 0, 1) := by decide +kernel
theorem dL_law_455 : decode cL_law 455 = .ok (.iload 4, 2) := by decide +kernel
theorem dL_law_457 : decode cL_law 457 = .ok (.iconst 1, 1) := by decide +kernel
theorem dL_law_458 : decode cL_law 458 = .ok (.iadd, 1) := by decide +kernel
theorem dL_law_459 : decode cL_law 459 = .ok (.iaload, 1) := by decide +kernel
theorem dL_law_460 : decode cL_law 460 = .ok (.aload_n 0, 1) := by decide +kernel
theorem dL_law_461 : decode cL_law 461 = .ok (.iload 4, 2) := by decide +kernel
theorem dL_law_463 : decode cL_law 463 = .ok (.iconst 2, 1) := by decide +kernel
theorem dL_law_464 : decode cL_law 464 = .ok (.iadd, 1) := by decide +kernel
theorem dL_law_465 : decode cL_law 465 = .ok (.iaload, 1) := by decide +kernel
theorem dL_law_466 : decode cL_law 466 = .ok (.aload_n 0, 1) := by decide +kernel
theorem dL_law_467 : decode cL_law 467 = .ok (.iload 4, 2) := by decide +kernel
theorem dL_law_469 : decode cL_law 469 = .ok (.iconst 3, 1) := by decide +kernel
theorem dL_law_470 : decode cL_law 470 = .ok (.iadd, 1) := by decide +kernel
theorem dL_law_471 : decode cL_law 471 = .ok (.iaload, 1) := by decide +kernel
theorem dL_law_472 : decode cL_law 472 = .ok (.invokevirtual 155, 3) := by decide +kernel
theorem dL_law_475 : decode cL_law 475 = .ok (.istore 6, 2) := by decide +kernel
theorem dL_law_477 : decode cL_law 477 = .ok (.aload_n 2, 1) := by decide +kernel
theorem dL_law_478 : decode cL_law 478 = .ok (.invokevirtual 142, 3) := by decide +kernel
theorem dL_law_481 : decode cL_law 481 = .ok (.iload 5, 2) := by decide +kernel
theorem dL_law_483 : decode cL_law 483 = .ok (.if_icmp .eq 5, 3) := by decide +kernel
theorem dL_law_486 : decode cL_law 486 = .ok (.iconst 0, 1) := by decide +kernel
theorem dL_law_487 : decode cL_law 487 = .ok (.ireturn, 1) := by decide +kernel
theorem dL_law_488 : decode cL_law 488 = .ok (.iload 5, 2) := by decide +kernel
theorem dL_law_490 : decode cL_law 490 = .ok (.ifCond .ne 15, 3) := by decide +kernel
theorem dL_law_493 : decode cL_law 493 = .ok (.aload_n 3, 1) := by decide +kernel
theorem dL_law_494 : decode cL_law 494 = .ok (.iconst 0, 1) := by decide +kernel
theorem dL_law_495 : decode cL_law 495 = .ok (.laload, 1) := by decide +kernel
theorem dL_law_496 : decode cL_law 496 = .ok (.iload 6, 2) := by decide +kernel
theorem dL_law_498 : decode cL_law 498 = .ok (.i2l, 1) := by decide +kernel
theorem dL_law_499 : decode cL_law 499 = .ok (.lcmp, 1) := by decide +kernel
theorem dL_law_500 : decode cL_law 500 = .ok (.ifCond .eq 5, 3) := by decide +kernel
theorem dL_law_503 : decode cL_law 503 = .ok (.iconst 0, 1) := by decide +kernel
theorem dL_law_504 : decode cL_law 504 = .ok (.ireturn, 1) := by decide +kernel
theorem dL_law_505 : decode cL_law 505 = .ok (.goto 2088, 3) := by decide +kernel
theorem dL_law_508 : decode cL_law 508 = .ok (.aload_n 1, 1) := by decide +kernel
theorem dL_law_509 : decode cL_law 509 = .ok (.aload_n 0, 1) := by decide +kernel
theorem dL_law_510 : decode cL_law 510 = .ok (.iload 4, 2) := by decide +kernel
theorem dL_law_512 : decode cL_law 512 = .ok (.iconst 1, 1) := by decide +kernel
theorem dL_law_513 : decode cL_law 513 = .ok (.iadd, 1) := by decide +kernel
theorem dL_law_514 : decode cL_law 514 = .ok (.iaload, 1) := by decide +kernel
theorem dL_law_515 : decode cL_law 515 = .ok (.aload_n 0, 1) := by decide +kernel
theorem dL_law_516 : decode cL_law 516 = .ok (.iload 4, 2) := by decide +kernel
theorem dL_law_518 : decode cL_law 518 = .ok (.iconst 2, 1) := by decide +kernel
theorem dL_law_519 : decode cL_law 519 = .ok (.iadd, 1) := by decide +kernel
theorem dL_law_520 : decode cL_law 520 = .ok (.iaload, 1) := by decide +kernel
theorem dL_law_521 : decode cL_law 521 = .ok (.invokestatic 156, 3) := by decide +kernel
theorem dL_law_524 : decode cL_law 524 = .ok (.istore 5, 2) := by decide +kernel
theorem dL_law_526 : decode cL_law 526 = .ok (.aload_n 2, 1) := by decide +kernel
theorem dL_law_527 : decode cL_law 527 = .ok (.aload_n 0, 1) := by decide +kernel
theorem dL_law_528 : decode cL_law 528 = .ok (.iload 4, 2) := by decide +kernel
theorem dL_law_530 : decode cL_law 530 = .ok (.iconst 1, 1) := by decide +kernel
theorem dL_law_531 : decode cL_law 531 = .ok (.iadd, 1) := by decide +kernel
theorem dL_law_532 : decode cL_law 532 = .ok (.iaload, 1) := by decide +kernel
theorem dL_law_533 : decode cL_law 533 = .ok (.aload_n 0, 1) := by decide +kernel
theorem dL_law_534 : decode cL_law 534 = .ok (.iload 4, 2) := by decide +kernel
theorem dL_law_536 : decode cL_law 536 = .ok (.iconst 2, 1) := by decide +kernel
theorem dL_law_537 : decode cL_law 537 = .ok (.iadd, 1) := by decide +kernel
theorem dL_law_538 : decode cL_law 538 = .ok (.iaload, 1) := by decide +kernel
theorem dL_law_539 : decode cL_law 539 = .ok (.invokevirtual 159, 3) := by decide +kernel
theorem dL_law_542 : decode cL_law 542 = .ok (.aload_n 2, 1) := by decide +kernel
theorem dL_law_543 : decode cL_law 543 = .ok (.invokevirtual 142, 3) := by decide +kernel
theorem dL_law_546 : decode cL_law 546 = .ok (.iload 5, 2) := by decide +kernel
theorem dL_law_548 : decode cL_law 548 = .ok (.if_icmp .eq 5, 3) := by decide +kernel
theorem dL_law_551 : decode cL_law 551 = .ok (.iconst 0, 1) := by decide +kernel
theorem dL_law_552 : decode cL_law 552 = .ok (.ireturn, 1) := by decide +kernel
theorem dL_law_553 : decode cL_law 553 = .ok (.goto 2040, 3) := by decide +kernel
theorem dL_law_556 : decode cL_law 556 = .ok (.aload_n 1, 1) := by decide +kernel
theorem dL_law_557 : decode cL_law 557 = .ok (.aload_n 0, 1) := by decide +kernel
theorem dL_law_558 : decode cL_law 558 = .ok (.iload 4, 2) := by decide +kernel
theorem dL_law_560 : decode cL_law 560 = .ok (.iconst 1, 1) := by decide +kernel
theorem dL_law_561 : decode cL_law 561 = .ok (.iadd, 1) := by decide +kernel
theorem dL_law_562 : decode cL_law 562 = .ok (.iaload, 1) := by decide +kernel
theorem dL_law_563 : decode cL_law 563 = .ok (.aload_n 3, 1) := by decide +kernel
theorem dL_law_564 : decode cL_law 564 = .ok (.invokestatic 160, 3) := by decide +kernel
theorem dL_law_567 : decode cL_law 567 = .ok (.istore 5, 2) := by decide +kernel
theorem dL_law_569 : decode cL_law 569 = .ok (.aload_n 2, 1) := by decide +kernel
theorem dL_law_570 : decode cL_law 570 = .ok (.aload_n 0, 1) := by decide +kernel
theorem dL_law_571 : decode cL_law 571 = .ok (.iload 4, 2) := by decide +kernel
theorem dL_law_573 : decode cL_law 573 = .ok (.iconst 1, 1) := by decide +kernel
theorem dL_law_574 : decode cL_law 574 = .ok (.iadd, 1) := by decide +kernel
theorem dL_law_575 : decode cL_law 575 = .ok (.iaload, 1) := by decide +kernel
theorem dL_law_576 : decode cL_law 576 = .ok (.invokevirtual 163, 3) := by decide +kernel
theorem dL_law_579 : decode cL_law 579 = .ok (.istore 6, 2) := by decide +kernel
theorem dL_law_581 : decode cL_law 581 = .ok (.aload_n 2, 1) := by decide +kernel
theorem dL_law_582 : decode cL_law 582 = .ok (.invokevirtual 142, 3) := by decide +kernel
theorem dL_law_585 : decode cL_law 585 = .ok (.iload 5, 2) := by decide +kernel
theorem dL_law_587 : decode cL_law 587 = .ok (.if_icmp .eq 5, 3) := by decide +kernel
theorem dL_law_590 : decode cL_law 590 = .ok (.iconst 0, 1) := by decide +kernel
theorem dL_law_591 : decode cL_law 591 = .ok (.ireturn, 1) := by decide +kernel
theorem dL_law_592 : decode cL_law 592 = .ok (.iload 5, 2) := by decide +kernel
theorem dL_law_594 : decode cL_law 594 = .ok (.ifCond .ne 15, 3) := by decide +kernel
theorem dL_law_597 : decode cL_law 597 = .ok (.aload_n 3, 1) := by decide +kernel
theorem dL_law_598 : decode cL_law 598 = .ok (.iconst 0, 1) := by decide +kernel
theorem dL_law_599 : decode cL_law 599 = .ok (.laload, 1) := by decide +kernel
theorem dL_law_600 : decode cL_law 600 = .ok (.iload 6, 2) := by decide +kernel
theorem dL_law_602 : decode cL_law 602 = .ok (.i2l, 1) := by decide +kernel
theorem dL_law_603 : decode cL_law 603 = .ok (.lcmp, 1) := by decide +kernel
theorem dL_law_604 : decode cL_law 604 = .ok (.ifCond .eq 5, 3) := by decide +kernel
theorem dL_law_607 : decode cL_law 607 = .ok (.iconst 0, 1) := by decide +kernel
theorem dL_law_608 : decode cL_law 608 = .ok (.ireturn, 1) := by decide +kernel
theorem dL_law_609 : decode cL_law 609 = .ok (.goto 1984, 3) := by decide +kernel
theorem dL_law_612 : decode cL_law 612 = .ok (.aload_n 1, 1) := by decide +kernel
theorem dL_law_613 : decode cL_law 613 = .ok (.aload_n 0, 1) := by decide +kernel
theorem dL_law_614 : decode cL_law 614 = .ok (.iload 4, 2) := by decide +kernel
theorem dL_law_616 : decode cL_law 616 = .ok (.iconst 1, 1) := by decide +kernel
theorem dL_law_617 : decode cL_law 617 = .ok (.iadd, 1) := by decide +kernel
theorem dL_law_618 : decode cL_law 618 = .ok (.iaload, 1) := by decide +kernel
theorem dL_law_619 : decode cL_law 619 = .ok (.aload_n 0, 1) := by decide +kernel
theorem dL_law_620 : decode cL_law 620 = .ok (.iload 4, 2) := by decide +kernel
theorem dL_law_622 : decode cL_law 622 = .ok (.iconst 2, 1) := by decide +kernel
theorem dL_law_623 : decode cL_law 623 = .ok (.iadd, 1) := by decide +kernel
theorem dL_law_624 : decode cL_law 624 = .ok (.iaload, 1) := by decide +kernel
theorem dL_law_625 : decode cL_law 625 = .ok (.aload_n 3, 1) := by decide +kernel
theorem dL_law_626 : decode cL_law 626 = .ok (.invokestatic 164, 3) := by decide +kernel
theorem dL_law_629 : decode cL_law 629 = .ok (.istore 5, 2) := by decide +kernel
theorem dL_law_631 : decode cL_law 631 = .ok (.aload_n 2, 1) := by decide +kernel
theorem dL_law_632 : decode cL_law 632 = .ok (.aload_n 0, 1) := by decide +kernel
theorem dL_law_633 : decode cL_law 633 = .ok (.iload 4, 2) := by decide +kernel
theorem dL_law_635 : decode cL_law 635 = .ok (.iconst 1, 1) := by decide +kernel
theorem dL_law_636 : decode cL_law 636 = .ok (.iadd, 1) := by decide +kernel
theorem dL_law_637 : decode cL_law 637 = .ok (.iaload, 1) := by decide +kernel
theorem dL_law_638 : decode cL_law 638 = .ok (.aload_n 0, 1) := by decide +kernel
theorem dL_law_639 : decode cL_law 639 = .ok (.iload 4, 2) := by decide +kernel
theorem dL_law_641 : decode cL_law 641 = .ok (.iconst 2, 1) := by decide +kernel
theorem dL_law_642 : decode cL_law 642 = .ok (.iadd, 1) := by decide +kernel
theorem dL_law_643 : decode cL_law 643 = .ok (.iaload, 1) := by decide +kernel
theorem dL_law_644 : decode cL_law 644 = .ok (.invokevirtual 167, 3) := by decide +kernel
theorem dL_law_647 : decode cL_law 647 = .ok (.istore 6, 2) := by decide +kernel
theorem dL_law_649 : decode cL_law 649 = .ok (.aload_n 2, 1) := by decide +kernel
theorem dL_law_650 : decode cL_law 650 = .ok (.invokevirtual 142, 3) := by decide +kernel
theorem dL_law_653 : decode cL_law 653 = .ok (.iload 5, 2) := by decide +kernel
theorem dL_law_655 : decode cL_law 655 = .ok (.if_icmp .eq 5, 3) := by decide +kernel
theorem dL_law_658 : decode cL_law 658 = .ok (.iconst 0, 1) := by decide +kernel
theorem dL_law_659 : decode cL_law 659 = .ok (.ireturn, 1) := by decide +kernel
theorem dL_law_660 : decode cL_law 660 = .ok (.iload 5, 2) := by decide +kernel
theorem dL_law_662 : decode cL_law 662 = .ok (.ifCond .ne 15, 3) := by decide +kernel
theorem dL_law_665 : decode cL_law 665 = .ok (.aload_n 3, 1) := by decide +kernel
theorem dL_law_666 : decode cL_law 666 = .ok (.iconst 0, 1) := by decide +kernel
theorem dL_law_667 : decode cL_law 667 = .ok (.laload, 1) := by decide +kernel
theorem dL_law_668 : decode cL_law 668 = .ok (.iload 6, 2) := by decide +kernel
theorem dL_law_670 : decode cL_law 670 = .ok (.i2l, 1) := by decide +kernel
theorem dL_law_671 : decode cL_law 671 = .ok (.lcmp, 1) := by decide +kernel
theorem dL_law_672 : decode cL_law 672 = .ok (.ifCond .eq 5, 3) := by decide +kernel
theorem dL_law_675 : decode cL_law 675 = .ok (.iconst 0, 1) := by decide +kernel
theorem dL_law_676 : decode cL_law 676 = .ok (.ireturn, 1) := by decide +kernel
theorem dL_law_677 : decode cL_law 677 = .ok (.goto 1916, 3) := by decide +kernel
theorem dL_law_680 : decode cL_law 680 = .ok (.aload_n 1, 1) := by decide +kernel
theorem dL_law_681 : decode cL_law 681 = .ok (.aload_n 0, 1) := by decide +kernel
theorem dL_law_682 : decode cL_law 682 = .ok (.iload 4, 2) := by decide +kernel
theorem dL_law_684 : decode cL_law 684 = .ok (.iconst 1, 1) := by decide +kernel
theorem dL_law_685 : decode cL_law 685 = .ok (.iadd, 1) := by decide +kernel
theorem dL_law_686 : decode cL_law 686 = .ok (.iaload, 1) := by decide +kernel
theorem dL_law_687 : decode cL_law 687 = .ok (.aload_n 0, 1) := by decide +kernel
theorem dL_law_688 : decode cL_law 688 = .ok (.iload 4, 2) := by decide +kernel
theorem dL_law_690 : decode cL_law 690 = .ok (.iconst 2, 1) := by decide +kernel
theorem dL_law_691 : decode cL_law 691 = .ok (.iadd, 1) := by decide +kernel
theorem dL_law_692 : decode cL_law 692 = .ok (.iaload, 1) := by decide +kernel
theorem dL_law_693 : decode cL_law 693 = .ok (.aload_n 3, 1) := by decide +kernel
theorem dL_law_694 : decode cL_law 694 = .ok (.invokestatic 168, 3) := by decide +kernel
theorem dL_law_697 : decode cL_law 697 = .ok (.istore 5, 2) := by decide +kernel
theorem dL_law_699 : decode cL_law 699 = .ok (.aload_n 2, 1) := by decide +kernel
theorem dL_law_700 : decode cL_law 700 = .ok (.aload_n 0, 1) := by decide +kernel
theorem dL_law_701 : decode cL_law 701 = .ok (.iload 4, 2) := by decide +kernel
theorem dL_law_703 : decode cL_law 703 = .ok (.iconst 1, 1) := by decide +kernel
theorem dL_law_704 : decode cL_law 704 = .ok (.iadd, 1) := by decide +kernel
theorem dL_law_705 : decode cL_law 705 = .ok (.iaload, 1) := by decide +kernel
theorem dL_law_706 : decode cL_law 706 = .ok (.aload_n 0, 1) := by decide +kernel
theorem dL_law_707 : decode cL_law 707 = .ok (.iload 4, 2) := by decide +kernel
theorem dL_law_709 : decode cL_law 709 = .ok (.iconst 2, 1) := by decide +kernel
theorem dL_law_710 : decode cL_law 710 = .ok (.iadd, 1) := by decide +kernel
theorem dL_law_711 : decode cL_law 711 = .ok (.iaload, 1) := by decide +kernel
theorem dL_law_712 : decode cL_law 712 = .ok (.invokevirtual 170, 3) := by decide +kernel
theorem dL_law_715 : decode cL_law 715 = .ok (.istore 6, 2) := by decide +kernel
theorem dL_law_717 : decode cL_law 717 = .ok (.aload_n 2, 1) := by decide +kernel
theorem dL_law_718 : decode cL_law 718 = .ok (.invokevirtual 142, 3) := by decide +kernel
theorem dL_law_721 : decode cL_law 721 = .ok (.iload 5, 2) := by decide +kernel
theorem dL_law_723 : decode cL_law 723 = .ok (.if_icmp .eq 5, 3) := by decide +kernel
theorem dL_law_726 : decode cL_law 726 = .ok (.iconst 0, 1) := by decide +kernel
theorem dL_law_727 : decode cL_law 727 = .ok (.ireturn, 1) := by decide +kernel
theorem dL_law_728 : decode cL_law 728 = .ok (.iload 5, 2) := by decide +kernel
theorem dL_law_730 : decode cL_law 730 = .ok (.ifCond .ne 22, 3) := by decide +kernel
theorem dL_law_733 : decode cL_law 733 = .ok (.aload_n 3, 1) := by decide +kernel
theorem dL_law_734 : decode cL_law 734 = .ok (.iconst 0, 1) := by decide +kernel
theorem dL_law_735 : decode cL_law 735 = .ok (.laload, 1) := by decide +kernel
theorem dL_law_736 : decode cL_law 736 = .ok (.iload 6, 2) := by decide +kernel
theorem dL_law_738 : decode cL_law 738 = .ok (.ifCond .eq 7, 3) := by decide +kernel
theorem dL_law_741 : decode cL_law 741 = .ok (.lconst 1, 1) := by decide +kernel
theorem dL_law_742 : decode cL_law 742 = .ok (.goto 4, 3) := by decide +kernel
theorem dL_law_745 : decode cL_law 745 = .ok (.lconst 0, 1) := by decide +kernel
theorem dL_law_746 : decode cL_law 746 = .ok (.lcmp, 1) := by decide +kernel
theorem dL_law_747 : decode cL_law 747 = .ok (.ifCond .eq 5, 3) := by decide +kernel
theorem dL_law_750 : decode cL_law 750 = .ok (.iconst 0, 1) := by decide +kernel
theorem dL_law_751 : decode cL_law 751 = .ok (.ireturn, 1) := by decide +kernel
theorem dL_law_752 : decode cL_law 752 = .ok (.goto 1841, 3) := by decide +kernel
theorem dL_law_755 : decode cL_law 755 = .ok (.aload_n 1, 1) := by decide +kernel
theorem dL_law_756 : decode cL_law 756 = .ok (.aload_n 0, 1) := by decide +kernel
theorem dL_law_757 : decode cL_law 757 = .ok (.iload 4, 2) := by decide +kernel
theorem dL_law_759 : decode cL_law 759 = .ok (.iconst 1, 1) := by decide +kernel
theorem dL_law_760 : decode cL_law 760 = .ok (.iadd, 1) := by decide +kernel
theorem dL_law_761 : decode cL_law 761 = .ok (.iaload, 1) := by decide +kernel
theorem dL_law_762 : decode cL_law 762 = .ok (.aload_n 0, 1) := by decide +kernel
theorem dL_law_763 : decode cL_law 763 = .ok (.iload 4, 2) := by decide +kernel
theorem dL_law_765 : decode cL_law 765 = .ok (.iconst 2, 1) := by decide +kernel
theorem dL_law_766 : decode cL_law 766 = .ok (.iadd, 1) := by decide +kernel
theorem dL_law_767 : decode cL_law 767 = .ok (.iaload, 1) := by decide +kernel
theorem dL_law_768 : decode cL_law 768 = .ok (.aload_n 0, 1) := by decide +kernel
theorem dL_law_769 : decode cL_law 769 = .ok (.iload 4, 2) := by decide +kernel
theorem dL_law_771 : decode cL_law 771 = .ok (.iconst 3, 1) := by decide +kernel
theorem dL_law_772 : decode cL_law 772 = .ok (.iadd, 1) := by decide +kernel
theorem dL_law_773 : decode cL_law 773 = .ok (.iaload, 1) := by decide +kernel
theorem dL_law_774 : decode cL_law 774 = .ok (.aload_n 0, 1) := by decide +kernel
theorem dL_law_775 : decode cL_law 775 = .ok (.iload 4, 2) := by decide +kernel
theorem dL_law_777 : decode cL_law 777 = .ok (.iconst 4, 1) := by decide +kernel
theorem dL_law_778 : decode cL_law 778 = .ok (.iadd, 1) := by decide +kernel
theorem dL_law_779 : decode cL_law 779 = .ok (.iaload, 1) := by decide +kernel
theorem dL_law_780 : decode cL_law 780 = .ok (.aload_n 3, 1) := by decide +kernel
theorem dL_law_781 : decode cL_law 781 = .ok (.invokestatic 171, 3) := by decide +kernel
theorem dL_law_784 : decode cL_law 784 = .ok (.istore 5, 2) := by decide +kernel
theorem dL_law_786 : decode cL_law 786 = .ok (.aload_n 2, 1) := by decide +kernel
theorem dL_law_787 : decode cL_law 787 = .ok (.aload_n 0, 1) := by decide +kernel
theorem dL_law_788 : decode cL_law 788 = .ok (.iload 4, 2) := by decide +kernel
theorem dL_law_790 : decode cL_law 790 = .ok (.iconst 1, 1) := by decide +kernel
theorem dL_law_791 : decode cL_law 791 = .ok (.iadd, 1) := by decide +kernel
theorem dL_law_792 : decode cL_law 792 = .ok (.iaload, 1) := by decide +kernel
theorem dL_law_793 : decode cL_law 793 = .ok (.aload_n 0, 1) := by decide +kernel
theorem dL_law_794 : decode cL_law 794 = .ok (.iload 4, 2) := by decide +kernel
theorem dL_law_796 : decode cL_law 796 = .ok (.iconst 2, 1) := by decide +kernel
theorem dL_law_797 : decode cL_law 797 = .ok (.iadd, 1) := by decide +kernel
theorem dL_law_798 : decode cL_law 798 = .ok (.iaload, 1) := by decide +kernel
theorem dL_law_799 : decode cL_law 799 = .ok (.aload_n 0, 1) := by decide +kernel
theorem dL_law_800 : decode cL_law 800 = .ok (.iload 4, 2) := by decide +kernel
theorem dL_law_802 : decode cL_law 802 = .ok (.iconst 3, 1) := by decide +kernel
theorem dL_law_803 : decode cL_law 803 = .ok (.iadd, 1) := by decide +kernel
theorem dL_law_804 : decode cL_law 804 = .ok (.iaload, 1) := by decide +kernel
theorem dL_law_805 : decode cL_law 805 = .ok (.aload_n 0, 1) := by decide +kernel
theorem dL_law_806 : decode cL_law 806 = .ok (.iload 4, 2) := by decide +kernel
theorem dL_law_808 : decode cL_law 808 = .ok (.iconst 4, 1) := by decide +kernel
theorem dL_law_809 : decode cL_law 809 = .ok (.iadd, 1) := by decide +kernel
theorem dL_law_810 : decode cL_law 810 = .ok (.iaload, 1) := by decide +kernel
theorem dL_law_811 : decode cL_law 811 = .ok (.invokevirtual 173, 3) := by decide +kernel
theorem dL_law_814 : decode cL_law 814 = .ok (.istore 6, 2) := by decide +kernel
theorem dL_law_816 : decode cL_law 816 = .ok (.aload_n 2, 1) := by decide +kernel
theorem dL_law_817 : decode cL_law 817 = .ok (.invokevirtual 142, 3) := by decide +kernel
theorem dL_law_820 : decode cL_law 820 = .ok (.iload 5, 2) := by decide +kernel
theorem dL_law_822 : decode cL_law 822 = .ok (.if_icmp .eq 5, 3) := by decide +kernel
theorem dL_law_825 : decode cL_law 825 = .ok (.iconst 0, 1) := by decide +kernel
theorem dL_law_826 : decode cL_law 826 = .ok (.ireturn, 1) := by decide +kernel
theorem dL_law_827 : decode cL_law 827 = .ok (.iload 5, 2) := by decide +kernel
theorem dL_law_829 : decode cL_law 829 = .ok (.ifCond .ne 15, 3) := by decide +kernel
theorem dL_law_832 : decode cL_law 832 = .ok (.aload_n 3, 1) := by decide +kernel
theorem dL_law_833 : decode cL_law 833 = .ok (.iconst 0, 1) := by decide +kernel
theorem dL_law_834 : decode cL_law 834 = .ok (.laload, 1) := by decide +kernel
theorem dL_law_835 : decode cL_law 835 = .ok (.iload 6, 2) := by decide +kernel
theorem dL_law_837 : decode cL_law 837 = .ok (.i2l, 1) := by decide +kernel
theorem dL_law_838 : decode cL_law 838 = .ok (.lcmp, 1) := by decide +kernel
theorem dL_law_839 : decode cL_law 839 = .ok (.ifCond .eq 5, 3) := by decide +kernel
theorem dL_law_842 : decode cL_law 842 = .ok (.iconst 0, 1) := by decide +kernel
theorem dL_law_843 : decode cL_law 843 = .ok (.ireturn, 1) := by decide +kernel
theorem dL_law_844 : decode cL_law 844 = .ok (.goto 1749, 3) := by decide +kernel
theorem dL_law_847 : decode cL_law 847 = .ok (.aload_n 1, 1) := by decide +kernel
theorem dL_law_848 : decode cL_law 848 = .ok (.aload_n 0, 1) := by decide +kernel
theorem dL_law_849 : decode cL_law 849 = .ok (.iload 4, 2) := by decide +kernel
theorem dL_law_851 : decode cL_law 851 = .ok (.iconst 1, 1) := by decide +kernel
theorem dL_law_852 : decode cL_law 852 = .ok (.iadd, 1) := by decide +kernel
theorem dL_law_853 : decode cL_law 853 = .ok (.iaload, 1) := by decide +kernel
theorem dL_law_854 : decode cL_law 854 = .ok (.aload_n 3, 1) := by decide +kernel
theorem dL_law_855 : decode cL_law 855 = .ok (.invokestatic 174, 3) := by decide +kernel
theorem dL_law_858 : decode cL_law 858 = .ok (.istore 5, 2) := by decide +kernel
theorem dL_law_860 : decode cL_law 860 = .ok (.aload_n 2, 1) := by decide +kernel
theorem dL_law_861 : decode cL_law 861 = .ok (.aload_n 0, 1) := by decide +kernel
theorem dL_law_862 : decode cL_law 862 = .ok (.iload 4, 2) := by decide +kernel
theorem dL_law_864 : decode cL_law 864 = .ok (.iconst 1, 1) := by decide +kernel
theorem dL_law_865 : decode cL_law 865 = .ok (.iadd, 1) := by decide +kernel
theorem dL_law_866 : decode cL_law 866 = .ok (.iaload, 1) := by decide +kernel
theorem dL_law_867 : decode cL_law 867 = .ok (.invokevirtual 176, 3) := by decide +kernel
theorem dL_law_870 : decode cL_law 870 = .ok (.istore 6, 2) := by decide +kernel
theorem dL_law_872 : decode cL_law 872 = .ok (.aload_n 2, 1) := by decide +kernel
theorem dL_law_873 : decode cL_law 873 = .ok (.invokevirtual 142, 3) := by decide +kernel
theorem dL_law_876 : decode cL_law 876 = .ok (.iload 5, 2) := by decide +kernel
theorem dL_law_878 : decode cL_law 878 = .ok (.if_icmp .eq 5, 3) := by decide +kernel
theorem dL_law_881 : decode cL_law 881 = .ok (.iconst 0, 1) := by decide +kernel
theorem dL_law_882 : decode cL_law 882 = .ok (.ireturn, 1) := by decide +kernel
theorem dL_law_883 : decode cL_law 883 = .ok (.iload 5, 2) := by decide +kernel
theorem dL_law_885 : decode cL_law 885 = .ok (.ifCond .ne 15, 3) := by decide +kernel
theorem dL_law_888 : decode cL_law 888 = .ok (.aload_n 3, 1) := by decide +kernel
theorem dL_law_889 : decode cL_law 889 = .ok (.iconst 0, 1) := by decide +kernel
theorem dL_law_890 : decode cL_law 890 = .ok (.laload, 1) := by decide +kernel
theorem dL_law_891 : decode cL_law 891 = .ok (.iload 6, 2) := by decide +kernel
theorem dL_law_893 : decode cL_law 893 = .ok (.i2l, 1) := by decide +kernel
theorem dL_law_894 : decode cL_law 894 = .ok (.lcmp, 1) := by decide +kernel
theorem dL_law_895 : decode cL_law 895 = .ok (.ifCond .eq 5, 3) := by decide +kernel
theorem dL_law_898 : decode cL_law 898 = .ok (.iconst 0, 1) := by decide +kernel
theorem dL_law_899 : decode cL_law 899 = .ok (.ireturn, 1) := by decide +kernel
theorem dL_law_900 : decode cL_law 900 = .ok (.goto 1693, 3) := by decide +kernel
theorem dL_law_903 : decode cL_law 903 = .ok (.aload_n 1, 1) := by decide +kernel
theorem dL_law_904 : decode cL_law 904 = .ok (.aload_n 0, 1) := by decide +kernel
theorem dL_law_905 : decode cL_law 905 = .ok (.iload 4, 2) := by decide +kernel
theorem dL_law_907 : decode cL_law 907 = .ok (.iconst 1, 1) := by decide +kernel
theorem dL_law_908 : decode cL_law 908 = .ok (.iadd, 1) := by decide +kernel
theorem dL_law_909 : decode cL_law 909 = .ok (.iaload, 1) := by decide +kernel
theorem dL_law_910 : decode cL_law 910 = .ok (.aload_n 0, 1) := by decide +kernel
theorem dL_law_911 : decode cL_law 911 = .ok (.iload 4, 2) := by decide +kernel
theorem dL_law_913 : decode cL_law 913 = .ok (.iconst 2, 1) := by decide +kernel
theorem dL_law_914 : decode cL_law 914 = .ok (.iadd, 1) := by decide +kernel
theorem dL_law_915 : decode cL_law 915 = .ok (.iaload, 1) := by decide +kernel
theorem dL_law_916 : decode cL_law 916 = .ok (.aload_n 3, 1) := by decide +kernel
theorem dL_law_917 : decode cL_law 917 = .ok (.invokestatic 177, 3) := by decide +kernel
theorem dL_law_920 : decode cL_law 920 = .ok (.istore 5, 2) := by decide +kernel
theorem dL_law_922 : decode cL_law 922 = .ok (.aload_n 2, 1) := by decide +kernel
theorem dL_law_923 : decode cL_law 923 = .ok (.aload_n 0, 1) := by decide +kernel
theorem dL_law_924 : decode cL_law 924 = .ok (.iload 4, 2) := by decide +kernel
theorem dL_law_926 : decode cL_law 926 = .ok (.iconst 1, 1) := by decide +kernel
theorem dL_law_927 : decode cL_law 927 = .ok (.iadd, 1) := by decide +kernel
theorem dL_law_928 : decode cL_law 928 = .ok (.iaload, 1) := by decide +kernel
theorem dL_law_929 : decode cL_law 929 = .ok (.aload_n 0, 1) := by decide +kernel
theorem dL_law_930 : decode cL_law 930 = .ok (.iload 4, 2) := by decide +kernel
theorem dL_law_932 : decode cL_law 932 = .ok (.iconst 2, 1) := by decide +kernel
theorem dL_law_933 : decode cL_law 933 = .ok (.iadd, 1) := by decide +kernel
theorem dL_law_934 : decode cL_law 934 = .ok (.iaload, 1) := by decide +kernel
theorem dL_law_935 : decode cL_law 935 = .ok (.invokevirtual 179, 3) := by decide +kernel
theorem dL_law_938 : decode cL_law 938 = .ok (.istore 6, 2) := by decide +kernel
theorem dL_law_940 : decode cL_law 940 = .ok (.aload_n 2, 1) := by decide +kernel
theorem dL_law_941 : decode cL_law 941 = .ok (.invokevirtual 142, 3) := by decide +kernel
theorem dL_law_944 : decode cL_law 944 = .ok (.iload 5, 2) := by decide +kernel
theorem dL_law_946 : decode cL_law 946 = .ok (.if_icmp .eq 5, 3) := by decide +kernel
theorem dL_law_949 : decode cL_law 949 = .ok (.iconst 0, 1) := by decide +kernel
theorem dL_law_950 : decode cL_law 950 = .ok (.ireturn, 1) := by decide +kernel
theorem dL_law_951 : decode cL_law 951 = .ok (.iload 5, 2) := by decide +kernel
theorem dL_law_953 : decode cL_law 953 = .ok (.ifCond .ne 15, 3) := by decide +kernel
theorem dL_law_956 : decode cL_law 956 = .ok (.aload_n 3, 1) := by decide +kernel
theorem dL_law_957 : decode cL_law 957 = .ok (.iconst 0, 1) := by decide +kernel
theorem dL_law_958 : decode cL_law 958 = .ok (.laload, 1) := by decide +kernel
theorem dL_law_959 : decode cL_law 959 = .ok (.iload 6, 2) := by decide +kernel
theorem dL_law_961 : decode cL_law 961 = .ok (.i2l, 1) := by decide +kernel
theorem dL_law_962 : decode cL_law 962 = .ok (.lcmp, 1) := by decide +kernel
theorem dL_law_963 : decode cL_law 963 = .ok (.ifCond .eq 5, 3) := by decide +kernel
theorem dL_law_966 : decode cL_law 966 = .ok (.iconst 0, 1) := by decide +kernel
theorem dL_law_967 : decode cL_law 967 = .ok (.ireturn, 1) := by decide +kernel
theorem dL_law_968 : decode cL_law 968 = .ok (.goto 1625, 3) := by decide +kernel
theorem dL_law_971 : decode cL_law 971 = .ok (.aload_n 1, 1) := by decide +kernel
theorem dL_law_972 : decode cL_law 972 = .ok (.aload_n 0, 1) := by decide +kernel
theorem dL_law_973 : decode cL_law 973 = .ok (.iload 4, 2) := by decide +kernel
theorem dL_law_975 : decode cL_law 975 = .ok (.iconst 1, 1) := by decide +kernel
theorem dL_law_976 : decode cL_law 976 = .ok (.iadd, 1) := by decide +kernel
theorem dL_law_977 : decode cL_law 977 = .ok (.iaload, 1) := by decide +kernel
theorem dL_law_978 : decode cL_law 978 = .ok (.aload_n 0, 1) := by decide +kernel
theorem dL_law_979 : decode cL_law 979 = .ok (.iload 4, 2) := by decide +kernel
theorem dL_law_981 : decode cL_law 981 = .ok (.iconst 2, 1) := by decide +kernel
theorem dL_law_982 : decode cL_law 982 = .ok (.iadd, 1) := by decide +kernel
theorem dL_law_983 : decode cL_law 983 = .ok (.iaload, 1) := by decide +kernel
theorem dL_law_984 : decode cL_law 984 = .ok (.aload_n 3, 1) := by decide +kernel
theorem dL_law_985 : decode cL_law 985 = .ok (.invokestatic 180, 3) := by decide +kernel
theorem dL_law_988 : decode cL_law 988 = .ok (.istore 5, 2) := by decide +kernel
theorem dL_law_990 : decode cL_law 990 = .ok (.aload_n 2, 1) := by decide +kernel
theorem dL_law_991 : decode cL_law 991 = .ok (.aload_n 0, 1) := by decide +kernel
theorem dL_law_992 : decode cL_law 992 = .ok (.iload 4, 2) := by decide +kernel
theorem dL_law_994 : decode cL_law 994 = .ok (.iconst 1, 1) := by decide +kernel
theorem dL_law_995 : decode cL_law 995 = .ok (.iadd, 1) := by decide +kernel
theorem dL_law_996 : decode cL_law 996 = .ok (.iaload, 1) := by decide +kernel
theorem dL_law_997 : decode cL_law 997 = .ok (.aload_n 0, 1) := by decide +kernel
theorem dL_law_998 : decode cL_law 998 = .ok (.iload 4, 2) := by decide +kernel
theorem dL_law_1000 : decode cL_law 1000 = .ok (.iconst 2, 1) := by decide +kernel
theorem dL_law_1001 : decode cL_law 1001 = .ok (.iadd, 1) := by decide +kernel
theorem dL_law_1002 : decode cL_law 1002 = .ok (.iaload, 1) := by decide +kernel
theorem dL_law_1003 : decode cL_law 1003 = .ok (.invokevirtual 182, 3) := by decide +kernel
theorem dL_law_1006 : decode cL_law 1006 = .ok (.lstore 6, 2) := by decide +kernel
theorem dL_law_1008 : decode cL_law 1008 = .ok (.aload_n 2, 1) := by decide +kernel
theorem dL_law_1009 : decode cL_law 1009 = .ok (.invokevirtual 142, 3) := by decide +kernel
theorem dL_law_1012 : decode cL_law 1012 = .ok (.iload 5, 2) := by decide +kernel
theorem dL_law_1014 : decode cL_law 1014 = .ok (.if_icmp .eq 5, 3) := by decide +kernel
theorem dL_law_1017 : decode cL_law 1017 = .ok (.iconst 0, 1) := by decide +kernel
theorem dL_law_1018 : decode cL_law 1018 = .ok (.ireturn, 1) := by decide +kernel
theorem dL_law_1019 : decode cL_law 1019 = .ok (.iload 5, 2) := by decide +kernel
theorem dL_law_1021 : decode cL_law 1021 = .ok (.ifCond .ne 14, 3) := by decide +kernel
theorem dL_law_1024 : decode cL_law 1024 = .ok (.aload_n 3, 1) := by decide +kernel
theorem dL_law_1025 : decode cL_law 1025 = .ok (.iconst 0, 1) := by decide +kernel
theorem dL_law_1026 : decode cL_law 1026 = .ok (.laload, 1) := by decide +kernel
theorem dL_law_1027 : decode cL_law 1027 = .ok (.lload 6, 2) := by decide +kernel
theorem dL_law_1029 : decode cL_law 1029 = .ok (.lcmp, 1) := by decide +kernel
theorem dL_law_1030 : decode cL_law 1030 = .ok (.ifCond .eq 5, 3) := by decide +kernel
theorem dL_law_1033 : decode cL_law 1033 = .ok (.iconst 0, 1) := by decide +kernel
theorem dL_law_1034 : decode cL_law 1034 = .ok (.ireturn, 1) := by decide +kernel
theorem dL_law_1035 : decode cL_law 1035 = .ok (.goto 1558, 3) := by decide +kernel
theorem dL_law_1038 : decode cL_law 1038 = .ok (.aload_n 1, 1) := by decide +kernel
theorem dL_law_1039 : decode cL_law 1039 = .ok (.aload_n 0, 1) := by decide +kernel
theorem dL_law_1040 : decode cL_law 1040 = .ok (.iload 4, 2) := by decide +kernel
theorem dL_law_1042 : decode cL_law 1042 = .ok (.iconst 1, 1) := by decide +kernel
theorem dL_law_1043 : decode cL_law 1043 = .ok (.iadd, 1) := by decide +kernel
theorem dL_law_1044 : decode cL_law 1044 = .ok (.iaload, 1) := by decide +kernel
theorem dL_law_1045 : decode cL_law 1045 = .ok (.aload_n 0, 1) := by decide +kernel
theorem dL_law_1046 : decode cL_law 1046 = .ok (.iload 4, 2) := by decide +kernel
theorem dL_law_1048 : decode cL_law 1048 = .ok (.iconst 2, 1) := by decide +kernel
theorem dL_law_1049 : decode cL_law 1049 = .ok (.iadd, 1) := by decide +kernel
theorem dL_law_1050 : decode cL_law 1050 = .ok (.iaload, 1) := by decide +kernel
theorem dL_law_1051 : decode cL_law 1051 = .ok (.aload_n 0, 1) := by decide +kernel
theorem dL_law_1052 : decode cL_law 1052 = .ok (.iload 4, 2) := by decide +kernel
theorem dL_law_1054 : decode cL_law 1054 = .ok (.iconst 3, 1) := by decide +kernel
theorem dL_law_1055 : decode cL_law 1055 = .ok (.iadd, 1) := by decide +kernel
theorem dL_law_1056 : decode cL_law 1056 = .ok (.iaload, 1) := by decide +kernel
theorem dL_law_1057 : decode cL_law 1057 = .ok (.aload_n 3, 1) := by decide +kernel
theorem dL_law_1058 : decode cL_law 1058 = .ok (.invokestatic 183, 3) := by decide +kernel
theorem dL_law_1061 : decode cL_law 1061 = .ok (.istore 5, 2) := by decide +kernel
theorem dL_law_1063 : decode cL_law 1063 = .ok (.aload_n 2, 1) := by decide +kernel
theorem dL_law_1064 : decode cL_law 1064 = .ok (.aload_n 0, 1) := by decide +kernel
theorem dL_law_1065 : decode cL_law 1065 = .ok (.iload 4, 2) := by decide +kernel
theorem dL_law_1067 : decode cL_law 1067 = .ok (.iconst 1, 1) := by decide +kernel
theorem dL_law_1068 : decode cL_law 1068 = .ok (.iadd, 1) := by decide +kernel
theorem dL_law_1069 : decode cL_law 1069 = .ok (.iaload, 1) := by decide +kernel
theorem dL_law_1070 : decode cL_law 1070 = .ok (.aload_n 0, 1) := by decide +kernel
theorem dL_law_1071 : decode cL_law 1071 = .ok (.iload 4, 2) := by decide +kernel
theorem dL_law_1073 : decode cL_law 1073 = .ok (.iconst 2, 1) := by decide +kernel
theorem dL_law_1074 : decode cL_law 1074 = .ok (.iadd, 1) := by decide +kernel
theorem dL_law_1075 : decode cL_law 1075 = .ok (.iaload, 1) := by decide +kernel
theorem dL_law_1076 : decode cL_law 1076 = .ok (.aload_n 0, 1) := by decide +kernel
theorem dL_law_1077 : decode cL_law 1077 = .ok (.iload 4, 2) := by decide +kernel
theorem dL_law_1079 : decode cL_law 1079 = .ok (.iconst 3, 1) := by decide +kernel
theorem dL_law_1080 : decode cL_law 1080 = .ok (.iadd, 1) := by decide +kernel
theorem dL_law_1081 : decode cL_law 1081 = .ok (.iaload, 1) := by decide +kernel
theorem dL_law_1082 : decode cL_law 1082 = .ok (.invokevirtual 185, 3) := by decide +kernel
theorem dL_law_1085 : decode cL_law 1085 = .ok (.istore 6, 2) := by decide +kernel
theorem dL_law_1087 : decode cL_law 1087 = .ok (.aload_n 2, 1) := by decide +kernel
theorem dL_law_1088 : decode cL_law 1088 = .ok (.invokevirtual 142, 3) := by decide +kernel
theorem dL_law_1091 : decode cL_law 1091 = .ok (.iload 5, 2) := by decide +kernel
theorem dL_law_1093 : decode cL_law 1093 = .ok (.if_icmp .eq 5, 3) := by decide +kernel
theorem dL_law_1096 : decode cL_law 1096 = .ok (.iconst 0, 1) := by decide +kernel
theorem dL_law_1097 : decode cL_law 1097 = .ok (.ireturn, 1) := by decide +kernel
theorem dL_law_1098 : decode cL_law 1098 = .ok (.iload 5, 2) := by decide +kernel
theorem dL_law_1100 : decode cL_law 1100 = .ok (.ifCond .ne 15, 3) := by decide +kernel
theorem dL_law_1103 : decode cL_law 1103 = .ok (.aload_n 3, 1) := by decide +kernel
theorem dL_law_1104 : decode cL_law 1104 = .ok (.iconst 0, 1) := by decide +kernel
theorem dL_law_1105 : decode cL_law 1105 = .ok (.laload, 1) := by decide +kernel
theorem dL_law_1106 : decode cL_law 1106 = .ok (.iload 6, 2) := by decide +kernel
theorem dL_law_1108 : decode cL_law 1108 = .ok (.i2l, 1) := by decide +kernel
theorem dL_law_1109 : decode cL_law 1109 = .ok (.lcmp, 1) := by decide +kernel
theorem dL_law_1110 : decode cL_law 1110 = .ok (.ifCond .eq 5, 3) := by decide +kernel
theorem dL_law_1113 : decode cL_law 1113 = .ok (.iconst 0, 1) := by decide +kernel
theorem dL_law_1114 : decode cL_law 1114 = .ok (.ireturn, 1) := by decide +kernel
theorem dL_law_1115 : decode cL_law 1115 = .ok (.goto 1478, 3) := by decide +kernel
theorem dL_law_1118 : decode cL_law 1118 = .ok (.aload_n 1, 1) := by decide +kernel
theorem dL_law_1119 : decode cL_law 1119 = .ok (.aload_n 0, 1) := by decide +kernel
theorem dL_law_1120 : decode cL_law 1120 = .ok (.iload 4, 2) := by decide +kernel
theorem dL_law_1122 : decode cL_law 1122 = .ok (.iconst 1, 1) := by decide +kernel
theorem dL_law_1123 : decode cL_law 1123 = .ok (.iadd, 1) := by decide +kernel
theorem dL_law_1124 : decode cL_law 1124 = .ok (.iaload, 1) := by decide +kernel
theorem dL_law_1125 : decode cL_law 1125 = .ok (.aload_n 3, 1) := by decide +kernel
theorem dL_law_1126 : decode cL_law 1126 = .ok (.invokestatic 186, 3) := by decide +kernel
theorem dL_law_1129 : decode cL_law 1129 = .ok (.istore 5, 2) := by decide +kernel
theorem dL_law_1131 : decode cL_law 1131 = .ok (.aload_n 2, 1) := by decide +kernel
theorem dL_law_1132 : decode cL_law 1132 = .ok (.aload_n 0, 1) := by decide +kernel
theorem dL_law_1133 : decode cL_law 1133 = .ok (.iload 4, 2) := by decide +kernel
theorem dL_law_1135 : decode cL_law 1135 = .ok (.iconst 1, 1) := by decide +kernel
theorem dL_law_1136 : decode cL_law 1136 = .ok (.iadd, 1) := by decide +kernel
theorem dL_law_1137 : decode cL_law 1137 = .ok (.iaload, 1) := by decide +kernel
theorem dL_law_1138 : decode cL_law 1138 = .ok (.invokevirtual 188, 3) := by decide +kernel
theorem dL_law_1141 : decode cL_law 1141 = .ok (.istore 6, 2) := by decide +kernel
theorem dL_law_1143 : decode cL_law 1143 = .ok (.aload_n 2, 1) := by decide +kernel
theorem dL_law_1144 : decode cL_law 1144 = .ok (.invokevirtual 142, 3) := by decide +kernel
theorem dL_law_1147 : decode cL_law 1147 = .ok (.iload 5, 2) := by decide +kernel
theorem dL_law_1149 : decode cL_law 1149 = .ok (.if_icmp .eq 5, 3) := by decide +kernel
theorem dL_law_1152 : decode cL_law 1152 = .ok (.iconst 0, 1) := by decide +kernel
theorem dL_law_1153 : decode cL_law 1153 = .ok (.ireturn, 1) := by decide +kernel
theorem dL_law_1154 : decode cL_law 1154 = .ok (.iload 5, 2) := by decide +kernel
theorem dL_law_1156 : decode cL_law 1156 = .ok (.ifCond .ne 15, 3) := by decide +kernel
theorem dL_law_1159 : decode cL_law 1159 = .ok (.aload_n 3, 1) := by decide +kernel
theorem dL_law_1160 : decode cL_law 1160 = .ok (.iconst 0, 1) := by decide +kernel
theorem dL_law_1161 : decode cL_law 1161 = .ok (.laload, 1) := by decide +kernel
theorem dL_law_1162 : decode cL_law 1162 = .ok (.iload 6, 2) := by decide +kernel
theorem dL_law_1164 : decode cL_law 1164 = .ok (.i2l, 1) := by decide +kernel
theorem dL_law_1165 : decode cL_law 1165 = .ok (.lcmp, 1) := by decide +kernel
theorem dL_law_1166 : decode cL_law 1166 = .ok (.ifCond .eq 5, 3) := by decide +kernel
theorem dL_law_1169 : decode cL_law 1169 = .ok (.iconst 0, 1) := by decide +kernel
theorem dL_law_1170 : decode cL_law 1170 = .ok (.ireturn, 1) := by decide +kernel
theorem dL_law_1171 : decode cL_law 1171 = .ok (.goto 1422, 3) := by decide +kernel
theorem dL_law_1174 : decode cL_law 1174 = .ok (.aload_n 1, 1) := by decide +kernel
theorem dL_law_1175 : decode cL_law 1175 = .ok (.aload_n 0, 1) := by decide +kernel
theorem dL_law_1176 : decode cL_law 1176 = .ok (.iload 4, 2) := by decide +kernel
theorem dL_law_1178 : decode cL_law 1178 = .ok (.iconst 1, 1) := by decide +kernel
theorem dL_law_1179 : decode cL_law 1179 = .ok (.iadd, 1) := by decide +kernel
theorem dL_law_1180 : decode cL_law 1180 = .ok (.iaload, 1) := by decide +kernel
theorem dL_law_1181 : decode cL_law 1181 = .ok (.aload_n 0, 1) := by decide +kernel
theorem dL_law_1182 : decode cL_law 1182 = .ok (.iload 4, 2) := by decide +kernel
theorem dL_law_1184 : decode cL_law 1184 = .ok (.iconst 2, 1) := by decide +kernel
theorem dL_law_1185 : decode cL_law 1185 = .ok (.iadd, 1) := by decide +kernel
theorem dL_law_1186 : decode cL_law 1186 = .ok (.iaload, 1) := by decide +kernel
theorem dL_law_1187 : decode cL_law 1187 = .ok (.aload_n 3, 1) := by decide +kernel
theorem dL_law_1188 : decode cL_law 1188 = .ok (.invokestatic 189, 3) := by decide +kernel
theorem dL_law_1191 : decode cL_law 1191 = .ok (.istore 5, 2) := by decide +kernel
theorem dL_law_1193 : decode cL_law 1193 = .ok (.aload_n 2, 1) := by decide +kernel
theorem dL_law_1194 : decode cL_law 1194 = .ok (.aload_n 0, 1) := by decide +kernel
theorem dL_law_1195 : decode cL_law 1195 = .ok (.iload 4, 2) := by decide +kernel
theorem dL_law_1197 : decode cL_law 1197 = .ok (.iconst 1, 1) := by decide +kernel
theorem dL_law_1198 : decode cL_law 1198 = .ok (.iadd, 1) := by decide +kernel
theorem dL_law_1199 : decode cL_law 1199 = .ok (.iaload, 1) := by decide +kernel
theorem dL_law_1200 : decode cL_law 1200 = .ok (.aload_n 0, 1) := by decide +kernel
theorem dL_law_1201 : decode cL_law 1201 = .ok (.iload 4, 2) := by decide +kernel
theorem dL_law_1203 : decode cL_law 1203 = .ok (.iconst 2, 1) := by decide +kernel
theorem dL_law_1204 : decode cL_law 1204 = .ok (.iadd, 1) := by decide +kernel
theorem dL_law_1205 : decode cL_law 1205 = .ok (.iaload, 1) := by decide +kernel
theorem dL_law_1206 : decode cL_law 1206 = .ok (.invokevirtual 191, 3) := by decide +kernel
theorem dL_law_1209 : decode cL_law 1209 = .ok (.istore 6, 2) := by decide +kernel
theorem dL_law_1211 : decode cL_law 1211 = .ok (.aload_n 2, 1) := by decide +kernel
theorem dL_law_1212 : decode cL_law 1212 = .ok (.invokevirtual 142, 3) := by decide +kernel
theorem dL_law_1215 : decode cL_law 1215 = .ok (.iload 5, 2) := by decide +kernel
theorem dL_law_1217 : decode cL_law 1217 = .ok (.if_icmp .eq 5, 3) := by decide +kernel
theorem dL_law_1220 : decode cL_law 1220 = .ok (.iconst 0, 1) := by decide +kernel
theorem dL_law_1221 : decode cL_law 1221 = .ok (.ireturn, 1) := by decide +kernel
theorem dL_law_1222 : decode cL_law 1222 = .ok (.iload 5, 2) := by decide +kernel
theorem dL_law_1224 : decode cL_law 1224 = .ok (.ifCond .ne 22, 3) := by decide +kernel
theorem dL_law_1227 : decode cL_law 1227 = .ok (.aload_n 3, 1) := by decide +kernel
theorem dL_law_1228 : decode cL_law 1228 = .ok (.iconst 0, 1) := by decide +kernel
theorem dL_law_1229 : decode cL_law 1229 = .ok (.laload, 1) := by decide +kernel
theorem dL_law_1230 : decode cL_law 1230 = .ok (.iload 6, 2) := by decide +kernel
theorem dL_law_1232 : decode cL_law 1232 = .ok (.ifCond .eq 7, 3) := by decide +kernel
theorem dL_law_1235 : decode cL_law 1235 = .ok (.lconst 1, 1) := by decide +kernel
theorem dL_law_1236 : decode cL_law 1236 = .ok (.goto 4, 3) := by decide +kernel
theorem dL_law_1239 : decode cL_law 1239 = .ok (.lconst 0, 1) := by decide +kernel
theorem dL_law_1240 : decode cL_law 1240 = .ok (.lcmp, 1) := by decide +kernel
theorem dL_law_1241 : decode cL_law 1241 = .ok (.ifCond .eq 5, 3) := by decide +kernel
theorem dL_law_1244 : decode cL_law 1244 = .ok (.iconst 0, 1) := by decide +kernel
theorem dL_law_1245 : decode cL_law 1245 = .ok (.ireturn, 1) := by decide +kernel
theorem dL_law_1246 : decode cL_law 1246 = .ok (.goto 1347, 3) := by decide +kernel
theorem dL_law_1249 : decode cL_law 1249 = .ok (.aload_n 1, 1) := by decide +kernel
theorem dL_law_1250 : decode cL_law 1250 = .ok (.aload_n 0, 1) := by decide +kernel
theorem dL_law_1251 : decode cL_law 1251 = .ok (.iload 4, 2) := by decide +kernel
theorem dL_law_1253 : decode cL_law 1253 = .ok (.iconst 1, 1) := by decide +kernel
theorem dL_law_1254 : decode cL_law 1254 = .ok (.iadd, 1) := by decide +kernel
theorem dL_law_1255 : decode cL_law 1255 = .ok (.iaload, 1) := by decide +kernel
theorem dL_law_1256 : decode cL_law 1256 = .ok (.aload_n 0, 1) := by decide +kernel
theorem dL_law_1257 : decode cL_law 1257 = .ok (.iload 4, 2) := by decide +kernel
theorem dL_law_1259 : decode cL_law 1259 = .ok (.iconst 2, 1) := by decide +kernel
theorem dL_law_1260 : decode cL_law 1260 = .ok (.iadd, 1) := by decide +kernel
theorem dL_law_1261 : decode cL_law 1261 = .ok (.iaload, 1) := by decide +kernel
theorem dL_law_1262 : decode cL_law 1262 = .ok (.aload_n 3, 1) := by decide +kernel
theorem dL_law_1263 : decode cL_law 1263 = .ok (.invokestatic 192, 3) := by decide +kernel
theorem dL_law_1266 : decode cL_law 1266 = .ok (.istore 5, 2) := by decide +kernel
theorem dL_law_1268 : decode cL_law 1268 = .ok (.aload_n 2, 1) := by decide +kernel
theorem dL_law_1269 : decode cL_law 1269 = .ok (.aload_n 0, 1) := by decide +kernel
theorem dL_law_1270 : decode cL_law 1270 = .ok (.iload 4, 2) := by decide +kernel
theorem dL_law_1272 : decode cL_law 1272 = .ok (.iconst 1, 1) := by decide +kernel
theorem dL_law_1273 : decode cL_law 1273 = .ok (.iadd, 1) := by decide +kernel
theorem dL_law_1274 : decode cL_law 1274 = .ok (.iaload, 1) := by decide +kernel
theorem dL_law_1275 : decode cL_law 1275 = .ok (.aload_n 0, 1) := by decide +kernel
theorem dL_law_1276 : decode cL_law 1276 = .ok (.iload 4, 2) := by decide +kernel
theorem dL_law_1278 : decode cL_law 1278 = .ok (.iconst 2, 1) := by decide +kernel
theorem dL_law_1279 : decode cL_law 1279 = .ok (.iadd, 1) := by decide +kernel
theorem dL_law_1280 : decode cL_law 1280 = .ok (.iaload, 1) := by decide +kernel
theorem dL_law_1281 : decode cL_law 1281 = .ok (.invokevirtual 194, 3) := by decide +kernel
theorem dL_law_1284 : decode cL_law 1284 = .ok (.istore 6, 2) := by decide +kernel
theorem dL_law_1286 : decode cL_law 1286 = .ok (.aload_n 2, 1) := by decide +kernel
theorem dL_law_1287 : decode cL_law 1287 = .ok (.invokevirtual 142, 3) := by decide +kernel
theorem dL_law_1290 : decode cL_law 1290 = .ok (.iload 5, 2) := by decide +kernel
theorem dL_law_1292 : decode cL_law 1292 = .ok (.if_icmp .eq 5, 3) := by decide +kernel
theorem dL_law_1295 : decode cL_law 1295 = .ok (.iconst 0, 1) := by decide +kernel
theorem dL_law_1296 : decode cL_law 1296 = .ok (.ireturn, 1) := by decide +kernel
theorem dL_law_1297 : decode cL_law 1297 = .ok (.iload 5, 2) := by decide +kernel
theorem dL_law_1299 : decode cL_law 1299 = .ok (.ifCond .ne 15, 3) := by decide +kernel
theorem dL_law_1302 : decode cL_law 1302 = .ok (.aload_n 3, 1) := by decide +kernel
theorem dL_law_1303 : decode cL_law 1303 = .ok (.iconst 0, 1) := by decide +kernel
theorem dL_law_1304 : decode cL_law 1304 = .ok (.laload, 1) := by decide +kernel
theorem dL_law_1305 : decode cL_law 1305 = .ok (.iload 6, 2) := by decide +kernel
theorem dL_law_1307 : decode cL_law 1307 = .ok (.i2l, 1) := by decide +kernel
theorem dL_law_1308 : decode cL_law 1308 = .ok (.lcmp, 1) := by decide +kernel
theorem dL_law_1309 : decode cL_law 1309 = .ok (.ifCond .eq 5, 3) := by decide +kernel
theorem dL_law_1312 : decode cL_law 1312 = .ok (.iconst 0, 1) := by decide +kernel
theorem dL_law_1313 : decode cL_law 1313 = .ok (.ireturn, 1) := by decide +kernel
theorem dL_law_1314 : decode cL_law 1314 = .ok (.goto 1279, 3) := by decide +kernel
theorem dL_law_1317 : decode cL_law 1317 = .ok (.aload_n 1, 1) := by decide +kernel
theorem dL_law_1318 : decode cL_law 1318 = .ok (.aload_n 0, 1) := by decide +kernel
theorem dL_law_1319 : decode cL_law 1319 = .ok (.iload 4, 2) := by decide +kernel
theorem dL_law_1321 : decode cL_law 1321 = .ok (.iconst 1, 1) := by decide +kernel
theorem dL_law_1322 : decode cL_law 1322 = .ok (.iadd, 1) := by decide +kernel
theorem dL_law_1323 : decode cL_law 1323 = .ok (.iaload, 1) := by decide +kernel
theorem dL_law_1324 : decode cL_law 1324 = .ok (.aload_n 0, 1) := by decide +kernel
theorem dL_law_1325 : decode cL_law 1325 = .ok (.iload 4, 2) := by decide +kernel
theorem dL_law_1327 : decode cL_law 1327 = .ok (.iconst 2, 1) := by decide +kernel
theorem dL_law_1328 : decode cL_law 1328 = .ok (.iadd, 1) := by decide +kernel
theorem dL_law_1329 : decode cL_law 1329 = .ok (.iaload, 1) := by decide +kernel
theorem dL_law_1330 : decode cL_law 1330 = .ok (.aload_n 3, 1) := by decide +kernel
theorem dL_law_1331 : decode cL_law 1331 = .ok (.invokestatic 195, 3) := by decide +kernel
theorem dL_law_1334 : decode cL_law 1334 = .ok (.istore 5, 2) := by decide +kernel
theorem dL_law_1336 : decode cL_law 1336 = .ok (.aload_n 2, 1) := by decide +kernel
theorem dL_law_1337 : decode cL_law 1337 = .ok (.aload_n 0, 1) := by decide +kernel
theorem dL_law_1338 : decode cL_law 1338 = .ok (.iload 4, 2) := by decide +kernel
theorem dL_law_1340 : decode cL_law 1340 = .ok (.iconst 1, 1) := by decide +kernel
theorem dL_law_1341 : decode cL_law 1341 = .ok (.iadd, 1) := by decide +kernel
theorem dL_law_1342 : decode cL_law 1342 = .ok (.iaload, 1) := by decide +kernel
theorem dL_law_1343 : decode cL_law 1343 = .ok (.aload_n 0, 1) := by decide +kernel
theorem dL_law_1344 : decode cL_law 1344 = .ok (.iload 4, 2) := by decide +kernel
theorem dL_law_1346 : decode cL_law 1346 = .ok (.iconst 2, 1) := by decide +kernel
theorem dL_law_1347 : decode cL_law 1347 = .ok (.iadd, 1) := by decide +kernel
theorem dL_law_1348 : decode cL_law 1348 = .ok (.iaload, 1) := by decide +kernel
theorem dL_law_1349 : decode cL_law 1349 = .ok (.invokevirtual 197, 3) := by decide +kernel
theorem dL_law_1352 : decode cL_law 1352 = .ok (.istore 6, 2) := by decide +kernel
theorem dL_law_1354 : decode cL_law 1354 = .ok (.aload_n 2, 1) := by decide +kernel
theorem dL_law_1355 : decode cL_law 1355 = .ok (.invokevirtual 142, 3) := by decide +kernel
theorem dL_law_1358 : decode cL_law 1358 = .ok (.iload 5, 2) := by decide +kernel
theorem dL_law_1360 : decode cL_law 1360 = .ok (.if_icmp .eq 5, 3) := by decide +kernel
theorem dL_law_1363 : decode cL_law 1363 = .ok (.iconst 0, 1) := by decide +kernel
theorem dL_law_1364 : decode cL_law 1364 = .ok (.ireturn, 1) := by decide +kernel
theorem dL_law_1365 : decode cL_law 1365 = .ok (.iload 5, 2) := by decide +kernel
theorem dL_law_1367 : decode cL_law 1367 = .ok (.ifCond .ne 15, 3) := by decide +kernel
theorem dL_law_1370 : decode cL_law 1370 = .ok (.aload_n 3, 1) := by decide +kernel
theorem dL_law_1371 : decode cL_law 1371 = .ok (.iconst 0, 1) := by decide +kernel
theorem dL_law_1372 : decode cL_law 1372 = .ok (.laload, 1) := by decide +kernel
theorem dL_law_1373 : decode cL_law 1373 = .ok (.iload 6, 2) := by decide +kernel
theorem dL_law_1375 : decode cL_law 1375 = .ok (.i2l, 1) := by decide +kernel
theorem dL_law_1376 : decode cL_law 1376 = .ok (.lcmp, 1) := by decide +kernel
theorem dL_law_1377 : decode cL_law 1377 = .ok (.ifCond .eq 5, 3) := by decide +kernel
theorem dL_law_1380 : decode cL_law 1380 = .ok (.iconst 0, 1) := by decide +kernel
theorem dL_law_1381 : decode cL_law 1381 = .ok (.ireturn, 1) := by decide +kernel
theorem dL_law_1382 : decode cL_law 1382 = .ok (.goto 1211, 3) := by decide +kernel
theorem dL_law_1385 : decode cL_law 1385 = .ok (.aload_n 1, 1) := by decide +kernel
theorem dL_law_1386 : decode cL_law 1386 = .ok (.aload_n 0, 1) := by decide +kernel
theorem dL_law_1387 : decode cL_law 1387 = .ok (.iload 4, 2) := by decide +kernel
theorem dL_law_1389 : decode cL_law 1389 = .ok (.iconst 1, 1) := by decide +kernel
theorem dL_law_1390 : decode cL_law 1390 = .ok (.iadd, 1) := by decide +kernel
theorem dL_law_1391 : decode cL_law 1391 = .ok (.iaload, 1) := by decide +kernel
theorem dL_law_1392 : decode cL_law 1392 = .ok (.aload_n 3, 1) := by decide +kernel
theorem dL_law_1393 : decode cL_law 1393 = .ok (.invokestatic 198, 3) := by decide +kernel
theorem dL_law_1396 : decode cL_law 1396 = .ok (.istore 5, 2) := by decide +kernel
theorem dL_law_1398 : decode cL_law 1398 = .ok (.aload_n 2, 1) := by decide +kernel
theorem dL_law_1399 : decode cL_law 1399 = .ok (.aload_n 0, 1) := by decide +kernel
theorem dL_law_1400 : decode cL_law 1400 = .ok (.iload 4, 2) := by decide +kernel
theorem dL_law_1402 : decode cL_law 1402 = .ok (.iconst 1, 1) := by decide +kernel
theorem dL_law_1403 : decode cL_law 1403 = .ok (.iadd, 1) := by decide +kernel
theorem dL_law_1404 : decode cL_law 1404 = .ok (.iaload, 1) := by decide +kernel
theorem dL_law_1405 : decode cL_law 1405 = .ok (.invokevirtual 200, 3) := by decide +kernel
theorem dL_law_1408 : decode cL_law 1408 = .ok (.istore 6, 2) := by decide +kernel
theorem dL_law_1410 : decode cL_law 1410 = .ok (.aload_n 2, 1) := by decide +kernel
theorem dL_law_1411 : decode cL_law 1411 = .ok (.invokevirtual 142, 3) := by decide +kernel
theorem dL_law_1414 : decode cL_law 1414 = .ok (.iload 5, 2) := by decide +kernel
theorem dL_law_1416 : decode cL_law 1416 = .ok (.if_icmp .eq 5, 3) := by decide +kernel
theorem dL_law_1419 : decode cL_law 1419 = .ok (.iconst 0, 1) := by decide +kernel
theorem dL_law_1420 : decode cL_law 1420 = .ok (.ireturn, 1) := by decide +kernel
theorem dL_law_1421 : decode cL_law 1421 = .ok (.iload 5, 2) := by decide +kernel
theorem dL_law_1423 : decode cL_law 1423 = .ok (.ifCond .ne 15, 3) := by decide +kernel
theorem dL_law_1426 : decode cL_law 1426 = .ok (.aload_n 3, 1) := by decide +kernel
theorem dL_law_1427 : decode cL_law 1427 = .ok (.iconst 0, 1) := by decide +kernel
theorem dL_law_1428 : decode cL_law 1428 = .ok (.laload, 1) := by decide +kernel
theorem dL_law_1429 : decode cL_law 1429 = .ok (.iload 6, 2) := by decide +kernel
theorem dL_law_1431 : decode cL_law 1431 = .ok (.i2l, 1) := by decide +kernel
theorem dL_law_1432 : decode cL_law 1432 = .ok (.lcmp, 1) := by decide +kernel
theorem dL_law_1433 : decode cL_law 1433 = .ok (.ifCond .eq 5, 3) := by decide +kernel
theorem dL_law_1436 : decode cL_law 1436 = .ok (.iconst 0, 1) := by decide +kernel
theorem dL_law_1437 : decode cL_law 1437 = .ok (.ireturn, 1) := by decide +kernel
theorem dL_law_1438 : decode cL_law 1438 = .ok (.goto 1155, 3) := by decide +kernel
theorem dL_law_1441 : decode cL_law 1441 = .ok (.aload_n 1, 1) := by decide +kernel
theorem dL_law_1442 : decode cL_law 1442 = .ok (.aload_n 0, 1) := by decide +kernel
theorem dL_law_1443 : decode cL_law 1443 = .ok (.iload 4, 2) := by decide +kernel
theorem dL_law_1445 : decode cL_law 1445 = .ok (.iconst 1, 1) := by decide +kernel
theorem dL_law_1446 : decode cL_law 1446 = .ok (.iadd, 1) := by decide +kernel
theorem dL_law_1447 : decode cL_law 1447 = .ok (.iaload, 1) := by decide +kernel
theorem dL_law_1448 : decode cL_law 1448 = .ok (.aload_n 3, 1) := by decide +kernel
theorem dL_law_1449 : decode cL_law 1449 = .ok (.invokestatic 201, 3) := by decide +kernel
theorem dL_law_1452 : decode cL_law 1452 = .ok (.istore 5, 2) := by decide +kernel
theorem dL_law_1454 : decode cL_law 1454 = .ok (.aload_n 2, 1) := by decide +kernel
theorem dL_law_1455 : decode cL_law 1455 = .ok (.aload_n 0, 1) := by decide +kernel
theorem dL_law_1456 : decode cL_law 1456 = .ok (.iload 4, 2) := by decide +kernel
theorem dL_law_1458 : decode cL_law 1458 = .ok (.iconst 1, 1) := by decide +kernel
theorem dL_law_1459 : decode cL_law 1459 = .ok (.iadd, 1) := by decide +kernel
theorem dL_law_1460 : decode cL_law 1460 = .ok (.iaload, 1) := by decide +kernel
theorem dL_law_1461 : decode cL_law 1461 = .ok (.invokevirtual 203, 3) := by decide +kernel
theorem dL_law_1464 : decode cL_law 1464 = .ok (.istore 6, 2) := by decide +kernel
theorem dL_law_1466 : decode cL_law 1466 = .ok (.aload_n 2, 1) := by decide +kernel
theorem dL_law_1467 : decode cL_law 1467 = .ok (.invokevirtual 142, 3) := by decide +kernel
theorem dL_law_1470 : decode cL_law 1470 = .ok (.iload 5, 2) := by decide +kernel
theorem dL_law_1472 : decode cL_law 1472 = .ok (.if_icmp .eq 5, 3) := by decide +kernel
theorem dL_law_1475 : decode cL_law 1475 = .ok (.iconst 0, 1) := by decide +kernel
theorem dL_law_1476 : decode cL_law 1476 = .ok (.ireturn, 1) := by decide +kernel
theorem dL_law_1477 : decode cL_law 1477 = .ok (.iload 5, 2) := by decide +kernel
theorem dL_law_1479 : decode cL_law 1479 = .ok (.ifCond .ne 15, 3) := by decide +kernel
theorem dL_law_1482 : decode cL_law 1482 = .ok (.aload_n 3, 1) := by decide +kernel
theorem dL_law_1483 : decode cL_law 1483 = .ok (.iconst 0, 1) := by decide +kernel
theorem dL_law_1484 : decode cL_law 1484 = .ok (.laload, 1) := by decide +kernel
theorem dL_law_1485 : decode cL_law 1485 = .ok (.iload 6, 2) := by decide +kernel
theorem dL_law_1487 : decode cL_law 1487 = .ok (.i2l, 1) := by decide +kernel
theorem dL_law_1488 : decode cL_law 1488 = .ok (.lcmp, 1) := by decide +kernel
theorem dL_law_1489 : decode cL_law 1489 = .ok (.ifCond .eq 5, 3) := by decide +kernel
theorem dL_law_1492 : decode cL_law 1492 = .ok (.iconst 0, 1) := by decide +kernel
theorem dL_law_1493 : decode cL_law 1493 = .ok (.ireturn, 1) := by decide +kernel
theorem dL_law_1494 : decode cL_law 1494 = .ok (.goto 1099, 3) := by decide +kernel
theorem dL_law_1497 : decode cL_law 1497 = .ok (.aload_n 1, 1) := by decide +kernel
theorem dL_law_1498 : decode cL_law 1498 = .ok (.aload_n 0, 1) := by decide +kernel
theorem dL_law_1499 : decode cL_law 1499 = .ok (.iload 4, 2) := by decide +kernel
theorem dL_law_1501 : decode cL_law 1501 = .ok (.iconst 1, 1) := by decide +kernel
theorem dL_law_1502 : decode cL_law 1502 = .ok (.iadd, 1) := by decide +kernel
theorem dL_law_1503 : decode cL_law 1503 = .ok (.iaload, 1) := by decide +kernel
theorem dL_law_1504 : decode cL_law 1504 = .ok (.aload_n 0, 1) := by decide +kernel
theorem dL_law_1505 : decode cL_law 1505 = .ok (.iload 4, 2) := by decide +kernel
theorem dL_law_1507 : decode cL_law 1507 = .ok (.iconst 2, 1) := by decide +kernel
theorem dL_law_1508 : decode cL_law 1508 = .ok (.iadd, 1) := by decide +kernel
theorem dL_law_1509 : decode cL_law 1509 = .ok (.iaload, 1) := by decide +kernel
theorem dL_law_1510 : decode cL_law 1510 = .ok (.aload_n 0, 1) := by decide +kernel
theorem dL_law_1511 : decode cL_law 1511 = .ok (.iload 4, 2) := by decide +kernel
theorem dL_law_1513 : decode cL_law 1513 = .ok (.iconst 3, 1) := by decide +kernel
theorem dL_law_1514 : decode cL_law 1514 = .ok (.iadd, 1) := by decide +kernel
theorem dL_law_1515 : decode cL_law 1515 = .ok (.iaload, 1) := by decide +kernel
theorem dL_law_1516 : decode cL_law 1516 = .ok (.aload_n 3, 1) := by decide +kernel
theorem dL_law_1517 : decode cL_law 1517 = .ok (.invokestatic 204, 3) := by decide +kernel
theorem dL_law_1520 : decode cL_law 1520 = .ok (.istore 5, 2) := by decide +kernel
theorem dL_law_1522 : decode cL_law 1522 = .ok (.aload_n 2, 1) := by decide +kernel
theorem dL_law_1523 : decode cL_law 1523 = .ok (.aload_n 0, 1) := by decide +kernel
theorem dL_law_1524 : decode cL_law 1524 = .ok (.iload 4, 2) := by decide +kernel
theorem dL_law_1526 : decode cL_law 1526 = .ok (.iconst 1, 1) := by decide +kernel
theorem dL_law_1527 : decode cL_law 1527 = .ok (.iadd, 1) := by decide +kernel
theorem dL_law_1528 : decode cL_law 1528 = .ok (.iaload, 1) := by decide +kernel
theorem dL_law_1529 : decode cL_law 1529 = .ok (.aload_n 0, 1) := by decide +kernel
theorem dL_law_1530 : decode cL_law 1530 = .ok (.iload 4, 2) := by decide +kernel
theorem dL_law_1532 : decode cL_law 1532 = .ok (.iconst 2, 1) := by decide +kernel
theorem dL_law_1533 : decode cL_law 1533 = .ok (.iadd, 1) := by decide +kernel
theorem dL_law_1534 : decode cL_law 1534 = .ok (.iaload, 1) := by decide +kernel
theorem dL_law_1535 : decode cL_law 1535 = .ok (.aload_n 0, 1) := by decide +kernel
theorem dL_law_1536 : decode cL_law 1536 = .ok (.iload 4, 2) := by decide +kernel
theorem dL_law_1538 : decode cL_law 1538 = .ok (.iconst 3, 1) := by decide +kernel
theorem dL_law_1539 : decode cL_law 1539 = .ok (.iadd, 1) := by decide +kernel
theorem dL_law_1540 : decode cL_law 1540 = .ok (.iaload, 1) := by decide +kernel
theorem dL_law_1541 : decode cL_law 1541 = .ok (.invokevirtual 206, 3) := by decide +kernel
theorem dL_law_1544 : decode cL_law 1544 = .ok (.istore 6, 2) := by decide +kernel
theorem dL_law_1546 : decode cL_law 1546 = .ok (.aload_n 2, 1) := by decide +kernel
theorem dL_law_1547 : decode cL_law 1547 = .ok (.invokevirtual 142, 3) := by decide +kernel
theorem dL_law_1550 : decode cL_law 1550 = .ok (.iload 5, 2) := by decide +kernel
theorem dL_law_1552 : decode cL_law 1552 = .ok (.if_icmp .eq 5, 3) := by decide +kernel
theorem dL_law_1555 : decode cL_law 1555 = .ok (.iconst 0, 1) := by decide +kernel
theorem dL_law_1556 : decode cL_law 1556 = .ok (.ireturn, 1) := by decide +kernel
theorem dL_law_1557 : decode cL_law 1557 = .ok (.iload 5, 2) := by decide +kernel
theorem dL_law_1559 : decode cL_law 1559 = .ok (.ifCond .ne 15, 3) := by decide +kernel
theorem dL_law_1562 : decode cL_law 1562 = .ok (.aload_n 3, 1) := by decide +kernel
theorem dL_law_1563 : decode cL_law 1563 = .ok (.iconst 0, 1) := by decide +kernel
theorem dL_law_1564 : decode cL_law 1564 = .ok (.laload, 1) := by decide +kernel
theorem dL_law_1565 : decode cL_law 1565 = .ok (.iload 6, 2) := by decide +kernel
theorem dL_law_1567 : decode cL_law 1567 = .ok (.i2l, 1) := by decide +kernel
theorem dL_law_1568 : decode cL_law 1568 = .ok (.lcmp, 1) := by decide +kernel
theorem dL_law_1569 : decode cL_law 1569 = .ok (.ifCond .eq 5, 3) := by decide +kernel
theorem dL_law_1572 : decode cL_law 1572 = .ok (.iconst 0, 1) := by decide +kernel
theorem dL_law_1573 : decode cL_law 1573 = .ok (.ireturn, 1) := by decide +kernel
theorem dL_law_1574 : decode cL_law 1574 = .ok (.goto 1019, 3) := by decide +kernel
theorem dL_law_1577 : decode cL_law 1577 = .ok (.aload_n 1, 1) := by decide +kernel
theorem dL_law_1578 : decode cL_law 1578 = .ok (.aload_n 0, 1) := by decide +kernel
theorem dL_law_1579 : decode cL_law 1579 = .ok (.iload 4, 2) := by decide +kernel
theorem dL_law_1581 : decode cL_law 1581 = .ok (.iconst 1, 1) := by decide +kernel
theorem dL_law_1582 : decode cL_law 1582 = .ok (.iadd, 1) := by decide +kernel
theorem dL_law_1583 : decode cL_law 1583 = .ok (.iaload, 1) := by decide +kernel
theorem dL_law_1584 : decode cL_law 1584 = .ok (.aload_n 3, 1) := by decide +kernel
theorem dL_law_1585 : decode cL_law 1585 = .ok (.invokestatic 207, 3) := by decide +kernel
theorem dL_law_1588 : decode cL_law 1588 = .ok (.istore 5, 2) := by decide +kernel
theorem dL_law_1590 : decode cL_law 1590 = .ok (.aload_n 2, 1) := by decide +kernel
theorem dL_law_1591 : decode cL_law 1591 = .ok (.aload_n 0, 1) := by decide +kernel
theorem dL_law_1592 : decode cL_law 1592 = .ok (.iload 4, 2) := by decide +kernel
theorem dL_law_1594 : decode cL_law 1594 = .ok (.iconst 1, 1) := by decide +kernel
theorem dL_law_1595 : decode cL_law 1595 = .ok (.iadd, 1) := by decide +kernel
theorem dL_law_1596 : decode cL_law 1596 = .ok (.iaload, 1) := by decide +kernel
theorem dL_law_1597 : decode cL_law 1597 = .ok (.invokevirtual 209, 3) := by decide +kernel
theorem dL_law_1600 : decode cL_law 1600 = .ok (.istore 6, 2) := by decide +kernel
theorem dL_law_1602 : decode cL_law 1602 = .ok (.aload_n 2, 1) := by decide +kernel
theorem dL_law_1603 : decode cL_law 1603 = .ok (.invokevirtual 142, 3) := by decide +kernel
theorem dL_law_1606 : decode cL_law 1606 = .ok (.iload 5, 2) := by decide +kernel
theorem dL_law_1608 : decode cL_law 1608 = .ok (.if_icmp .eq 5, 3) := by decide +kernel
theorem dL_law_1611 : decode cL_law 1611 = .ok (.iconst 0, 1) := by decide +kernel
theorem dL_law_1612 : decode cL_law 1612 = .ok (.ireturn, 1) := by decide +kernel
theorem dL_law_1613 : decode cL_law 1613 = .ok (.iload 5, 2) := by decide +kernel
theorem dL_law_1615 : decode cL_law 1615 = .ok (.ifCond .ne 15, 3) := by decide +kernel
theorem dL_law_1618 : decode cL_law 1618 = .ok (.aload_n 3, 1) := by decide +kernel
theorem dL_law_1619 : decode cL_law 1619 = .ok (.iconst 0, 1) := by decide +kernel
theorem dL_law_1620 : decode cL_law 1620 = .ok (.laload, 1) := by decide +kernel
theorem dL_law_1621 : decode cL_law 1621 = .ok (.iload 6, 2) := by decide +kernel
theorem dL_law_1623 : decode cL_law 1623 = .ok (.i2l, 1) := by decide +kernel
theorem dL_law_1624 : decode cL_law 1624 = .ok (.lcmp, 1) := by decide +kernel
theorem dL_law_1625 : decode cL_law 1625 = .ok (.ifCond .eq 5, 3) := by decide +kernel
theorem dL_law_1628 : decode cL_law 1628 = .ok (.iconst 0, 1) := by decide +kernel
theorem dL_law_1629 : decode cL_law 1629 = .ok (.ireturn, 1) := by decide +kernel
theorem dL_law_1630 : decode cL_law 1630 = .ok (.goto 963, 3) := by decide +kernel
theorem dL_law_1633 : decode cL_law 1633 = .ok (.aload_n 1, 1) := by decide +kernel
theorem dL_law_1634 : decode cL_law 1634 = .ok (.aload_n 0, 1) := by decide +kernel
theorem dL_law_1635 : decode cL_law 1635 = .ok (.iload 4, 2) := by decide +kernel
theorem dL_law_1637 : decode cL_law 1637 = .ok (.iconst 1, 1) := by decide +kernel
theorem dL_law_1638 : decode cL_law 1638 = .ok (.iadd, 1) := by decide +kernel
theorem dL_law_1639 : decode cL_law 1639 = .ok (.iaload, 1) := by decide +kernel
theorem dL_law_1640 : decode cL_law 1640 = .ok (.aload_n 0, 1) := by decide +kernel
theorem dL_law_1641 : decode cL_law 1641 = .ok (.iload 4, 2) := by decide +kernel
theorem dL_law_1643 : decode cL_law 1643 = .ok (.iconst 2, 1) := by decide +kernel
theorem dL_law_1644 : decode cL_law 1644 = .ok (.iadd, 1) := by decide +kernel
theorem dL_law_1645 : decode cL_law 1645 = .ok (.iaload, 1) := by decide +kernel
theorem dL_law_1646 : decode cL_law 1646 = .ok (.aload_n 0, 1) := by decide +kernel
theorem dL_law_1647 : decode cL_law 1647 = .ok (.iload 4, 2) := by decide +kernel
theorem dL_law_1649 : decode cL_law 1649 = .ok (.iconst 3, 1) := by decide +kernel
theorem dL_law_1650 : decode cL_law 1650 = .ok (.iadd, 1) := by decide +kernel
theorem dL_law_1651 : decode cL_law 1651 = .ok (.iaload, 1) := by decide +kernel
theorem dL_law_1652 : decode cL_law 1652 = .ok (.aload_n 3, 1) := by decide +kernel
theorem dL_law_1653 : decode cL_law 1653 = .ok (.invokestatic 210, 3) := by decide +kernel
theorem dL_law_1656 : decode cL_law 1656 = .ok (.istore 5, 2) := by decide +kernel
theorem dL_law_1658 : decode cL_law 1658 = .ok (.aload_n 2, 1) := by decide +kernel
theorem dL_law_1659 : decode cL_law 1659 = .ok (.aload_n 0, 1) := by decide +kernel
theorem dL_law_1660 : decode cL_law 1660 = .ok (.iload 4, 2) := by decide +kernel
theorem dL_law_1662 : decode cL_law 1662 = .ok (.iconst 1, 1) := by decide +kernel
theorem dL_law_1663 : decode cL_law 1663 = .ok (.iadd, 1) := by decide +kernel
theorem dL_law_1664 : decode cL_law 1664 = .ok (.iaload, 1) := by decide +kernel
theorem dL_law_1665 : decode cL_law 1665 = .ok (.aload_n 0, 1) := by decide +kernel
theorem dL_law_1666 : decode cL_law 1666 = .ok (.iload 4, 2) := by decide +kernel
theorem dL_law_1668 : decode cL_law 1668 = .ok (.iconst 2, 1) := by decide +kernel
theorem dL_law_1669 : decode cL_law 1669 = .ok (.iadd, 1) := by decide +kernel
theorem dL_law_1670 : decode cL_law 1670 = .ok (.iaload, 1) := by decide +kernel
theorem dL_law_1671 : decode cL_law 1671 = .ok (.aload_n 0, 1) := by decide +kernel
theorem dL_law_1672 : decode cL_law 1672 = .ok (.iload 4, 2) := by decide +kernel
theorem dL_law_1674 : decode cL_law 1674 = .ok (.iconst 3, 1) := by decide +kernel
theorem dL_law_1675 : decode cL_law 1675 = .ok (.iadd, 1) := by decide +kernel
theorem dL_law_1676 : decode cL_law 1676 = .ok (.iaload, 1) := by decide +kernel
theorem dL_law_1677 : decode cL_law 1677 = .ok (.invokevirtual 212, 3) := by decide +kernel
theorem dL_law_1680 : decode cL_law 1680 = .ok (.istore 6, 2) := by decide +kernel
theorem dL_law_1682 : decode cL_law 1682 = .ok (.aload_n 2, 1) := by decide +kernel
theorem dL_law_1683 : decode cL_law 1683 = .ok (.invokevirtual 142, 3) := by decide +kernel
theorem dL_law_1686 : decode cL_law 1686 = .ok (.iload 5, 2) := by decide +kernel
theorem dL_law_1688 : decode cL_law 1688 = .ok (.if_icmp .eq 5, 3) := by decide +kernel
theorem dL_law_1691 : decode cL_law 1691 = .ok (.iconst 0, 1) := by decide +kernel
theorem dL_law_1692 : decode cL_law 1692 = .ok (.ireturn, 1) := by decide +kernel
theorem dL_law_1693 : decode cL_law 1693 = .ok (.iload 5, 2) := by decide +kernel
theorem dL_law_1695 : decode cL_law 1695 = .ok (.ifCond .ne 15, 3) := by decide +kernel
theorem dL_law_1698 : decode cL_law 1698 = .ok (.aload_n 3, 1) := by decide +kernel
theorem dL_law_1699 : decode cL_law 1699 = .ok (.iconst 0, 1) := by decide +kernel
theorem dL_law_1700 : decode cL_law 1700 = .ok (.laload, 1) := by decide +kernel
theorem dL_law_1701 : decode cL_law 1701 = .ok (.iload 6, 2) := by decide +kernel
theorem dL_law_1703 : decode cL_law 1703 = .ok (.i2l, 1) := by decide +kernel
theorem dL_law_1704 : decode cL_law 1704 = .ok (.lcmp, 1) := by decide +kernel
theorem dL_law_1705 : decode cL_law 1705 = .ok (.ifCond .eq 5, 3) := by decide +kernel
theorem dL_law_1708 : decode cL_law 1708 = .ok (.iconst 0, 1) := by decide +kernel
theorem dL_law_1709 : decode cL_law 1709 = .ok (.ireturn, 1) := by decide +kernel
theorem dL_law_1710 : decode cL_law 1710 = .ok (.goto 883, 3) := by decide +kernel
theorem dL_law_1713 : decode cL_law 1713 = .ok (.aload_n 1, 1) := by decide +kernel
theorem dL_law_1714 : decode cL_law 1714 = .ok (.aload_n 0, 1) := by decide +kernel
theorem dL_law_1715 : decode cL_law 1715 = .ok (.iload 4, 2) := by decide +kernel
theorem dL_law_1717 : decode cL_law 1717 = .ok (.iconst 1, 1) := by decide +kernel
theorem dL_law_1718 : decode cL_law 1718 = .ok (.iadd, 1) := by decide +kernel
theorem dL_law_1719 : decode cL_law 1719 = .ok (.iaload, 1) := by decide +kernel
theorem dL_law_1720 : decode cL_law 1720 = .ok (.aload_n 3, 1) := by decide +kernel
theorem dL_law_1721 : decode cL_law 1721 = .ok (.invokestatic 213, 3) := by decide +kernel
theorem dL_law_1724 : decode cL_law 1724 = .ok (.istore 5, 2) := by decide +kernel
theorem dL_law_1726 : decode cL_law 1726 = .ok (.aload_n 2, 1) := by decide +kernel
theorem dL_law_1727 : decode cL_law 1727 = .ok (.aload_n 0, 1) := by decide +kernel
theorem dL_law_1728 : decode cL_law 1728 = .ok (.iload 4, 2) := by decide +kernel
theorem dL_law_1730 : decode cL_law 1730 = .ok (.iconst 1, 1) := by decide +kernel
theorem dL_law_1731 : decode cL_law 1731 = .ok (.iadd, 1) := by decide +kernel
theorem dL_law_1732 : decode cL_law 1732 = .ok (.iaload, 1) := by decide +kernel
theorem dL_law_1733 : decode cL_law 1733 = .ok (.invokevirtual 215, 3) := by decide +kernel
theorem dL_law_1736 : decode cL_law 1736 = .ok (.istore 6, 2) := by decide +kernel
theorem dL_law_1738 : decode cL_law 1738 = .ok (.aload_n 2, 1) := by decide +kernel
theorem dL_law_1739 : decode cL_law 1739 = .ok (.invokevirtual 142, 3) := by decide +kernel
theorem dL_law_1742 : decode cL_law 1742 = .ok (.iload 5, 2) := by decide +kernel
theorem dL_law_1744 : decode cL_law 1744 = .ok (.if_icmp .eq 5, 3) := by decide +kernel
theorem dL_law_1747 : decode cL_law 1747 = .ok (.iconst 0, 1) := by decide +kernel
theorem dL_law_1748 : decode cL_law 1748 = .ok (.ireturn, 1) := by decide +kernel
theorem dL_law_1749 : decode cL_law 1749 = .ok (.iload 5, 2) := by decide +kernel
theorem dL_law_1751 : decode cL_law 1751 = .ok (.ifCond .ne 15, 3) := by decide +kernel
theorem dL_law_1754 : decode cL_law 1754 = .ok (.aload_n 3, 1) := by decide +kernel
theorem dL_law_1755 : decode cL_law 1755 = .ok (.iconst 0, 1) := by decide +kernel
theorem dL_law_1756 : decode cL_law 1756 = .ok (.laload, 1) := by decide +kernel
theorem dL_law_1757 : decode cL_law 1757 = .ok (.iload 6, 2) := by decide +kernel
theorem dL_law_1759 : decode cL_law 1759 = .ok (.i2l, 1) := by decide +kernel
theorem dL_law_1760 : decode cL_law 1760 = .ok (.lcmp, 1) := by decide +kernel
theorem dL_law_1761 : decode cL_law 1761 = .ok (.ifCond .eq 5, 3) := by decide +kernel
theorem dL_law_1764 : decode cL_law 1764 = .ok (.iconst 0, 1) := by decide +kernel
theorem dL_law_1765 : decode cL_law 1765 = .ok (.ireturn, 1) := by decide +kernel
theorem dL_law_1766 : decode cL_law 1766 = .ok (.goto 827, 3) := by decide +kernel
theorem dL_law_1769 : decode cL_law 1769 = .ok (.aload_n 1, 1) := by decide +kernel
theorem dL_law_1770 : decode cL_law 1770 = .ok (.aload_n 0, 1) := by decide +kernel
theorem dL_law_1771 : decode cL_law 1771 = .ok (.iload 4, 2) := by decide +kernel
theorem dL_law_1773 : decode cL_law 1773 = .ok (.iconst 1, 1) := by decide +kernel
theorem dL_law_1774 : decode cL_law 1774 = .ok (.iadd, 1) := by decide +kernel
theorem dL_law_1775 : decode cL_law 1775 = .ok (.iaload, 1) := by decide +kernel
theorem dL_law_1776 : decode cL_law 1776 = .ok (.aload_n 0, 1) := by decide +kernel
theorem dL_law_1777 : decode cL_law 1777 = .ok (.iload 4, 2) := by decide +kernel
theorem dL_law_1779 : decode cL_law 1779 = .ok (.iconst 2, 1) := by decide +kernel
theorem dL_law_1780 : decode cL_law 1780 = .ok (.iadd, 1) := by decide +kernel
theorem dL_law_1781 : decode cL_law 1781 = .ok (.iaload, 1) := by decide +kernel
theorem dL_law_1782 : decode cL_law 1782 = .ok (.invokestatic 216, 3) := by decide +kernel
theorem dL_law_1785 : decode cL_law 1785 = .ok (.istore 5, 2) := by decide +kernel
theorem dL_law_1787 : decode cL_law 1787 = .ok (.aload_n 2, 1) := by decide +kernel
theorem dL_law_1788 : decode cL_law 1788 = .ok (.aload_n 0, 1) := by decide +kernel
theorem dL_law_1789 : decode cL_law 1789 = .ok (.iload 4, 2) := by decide +kernel
theorem dL_law_1791 : decode cL_law 1791 = .ok (.iconst 1, 1) := by decide +kernel
theorem dL_law_1792 : decode cL_law 1792 = .ok (.iadd, 1) := by decide +kernel
theorem dL_law_1793 : decode cL_law 1793 = .ok (.iaload, 1) := by decide +kernel
theorem dL_law_1794 : decode cL_law 1794 = .ok (.aload_n 0, 1) := by decide +kernel
theorem dL_law_1795 : decode cL_law 1795 = .ok (.iload 4, 2) := by decide +kernel
theorem dL_law_1797 : decode cL_law 1797 = .ok (.iconst 2, 1) := by decide +kernel
theorem dL_law_1798 : decode cL_law 1798 = .ok (.iadd, 1) := by decide +kernel
theorem dL_law_1799 : decode cL_law 1799 = .ok (.iaload, 1) := by decide +kernel
theorem dL_law_1800 : decode cL_law 1800 = .ok (.invokevirtual 218, 3) := by decide +kernel
theorem dL_law_1803 : decode cL_law 1803 = .ok (.aload_n 2, 1) := by decide +kernel
theorem dL_law_1804 : decode cL_law 1804 = .ok (.invokevirtual 142, 3) := by decide +kernel
theorem dL_law_1807 : decode cL_law 1807 = .ok (.iload 5, 2) := by decide +kernel
theorem dL_law_1809 : decode cL_law 1809 = .ok (.if_icmp .eq 5, 3) := by decide +kernel
theorem dL_law_1812 : decode cL_law 1812 = .ok (.iconst 0, 1) := by decide +kernel
theorem dL_law_1813 : decode cL_law 1813 = .ok (.ireturn, 1) := by decide +kernel
theorem dL_law_1814 : decode cL_law 1814 = .ok (.goto 779, 3) := by decide +kernel
theorem dL_law_1817 : decode cL_law 1817 = .ok (.aload_n 1, 1) := by decide +kernel
theorem dL_law_1818 : decode cL_law 1818 = .ok (.aload_n 0, 1) := by decide +kernel
theorem dL_law_1819 : decode cL_law 1819 = .ok (.iload 4, 2) := by decide +kernel
theorem dL_law_1821 : decode cL_law 1821 = .ok (.iconst 1, 1) := by decide +kernel
theorem dL_law_1822 : decode cL_law 1822 = .ok (.iadd, 1) := by decide +kernel
theorem dL_law_1823 : decode cL_law 1823 = .ok (.iaload, 1) := by decide +kernel
theorem dL_law_1824 : decode cL_law 1824 = .ok (.aload_n 0, 1) := by decide +kernel
theorem dL_law_1825 : decode cL_law 1825 = .ok (.iload 4, 2) := by decide +kernel
theorem dL_law_1827 : decode cL_law 1827 = .ok (.iconst 2, 1) := by decide +kernel
theorem dL_law_1828 : decode cL_law 1828 = .ok (.iadd, 1) := by decide +kernel
theorem dL_law_1829 : decode cL_law 1829 = .ok (.iaload, 1) := by decide +kernel
theorem dL_law_1830 : decode cL_law 1830 = .ok (.aload_n 3, 1) := by decide +kernel
theorem dL_law_1831 : decode cL_law 1831 = .ok (.invokestatic 219, 3) := by decide +kernel
theorem dL_law_1834 : decode cL_law 1834 = .ok (.istore 5, 2) := by decide +kernel
theorem dL_law_1836 : decode cL_law 1836 = .ok (.aload_n 2, 1) := by decide +kernel
theorem dL_law_1837 : decode cL_law 1837 = .ok (.aload_n 0, 1) := by decide +kernel
theorem dL_law_1838 : decode cL_law 1838 = .ok (.iload 4, 2) := by decide +kernel
theorem dL_law_1840 : decode cL_law 1840 = .ok (.iconst 1, 1) := by decide +kernel
theorem dL_law_1841 : decode cL_law 1841 = .ok (.iadd, 1) := by decide +kernel
theorem dL_law_1842 : decode cL_law 1842 = .ok (.iaload, 1) := by decide +kernel
theorem dL_law_1843 : decode cL_law 1843 = .ok (.aload_n 0, 1) := by decide +kernel
theorem dL_law_1844 : decode cL_law 1844 = .ok (.iload 4, 2) := by decide +kernel
theorem dL_law_1846 : decode cL_law 1846 = .ok (.iconst 2, 1) := by decide +kernel
theorem dL_law_1847 : decode cL_law 1847 = .ok (.iadd, 1) := by decide +kernel
theorem dL_law_1848 : decode cL_law 1848 = .ok (.iaload, 1) := by decide +kernel
theorem dL_law_1849 : decode cL_law 1849 = .ok (.invokevirtual 221, 3) := by decide +kernel
theorem dL_law_1852 : decode cL_law 1852 = .ok (.istore 6, 2) := by decide +kernel
theorem dL_law_1854 : decode cL_law 1854 = .ok (.aload_n 2, 1) := by decide +kernel
theorem dL_law_1855 : decode cL_law 1855 = .ok (.invokevirtual 142, 3) := by decide +kernel
theorem dL_law_1858 : decode cL_law 1858 = .ok (.iload 5, 2) := by decide +kernel
theorem dL_law_1860 : decode cL_law 1860 = .ok (.if_icmp .eq 5, 3) := by decide +kernel
theorem dL_law_1863 : decode cL_law 1863 = .ok (.iconst 0, 1) := by decide +kernel
theorem dL_law_1864 : decode cL_law 1864 = .ok (.ireturn, 1) := by decide +kernel
theorem dL_law_1865 : decode cL_law 1865 = .ok (.iload 5, 2) := by decide +kernel
theorem dL_law_1867 : decode cL_law 1867 = .ok (.ifCond .ne 15, 3) := by decide +kernel
theorem dL_law_1870 : decode cL_law 1870 = .ok (.aload_n 3, 1) := by decide +kernel
theorem dL_law_1871 : decode cL_law 1871 = .ok (.iconst 0, 1) := by decide +kernel
theorem dL_law_1872 : decode cL_law 1872 = .ok (.laload, 1) := by decide +kernel
theorem dL_law_1873 : decode cL_law 1873 = .ok (.iload 6, 2) := by decide +kernel
theorem dL_law_1875 : decode cL_law 1875 = .ok (.i2l, 1) := by decide +kernel
theorem dL_law_1876 : decode cL_law 1876 = .ok (.lcmp, 1) := by decide +kernel
theorem dL_law_1877 : decode cL_law 1877 = .ok (.ifCond .eq 5, 3) := by decide +kernel
theorem dL_law_1880 : decode cL_law 1880 = .ok (.iconst 0, 1) := by decide +kernel
theorem dL_law_1881 : decode cL_law 1881 = .ok (.ireturn, 1) := by decide +kernel
theorem dL_law_1882 : decode cL_law 1882 = .ok (.goto 711, 3) := by decide +kernel
theorem dL_law_1885 : decode cL_law 1885 = .ok (.aload_n 1, 1) := by decide +kernel
theorem dL_law_1886 : decode cL_law 1886 = .ok (.invokevirtual 222, 3) := by decide +kernel
theorem dL_law_1889 : decode cL_law 1889 = .ok (.aload_n 2, 1) := by decide +kernel
theorem dL_law_1890 : decode cL_law 1890 = .ok (.invokevirtual 225, 3) := by decide +kernel
theorem dL_law_1893 : decode cL_law 1893 = .ok (.if_icmp .eq 700, 3) := by decide +kernel
theorem dL_law_1896 : decode cL_law 1896 = .ok (.iconst 0, 1) := by decide +kernel
theorem dL_law_1897 : decode cL_law 1897 = .ok (.ireturn, 1) := by decide +kernel
theorem dL_law_1898 : decode cL_law 1898 = .ok (.aload_n 1, 1) := by decide +kernel
theorem dL_law_1899 : decode cL_law 1899 = .ok (.aload_n 0, 1) := by decide +kernel
theorem dL_law_1900 : decode cL_law 1900 = .ok (.iload 4, 2) := by decide +kernel
theorem dL_law_1902 : decode cL_law 1902 = .ok (.iconst 1, 1) := by decide +kernel
theorem dL_law_1903 : decode cL_law 1903 = .ok (.iadd, 1) := by decide +kernel
theorem dL_law_1904 : decode cL_law 1904 = .ok (.iaload, 1) := by decide +kernel
theorem dL_law_1905 : decode cL_law 1905 = .ok (.aload_n 3, 1) := by decide +kernel
theorem dL_law_1906 : decode cL_law 1906 = .ok (.invokestatic 226, 3) := by decide +kernel
theorem dL_law_1909 : decode cL_law 1909 = .ok (.istore 5, 2) := by decide +kernel
theorem dL_law_1911 : decode cL_law 1911 = .ok (.aload_n 2, 1) := by decide +kernel
theorem dL_law_1912 : decode cL_law 1912 = .ok (.aload_n 0, 1) := by decide +kernel
theorem dL_law_1913 : decode cL_law 1913 = .ok (.iload 4, 2) := by decide +kernel
theorem dL_law_1915 : decode cL_law 1915 = .ok (.iconst 1, 1) := by decide +kernel
theorem dL_law_1916 : decode cL_law 1916 = .ok (.iadd, 1) := by decide +kernel
theorem dL_law_1917 : decode cL_law 1917 = .ok (.iaload, 1) := by decide +kernel
theorem dL_law_1918 : decode cL_law 1918 = .ok (.invokevirtual 228, 3) := by decide +kernel
theorem dL_law_1921 : decode cL_law 1921 = .ok (.istore 6, 2) := by decide +kernel
theorem dL_law_1923 : decode cL_law 1923 = .ok (.aload_n 2, 1) := by decide +kernel
theorem dL_law_1924 : decode cL_law 1924 = .ok (.invokevirtual 142, 3) := by decide +kernel
theorem dL_law_1927 : decode cL_law 1927 = .ok (.iload 5, 2) := by decide +kernel
theorem dL_law_1929 : decode cL_law 1929 = .ok (.if_icmp .eq 5, 3) := by decide +kernel
theorem dL_law_1932 : decode cL_law 1932 = .ok (.iconst 0, 1) := by decide +kernel
theorem dL_law_1933 : decode cL_law 1933 = .ok (.ireturn, 1) := by decide +kernel
theorem dL_law_1934 : decode cL_law 1934 = .ok (.iload 5, 2) := by decide +kernel
theorem dL_law_1936 : decode cL_law 1936 = .ok (.ifCond .ne 15, 3) := by decide +kernel
theorem dL_law_1939 : decode cL_law 1939 = .ok (.aload_n 3, 1) := by decide +kernel
theorem dL_law_1940 : decode cL_law 1940 = .ok (.iconst 0, 1) := by decide +kernel
theorem dL_law_1941 : decode cL_law 1941 = .ok (.laload, 1) := by decide +kernel
theorem dL_law_1942 : decode cL_law 1942 = .ok (.iload 6, 2) := by decide +kernel
theorem dL_law_1944 : decode cL_law 1944 = .ok (.i2l, 1) := by decide +kernel
theorem dL_law_1945 : decode cL_law 1945 = .ok (.lcmp, 1) := by decide +kernel
theorem dL_law_1946 : decode cL_law 1946 = .ok (.ifCond .eq 5, 3) := by decide +kernel
theorem dL_law_1949 : decode cL_law 1949 = .ok (.iconst 0, 1) := by decide +kernel
theorem dL_law_1950 : decode cL_law 1950 = .ok (.ireturn, 1) := by decide +kernel
theorem dL_law_1951 : decode cL_law 1951 = .ok (.goto 642, 3) := by decide +kernel
theorem dL_law_1954 : decode cL_law 1954 = .ok (.aload_n 1, 1) := by decide +kernel
theorem dL_law_1955 : decode cL_law 1955 = .ok (.aload_n 0, 1) := by decide +kernel
theorem dL_law_1956 : decode cL_law 1956 = .ok (.iload 4, 2) := by decide +kernel
theorem dL_law_1958 : decode cL_law 1958 = .ok (.iconst 1, 1) := by decide +kernel
theorem dL_law_1959 : decode cL_law 1959 = .ok (.iadd, 1) := by decide +kernel
theorem dL_law_1960 : decode cL_law 1960 = .ok (.iaload, 1) := by decide +kernel
theorem dL_law_1961 : decode cL_law 1961 = .ok (.aload_n 3, 1) := by decide +kernel
theorem dL_law_1962 : decode cL_law 1962 = .ok (.invokestatic 229, 3) := by decide +kernel
theorem dL_law_1965 : decode cL_law 1965 = .ok (.istore 5, 2) := by decide +kernel
theorem dL_law_1967 : decode cL_law 1967 = .ok (.aload_n 2, 1) := by decide +kernel
theorem dL_law_1968 : decode cL_law 1968 = .ok (.aload_n 0, 1) := by decide +kernel
theorem dL_law_1969 : decode cL_law 1969 = .ok (.iload 4, 2) := by decide +kernel
theorem dL_law_1971 : decode cL_law 1971 = .ok (.iconst 1, 1) := by decide +kernel
theorem dL_law_1972 : decode cL_law 1972 = .ok (.iadd, 1) := by decide +kernel
theorem dL_law_1973 : decode cL_law 1973 = .ok (.iaload, 1) := by decide +kernel
theorem dL_law_1974 : decode cL_law 1974 = .ok (.invokevirtual 231, 3) := by decide +kernel
theorem dL_law_1977 : decode cL_law 1977 = .ok (.istore 6, 2) := by decide +kernel
theorem dL_law_1979 : decode cL_law 1979 = .ok (.aload_n 2, 1) := by decide +kernel
theorem dL_law_1980 : decode cL_law 1980 = .ok (.invokevirtual 142, 3) := by decide +kernel
theorem dL_law_1983 : decode cL_law 1983 = .ok (.iload 5, 2) := by decide +kernel
theorem dL_law_1985 : decode cL_law 1985 = .ok (.if_icmp .eq 5, 3) := by decide +kernel
theorem dL_law_1988 : decode cL_law 1988 = .ok (.iconst 0, 1) := by decide +kernel
theorem dL_law_1989 : decode cL_law 1989 = .ok (.ireturn, 1) := by decide +kernel
theorem dL_law_1990 : decode cL_law 1990 = .ok (.iload 5, 2) := by decide +kernel
theorem dL_law_1992 : decode cL_law 1992 = .ok (.ifCond .ne 15, 3) := by decide +kernel
theorem dL_law_1995 : decode cL_law 1995 = .ok (.aload_n 3, 1) := by decide +kernel
theorem dL_law_1996 : decode cL_law 1996 = .ok (.iconst 0, 1) := by decide +kernel
theorem dL_law_1997 : decode cL_law 1997 = .ok (.laload, 1) := by decide +kernel
theorem dL_law_1998 : decode cL_law 1998 = .ok (.iload 6, 2) := by decide +kernel
theorem dL_law_2000 : decode cL_law 2000 = .ok (.i2l, 1) := by decide +kernel
theorem dL_law_2001 : decode cL_law 2001 = .ok (.lcmp, 1) := by decide +kernel
theorem dL_law_2002 : decode cL_law 2002 = .ok (.ifCond .eq 5, 3) := by decide +kernel
theorem dL_law_2005 : decode cL_law 2005 = .ok (.iconst 0, 1) := by decide +kernel
theorem dL_law_2006 : decode cL_law 2006 = .ok (.ireturn, 1) := by decide +kernel
theorem dL_law_2007 : decode cL_law 2007 = .ok (.goto 586, 3) := by decide +kernel
theorem dL_law_2010 : decode cL_law 2010 = .ok (.aload_n 1, 1) := by decide +kernel
theorem dL_law_2011 : decode cL_law 2011 = .ok (.aload_n 0, 1) := by decide +kernel
theorem dL_law_2012 : decode cL_law 2012 = .ok (.iload 4, 2) := by decide +kernel
theorem dL_law_2014 : decode cL_law 2014 = .ok (.iconst 1, 1) := by decide +kernel
theorem dL_law_2015 : decode cL_law 2015 = .ok (.iadd, 1) := by decide +kernel
theorem dL_law_2016 : decode cL_law 2016 = .ok (.iaload, 1) := by decide +kernel
theorem dL_law_2017 : decode cL_law 2017 = .ok (.aload_n 3, 1) := by decide +kernel
theorem dL_law_2018 : decode cL_law 2018 = .ok (.invokestatic 232, 3) := by decide +kernel
theorem dL_law_2021 : decode cL_law 2021 = .ok (.istore 5, 2) := by decide +kernel
theorem dL_law_2023 : decode cL_law 2023 = .ok (.aload_n 2, 1) := by decide +kernel
theorem dL_law_2024 : decode cL_law 2024 = .ok (.aload_n 0, 1) := by decide +kernel
theorem dL_law_2025 : decode cL_law 2025 = .ok (.iload 4, 2) := by decide +kernel
theorem dL_law_2027 : decode cL_law 2027 = .ok (.iconst 1, 1) := by decide +kernel
theorem dL_law_2028 : decode cL_law 2028 = .ok (.iadd, 1) := by decide +kernel
theorem dL_law_2029 : decode cL_law 2029 = .ok (.iaload, 1) := by decide +kernel
theorem dL_law_2030 : decode cL_law 2030 = .ok (.invokevirtual 234, 3) := by decide +kernel
theorem dL_law_2033 : decode cL_law 2033 = .ok (.istore 6, 2) := by decide +kernel
theorem dL_law_2035 : decode cL_law 2035 = .ok (.aload_n 2, 1) := by decide +kernel
theorem dL_law_2036 : decode cL_law 2036 = .ok (.invokevirtual 142, 3) := by decide +kernel
theorem dL_law_2039 : decode cL_law 2039 = .ok (.iload 5, 2) := by decide +kernel
theorem dL_law_2041 : decode cL_law 2041 = .ok (.if_icmp .eq 5, 3) := by decide +kernel
theorem dL_law_2044 : decode cL_law 2044 = .ok (.iconst 0, 1) := by decide +kernel
theorem dL_law_2045 : decode cL_law 2045 = .ok (.ireturn, 1) := by decide +kernel
theorem dL_law_2046 : decode cL_law 2046 = .ok (.iload 5, 2) := by decide +kernel
theorem dL_law_2048 : decode cL_law 2048 = .ok (.ifCond .ne 15, 3) := by decide +kernel
theorem dL_law_2051 : decode cL_law 2051 = .ok (.aload_n 3, 1) := by decide +kernel
theorem dL_law_2052 : decode cL_law 2052 = .ok (.iconst 0, 1) := by decide +kernel
theorem dL_law_2053 : decode cL_law 2053 = .ok (.laload, 1) := by decide +kernel
theorem dL_law_2054 : decode cL_law 2054 = .ok (.iload 6, 2) := by decide +kernel
theorem dL_law_2056 : decode cL_law 2056 = .ok (.i2l, 1) := by decide +kernel
theorem dL_law_2057 : decode cL_law 2057 = .ok (.lcmp, 1) := by decide +kernel
theorem dL_law_2058 : decode cL_law 2058 = .ok (.ifCond .eq 5, 3) := by decide +kernel
theorem dL_law_2061 : decode cL_law 2061 = .ok (.iconst 0, 1) := by decide +kernel
theorem dL_law_2062 : decode cL_law 2062 = .ok (.ireturn, 1) := by decide +kernel
theorem dL_law_2063 : decode cL_law 2063 = .ok (.goto 530, 3) := by decide +kernel
theorem dL_law_2066 : decode cL_law 2066 = .ok (.aload_n 1, 1) := by decide +kernel
theorem dL_law_2067 : decode cL_law 2067 = .ok (.aload_n 0, 1) := by decide +kernel
theorem dL_law_2068 : decode cL_law 2068 = .ok (.iload 4, 2) := by decide +kernel
theorem dL_law_2070 : decode cL_law 2070 = .ok (.iconst 1, 1) := by decide +kernel
theorem dL_law_2071 : decode cL_law 2071 = .ok (.iadd, 1) := by decide +kernel
theorem dL_law_2072 : decode cL_law 2072 = .ok (.iaload, 1) := by decide +kernel
theorem dL_law_2073 : decode cL_law 2073 = .ok (.aload_n 3, 1) := by decide +kernel
theorem dL_law_2074 : decode cL_law 2074 = .ok (.invokestatic 235, 3) := by decide +kernel
theorem dL_law_2077 : decode cL_law 2077 = .ok (.istore 5, 2) := by decide +kernel
theorem dL_law_2079 : decode cL_law 2079 = .ok (.aload_n 2, 1) := by decide +kernel
theorem dL_law_2080 : decode cL_law 2080 = .ok (.aload_n 0, 1) := by decide +kernel
theorem dL_law_2081 : decode cL_law 2081 = .ok (.iload 4, 2) := by decide +kernel
theorem dL_law_2083 : decode cL_law 2083 = .ok (.iconst 1, 1) := by decide +kernel
theorem dL_law_2084 : decode cL_law 2084 = .ok (.iadd, 1) := by decide +kernel
theorem dL_law_2085 : decode cL_law 2085 = .ok (.iaload, 1) := by decide +kernel
theorem dL_law_2086 : decode cL_law 2086 = .ok (.invokevirtual 237, 3) := by decide +kernel
theorem dL_law_2089 : decode cL_law 2089 = .ok (.istore 6, 2) := by decide +kernel
theorem dL_law_2091 : decode cL_law 2091 = .ok (.aload_n 2, 1) := by decide +kernel
theorem dL_law_2092 : decode cL_law 2092 = .ok (.invokevirtual 142, 3) := by decide +kernel
theorem dL_law_2095 : decode cL_law 2095 = .ok (.iload 5, 2) := by decide +kernel
theorem dL_law_2097 : decode cL_law 2097 = .ok (.if_icmp .eq 5, 3) := by decide +kernel
theorem dL_law_2100 : decode cL_law 2100 = .ok (.iconst 0, 1) := by decide +kernel
theorem dL_law_2101 : decode cL_law 2101 = .ok (.ireturn, 1) := by decide +kernel
theorem dL_law_2102 : decode cL_law 2102 = .ok (.iload 5, 2) := by decide +kernel
theorem dL_law_2104 : decode cL_law 2104 = .ok (.ifCond .ne 15, 3) := by decide +kernel
theorem dL_law_2107 : decode cL_law 2107 = .ok (.aload_n 3, 1) := by decide +kernel
theorem dL_law_2108 : decode cL_law 2108 = .ok (.iconst 0, 1) := by decide +kernel
theorem dL_law_2109 : decode cL_law 2109 = .ok (.laload, 1) := by decide +kernel
theorem dL_law_2110 : decode cL_law 2110 = .ok (.iload 6, 2) := by decide +kernel
theorem dL_law_2112 : decode cL_law 2112 = .ok (.i2l, 1) := by decide +kernel
theorem dL_law_2113 : decode cL_law 2113 = .ok (.lcmp, 1) := by decide +kernel
theorem dL_law_2114 : decode cL_law 2114 = .ok (.ifCond .eq 5, 3) := by decide +kernel
theorem dL_law_2117 : decode cL_law 2117 = .ok (.iconst 0, 1) := by decide +kernel
theorem dL_law_2118 : decode cL_law 2118 = .ok (.ireturn, 1) := by decide +kernel
theorem dL_law_2119 : decode cL_law 2119 = .ok (.goto 474, 3) := by decide +kernel
theorem dL_law_2122 : decode cL_law 2122 = .ok (.aload_n 1, 1) := by decide +kernel
theorem dL_law_2123 : decode cL_law 2123 = .ok (.aload_n 0, 1) := by decide +kernel
theorem dL_law_2124 : decode cL_law 2124 = .ok (.iload 4, 2) := by decide +kernel
theorem dL_law_2126 : decode cL_law 2126 = .ok (.iconst 1, 1) := by decide +kernel
theorem dL_law_2127 : decode cL_law 2127 = .ok (.iadd, 1) := by decide +kernel
theorem dL_law_2128 : decode cL_law 2128 = .ok (.iaload, 1) := by decide +kernel
theorem dL_law_2129 : decode cL_law 2129 = .ok (.aload_n 0, 1) := by decide +kernel
theorem dL_law_2130 : decode cL_law 2130 = .ok (.iload 4, 2) := by decide +kernel
theorem dL_law_2132 : decode cL_law 2132 = .ok (.iconst 2, 1) := by decide +kernel
theorem dL_law_2133 : decode cL_law 2133 = .ok (.iadd, 1) := by decide +kernel
theorem dL_law_2134 : decode cL_law 2134 = .ok (.iaload, 1) := by decide +kernel
theorem dL_law_2135 : decode cL_law 2135 = .ok (.aload_n 0, 1) := by decide +kernel
theorem dL_law_2136 : decode cL_law 2136 = .ok (.iload 4, 2) := by decide +kernel
theorem dL_law_2138 : decode cL_law 2138 = .ok (.iconst 3, 1) := by decide +kernel
theorem dL_law_2139 : decode cL_law 2139 = .ok (.iadd, 1) := by decide +kernel
theorem dL_law_2140 : decode cL_law 2140 = .ok (.iaload, 1) := by decide +kernel
theorem dL_law_2141 : decode cL_law 2141 = .ok (.invokestatic 238, 3) := by decide +kernel
theorem dL_law_2144 : decode cL_law 2144 = .ok (.istore 5, 2) := by decide +kernel
theorem dL_law_2146 : decode cL_law 2146 = .ok (.aload_n 2, 1) := by decide +kernel
theorem dL_law_2147 : decode cL_law 2147 = .ok (.aload_n 0, 1) := by decide +kernel
theorem dL_law_2148 : decode cL_law 2148 = .ok (.iload 4, 2) := by decide +kernel
theorem dL_law_2150 : decode cL_law 2150 = .ok (.iconst 1, 1) := by decide +kernel
theorem dL_law_2151 : decode cL_law 2151 = .ok (.iadd, 1) := by decide +kernel
theorem dL_law_2152 : decode cL_law 2152 = .ok (.iaload, 1) := by decide +kernel
theorem dL_law_2153 : decode cL_law 2153 = .ok (.aload_n 0, 1) := by decide +kernel
theorem dL_law_2154 : decode cL_law 2154 = .ok (.iload 4, 2) := by decide +kernel
theorem dL_law_2156 : decode cL_law 2156 = .ok (.iconst 2, 1) := by decide +kernel
theorem dL_law_2157 : decode cL_law 2157 = .ok (.iadd, 1) := by decide +kernel
theorem dL_law_2158 : decode cL_law 2158 = .ok (.iaload, 1) := by decide +kernel
theorem dL_law_2159 : decode cL_law 2159 = .ok (.aload_n 0, 1) := by decide +kernel
theorem dL_law_2160 : decode cL_law 2160 = .ok (.iload 4, 2) := by decide +kernel
theorem dL_law_2162 : decode cL_law 2162 = .ok (.iconst 3, 1) := by decide +kernel
theorem dL_law_2163 : decode cL_law 2163 = .ok (.iadd, 1) := by decide +kernel
theorem dL_law_2164 : decode cL_law 2164 = .ok (.iaload, 1) := by decide +kernel
theorem dL_law_2165 : decode cL_law 2165 = .ok (.invokevirtual 241, 3) := by decide +kernel
theorem dL_law_2168 : decode cL_law 2168 = .ok (.aload_n 2, 1) := by decide +kernel
theorem dL_law_2169 : decode cL_law 2169 = .ok (.invokevirtual 142, 3) := by decide +kernel
theorem dL_law_2172 : decode cL_law 2172 = .ok (.iload 5, 2) := by decide +kernel
theorem dL_law_2174 : decode cL_law 2174 = .ok (.if_icmp .eq 5, 3) := by decide +kernel
theorem dL_law_2177 : decode cL_law 2177 = .ok (.iconst 0, 1) := by decide +kernel
theorem dL_law_2178 : decode cL_law 2178 = .ok (.ireturn, 1) := by decide +kernel
theorem dL_law_2179 : decode cL_law 2179 = .ok (.goto 414, 3) := by decide +kernel
theorem dL_law_2182 : decode cL_law 2182 = .ok (.aload_n 1, 1) := by decide +kernel
theorem dL_law_2183 : decode cL_law 2183 = .ok (.aload_n 0, 1) := by decide +kernel
theorem dL_law_2184 : decode cL_law 2184 = .ok (.iload 4, 2) := by decide +kernel
theorem dL_law_2186 : decode cL_law 2186 = .ok (.iconst 1, 1) := by decide +kernel
theorem dL_law_2187 : decode cL_law 2187 = .ok (.iadd, 1) := by decide +kernel
theorem dL_law_2188 : decode cL_law 2188 = .ok (.iaload, 1) := by decide +kernel
theorem dL_law_2189 : decode cL_law 2189 = .ok (.aload_n 3, 1) := by decide +kernel
theorem dL_law_2190 : decode cL_law 2190 = .ok (.invokestatic 242, 3) := by decide +kernel
theorem dL_law_2193 : decode cL_law 2193 = .ok (.istore 5, 2) := by decide +kernel
theorem dL_law_2195 : decode cL_law 2195 = .ok (.aload_n 2, 1) := by decide +kernel
theorem dL_law_2196 : decode cL_law 2196 = .ok (.aload_n 0, 1) := by decide +kernel
theorem dL_law_2197 : decode cL_law 2197 = .ok (.iload 4, 2) := by decide +kernel
theorem dL_law_2199 : decode cL_law 2199 = .ok (.iconst 1, 1) := by decide +kernel
theorem dL_law_2200 : decode cL_law 2200 = .ok (.iadd, 1) := by decide +kernel
theorem dL_law_2201 : decode cL_law 2201 = .ok (.iaload, 1) := by decide +kernel
theorem dL_law_2202 : decode cL_law 2202 = .ok (.invokevirtual 244, 3) := by decide +kernel
theorem dL_law_2205 : decode cL_law 2205 = .ok (.istore 6, 2) := by decide +kernel
theorem dL_law_2207 : decode cL_law 2207 = .ok (.aload_n 2, 1) := by decide +kernel
theorem dL_law_2208 : decode cL_law 2208 = .ok (.invokevirtual 142, 3) := by decide +kernel
theorem dL_law_2211 : decode cL_law 2211 = .ok (.iload 5, 2) := by decide +kernel
theorem dL_law_2213 : decode cL_law 2213 = .ok (.if_icmp .eq 5, 3) := by decide +kernel
theorem dL_law_2216 : decode cL_law 2216 = .ok (.iconst 0, 1) := by decide +kernel
theorem dL_law_2217 : decode cL_law 2217 = .ok (.ireturn, 1) := by decide +kernel
theorem dL_law_2218 : decode cL_law 2218 = .ok (.iload 5, 2) := by decide +kernel
theorem dL_law_2220 : decode cL_law 2220 = .ok (.ifCond .ne 15, 3) := by decide +kernel
theorem dL_law_2223 : decode cL_law 2223 = .ok (.aload_n 3, 1) := by decide +kernel
theorem dL_law_2224 : decode cL_law 2224 = .ok (.iconst 0, 1) := by decide +kernel
theorem dL_law_2225 : decode cL_law 2225 = .ok (.laload, 1) := by decide +kernel
theorem dL_law_2226 : decode cL_law 2226 = .ok (.iload 6, 2) := by decide +kernel
theorem dL_law_2228 : decode cL_law 2228 = .ok (.i2l, 1) := by decide +kernel
theorem dL_law_2229 : decode cL_law 2229 = .ok (.lcmp, 1) := by decide +kernel
theorem dL_law_2230 : decode cL_law 2230 = .ok (.ifCond .eq 5, 3) := by decide +kernel
theorem dL_law_2233 : decode cL_law 2233 = .ok (.iconst 0, 1) := by decide +kernel
theorem dL_law_2234 : decode cL_law 2234 = .ok (.ireturn, 1) := by decide +kernel
theorem dL_law_2235 : decode cL_law 2235 = .ok (.goto 358, 3) := by decide +kernel
theorem dL_law_2238 : decode cL_law 2238 = .ok (.aload_n 1, 1) := by decide +kernel
theorem dL_law_2239 : decode cL_law 2239 = .ok (.aload_n 0, 1) := by decide +kernel
theorem dL_law_2240 : decode cL_law 2240 = .ok (.iload 4, 2) := by decide +kernel
theorem dL_law_2242 : decode cL_law 2242 = .ok (.iconst 1, 1) := by decide +kernel
theorem dL_law_2243 : decode cL_law 2243 = .ok (.iadd, 1) := by decide +kernel
theorem dL_law_2244 : decode cL_law 2244 = .ok (.iaload, 1) := by decide +kernel
theorem dL_law_2245 : decode cL_law 2245 = .ok (.aload_n 3, 1) := by decide +kernel
theorem dL_law_2246 : decode cL_law 2246 = .ok (.invokestatic 245, 3) := by decide +kernel
theorem dL_law_2249 : decode cL_law 2249 = .ok (.istore 5, 2) := by decide +kernel
theorem dL_law_2251 : decode cL_law 2251 = .ok (.aload_n 2, 1) := by decide +kernel
theorem dL_law_2252 : decode cL_law 2252 = .ok (.aload_n 0, 1) := by decide +kernel
theorem dL_law_2253 : decode cL_law 2253 = .ok (.iload 4, 2) := by decide +kernel
theorem dL_law_2255 : decode cL_law 2255 = .ok (.iconst 1, 1) := by decide +kernel
theorem dL_law_2256 : decode cL_law 2256 = .ok (.iadd, 1) := by decide +kernel
theorem dL_law_2257 : decode cL_law 2257 = .ok (.iaload, 1) := by decide +kernel
theorem dL_law_2258 : decode cL_law 2258 = .ok (.invokevirtual 247, 3) := by decide +kernel
theorem dL_law_2261 : decode cL_law 2261 = .ok (.istore 6, 2) := by decide +kernel
theorem dL_law_2263 : decode cL_law 2263 = .ok (.aload_n 2, 1) := by decide +kernel
theorem dL_law_2264 : decode cL_law 2264 = .ok (.invokevirtual 142, 3) := by decide +kernel
theorem dL_law_2267 : decode cL_law 2267 = .ok (.iload 5, 2) := by decide +kernel
theorem dL_law_2269 : decode cL_law 2269 = .ok (.if_icmp .eq 5, 3) := by decide +kernel
theorem dL_law_2272 : decode cL_law 2272 = .ok (.iconst 0, 1) := by decide +kernel
theorem dL_law_2273 : decode cL_law 2273 = .ok (.ireturn, 1) := by decide +kernel
theorem dL_law_2274 : decode cL_law 2274 = .ok (.iload 5, 2) := by decide +kernel
theorem dL_law_2276 : decode cL_law 2276 = .ok (.ifCond .ne 15, 3) := by decide +kernel
theorem dL_law_2279 : decode cL_law 2279 = .ok (.aload_n 3, 1) := by decide +kernel
theorem dL_law_2280 : decode cL_law 2280 = .ok (.iconst 0, 1) := by decide +kernel
theorem dL_law_2281 : decode cL_law 2281 = .ok (.laload, 1) := by decide +kernel
theorem dL_law_2282 : decode cL_law 2282 = .ok (.iload 6, 2) := by decide +kernel
theorem dL_law_2284 : decode cL_law 2284 = .ok (.i2l, 1) := by decide +kernel
theorem dL_law_2285 : decode cL_law 2285 = .ok (.lcmp, 1) := by decide +kernel
theorem dL_law_2286 : decode cL_law 2286 = .ok (.ifCond .eq 5, 3) := by decide +kernel
theorem dL_law_2289 : decode cL_law 2289 = .ok (.iconst 0, 1) := by decide +kernel
theorem dL_law_2290 : decode cL_law 2290 = .ok (.ireturn, 1) := by decide +kernel
theorem dL_law_2291 : decode cL_law 2291 = .ok (.goto 302, 3) := by decide +kernel
theorem dL_law_2294 : decode cL_law 2294 = .ok (.aload_n 1, 1) := by decide +kernel
theorem dL_law_2295 : decode cL_law 2295 = .ok (.aload_n 0, 1) := by decide +kernel
theorem dL_law_2296 : decode cL_law 2296 = .ok (.iload 4, 2) := by decide +kernel
theorem dL_law_2298 : decode cL_law 2298 = .ok (.iconst 1, 1) := by decide +kernel
theorem dL_law_2299 : decode cL_law 2299 = .ok (.iadd, 1) := by decide +kernel
theorem dL_law_2300 : decode cL_law 2300 = .ok (.iaload, 1) := by decide +kernel
theorem dL_law_2301 : decode cL_law 2301 = .ok (.aload_n 0, 1) := by decide +kernel
theorem dL_law_2302 : decode cL_law 2302 = .ok (.iload 4, 2) := by decide +kernel
theorem dL_law_2304 : decode cL_law 2304 = .ok (.iconst 2, 1) := by decide +kernel
theorem dL_law_2305 : decode cL_law 2305 = .ok (.iadd, 1) := by decide +kernel
theorem dL_law_2306 : decode cL_law 2306 = .ok (.iaload, 1) := by decide +kernel
theorem dL_law_2307 : decode cL_law 2307 = .ok (.aload_n 3, 1) := by decide +kernel
theorem dL_law_2308 : decode cL_law 2308 = .ok (.invokestatic 248, 3) := by decide +kernel
theorem dL_law_2311 : decode cL_law 2311 = .ok (.istore 5, 2) := by decide +kernel
theorem dL_law_2313 : decode cL_law 2313 = .ok (.aload_n 2, 1) := by decide +kernel
theorem dL_law_2314 : decode cL_law 2314 = .ok (.aload_n 0, 1) := by decide +kernel
theorem dL_law_2315 : decode cL_law 2315 = .ok (.iload 4, 2) := by decide +kernel
theorem dL_law_2317 : decode cL_law 2317 = .ok (.iconst 1, 1) := by decide +kernel
theorem dL_law_2318 : decode cL_law 2318 = .ok (.iadd, 1) := by decide +kernel
theorem dL_law_2319 : decode cL_law 2319 = .ok (.iaload, 1) := by decide +kernel
theorem dL_law_2320 : decode cL_law 2320 = .ok (.aload_n 0, 1) := by decide +kernel
theorem dL_law_2321 : decode cL_law 2321 = .ok (.iload 4, 2) := by decide +kernel
theorem dL_law_2323 : decode cL_law 2323 = .ok (.iconst 2, 1) := by decide +kernel
theorem dL_law_2324 : decode cL_law 2324 = .ok (.iadd, 1) := by decide +kernel
theorem dL_law_2325 : decode cL_law 2325 = .ok (.iaload, 1) := by decide +kernel
theorem dL_law_2326 : decode cL_law 2326 = .ok (.invokevirtual 250, 3) := by decide +kernel
theorem dL_law_2329 : decode cL_law 2329 = .ok (.istore 6, 2) := by decide +kernel
theorem dL_law_2331 : decode cL_law 2331 = .ok (.aload_n 2, 1) := by decide +kernel
theorem dL_law_2332 : decode cL_law 2332 = .ok (.invokevirtual 142, 3) := by decide +kernel
theorem dL_law_2335 : decode cL_law 2335 = .ok (.iload 5, 2) := by decide +kernel
theorem dL_law_2337 : decode cL_law 2337 = .ok (.if_icmp .eq 5, 3) := by decide +kernel
theorem dL_law_2340 : decode cL_law 2340 = .ok (.iconst 0, 1) := by decide +kernel
theorem dL_law_2341 : decode cL_law 2341 = .ok (.ireturn, 1) := by decide +kernel
theorem dL_law_2342 : decode cL_law 2342 = .ok (.iload 5, 2) := by decide +kernel
theorem dL_law_2344 : decode cL_law 2344 = .ok (.ifCond .ne 15, 3) := by decide +kernel
theorem dL_law_2347 : decode cL_law 2347 = .ok (.aload_n 3, 1) := by decide +kernel
theorem dL_law_2348 : decode cL_law 2348 = .ok (.iconst 0, 1) := by decide +kernel
theorem dL_law_2349 : decode cL_law 2349 = .ok (.laload, 1) := by decide +kernel
theorem dL_law_2350 : decode cL_law 2350 = .ok (.iload 6, 2) := by decide +kernel
theorem dL_law_2352 : decode cL_law 2352 = .ok (.i2l, 1) := by decide +kernel
theorem dL_law_2353 : decode cL_law 2353 = .ok (.lcmp, 1) := by decide +kernel
theorem dL_law_2354 : decode cL_law 2354 = .ok (.ifCond .eq 5, 3) := by decide +kernel
theorem dL_law_2357 : decode cL_law 2357 = .ok (.iconst 0, 1) := by decide +kernel
theorem dL_law_2358 : decode cL_law 2358 = .ok (.ireturn, 1) := by decide +kernel
theorem dL_law_2359 : decode cL_law 2359 = .ok (.goto 234, 3) := by decide +kernel
theorem dL_law_2362 : decode cL_law 2362 = .ok (.aload_n 1, 1) := by decide +kernel
theorem dL_law_2363 : decode cL_law 2363 = .ok (.invokevirtual 251, 3) := by decide +kernel
theorem dL_law_2366 : decode cL_law 2366 = .ok (.aload_n 2, 1) := by decide +kernel
theorem dL_law_2367 : decode cL_law 2367 = .ok (.invokevirtual 254, 3) := by decide +kernel
theorem dL_law_2370 : decode cL_law 2370 = .ok (.if_icmp .eq 223, 3) := by decide +kernel
theorem dL_law_2373 : decode cL_law 2373 = .ok (.iconst 0, 1) := by decide +kernel
theorem dL_law_2374 : decode cL_law 2374 = .ok (.ireturn, 1) := by decide +kernel
theorem dL_law_2375 : decode cL_law 2375 = .ok (.aload_n 1, 1) := by decide +kernel
theorem dL_law_2376 : decode cL_law 2376 = .ok (.invokevirtual 255, 3) := by decide +kernel
theorem dL_law_2379 : decode cL_law 2379 = .ok (.aload_n 2, 1) := by decide +kernel
theorem dL_law_2380 : decode cL_law 2380 = .ok (.invokevirtual 258, 3) := by decide +kernel
theorem dL_law_2383 : decode cL_law 2383 = .ok (.if_icmp .eq 210, 3) := by decide +kernel
theorem dL_law_2386 : decode cL_law 2386 = .ok (.iconst 0, 1) := by decide +kernel
theorem dL_law_2387 : decode cL_law 2387 = .ok (.ireturn, 1) := by decide +kernel
theorem dL_law_2388 : decode cL_law 2388 = .ok (.aload_n 1, 1) := by decide +kernel
theorem dL_law_2389 : decode cL_law 2389 = .ok (.invokevirtual 259, 3) := by decide +kernel
theorem dL_law_2392 : decode cL_law 2392 = .ok (.aload_n 2, 1) := by decide +kernel
theorem dL_law_2393 : decode cL_law 2393 = .ok (.invokevirtual 262, 3) := by decide +kernel
theorem dL_law_2396 : decode cL_law 2396 = .ok (.if_icmp .eq 197, 3) := by decide +kernel
theorem dL_law_2399 : decode cL_law 2399 = .ok (.iconst 0, 1) := by decide +kernel
theorem dL_law_2400 : decode cL_law 2400 = .ok (.ireturn, 1) := by decide +kernel
theorem dL_law_2401 : decode cL_law 2401 = .ok (.aload_n 1, 1) := by decide +kernel
theorem dL_law_2402 : decode cL_law 2402 = .ok (.aload_n 0, 1) := by decide +kernel
theorem dL_law_2403 : decode cL_law 2403 = .ok (.iload 4, 2) := by decide +kernel
theorem dL_law_2405 : decode cL_law 2405 = .ok (.iconst 1, 1) := by decide +kernel
theorem dL_law_2406 : decode cL_law 2406 = .ok (.iadd, 1) := by decide +kernel
theorem dL_law_2407 : decode cL_law 2407 = .ok (.iaload, 1) := by decide +kernel
theorem dL_law_2408 : decode cL_law 2408 = .ok (.aload_n 3, 1) := by decide +kernel
theorem dL_law_2409 : decode cL_law 2409 = .ok (.invokestatic 263, 3) := by decide +kernel
theorem dL_law_2412 : decode cL_law 2412 = .ok (.istore 5, 2) := by decide +kernel
theorem dL_law_2414 : decode cL_law 2414 = .ok (.aload_n 2, 1) := by decide +kernel
theorem dL_law_2415 : decode cL_law 2415 = .ok (.aload_n 0, 1) := by decide +kernel
theorem dL_law_2416 : decode cL_law 2416 = .ok (.iload 4, 2) := by decide +kernel
theorem dL_law_2418 : decode cL_law 2418 = .ok (.iconst 1, 1) := by decide +kernel
theorem dL_law_2419 : decode cL_law 2419 = .ok (.iadd, 1) := by decide +kernel
theorem dL_law_2420 : decode cL_law 2420 = .ok (.iaload, 1) := by decide +kernel
theorem dL_law_2421 : decode cL_law 2421 = .ok (.invokevirtual 265, 3) := by decide +kernel
theorem dL_law_2424 : decode cL_law 2424 = .ok (.istore 6, 2) := by decide +kernel
theorem dL_law_2426 : decode cL_law 2426 = .ok (.aload_n 2, 1) := by decide +kernel
theorem dL_law_2427 : decode cL_law 2427 = .ok (.invokevirtual 142, 3) := by decide +kernel
theorem dL_law_2430 : decode cL_law 2430 = .ok (.iload 5, 2) := by decide +kernel
theorem dL_law_2432 : decode cL_law 2432 = .ok (.if_icmp .eq 5, 3) := by decide +kernel
theorem dL_law_2435 : decode cL_law 2435 = .ok (.iconst 0, 1) := by decide +kernel
theorem dL_law_2436 : decode cL_law 2436 = .ok (.ireturn, 1) := by decide +kernel
theorem dL_law_2437 : decode cL_law 2437 = .ok (.iload 5, 2) := by decide +kernel
theorem dL_law_2439 : decode cL_law 2439 = .ok (.ifCond .ne 15, 3) := by decide +kernel
theorem dL_law_2442 : decode cL_law 2442 = .ok (.aload_n 3, 1) := by decide +kernel
theorem dL_law_2443 : decode cL_law 2443 = .ok (.iconst 0, 1) := by decide +kernel
theorem dL_law_2444 : decode cL_law 2444 = .ok (.laload, 1) := by decide +kernel
theorem dL_law_2445 : decode cL_law 2445 = .ok (.iload 6, 2) := by decide +kernel
theorem dL_law_2447 : decode cL_law 2447 = .ok (.i2l, 1) := by decide +kernel
theorem dL_law_2448 : decode cL_law 2448 = .ok (.lcmp, 1) := by decide +kernel
theorem dL_law_2449 : decode cL_law 2449 = .ok (.ifCond .eq 5, 3) := by decide +kernel
theorem dL_law_2452 : decode cL_law 2452 = .ok (.iconst 0, 1) := by decide +kernel
theorem dL_law_2453 : decode cL_law 2453 = .ok (.ireturn, 1) := by decide +kernel
theorem dL_law_2454 : decode cL_law 2454 = .ok (.goto 139, 3) := by decide +kernel
theorem dL_law_2457 : decode cL_law 2457 = .ok (.aload_n 1, 1) := by decide +kernel
theorem dL_law_2458 : decode cL_law 2458 = .ok (.aload_n 0, 1) := by decide +kernel
theorem dL_law_2459 : decode cL_law 2459 = .ok (.iload 4, 2) := by decide +kernel
theorem dL_law_2461 : decode cL_law 2461 = .ok (.iconst 1, 1) := by decide +kernel
theorem dL_law_2462 : decode cL_law 2462 = .ok (.iadd, 1) := by decide +kernel
theorem dL_law_2463 : decode cL_law 2463 = .ok (.iaload, 1) := by decide +kernel
theorem dL_law_2464 : decode cL_law 2464 = .ok (.aload_n 0, 1) := by decide +kernel
theorem dL_law_2465 : decode cL_law 2465 = .ok (.iload 4, 2) := by decide +kernel
theorem dL_law_2467 : decode cL_law 2467 = .ok (.iconst 2, 1) := by decide +kernel
theorem dL_law_2468 : decode cL_law 2468 = .ok (.iadd, 1) := by decide +kernel
theorem dL_law_2469 : decode cL_law 2469 = .ok (.iaload, 1) := by decide +kernel
theorem dL_law_2470 : decode cL_law 2470 = .ok (.aload_n 3, 1) := by decide +kernel
theorem dL_law_2471 : decode cL_law 2471 = .ok (.invokestatic 266, 3) := by decide +kernel
theorem dL_law_2474 : decode cL_law 2474 = .ok (.istore 5, 2) := by decide +kernel
theorem dL_law_2476 : decode cL_law 2476 = .ok (.aload_n 2, 1) := by decide +kernel
theorem dL_law_2477 : decode cL_law 2477 = .ok (.aload_n 0, 1) := by decide +kernel
theorem dL_law_2478 : decode cL_law 2478 = .ok (.iload 4, 2) := by decide +kernel
theorem dL_law_2480 : decode cL_law 2480 = .ok (.iconst 1, 1) := by decide +kernel
theorem dL_law_2481 : decode cL_law 2481 = .ok (.iadd, 1) := by decide +kernel
theorem dL_law_2482 : decode cL_law 2482 = .ok (.iaload, 1) := by decide +kernel
theorem dL_law_2483 : decode cL_law 2483 = .ok (.aload_n 0, 1) := by decide +kernel
theorem dL_law_2484 : decode cL_law 2484 = .ok (.iload 4, 2) := by decide +kernel
theorem dL_law_2486 : decode cL_law 2486 = .ok (.iconst 2, 1) := by decide +kernel
theorem dL_law_2487 : decode cL_law 2487 = .ok (.iadd, 1) := by decide +kernel
theorem dL_law_2488 : decode cL_law 2488 = .ok (.iaload, 1) := by decide +kernel
theorem dL_law_2489 : decode cL_law 2489 = .ok (.invokevirtual 268, 3) := by decide +kernel
theorem dL_law_2492 : decode cL_law 2492 = .ok (.istore 6, 2) := by decide +kernel
theorem dL_law_2494 : decode cL_law 2494 = .ok (.aload_n 2, 1) := by decide +kernel
theorem dL_law_2495 : decode cL_law 2495 = .ok (.invokevirtual 142, 3) := by decide +kernel
theorem dL_law_2498 : decode cL_law 2498 = .ok (.iload 5, 2) := by decide +kernel
theorem dL_law_2500 : decode cL_law 2500 = .ok (.if_icmp .eq 5, 3) := by decide +kernel
theorem dL_law_2503 : decode cL_law 2503 = .ok (.iconst 0, 1) := by decide +kernel
theorem dL_law_2504 : decode cL_law 2504 = .ok (.ireturn, 1) := by decide +kernel
theorem dL_law_2505 : decode cL_law 2505 = .ok (.iload 5, 2) := by decide +kernel
theorem dL_law_2507 : decode cL_law 2507 = .ok (.ifCond .ne 15, 3) := by decide +kernel
theorem dL_law_2510 : decode cL_law 2510 = .ok (.aload_n 3, 1) := by decide +kernel
theorem dL_law_2511 : decode cL_law 2511 = .ok (.iconst 0, 1) := by decide +kernel
theorem dL_law_2512 : decode cL_law 2512 = .ok (.laload, 1) := by decide +kernel
theorem dL_law_2513 : decode cL_law 2513 = .ok (.iload 6, 2) := by decide +kernel
theorem dL_law_2515 : decode cL_law 2515 = .ok (.i2l, 1) := by decide +kernel
theorem dL_law_2516 : decode cL_law 2516 = .ok (.lcmp, 1) := by decide +kernel
theorem dL_law_2517 : decode cL_law 2517 = .ok (.ifCond .eq 5, 3) := by decide +kernel
theorem dL_law_2520 : decode cL_law 2520 = .ok (.iconst 0, 1) := by decide +kernel
theorem dL_law_2521 : decode cL_law 2521 = .ok (.ireturn, 1) := by decide +kernel
theorem dL_law_2522 : decode cL_law 2522 = .ok (.goto 71, 3) := by decide +kernel
theorem dL_law_2525 : decode cL_law 2525 = .ok (.aload_n 1, 1) := by decide +kernel
theorem dL_law_2526 : decode cL_law 2526 = .ok (.aload_n 0, 1) := by decide +kernel
theorem dL_law_2527 : decode cL_law 2527 = .ok (.iload 4, 2) := by decide +kernel
theorem dL_law_2529 : decode cL_law 2529 = .ok (.iconst 1, 1) := by decide +kernel
theorem dL_law_2530 : decode cL_law 2530 = .ok (.iadd, 1) := by decide +kernel
theorem dL_law_2531 : decode cL_law 2531 = .ok (.iaload, 1) := by decide +kernel
theorem dL_law_2532 : decode cL_law 2532 = .ok (.aload_n 0, 1) := by decide +kernel
theorem dL_law_2533 : decode cL_law 2533 = .ok (.iload 4, 2) := by decide +kernel
theorem dL_law_2535 : decode cL_law 2535 = .ok (.iconst 2, 1) := by decide +kernel
theorem dL_law_2536 : decode cL_law 2536 = .ok (.iadd, 1) := by decide +kernel
theorem dL_law_2537 : decode cL_law 2537 = .ok (.iaload, 1) := by decide +kernel
theorem dL_law_2538 : decode cL_law 2538 = .ok (.aload_n 3, 1) := by decide +kernel
theorem dL_law_2539 : decode cL_law 2539 = .ok (.invokestatic 269, 3) := by decide +kernel
theorem dL_law_2542 : decode cL_law 2542 = .ok (.istore 5, 2) := by decide +kernel
theorem dL_law_2544 : decode cL_law 2544 = .ok (.aload_n 2, 1) := by decide +kernel
theorem dL_law_2545 : decode cL_law 2545 = .ok (.aload_n 0, 1) := by decide +kernel
theorem dL_law_2546 : decode cL_law 2546 = .ok (.iload 4, 2) := by decide +kernel
theorem dL_law_2548 : decode cL_law 2548 = .ok (.iconst 1, 1) := by decide +kernel
theorem dL_law_2549 : decode cL_law 2549 = .ok (.iadd, 1) := by decide +kernel
theorem dL_law_2550 : decode cL_law 2550 = .ok (.iaload, 1) := by decide +kernel
theorem dL_law_2551 : decode cL_law 2551 = .ok (.aload_n 0, 1) := by decide +kernel
theorem dL_law_2552 : decode cL_law 2552 = .ok (.iload 4, 2) := by decide +kernel
theorem dL_law_2554 : decode cL_law 2554 = .ok (.iconst 2, 1) := by decide +kernel
theorem dL_law_2555 : decode cL_law 2555 = .ok (.iadd, 1) := by decide +kernel
theorem dL_law_2556 : decode cL_law 2556 = .ok (.iaload, 1) := by decide +kernel
theorem dL_law_2557 : decode cL_law 2557 = .ok (.invokevirtual 271, 3) := by decide +kernel
theorem dL_law_2560 : decode cL_law 2560 = .ok (.istore 6, 2) := by decide +kernel
theorem dL_law_2562 : decode cL_law 2562 = .ok (.aload_n 2, 1) := by decide +kernel
theorem dL_law_2563 : decode cL_law 2563 = .ok (.invokevirtual 142, 3) := by decide +kernel
theorem dL_law_2566 : decode cL_law 2566 = .ok (.iload 5, 2) := by decide +kernel
theorem dL_law_2568 : decode cL_law 2568 = .ok (.if_icmp .eq 5, 3) := by decide +kernel
theorem dL_law_2571 : decode cL_law 2571 = .ok (.iconst 0, 1) := by decide +kernel
theorem dL_law_2572 : decode cL_law 2572 = .ok (.ireturn, 1) := by decide +kernel
theorem dL_law_2573 : decode cL_law 2573 = .ok (.iload 5, 2) := by decide +kernel
theorem dL_law_2575 : decode cL_law 2575 = .ok (.ifCond .ne 15, 3) := by decide +kernel
theorem dL_law_2578 : decode cL_law 2578 = .ok (.aload_n 3, 1) := by decide +kernel
theorem dL_law_2579 : decode cL_law 2579 = .ok (.iconst 0, 1) := by decide +kernel
theorem dL_law_2580 : decode cL_law 2580 = .ok (.laload, 1) := by decide +kernel
theorem dL_law_2581 : decode cL_law 2581 = .ok (.iload 6, 2) := by decide +kernel
theorem dL_law_2583 : decode cL_law 2583 = .ok (.i2l, 1) := by decide +kernel
theorem dL_law_2584 : decode cL_law 2584 = .ok (.lcmp, 1) := by decide +kernel
theorem dL_law_2585 : decode cL_law 2585 = .ok (.ifCond .eq 5, 3) := by decide +kernel
theorem dL_law_2588 : decode cL_law 2588 = .ok (.iconst 0, 1) := by decide +kernel
theorem dL_law_2589 : decode cL_law 2589 = .ok (.ireturn, 1) := by decide +kernel
theorem dL_law_2590 : decode cL_law 2590 = .ok (.goto 3, 3) := by decide +kernel
theorem dL_law_2593 : decode cL_law 2593 = .ok (.iinc 4 5, 3) := by decide +kernel
theorem dL_law_2596 : decode cL_law 2596 = .ok (.goto (-2573), 3) := by decide +kernel
theorem dL_law_2599 : decode cL_law 2599 = .ok (.iconst 1, 1) := by decide +kernel
theorem dL_law_2600 : decode cL_law 2600 = .ok (.ireturn, 1) := by decide +kernel
end
section
/-! the layer of maps: what the heap holds is told by a map from addresses to cells -/
abbrev AM : Type := Nat → Option va_E
def am_up (M : AM) (q : Nat) (e : va_E) : AM := fun j => if j = q then some e else M j
theorem am_us {M : AM} {q : Nat} {e : va_E} : am_up M q e q = some e := if_pos rfl
theorem am_un {M : AM} {q j : Nat} {e : va_E} (h : j ≠ q) : am_up M q e j = M j := if_neg h
theorem am_uu {M : AM} {q : Nat} {e e' : va_E} : am_up (am_up M q e) q e' = am_up M q e' := by
  funext j
  by_cases h : j = q
  · simp [am_up, h]
  · simp [am_up, h]
/-- outside of a .. b nothing is changed -/
def am_out (M M' : AM) (a b : Nat) : Prop := ∀ q : Nat, q < a ∨ b ≤ q → M' q = M q
theorem am_out.rf {M : AM} {a b : Nat} : am_out M M a b := fun _ _ => rfl
theorem am_out.tr {M M' M'' : AM} {a b : Nat} (h : am_out M M' a b) (h' : am_out M' M'' a b) : am_out M M'' a b := fun q hq => (h' q hq).trans (h q hq)
theorem am_out.wd {M M' : AM} {a b a' b' : Nat} (h : am_out M M' a b) (h1 : a' ≤ a) (h2 : b ≤ b') : am_out M M' a' b' := fun q hq => h q (by omega)
theorem am_out.up {M : AM} {q a b : Nat} {e : va_E} (h1 : a ≤ q) (h2 : q < b) : am_out M (am_up M q e) a b := fun j hj => am_un (by omega)
/-- D: the classes; the classes of arrays; the least address that is the law's own; the address of the list's static empty array -/
abbrev AG : Type := va_G × (Nat → ClassId) × Nat × Nat
def am_A (G : AG) : Nat → Prop := fun q => G.2.2.1 ≤ q
def am_tys (G : AG) : List (ClassId × FieldType) := [(G.2.1 0, .int), (G.2.1 1, .long), (G.2.1 2, .boolean), (G.2.1 3, .object "RollSync$Row"), (G.2.1 4, .object "RollSync$Signature"), (G.2.1 5, .object "RollSync$Delta"), (G.2.1 6, .object "RollSync$Version"), (G.2.1 7, .object "RollSync$Paper"), (G.2.1 8, .object "java/lang/Object")]
/-- the cells -/
abbrev am_ai (G : AG) (n : Nat) (f : Nat → Int32) : va_E := .inl (G.2.1 0, n, .inl f)
abbrev am_al (G : AG) (n : Nat) (f : Nat → Int64) : va_E := .inl (G.2.1 1, n, .inr (.inl f))
abbrev am_az (G : AG) (n : Nat) (f : Nat → Int32) : va_E := .inl (G.2.1 2, n, .inl f)
abbrev am_aq (G : AG) (t n : Nat) (f : Nat → Option Nat) : va_E := .inl (G.2.1 t, n, .inr (.inr (.inr (.inr f))))
abbrev am_o (ci : Nat) (fs : List Value) : va_E := .inr (ci, fs)
/-- the words that go along wherever the tables go -/
def am_ok : Cond → Bool
  | .fieldLinkNest .. => true
  | .methodLinkNest .. => true
  | .castable .. => true
  | .declares .. => true
  | .arrayOver (.object _) => true
  | w => goodWord w
theorem am_ok_tab {w : Cond} (h : am_ok w = true) : w.onTables = true ∨ ∃ ty, w = .arrayClass ty ∨ w = .arrayOver ty := by
  cases w <;> first | exact Or.inl rfl | exact Or.inr ⟨_, Or.inl rfl⟩ | exact Or.inr ⟨_, Or.inr rfl⟩ | (simp only [am_ok, goodWord, Bool.and_eq_true] at h; exact Or.inl h.1)
theorem am_ok_any {w : Cond} (h : am_ok w = true) {A A' : Array Value} {U : State} (hb : w.before A U = true) : w.before A' U = true := by
  rcases am_ok_tab h with h1 | ⟨ty, rfl | rfl⟩
  · exact va_tabs h1 rfl hb
  · exact hb
  · exact hb
theorem am_ok_mv {w : Cond} (h : am_ok w = true) {s U : State} (hW : s.WarmedH U.vm) (hb : w.before #[] s = true) : w.before #[] U = true := by
  cases w with
  | fieldLinkNest a b c d e f => exact va_Nw.warmF hW hb
  | methodLinkNest a b c d => exact va_Nw.warmM hW hb
  | castable a b => exact va_Nw.warmC hW hb
  | declares a => exact va_Nw.warmD hW hb
  | arrayOver t =>
    cases t with
    | object C => exact va_AO.moved hW.alike hb
    | _ => exact word_at hW (good_of_word h) hb
  | _ => exact word_at hW (good_of_word h) hb
/-- the list's static empty array -/
abbrev am_dN : String := "DEFAULTCAPACITY_EMPTY_ELEMENTDATA"
abbrev am_dD : String := "[Ljava/lang/Object;"
def am_strs : List (Nat × String) := [(54, "there are 6 files"), (264, "no such number"), (269, "out of its range"), (70, "the file would have more than 120 bytes"), (79, "the file has 120 bytes"), (121, "no signature in its place"), (151, "no delta, or a copy goes beyond the basis"), (277, "there are 20 versions"), (279, "the version is broken"), (214, "there are 12 papers"), (275, "no such paper")]
/-- what holds of the tables and of what nobody writes, in each frame -/
def am_E (G : AG) (U : State) : Prop :=
  (∀ w ∈ lw_tbl, am_ok w = true → w.before #[] U = true) ∧ va_K G.1 vwCl (am_tys G) U ∧
  vx_Zq Bundle.tN "UNASSIGNED_STACK" Bundle.steD (am_A G) U U.heap ∧ vx_Zq Bundle.tN "SUPPRESSED_SENTINEL" Bundle.listD (am_A G) U U.heap ∧
  va_Z "java/util/ArrayList" am_dN am_dD (.ref G.2.2.2) (am_A G) U U.heap ∧ (U.heap[G.2.2.2]? = some (vp_cell (G.2.1 8) (0, .inr (.inr (.inr (.inr (fun _ => none)))))) ∧ ¬ am_A G G.2.2.2) ∧
  (∀ q ∈ am_strs, ∃ sa, vk_R "RollSync" q.1 q.2 sa U) ∧ (∃ mi, va_Mi "[Ljava/lang/Object;" mi U) ∧ G.2.2.1 ≤ U.heap.size
theorem am_E.mv {G : AG} {s U : State} {locs : List Loc} (h : am_E G s) (hW : s.WarmedH U.vm) (hS : va_S (am_A G) s.heap U.heap locs) : am_E G U := by
  obtain ⟨h1, h2, h3, h4, h5, ⟨h6, h6a⟩, h7, ⟨mi, h8⟩, h9⟩ := h
  have hq : ∀ a : Nat, a < s.heap.size → ¬ am_A G a → U.heap[a]? = s.heap[a]? := hS.2.1
  refine ⟨fun w hw hk => am_ok_mv hk hW (h1 w hw hk), va_K.moved hW.alike h2, vx_Zq.moved hW.alike (h3.kept hq), vx_Zq.moved hW.alike (h4.kept hq), va_Z.moved hW.alike (h5.kept hq), ⟨?_, h6a⟩, fun q hm => ?_, ⟨mi, va_Mi.moved hW.alike h8⟩, Nat.le_trans h9 hS.1⟩
  · rw [hq _ (Array.getElem?_eq_some_iff.mp h6).1 h6a]
    exact h6
  · obtain ⟨sa, hr⟩ := h7 q hm
    exact ⟨sa, vk_R.warm hW hr⟩
theorem am_E.cl {G : AG} {U : State} {g : JFrame} {mk : MethodId} {a : Array Value} (h : am_E G U) : am_E G (U.calling g mk a) :=
  h.mv (U := U.calling g mk a) (locs := []) (State.WarmedH.refl U) va_S.rf
/-- the heap holds what the map tells -/
def am_H (G : AG) (M : AM) (H : Heap) : Prop := ∀ (q : Nat) (e : va_E), M q = some e → va_at G.1 vwCl (q, e) H ∧ am_A G q
theorem am_H.lt {G : AG} {M : AM} {H : Heap} (h : am_H G M H) {q : Nat} {e : va_E} (hq : M q = some e) : q < H.size := (h q e hq).1.lt
theorem am_H.new {G : AG} {M : AM} {H : Heap} (h : am_H G M H) {q : Nat} (hq : H.size ≤ q) : M q = none := by
  cases hm : M q with
  | none => rfl
  | some e => exact absurd (h.lt hm) (by omega)
theorem am_H.put {G : AG} {M : AM} {H H1 : Heap} {a : Nat} {e0 e : va_E} (h : am_H G M H) (ha : M a = some e0) (he : va_at G.1 vwCl (a, e) H1) (oq : ∀ q : Nat, q ≠ a → H1[q]? = H[q]?) : am_H G (am_up M a e) H1 := by
  intro q x hq
  by_cases hqa : q = a
  · subst hqa
    rw [am_us] at hq
    cases hq
    exact ⟨he, (h _ _ ha).2⟩
  · rw [am_un hqa] at hq
    exact ⟨(h _ _ hq).1.kept (oq q hqa), (h _ _ hq).2⟩
theorem am_H.add {G : AG} {M : AM} {H H1 : Heap} {a : Nat} {e : va_E} (h : am_H G M H) (ha : H.size = a) (hA : am_A G a) (he : va_at G.1 vwCl (a, e) H1) (oq : ∀ q : Nat, q < a → H1[q]? = H[q]?) : am_H G (am_up M a e) H1 := by
  intro q x hq
  by_cases hqa : q = a
  · subst hqa
    rw [am_us] at hq
    cases hq
    exact ⟨he, hA⟩
  · rw [am_un hqa] at hq
    have hl := h.lt hq
    exact ⟨(h _ _ hq).1.kept (oq q (by omega)), (h _ _ hq).2⟩
theorem am_H.P {G : AG} {M : AM} {H : Heap} (h : am_H G M H) {q : Nat} {e : va_E} (hq : M q = some e) : va_P G.1 vwCl [(q, e)] H := by
  intro k x hx
  have hz : k < 1 := (List.getElem?_eq_some_iff.mp hx).1
  rw [show k = 0 by omega] at hx
  cases hx
  exact (h q e hq).1
theorem am_S.put {A : Nat → Prop} {H0 H H1 : Heap} {locs : List Loc} {a k : Nat} (h : va_S A H0 H locs) (z : H1.size = H.size) (oq : ∀ q : Nat, q ≠ a → H1[q]? = H[q]?) (ha : A a) : va_S A H0 H1 (locs ++ [⟨a, k⟩]) := h.put z oq ha
theorem am_S.add {A : Nat → Prop} {H0 H H1 : Heap} {locs : List Loc} {h : Nat} (hS : va_S A H0 H locs) (hh : H.size = h) (z : H1.size = h + 1) (oq : ∀ q : Nat, q < h → H1[q]? = H[q]?) : va_S A H0 H1 locs :=
  ⟨Nat.le_trans hS.1 (by omega), fun x h1 h2 => (oq x (by have := hS.1; omega)).trans (hS.2.1 x h1 h2), hS.2.2⟩
/-- the locals, by their places -/
def am_L (ls : Array Slot) (nL : Nat) (L : List (Option Value)) : Prop := ls.size = nL ∧ lv_wf ls ∧ ∀ (k : Nat) (v : Value), L[k]? = some (some v) → ls[k]? = some (.val v)
def am_pr : Nat → List (Option Value) → List (Nat × Value)
  | _, [] => []
  | n, none :: t => am_pr (n + 1) t
  | n, some v :: t => (n, v) :: am_pr (n + 1) t
theorem am_pr_in : ∀ (L : List (Option Value)) (n : Nat) (q : Nat × Value), q ∈ am_pr n L ↔ ∃ k, q.1 = n + k ∧ L[k]? = some (some q.2)
  | [], n, q => by simp [am_pr]
  | none :: t, n, q => by
    rw [am_pr, am_pr_in t (n + 1) q]
    constructor
    · rintro ⟨k, h1, h2⟩
      exact ⟨k + 1, by omega, by simpa using h2⟩
    · rintro ⟨k, h1, h2⟩
      cases k with
      | zero => simp at h2
      | succ k => exact ⟨k, by omega, by simpa using h2⟩
  | some v :: t, n, q => by
    rw [am_pr, List.mem_cons, am_pr_in t (n + 1) q]
    constructor
    · rintro (rfl | ⟨k, h1, h2⟩)
      · exact ⟨0, rfl, rfl⟩
      · exact ⟨k + 1, by omega, by simpa using h2⟩
    · rintro ⟨k, h1, h2⟩
      cases k with
      | zero =>
        left
        obtain ⟨a, b⟩ := q
        simp at h1 h2
        rw [h1, h2]
      | succ k => exact Or.inr ⟨k, by omega, by simpa using h2⟩
theorem am_L.has {ls : Array Slot} {nL : Nat} {L : List (Option Value)} (h : am_L ls nL L) : lv_has ls nL (am_pr 0 L) := by
  refine ⟨h.1, h.2.1, fun q hq => ?_⟩
  obtain ⟨k, h1, h2⟩ := (am_pr_in L 0 q).mp hq
  rw [h1, Nat.zero_add]
  exact h.2.2 k q.2 h2
theorem am_L.of {ls : Array Slot} {nL : Nat} {l : List (Nat × Value)} {L : List (Option Value)} (h : lv_has ls nL l) (hl : ∀ (k : Nat) (v : Value), L[k]? = some (some v) → (k, v) ∈ l) : am_L ls nL L :=
  ⟨h.1, h.2.1, fun k v hk => h.2.2 (k, v) (hl k v hk)⟩
theorem am_L.sub {ls : Array Slot} {nL : Nat} {L L' : List (Option Value)} (h : am_L ls nL L) (hl : ∀ (k : Nat) (v : Value), L'[k]? = some (some v) → L[k]? = some (some v)) : am_L ls nL L' :=
  ⟨h.1, h.2.1, fun k v hk => h.2.2 k v (hl k v hk)⟩
/-- a value of two words is not just below -/
def am_c1 (L : List (Option Value)) (i : Nat) : Bool := match i with
  | 0 => true
  | j + 1 => match L[j]? with
    | some (some v) => decide (v.category = 1)
    | _ => true
theorem am_L.st1 {ls' : Array Slot} {nL i : Nat} {L : List (Option Value)} {v : Value} (h : lv_has ls' nL ((i, v) :: (am_pr 0 L).filter (fun q => !(q.1 == i) && !(q.1 + 1 == i && q.2.category == 2)))) (hc : am_c1 L i = true) : am_L ls' nL (L.set i (some v)) := by
  refine am_L.of h fun k w hk => ?_
  by_cases hki : k = i
  · subst hki
    rw [List.getElem?_set_self (by
      by_cases hl : k < L.length
      · exact hl
      · rw [List.set_eq_of_length_le (by omega)] at hk
        exact absurd (List.getElem?_eq_some_iff.mp hk).1 hl)] at hk
    cases hk
    exact List.mem_cons_self
  · rw [List.getElem?_set_ne (Ne.symm hki)] at hk
    refine List.mem_cons_of_mem _ (List.mem_filter.mpr ⟨(am_pr_in L 0 (k, w)).mpr ⟨k, by simp, hk⟩, ?_⟩)
    have h2 : ¬ (k + 1 = i ∧ w.category = 2) := by
      rintro ⟨e1, e2⟩
      subst e1
      simp only [am_c1, hk, decide_eq_true_eq] at hc
      omega
    simp only [Bool.and_eq_true, Bool.not_eq_true', beq_eq_false_iff_ne, ne_eq, Bool.and_eq_false_iff]
    refine ⟨hki, ?_⟩
    by_cases e : k + 1 = i
    · exact Or.inr fun e2 => h2 ⟨e, e2⟩
    · exact Or.inl e
theorem am_L.st2 {ls' : Array Slot} {nL i : Nat} {L : List (Option Value)} {v : Value} (h : lv_has ls' nL ((i, v) :: (am_pr 0 L).filter (fun q => !(q.1 == i) && (!(q.1 == i + 1) && !(q.1 + 1 == i && q.2.category == 2))))) (hc : am_c1 L i = true) : am_L ls' nL ((L.set i (some v)).set (i + 1) none) := by
  refine am_L.of h fun k w hk => ?_
  have hk1 : k ≠ i + 1 := by
    intro e
    subst e
    by_cases hl : i + 1 < (L.set i (some v)).length
    · rw [List.getElem?_set_self hl] at hk
      cases hk
    · rw [List.getElem?_eq_none (by simp at hl ⊢; omega)] at hk
      cases hk
  rw [List.getElem?_set_ne (Ne.symm hk1)] at hk
  by_cases hki : k = i
  · subst hki
    rw [List.getElem?_set_self (by
      by_cases hl : k < L.length
      · exact hl
      · rw [List.set_eq_of_length_le (by omega)] at hk
        exact absurd (List.getElem?_eq_some_iff.mp hk).1 hl)] at hk
    cases hk
    exact List.mem_cons_self
  · rw [List.getElem?_set_ne (Ne.symm hki)] at hk
    refine List.mem_cons_of_mem _ (List.mem_filter.mpr ⟨(am_pr_in L 0 (k, w)).mpr ⟨k, by simp, hk⟩, ?_⟩)
    have h2 : ¬ (k + 1 = i ∧ w.category = 2) := by
      rintro ⟨e1, e2⟩
      subst e1
      simp only [am_c1, hk, decide_eq_true_eq] at hc
      omega
    simp only [Bool.and_eq_true, Bool.not_eq_true', beq_eq_false_iff_ne, ne_eq, Bool.and_eq_false_iff]
    refine ⟨hki, hk1, ?_⟩
    by_cases e : k + 1 = i
    · exact Or.inr fun e2 => h2 ⟨e, e2⟩
    · exact Or.inl e
end
section
/-- the frame: map's world, locals' number, program, launch, environment, room, entry state, method, arguments, frames below, method, code -/
abbrev AZ : Type := AG × Nat × Program × Launch × Env × Room × State × MethodId × Array Value × List Frame × Method × Code
abbrev zG (Z : AZ) : AG := Z.1
abbrev zn (Z : AZ) : Nat := Z.2.1
abbrev zp (Z : AZ) : Program := Z.2.2.1
abbrev zl (Z : AZ) : Launch := Z.2.2.2.1
abbrev ze (Z : AZ) : Env := Z.2.2.2.2.1
abbrev zR (Z : AZ) : Room := Z.2.2.2.2.2.1
abbrev zs (Z : AZ) : State := Z.2.2.2.2.2.2.1
abbrev zm (Z : AZ) : MethodId := Z.2.2.2.2.2.2.2.1
abbrev za (Z : AZ) : Array Value := Z.2.2.2.2.2.2.2.2.1
abbrev zb (Z : AZ) : List Frame := Z.2.2.2.2.2.2.2.2.2.1
abbrev zM (Z : AZ) : Method := Z.2.2.2.2.2.2.2.2.2.2.1
abbrev zc (Z : AZ) : Code := Z.2.2.2.2.2.2.2.2.2.2.2
/-- what holds of a frame all along -/
def am_X (own : String) (cc : ByteArray) (Z : AZ) : Prop := (zp Z).tables.exec = Jvm.exec ∧ (zc Z).code = cc ∧ (zc Z).maxLocals = zn Z ∧ (zs Z).vm.findClass own = some (zm Z).cls ∧ (zM Z).locks = false ∧ (∀ w ∈ lw_tbl, am_ok w = true → w.before (za Z) (zs Z) = true) ∧ am_E (zG Z) (zs Z)
/-- the machine at pc, with these locals and this stack, in a heap as the map tells, goes on to Q -/
def AW (Z : AZ) (Q : State → Prop) (M : AM) (k n pc : Nat) (L : List (Option Value)) (st : List Value) : Prop :=
  ∀ (H : Heap) (locs : List Loc) (ls : Array Slot), am_H (zG Z) M H → va_S (am_A (zG Z)) (zs Z).heap H locs → am_L ls (zn Z) L → W (zp Z) (zl Z) (ze Z) (zR Z) (zs Z) (zm Z) (za Z) (zb Z) (zM Z) (zc Z) H locs k n Q (F0 (zm Z) pc ls st)
section AWrows
variable {Z : AZ} {own : String} {cc : ByteArray} {Q : State → Prop} {M : AM} {k n pc : Nat} {L : List (Option Value)} {st : List Value}
theorem am_X.w (X : am_X own cc Z) {w : Cond} (h : w ∈ lw_tbl) (hk : am_ok w = true) : w.before (za Z) (zs Z) = true := X.2.2.2.2.2.1 w h hk
theorem am_X.K (X : am_X own cc Z) : va_K (zG Z).1 vwCl (am_tys (zG Z)) (zs Z) := X.2.2.2.2.2.2.2.1
theorem am_X.A (X : am_X own cc Z) {H : Heap} {locs : List Loc} (hS : va_S (am_A (zG Z)) (zs Z).heap H locs) : am_A (zG Z) H.size := Nat.le_trans X.2.2.2.2.2.2.2.2.2.2.2.2.2.2 hS.1
theorem aw_widen {k' n' : Nat} (h1 : k ≤ k') (h2 : n ≤ n') (kk : AW Z Q M k' n' pc L st) : AW Z Q M k n pc L st := fun H locs ls hH hS hL => W.widen h1 h2 (kk H locs ls hH hS hL)
theorem aw_locals {L' : List (Option Value)} (hl : ∀ (k : Nat) (v : Value), L'[k]? = some (some v) → L[k]? = some (some v)) (kk : AW Z Q M k n pc L' st) : AW Z Q M k n pc L st := fun H locs ls hH hS hL => kk H locs ls hH hS (hL.sub hl)
/-- a map that tells less -/
theorem aw_map {M' : AM} (h : ∀ q e, M' q = some e → M q = some e) (kk : AW Z Q M' k n pc L st) : AW Z Q M k n pc L st := fun H locs ls hH hS hL => kk H locs ls (fun q e hq => hH q e (h q e hq)) hS hL
/-- what lies in the map is below the heap's end: a new cell's address is not among it -/
theorem aw_topi {x : Int32} (kk : ∀ y : Int32, y = x → AW Z Q M k n pc L (.int y :: st)) : AW Z Q M k n pc L (.int x :: st) := kk x rfl
theorem aw_topl {x : Int64} (kk : ∀ y : Int64, y = x → AW Z Q M k n pc L (.long y :: st)) : AW Z Q M k n pc L (.long x :: st) := kk x rfl
/-- the number on the top, written otherwise -/
theorem aw_int {x y : Int32} (h : x = y) (kk : AW Z Q M k n pc L (.int y :: st)) : AW Z Q M k n pc L (.int x :: st) := h ▸ kk
theorem aw_long {x y : Int64} (h : x = y) (kk : AW Z Q M k n pc L (.long y :: st)) : AW Z Q M k n pc L (.long x :: st) := h ▸ kk
theorem aw_int2 {v : Value} {x y : Int32} (h : x = y) (kk : AW Z Q M k n pc L (v :: .int y :: st)) : AW Z Q M k n pc L (v :: .int x :: st) := h ▸ kk

theorem aw_iadd (X : am_X own cc Z) {x y : Int32} (d : decode cc pc = .ok (.iadd, 1)) (kk : AW Z Q M k n (pc + 1) L (.int (x + y) :: st)) : AW Z Q M k n pc L (.int y :: .int x :: st) := fun H locs ls hH hS hL => lv_iadd X.1 X.2.1 d (kk H locs ls hH hS hL)
theorem aw_isub (X : am_X own cc Z) {x y : Int32} (d : decode cc pc = .ok (.isub, 1)) (kk : AW Z Q M k n (pc + 1) L (.int (x - y) :: st)) : AW Z Q M k n pc L (.int y :: .int x :: st) := fun H locs ls hH hS hL => lv_isub X.1 X.2.1 d (kk H locs ls hH hS hL)
theorem aw_imul (X : am_X own cc Z) {x y : Int32} (d : decode cc pc = .ok (.imul, 1)) (kk : AW Z Q M k n (pc + 1) L (.int (x * y) :: st)) : AW Z Q M k n pc L (.int y :: .int x :: st) := fun H locs ls hH hS hL => lv_imul X.1 X.2.1 d (kk H locs ls hH hS hL)
theorem aw_iand (X : am_X own cc Z) {x y : Int32} (d : decode cc pc = .ok (.iand, 1)) (kk : AW Z Q M k n (pc + 1) L (.int (x &&& y) :: st)) : AW Z Q M k n pc L (.int y :: .int x :: st) := fun H locs ls hH hS hL => lv_iand X.1 X.2.1 d (kk H locs ls hH hS hL)
theorem aw_ishr (X : am_X own cc Z) {x y : Int32} (d : decode cc pc = .ok (.ishr, 1)) (kk : AW Z Q M k n (pc + 1) L (.int (x >>> (y &&& 31)) :: st)) : AW Z Q M k n pc L (.int y :: .int x :: st) := fun H locs ls hH hS hL => lv_ishr X.1 X.2.1 d (kk H locs ls hH hS hL)
theorem aw_irem (X : am_X own cc Z) {x y : Int32} (d : decode cc pc = .ok (.irem, 1)) (h : ¬ y = 0) (kk : AW Z Q M k n (pc + 1) L (.int (x - x / y * y) :: st)) : AW Z Q M k n pc L (.int y :: .int x :: st) := fun H locs ls hH hS hL => lv_irem X.1 X.2.1 d h (kk H locs ls hH hS hL)
theorem aw_idiv (X : am_X own cc Z) {x y : Int32} (d : decode cc pc = .ok (.idiv, 1)) (h : ¬ y = 0) (kk : AW Z Q M k n (pc + 1) L (.int (x / y) :: st)) : AW Z Q M k n pc L (.int y :: .int x :: st) := fun H locs ls hH hS hL => lv_idiv X.1 X.2.1 d h (kk H locs ls hH hS hL)
theorem aw_ladd (X : am_X own cc Z) {x y : Int64} (d : decode cc pc = .ok (.ladd, 1)) (kk : AW Z Q M k n (pc + 1) L (.long (x + y) :: st)) : AW Z Q M k n pc L (.long y :: .long x :: st) := fun H locs ls hH hS hL => lv_ladd X.1 X.2.1 d (kk H locs ls hH hS hL)
theorem aw_lmul (X : am_X own cc Z) {x y : Int64} (d : decode cc pc = .ok (.lmul, 1)) (kk : AW Z Q M k n (pc + 1) L (.long (x * y) :: st)) : AW Z Q M k n pc L (.long y :: .long x :: st) := fun H locs ls hH hS hL => lv_lmul X.1 X.2.1 d (kk H locs ls hH hS hL)
theorem aw_lcmp (X : am_X own cc Z) {x y : Int64} (d : decode cc pc = .ok (.lcmp, 1)) (kk : AW Z Q M k n (pc + 1) L (.int (lg_cmp x y) :: st)) : AW Z Q M k n pc L (.long y :: .long x :: st) := fun H locs ls hH hS hL => W.lcmp X.1 X.2.1 d (kk H locs ls hH hS hL)
theorem aw_i2l (X : am_X own cc Z) {x : Int32} (d : decode cc pc = .ok (.i2l, 1)) (kk : AW Z Q M k n (pc + 1) L (.long x.toInt64 :: st)) : AW Z Q M k n pc L (.int x :: st) := fun H locs ls hH hS hL => lv_i2l X.1 X.2.1 d rfl (kk H locs ls hH hS hL)
theorem aw_dup (X : am_X own cc Z) {v : Value} (d : decode cc pc = .ok (.dup, 1)) (hc : v.category = 1) (kk : AW Z Q M k n (pc + 1) L (v :: v :: st)) : AW Z Q M k n pc L (v :: st) := fun H locs ls hH hS hL => lv_dup X.1 X.2.1 d hc (kk H locs ls hH hS hL)
theorem aw_pop (X : am_X own cc Z) {v : Value} (d : decode cc pc = .ok (.pop, 1)) (hc : v.category = 1) (kk : AW Z Q M k n (pc + 1) L st) : AW Z Q M k n pc L (v :: st) := fun H locs ls hH hS hL => lv_pop X.1 X.2.1 d hc (kk H locs ls hH hS hL)
theorem aw_dup_x1 (X : am_X own cc Z) {v u : Value} (d : decode cc pc = .ok (.dup_x1, 1)) (hc : v.category = 1) (hu : u.category = 1) (kk : AW Z Q M k n (pc + 1) L (v :: u :: v :: st)) : AW Z Q M k n pc L (v :: u :: st) := fun H locs ls hH hS hL => lv_dup_x1 X.1 X.2.1 d hc hu (kk H locs ls hH hS hL)
theorem aw_dup2 (X : am_X own cc Z) {v u : Value} (d : decode cc pc = .ok (.dup2, 1)) (hc : v.category = 1) (hu : u.category = 1) (kk : AW Z Q M k n (pc + 1) L (v :: u :: v :: u :: st)) : AW Z Q M k n pc L (v :: u :: st) := fun H locs ls hH hS hL => lv_dup2_11 X.1 X.2.1 d hc hu (kk H locs ls hH hS hL)
theorem aw_null (X : am_X own cc Z)  (d : decode cc pc = .ok (.aconst_null, 1)) (kk : AW Z Q M k n (pc + 1) L (.null :: st)) : AW Z Q M k n pc L st := fun H locs ls hH hS hL => lv_null X.1 X.2.1 d (kk H locs ls hH hS hL)
theorem aw_iconst (X : am_X own cc Z) {j : Int} {v : Int32} (d : decode cc pc = .ok (.iconst j, 1)) (h : Int32.ofInt j = v) (kk : AW Z Q M k n (pc + 1) L (.int v :: st)) : AW Z Q M k n pc L st := fun H locs ls hH hS hL => lv_iconst X.1 X.2.1 d h (kk H locs ls hH hS hL)
theorem aw_bipush (X : am_X own cc Z) {j : Int} {v : Int32} (d : decode cc pc = .ok (.bipush j, 2)) (h : (Int8.ofInt j).toInt32 = v) (kk : AW Z Q M k n (pc + 2) L (.int v :: st)) : AW Z Q M k n pc L st := fun H locs ls hH hS hL => lv_bipush X.1 X.2.1 d h (kk H locs ls hH hS hL)
theorem aw_sipush (X : am_X own cc Z) {j : Int} {v : Int32} (d : decode cc pc = .ok (.sipush j, 3)) (h : (Int16.ofInt j).toInt32 = v) (kk : AW Z Q M k n (pc + 3) L (.int v :: st)) : AW Z Q M k n pc L st := fun H locs ls hH hS hL => lv_sipush X.1 X.2.1 d h (kk H locs ls hH hS hL)
theorem aw_lconst (X : am_X own cc Z) {j : Fin 2} {v : Int64} (d : decode cc pc = .ok (.lconst j, 1)) (h : Int64.ofNat (j : Nat) = v) (kk : AW Z Q M k n (pc + 1) L (.long v :: st)) : AW Z Q M k n pc L st := fun H locs ls hH hS hL => lv_lconst X.1 X.2.1 d h (kk H locs ls hH hS hL)
theorem aw_goto (X : am_X own cc Z) {off : Int} {tgt : Nat} (d : decode cc pc = .ok (.goto off, 3)) (h : (pc : Int) + off = (tgt : Int)) (kk : AW Z Q M k n tgt L st) : AW Z Q M k n pc L st := fun H locs ls hH hS hL => lv_goto X.1 X.2.1 d h (kk H locs ls hH hS hL)
theorem aw_ifeq (X : am_X own cc Z) {x : Int32} {off : Int} {tgt : Nat} (d : decode cc pc = .ok (.ifCond .eq off, 3)) (h : (pc : Int) + off = (tgt : Int)) (kt : x = 0 → AW Z Q M k n tgt L st) (kf : ¬ x = 0 → AW Z Q M k n (pc + 3) L st) : AW Z Q M k n pc L (.int x :: st) := fun H locs ls hH hS hL => lv_if_eq X.1 X.2.1 d h (fun c => kt c H locs ls hH hS hL) (fun c => kf c H locs ls hH hS hL)
theorem aw_ifne (X : am_X own cc Z) {x : Int32} {off : Int} {tgt : Nat} (d : decode cc pc = .ok (.ifCond .ne off, 3)) (h : (pc : Int) + off = (tgt : Int)) (kt : ¬ x = 0 → AW Z Q M k n tgt L st) (kf : x = 0 → AW Z Q M k n (pc + 3) L st) : AW Z Q M k n pc L (.int x :: st) := fun H locs ls hH hS hL => lv_if_ne X.1 X.2.1 d h (fun c => kt c H locs ls hH hS hL) (fun c => kf c H locs ls hH hS hL)
theorem aw_iflt (X : am_X own cc Z) {x : Int32} {off : Int} {tgt : Nat} (d : decode cc pc = .ok (.ifCond .lt off, 3)) (h : (pc : Int) + off = (tgt : Int)) (kt : x < 0 → AW Z Q M k n tgt L st) (kf : ¬ x < 0 → AW Z Q M k n (pc + 3) L st) : AW Z Q M k n pc L (.int x :: st) := fun H locs ls hH hS hL => lv_if_lt X.1 X.2.1 d h (fun c => kt c H locs ls hH hS hL) (fun c => kf c H locs ls hH hS hL)
theorem aw_ifge (X : am_X own cc Z) {x : Int32} {off : Int} {tgt : Nat} (d : decode cc pc = .ok (.ifCond .ge off, 3)) (h : (pc : Int) + off = (tgt : Int)) (kt : 0 ≤ x → AW Z Q M k n tgt L st) (kf : ¬ 0 ≤ x → AW Z Q M k n (pc + 3) L st) : AW Z Q M k n pc L (.int x :: st) := fun H locs ls hH hS hL => lv_if_ge X.1 X.2.1 d h (fun c => kt c H locs ls hH hS hL) (fun c => kf c H locs ls hH hS hL)
theorem aw_ifgt (X : am_X own cc Z) {x : Int32} {off : Int} {tgt : Nat} (d : decode cc pc = .ok (.ifCond .gt off, 3)) (h : (pc : Int) + off = (tgt : Int)) (kt : 0 < x → AW Z Q M k n tgt L st) (kf : ¬ 0 < x → AW Z Q M k n (pc + 3) L st) : AW Z Q M k n pc L (.int x :: st) := fun H locs ls hH hS hL => lv_if_gt X.1 X.2.1 d h (fun c => kt c H locs ls hH hS hL) (fun c => kf c H locs ls hH hS hL)
theorem aw_ifle (X : am_X own cc Z) {x : Int32} {off : Int} {tgt : Nat} (d : decode cc pc = .ok (.ifCond .le off, 3)) (h : (pc : Int) + off = (tgt : Int)) (kt : x ≤ 0 → AW Z Q M k n tgt L st) (kf : ¬ x ≤ 0 → AW Z Q M k n (pc + 3) L st) : AW Z Q M k n pc L (.int x :: st) := fun H locs ls hH hS hL => lv_if_le X.1 X.2.1 d h (fun c => kt c H locs ls hH hS hL) (fun c => kf c H locs ls hH hS hL)
theorem aw_icmpeq (X : am_X own cc Z) {x y : Int32} {off : Int} {tgt : Nat} (d : decode cc pc = .ok (.if_icmp .eq off, 3)) (h : (pc : Int) + off = (tgt : Int)) (kt : x = y → AW Z Q M k n tgt L st) (kf : ¬ x = y → AW Z Q M k n (pc + 3) L st) : AW Z Q M k n pc L (.int y :: .int x :: st) := fun H locs ls hH hS hL => lv_icmp_eq X.1 X.2.1 d h (fun c => kt c H locs ls hH hS hL) (fun c => kf c H locs ls hH hS hL)
theorem aw_icmpne (X : am_X own cc Z) {x y : Int32} {off : Int} {tgt : Nat} (d : decode cc pc = .ok (.if_icmp .ne off, 3)) (h : (pc : Int) + off = (tgt : Int)) (kt : ¬ x = y → AW Z Q M k n tgt L st) (kf : x = y → AW Z Q M k n (pc + 3) L st) : AW Z Q M k n pc L (.int y :: .int x :: st) := fun H locs ls hH hS hL => lv_icmp_ne X.1 X.2.1 d h (fun c => kt c H locs ls hH hS hL) (fun c => kf c H locs ls hH hS hL)
theorem aw_icmplt (X : am_X own cc Z) {x y : Int32} {off : Int} {tgt : Nat} (d : decode cc pc = .ok (.if_icmp .lt off, 3)) (h : (pc : Int) + off = (tgt : Int)) (kt : x < y → AW Z Q M k n tgt L st) (kf : ¬ x < y → AW Z Q M k n (pc + 3) L st) : AW Z Q M k n pc L (.int y :: .int x :: st) := fun H locs ls hH hS hL => lv_icmp_lt X.1 X.2.1 d h (fun c => kt c H locs ls hH hS hL) (fun c => kf c H locs ls hH hS hL)
theorem aw_icmpge (X : am_X own cc Z) {x y : Int32} {off : Int} {tgt : Nat} (d : decode cc pc = .ok (.if_icmp .ge off, 3)) (h : (pc : Int) + off = (tgt : Int)) (kt : y ≤ x → AW Z Q M k n tgt L st) (kf : ¬ y ≤ x → AW Z Q M k n (pc + 3) L st) : AW Z Q M k n pc L (.int y :: .int x :: st) := fun H locs ls hH hS hL => lv_icmp_ge X.1 X.2.1 d h (fun c => kt c H locs ls hH hS hL) (fun c => kf c H locs ls hH hS hL)
theorem aw_icmpgt (X : am_X own cc Z) {x y : Int32} {off : Int} {tgt : Nat} (d : decode cc pc = .ok (.if_icmp .gt off, 3)) (h : (pc : Int) + off = (tgt : Int)) (kt : y < x → AW Z Q M k n tgt L st) (kf : ¬ y < x → AW Z Q M k n (pc + 3) L st) : AW Z Q M k n pc L (.int y :: .int x :: st) := fun H locs ls hH hS hL => lv_icmp_gt X.1 X.2.1 d h (fun c => kt c H locs ls hH hS hL) (fun c => kf c H locs ls hH hS hL)
theorem aw_icmple (X : am_X own cc Z) {x y : Int32} {off : Int} {tgt : Nat} (d : decode cc pc = .ok (.if_icmp .le off, 3)) (h : (pc : Int) + off = (tgt : Int)) (kt : x ≤ y → AW Z Q M k n tgt L st) (kf : ¬ x ≤ y → AW Z Q M k n (pc + 3) L st) : AW Z Q M k n pc L (.int y :: .int x :: st) := fun H locs ls hH hS hL => lv_icmp_le X.1 X.2.1 d h (fun c => kt c H locs ls hH hS hL) (fun c => kf c H locs ls hH hS hL)
theorem aw_acmpeq (X : am_X own cc Z) {rx ry : Option Nat} {off : Int} {tgt : Nat} (d : decode cc pc = .ok (.if_acmp .eq off, 3)) (h : (pc : Int) + off = (tgt : Int)) (kt : rx = ry → AW Z Q M k n tgt L st) (kf : ¬ rx = ry → AW Z Q M k n (pc + 3) L st) : AW Z Q M k n pc L (va_rf ry :: va_rf rx :: st) := fun H locs ls hH hS hL => lv_acmp_eq X.1 X.2.1 d h (fun c => kt c H locs ls hH hS hL) (fun c => kf c H locs ls hH hS hL)
theorem aw_acmpne (X : am_X own cc Z) {rx ry : Option Nat} {off : Int} {tgt : Nat} (d : decode cc pc = .ok (.if_acmp .ne off, 3)) (h : (pc : Int) + off = (tgt : Int)) (kt : ¬ rx = ry → AW Z Q M k n tgt L st) (kf : rx = ry → AW Z Q M k n (pc + 3) L st) : AW Z Q M k n pc L (va_rf ry :: va_rf rx :: st) := fun H locs ls hH hS hL => lv_acmp_ne X.1 X.2.1 d h (fun c => kt c H locs ls hH hS hL) (fun c => kf c H locs ls hH hS hL)
theorem aw_ifnonnull (X : am_X own cc Z) {a : Nat} {off : Int} {tgt : Nat} (d : decode cc pc = .ok (.ifnonnull off, 3)) (h : (pc : Int) + off = (tgt : Int)) (kk : AW Z Q M k n tgt L st) : AW Z Q M k n pc L (.ref a :: st) := fun H locs ls hH hS hL => lv_ifnonnull X.1 X.2.1 d h (kk H locs ls hH hS hL)
theorem aw_ifnonnullN (X : am_X own cc Z) {off : Int} (d : decode cc pc = .ok (.ifnonnull off, 3)) (kk : AW Z Q M k n (pc + 3) L st) : AW Z Q M k n pc L (.null :: st) := fun H locs ls hH hS hL => lv_ifnonnullN X.1 X.2.1 d (kk H locs ls hH hS hL)
theorem aw_tabIn (X : am_X own cc Z) {dflt lo hi : Int} {offs : Array Int} {len : Nat} {x : Int32} {off : Int} {tgt : Nat} (d : decode cc pc = .ok (.tableswitch dflt lo hi offs, len)) (h1 : ¬ x.toInt < lo) (h2 : ¬ hi < x.toInt) (ho : offs[(x.toInt - lo).toNat]? = some off) (ht : (pc : Int) + off = (tgt : Int)) (kk : AW Z Q M k n tgt L st) : AW Z Q M k n pc L (.int x :: st) := fun H locs ls hH hS hL => lv_tableIn X.1 X.2.1 d h1 h2 ho ht (kk H locs ls hH hS hL)
theorem aw_tabOut (X : am_X own cc Z) {dflt lo hi : Int} {offs : Array Int} {len : Nat} {x : Int32} {tgt : Nat} (d : decode cc pc = .ok (.tableswitch dflt lo hi offs, len)) (h : x.toInt < lo ∨ hi < x.toInt) (ht : (pc : Int) + dflt = (tgt : Int)) (kk : AW Z Q M k n tgt L st) : AW Z Q M k n pc L (.int x :: st) := fun H locs ls hH hS hL => lv_tableOut X.1 X.2.1 d h ht (kk H locs ls hH hS hL)
theorem aw_iload0 (X : am_X own cc Z) {t : List (Option Value)} {x : Int32} (d : decode cc pc = .ok (.iload_n 0, 1)) (kk : AW Z Q M k n (pc + 1) (some (.int x) :: t) (.int x :: st)) : AW Z Q M k n pc (some (.int x) :: t) st := fun H locs ls hH hS hL => lv_iload_n X.1 X.2.1 d rfl (hL.2.2 0 (.int x) rfl) (kk H locs ls hH hS hL)
theorem aw_aload0 (X : am_X own cc Z) {t : List (Option Value)} {x : Nat} (d : decode cc pc = .ok (.aload_n 0, 1)) (kk : AW Z Q M k n (pc + 1) (some (.ref x) :: t) (.ref x :: st)) : AW Z Q M k n pc (some (.ref x) :: t) st := fun H locs ls hH hS hL => lv_aload_n X.1 X.2.1 d rfl (hL.2.2 0 (.ref x) rfl) (kk H locs ls hH hS hL)
theorem aw_aloadN0 (X : am_X own cc Z) {t : List (Option Value)}  (d : decode cc pc = .ok (.aload_n 0, 1)) (kk : AW Z Q M k n (pc + 1) (some (.null) :: t) (.null :: st)) : AW Z Q M k n pc (some (.null) :: t) st := fun H locs ls hH hS hL => lv_aload_nN X.1 X.2.1 d rfl (hL.2.2 0 (.null) rfl) (kk H locs ls hH hS hL)
theorem aw_lload0 (X : am_X own cc Z) {t : List (Option Value)} {x : Int64} (d : decode cc pc = .ok (.lload_n 0, 1)) (kk : AW Z Q M k n (pc + 1) (some (.long x) :: t) (.long x :: st)) : AW Z Q M k n pc (some (.long x) :: t) st := fun H locs ls hH hS hL => lv_lload_n X.1 X.2.1 d rfl (hL.2.2 0 (.long x) rfl) (kk H locs ls hH hS hL)
theorem aw_istore0 (X : am_X own cc Z) {t : List (Option Value)} {u : Option Value} {x : Int32} (d : decode cc pc = .ok (.istore_n 0, 1)) (hn : 0 < zn Z) (hc : am_c1 (u :: t) 0 = true) (kk : AW Z Q M k n (pc + 1) (some (.int x) :: t) st) : AW Z Q M k n pc (u :: t) (.int x :: st) := fun H locs ls hH hS hL => lv_istore_n X.1 X.2.1 d rfl hL.has hn rfl (fun ls' h' => kk H locs ls' hH hS (am_L.st1 h' hc))
theorem aw_astore0 (X : am_X own cc Z) {t : List (Option Value)} {u : Option Value} {x : Nat} (d : decode cc pc = .ok (.astore_n 0, 1)) (hn : 0 < zn Z) (hc : am_c1 (u :: t) 0 = true) (kk : AW Z Q M k n (pc + 1) (some (.ref x) :: t) st) : AW Z Q M k n pc (u :: t) (.ref x :: st) := fun H locs ls hH hS hL => lv_astore_n X.1 X.2.1 d rfl hL.has hn rfl (fun ls' h' => kk H locs ls' hH hS (am_L.st1 h' hc))
theorem aw_astoreN0 (X : am_X own cc Z) {t : List (Option Value)} {u : Option Value}  (d : decode cc pc = .ok (.astore_n 0, 1)) (hn : 0 < zn Z) (hc : am_c1 (u :: t) 0 = true) (kk : AW Z Q M k n (pc + 1) (some (.null) :: t) st) : AW Z Q M k n pc (u :: t) (.null :: st) := fun H locs ls hH hS hL => lv_astore_nN X.1 X.2.1 d rfl hL.has hn rfl (fun ls' h' => kk H locs ls' hH hS (am_L.st1 h' hc))
theorem aw_lstore0 (X : am_X own cc Z) {t : List (Option Value)} {u u1 : Option Value} {x : Int64} (d : decode cc pc = .ok (.lstore_n 0, 1)) (hn : 0 + 1 < zn Z) (hc : am_c1 (u :: u1 :: t) 0 = true) (kk : AW Z Q M k n (pc + 1) (some (.long x) :: none :: t) st) : AW Z Q M k n pc (u :: u1 :: t) (.long x :: st) := fun H locs ls hH hS hL => lv_lstore_n X.1 X.2.1 d rfl hL.has hn rfl (fun ls' h' => kk H locs ls' hH hS (am_L.st2 h' hc))
theorem aw_iinc0 (X : am_X own cc Z) {t : List (Option Value)} {x v : Int32} {j : Int} (d : decode cc pc = .ok (.iinc 0 j, 3)) (hn : 0 < zn Z) (hv : x + Int32.ofInt j = v) (hc : am_c1 (some (.int x) :: t) 0 = true) (kk : AW Z Q M k n (pc + 3) (some (.int v) :: t) st) : AW Z Q M k n pc (some (.int x) :: t) st := fun H locs ls hH hS hL => by
  obtain ⟨i0, hi0⟩ := List.getElem?_of_mem ((am_pr_in (some (.int x) :: t) 0 (0, .int x)).mpr ⟨0, by simp, rfl⟩)
  exact lv_iinc X.1 X.2.1 d hL.has hi0 hv hn rfl (fun ls' h' => kk H locs ls' hH hS (am_L.st1 h' hc))
theorem aw_iload1 (X : am_X own cc Z) {a0 : Option Value} {t : List (Option Value)} {x : Int32} (d : decode cc pc = .ok (.iload_n 1, 1)) (kk : AW Z Q M k n (pc + 1) (a0 :: some (.int x) :: t) (.int x :: st)) : AW Z Q M k n pc (a0 :: some (.int x) :: t) st := fun H locs ls hH hS hL => lv_iload_n X.1 X.2.1 d rfl (hL.2.2 1 (.int x) rfl) (kk H locs ls hH hS hL)
theorem aw_aload1 (X : am_X own cc Z) {a0 : Option Value} {t : List (Option Value)} {x : Nat} (d : decode cc pc = .ok (.aload_n 1, 1)) (kk : AW Z Q M k n (pc + 1) (a0 :: some (.ref x) :: t) (.ref x :: st)) : AW Z Q M k n pc (a0 :: some (.ref x) :: t) st := fun H locs ls hH hS hL => lv_aload_n X.1 X.2.1 d rfl (hL.2.2 1 (.ref x) rfl) (kk H locs ls hH hS hL)
theorem aw_aloadN1 (X : am_X own cc Z) {a0 : Option Value} {t : List (Option Value)}  (d : decode cc pc = .ok (.aload_n 1, 1)) (kk : AW Z Q M k n (pc + 1) (a0 :: some (.null) :: t) (.null :: st)) : AW Z Q M k n pc (a0 :: some (.null) :: t) st := fun H locs ls hH hS hL => lv_aload_nN X.1 X.2.1 d rfl (hL.2.2 1 (.null) rfl) (kk H locs ls hH hS hL)
theorem aw_lload1 (X : am_X own cc Z) {a0 : Option Value} {t : List (Option Value)} {x : Int64} (d : decode cc pc = .ok (.lload_n 1, 1)) (kk : AW Z Q M k n (pc + 1) (a0 :: some (.long x) :: t) (.long x :: st)) : AW Z Q M k n pc (a0 :: some (.long x) :: t) st := fun H locs ls hH hS hL => lv_lload_n X.1 X.2.1 d rfl (hL.2.2 1 (.long x) rfl) (kk H locs ls hH hS hL)
theorem aw_istore1 (X : am_X own cc Z) {a0 : Option Value} {t : List (Option Value)} {u : Option Value} {x : Int32} (d : decode cc pc = .ok (.istore_n 1, 1)) (hn : 1 < zn Z) (hc : am_c1 (a0 :: u :: t) 1 = true) (kk : AW Z Q M k n (pc + 1) (a0 :: some (.int x) :: t) st) : AW Z Q M k n pc (a0 :: u :: t) (.int x :: st) := fun H locs ls hH hS hL => lv_istore_n X.1 X.2.1 d rfl hL.has hn rfl (fun ls' h' => kk H locs ls' hH hS (am_L.st1 h' hc))
theorem aw_astore1 (X : am_X own cc Z) {a0 : Option Value} {t : List (Option Value)} {u : Option Value} {x : Nat} (d : decode cc pc = .ok (.astore_n 1, 1)) (hn : 1 < zn Z) (hc : am_c1 (a0 :: u :: t) 1 = true) (kk : AW Z Q M k n (pc + 1) (a0 :: some (.ref x) :: t) st) : AW Z Q M k n pc (a0 :: u :: t) (.ref x :: st) := fun H locs ls hH hS hL => lv_astore_n X.1 X.2.1 d rfl hL.has hn rfl (fun ls' h' => kk H locs ls' hH hS (am_L.st1 h' hc))
theorem aw_astoreN1 (X : am_X own cc Z) {a0 : Option Value} {t : List (Option Value)} {u : Option Value}  (d : decode cc pc = .ok (.astore_n 1, 1)) (hn : 1 < zn Z) (hc : am_c1 (a0 :: u :: t) 1 = true) (kk : AW Z Q M k n (pc + 1) (a0 :: some (.null) :: t) st) : AW Z Q M k n pc (a0 :: u :: t) (.null :: st) := fun H locs ls hH hS hL => lv_astore_nN X.1 X.2.1 d rfl hL.has hn rfl (fun ls' h' => kk H locs ls' hH hS (am_L.st1 h' hc))
theorem aw_lstore1 (X : am_X own cc Z) {a0 : Option Value} {t : List (Option Value)} {u u1 : Option Value} {x : Int64} (d : decode cc pc = .ok (.lstore_n 1, 1)) (hn : 1 + 1 < zn Z) (hc : am_c1 (a0 :: u :: u1 :: t) 1 = true) (kk : AW Z Q M k n (pc + 1) (a0 :: some (.long x) :: none :: t) st) : AW Z Q M k n pc (a0 :: u :: u1 :: t) (.long x :: st) := fun H locs ls hH hS hL => lv_lstore_n X.1 X.2.1 d rfl hL.has hn rfl (fun ls' h' => kk H locs ls' hH hS (am_L.st2 h' hc))
theorem aw_iinc1 (X : am_X own cc Z) {a0 : Option Value} {t : List (Option Value)} {x v : Int32} {j : Int} (d : decode cc pc = .ok (.iinc 1 j, 3)) (hn : 1 < zn Z) (hv : x + Int32.ofInt j = v) (hc : am_c1 (a0 :: some (.int x) :: t) 1 = true) (kk : AW Z Q M k n (pc + 3) (a0 :: some (.int v) :: t) st) : AW Z Q M k n pc (a0 :: some (.int x) :: t) st := fun H locs ls hH hS hL => by
  obtain ⟨i0, hi0⟩ := List.getElem?_of_mem ((am_pr_in (a0 :: some (.int x) :: t) 0 (1, .int x)).mpr ⟨1, by simp, rfl⟩)
  exact lv_iinc X.1 X.2.1 d hL.has hi0 hv hn rfl (fun ls' h' => kk H locs ls' hH hS (am_L.st1 h' hc))
theorem aw_iload2 (X : am_X own cc Z) {a0 a1 : Option Value} {t : List (Option Value)} {x : Int32} (d : decode cc pc = .ok (.iload_n 2, 1)) (kk : AW Z Q M k n (pc + 1) (a0 :: a1 :: some (.int x) :: t) (.int x :: st)) : AW Z Q M k n pc (a0 :: a1 :: some (.int x) :: t) st := fun H locs ls hH hS hL => lv_iload_n X.1 X.2.1 d rfl (hL.2.2 2 (.int x) rfl) (kk H locs ls hH hS hL)
theorem aw_aload2 (X : am_X own cc Z) {a0 a1 : Option Value} {t : List (Option Value)} {x : Nat} (d : decode cc pc = .ok (.aload_n 2, 1)) (kk : AW Z Q M k n (pc + 1) (a0 :: a1 :: some (.ref x) :: t) (.ref x :: st)) : AW Z Q M k n pc (a0 :: a1 :: some (.ref x) :: t) st := fun H locs ls hH hS hL => lv_aload_n X.1 X.2.1 d rfl (hL.2.2 2 (.ref x) rfl) (kk H locs ls hH hS hL)
theorem aw_aloadN2 (X : am_X own cc Z) {a0 a1 : Option Value} {t : List (Option Value)}  (d : decode cc pc = .ok (.aload_n 2, 1)) (kk : AW Z Q M k n (pc + 1) (a0 :: a1 :: some (.null) :: t) (.null :: st)) : AW Z Q M k n pc (a0 :: a1 :: some (.null) :: t) st := fun H locs ls hH hS hL => lv_aload_nN X.1 X.2.1 d rfl (hL.2.2 2 (.null) rfl) (kk H locs ls hH hS hL)
theorem aw_lload2 (X : am_X own cc Z) {a0 a1 : Option Value} {t : List (Option Value)} {x : Int64} (d : decode cc pc = .ok (.lload_n 2, 1)) (kk : AW Z Q M k n (pc + 1) (a0 :: a1 :: some (.long x) :: t) (.long x :: st)) : AW Z Q M k n pc (a0 :: a1 :: some (.long x) :: t) st := fun H locs ls hH hS hL => lv_lload_n X.1 X.2.1 d rfl (hL.2.2 2 (.long x) rfl) (kk H locs ls hH hS hL)
theorem aw_istore2 (X : am_X own cc Z) {a0 a1 : Option Value} {t : List (Option Value)} {u : Option Value} {x : Int32} (d : decode cc pc = .ok (.istore_n 2, 1)) (hn : 2 < zn Z) (hc : am_c1 (a0 :: a1 :: u :: t) 2 = true) (kk : AW Z Q M k n (pc + 1) (a0 :: a1 :: some (.int x) :: t) st) : AW Z Q M k n pc (a0 :: a1 :: u :: t) (.int x :: st) := fun H locs ls hH hS hL => lv_istore_n X.1 X.2.1 d rfl hL.has hn rfl (fun ls' h' => kk H locs ls' hH hS (am_L.st1 h' hc))
theorem aw_astore2 (X : am_X own cc Z) {a0 a1 : Option Value} {t : List (Option Value)} {u : Option Value} {x : Nat} (d : decode cc pc = .ok (.astore_n 2, 1)) (hn : 2 < zn Z) (hc : am_c1 (a0 :: a1 :: u :: t) 2 = true) (kk : AW Z Q M k n (pc + 1) (a0 :: a1 :: some (.ref x) :: t) st) : AW Z Q M k n pc (a0 :: a1 :: u :: t) (.ref x :: st) := fun H locs ls hH hS hL => lv_astore_n X.1 X.2.1 d rfl hL.has hn rfl (fun ls' h' => kk H locs ls' hH hS (am_L.st1 h' hc))
theorem aw_astoreN2 (X : am_X own cc Z) {a0 a1 : Option Value} {t : List (Option Value)} {u : Option Value}  (d : decode cc pc = .ok (.astore_n 2, 1)) (hn : 2 < zn Z) (hc : am_c1 (a0 :: a1 :: u :: t) 2 = true) (kk : AW Z Q M k n (pc + 1) (a0 :: a1 :: some (.null) :: t) st) : AW Z Q M k n pc (a0 :: a1 :: u :: t) (.null :: st) := fun H locs ls hH hS hL => lv_astore_nN X.1 X.2.1 d rfl hL.has hn rfl (fun ls' h' => kk H locs ls' hH hS (am_L.st1 h' hc))
theorem aw_lstore2 (X : am_X own cc Z) {a0 a1 : Option Value} {t : List (Option Value)} {u u1 : Option Value} {x : Int64} (d : decode cc pc = .ok (.lstore_n 2, 1)) (hn : 2 + 1 < zn Z) (hc : am_c1 (a0 :: a1 :: u :: u1 :: t) 2 = true) (kk : AW Z Q M k n (pc + 1) (a0 :: a1 :: some (.long x) :: none :: t) st) : AW Z Q M k n pc (a0 :: a1 :: u :: u1 :: t) (.long x :: st) := fun H locs ls hH hS hL => lv_lstore_n X.1 X.2.1 d rfl hL.has hn rfl (fun ls' h' => kk H locs ls' hH hS (am_L.st2 h' hc))
theorem aw_iinc2 (X : am_X own cc Z) {a0 a1 : Option Value} {t : List (Option Value)} {x v : Int32} {j : Int} (d : decode cc pc = .ok (.iinc 2 j, 3)) (hn : 2 < zn Z) (hv : x + Int32.ofInt j = v) (hc : am_c1 (a0 :: a1 :: some (.int x) :: t) 2 = true) (kk : AW Z Q M k n (pc + 3) (a0 :: a1 :: some (.int v) :: t) st) : AW Z Q M k n pc (a0 :: a1 :: some (.int x) :: t) st := fun H locs ls hH hS hL => by
  obtain ⟨i0, hi0⟩ := List.getElem?_of_mem ((am_pr_in (a0 :: a1 :: some (.int x) :: t) 0 (2, .int x)).mpr ⟨2, by simp, rfl⟩)
  exact lv_iinc X.1 X.2.1 d hL.has hi0 hv hn rfl (fun ls' h' => kk H locs ls' hH hS (am_L.st1 h' hc))
theorem aw_iload3 (X : am_X own cc Z) {a0 a1 a2 : Option Value} {t : List (Option Value)} {x : Int32} (d : decode cc pc = .ok (.iload_n 3, 1)) (kk : AW Z Q M k n (pc + 1) (a0 :: a1 :: a2 :: some (.int x) :: t) (.int x :: st)) : AW Z Q M k n pc (a0 :: a1 :: a2 :: some (.int x) :: t) st := fun H locs ls hH hS hL => lv_iload_n X.1 X.2.1 d rfl (hL.2.2 3 (.int x) rfl) (kk H locs ls hH hS hL)
theorem aw_aload3 (X : am_X own cc Z) {a0 a1 a2 : Option Value} {t : List (Option Value)} {x : Nat} (d : decode cc pc = .ok (.aload_n 3, 1)) (kk : AW Z Q M k n (pc + 1) (a0 :: a1 :: a2 :: some (.ref x) :: t) (.ref x :: st)) : AW Z Q M k n pc (a0 :: a1 :: a2 :: some (.ref x) :: t) st := fun H locs ls hH hS hL => lv_aload_n X.1 X.2.1 d rfl (hL.2.2 3 (.ref x) rfl) (kk H locs ls hH hS hL)
theorem aw_aloadN3 (X : am_X own cc Z) {a0 a1 a2 : Option Value} {t : List (Option Value)}  (d : decode cc pc = .ok (.aload_n 3, 1)) (kk : AW Z Q M k n (pc + 1) (a0 :: a1 :: a2 :: some (.null) :: t) (.null :: st)) : AW Z Q M k n pc (a0 :: a1 :: a2 :: some (.null) :: t) st := fun H locs ls hH hS hL => lv_aload_nN X.1 X.2.1 d rfl (hL.2.2 3 (.null) rfl) (kk H locs ls hH hS hL)
theorem aw_lload3 (X : am_X own cc Z) {a0 a1 a2 : Option Value} {t : List (Option Value)} {x : Int64} (d : decode cc pc = .ok (.lload_n 3, 1)) (kk : AW Z Q M k n (pc + 1) (a0 :: a1 :: a2 :: some (.long x) :: t) (.long x :: st)) : AW Z Q M k n pc (a0 :: a1 :: a2 :: some (.long x) :: t) st := fun H locs ls hH hS hL => lv_lload_n X.1 X.2.1 d rfl (hL.2.2 3 (.long x) rfl) (kk H locs ls hH hS hL)
theorem aw_istore3 (X : am_X own cc Z) {a0 a1 a2 : Option Value} {t : List (Option Value)} {u : Option Value} {x : Int32} (d : decode cc pc = .ok (.istore_n 3, 1)) (hn : 3 < zn Z) (hc : am_c1 (a0 :: a1 :: a2 :: u :: t) 3 = true) (kk : AW Z Q M k n (pc + 1) (a0 :: a1 :: a2 :: some (.int x) :: t) st) : AW Z Q M k n pc (a0 :: a1 :: a2 :: u :: t) (.int x :: st) := fun H locs ls hH hS hL => lv_istore_n X.1 X.2.1 d rfl hL.has hn rfl (fun ls' h' => kk H locs ls' hH hS (am_L.st1 h' hc))
theorem aw_astore3 (X : am_X own cc Z) {a0 a1 a2 : Option Value} {t : List (Option Value)} {u : Option Value} {x : Nat} (d : decode cc pc = .ok (.astore_n 3, 1)) (hn : 3 < zn Z) (hc : am_c1 (a0 :: a1 :: a2 :: u :: t) 3 = true) (kk : AW Z Q M k n (pc + 1) (a0 :: a1 :: a2 :: some (.ref x) :: t) st) : AW Z Q M k n pc (a0 :: a1 :: a2 :: u :: t) (.ref x :: st) := fun H locs ls hH hS hL => lv_astore_n X.1 X.2.1 d rfl hL.has hn rfl (fun ls' h' => kk H locs ls' hH hS (am_L.st1 h' hc))
theorem aw_astoreN3 (X : am_X own cc Z) {a0 a1 a2 : Option Value} {t : List (Option Value)} {u : Option Value}  (d : decode cc pc = .ok (.astore_n 3, 1)) (hn : 3 < zn Z) (hc : am_c1 (a0 :: a1 :: a2 :: u :: t) 3 = true) (kk : AW Z Q M k n (pc + 1) (a0 :: a1 :: a2 :: some (.null) :: t) st) : AW Z Q M k n pc (a0 :: a1 :: a2 :: u :: t) (.null :: st) := fun H locs ls hH hS hL => lv_astore_nN X.1 X.2.1 d rfl hL.has hn rfl (fun ls' h' => kk H locs ls' hH hS (am_L.st1 h' hc))
theorem aw_lstore3 (X : am_X own cc Z) {a0 a1 a2 : Option Value} {t : List (Option Value)} {u u1 : Option Value} {x : Int64} (d : decode cc pc = .ok (.lstore_n 3, 1)) (hn : 3 + 1 < zn Z) (hc : am_c1 (a0 :: a1 :: a2 :: u :: u1 :: t) 3 = true) (kk : AW Z Q M k n (pc + 1) (a0 :: a1 :: a2 :: some (.long x) :: none :: t) st) : AW Z Q M k n pc (a0 :: a1 :: a2 :: u :: u1 :: t) (.long x :: st) := fun H locs ls hH hS hL => lv_lstore_n X.1 X.2.1 d rfl hL.has hn rfl (fun ls' h' => kk H locs ls' hH hS (am_L.st2 h' hc))
theorem aw_iinc3 (X : am_X own cc Z) {a0 a1 a2 : Option Value} {t : List (Option Value)} {x v : Int32} {j : Int} (d : decode cc pc = .ok (.iinc 3 j, 3)) (hn : 3 < zn Z) (hv : x + Int32.ofInt j = v) (hc : am_c1 (a0 :: a1 :: a2 :: some (.int x) :: t) 3 = true) (kk : AW Z Q M k n (pc + 3) (a0 :: a1 :: a2 :: some (.int v) :: t) st) : AW Z Q M k n pc (a0 :: a1 :: a2 :: some (.int x) :: t) st := fun H locs ls hH hS hL => by
  obtain ⟨i0, hi0⟩ := List.getElem?_of_mem ((am_pr_in (a0 :: a1 :: a2 :: some (.int x) :: t) 0 (3, .int x)).mpr ⟨3, by simp, rfl⟩)
  exact lv_iinc X.1 X.2.1 d hL.has hi0 hv hn rfl (fun ls' h' => kk H locs ls' hH hS (am_L.st1 h' hc))
theorem aw_iload4 (X : am_X own cc Z) {a0 a1 a2 a3 : Option Value} {t : List (Option Value)} {x : Int32} (d : decode cc pc = .ok (.iload 4, 2)) (kk : AW Z Q M k n (pc + 2) (a0 :: a1 :: a2 :: a3 :: some (.int x) :: t) (.int x :: st)) : AW Z Q M k n pc (a0 :: a1 :: a2 :: a3 :: some (.int x) :: t) st := fun H locs ls hH hS hL => lv_iload X.1 X.2.1 d (hL.2.2 4 (.int x) rfl) (kk H locs ls hH hS hL)
theorem aw_aload4 (X : am_X own cc Z) {a0 a1 a2 a3 : Option Value} {t : List (Option Value)} {x : Nat} (d : decode cc pc = .ok (.aload 4, 2)) (kk : AW Z Q M k n (pc + 2) (a0 :: a1 :: a2 :: a3 :: some (.ref x) :: t) (.ref x :: st)) : AW Z Q M k n pc (a0 :: a1 :: a2 :: a3 :: some (.ref x) :: t) st := fun H locs ls hH hS hL => lv_aload X.1 X.2.1 d (hL.2.2 4 (.ref x) rfl) (kk H locs ls hH hS hL)
theorem aw_aloadN4 (X : am_X own cc Z) {a0 a1 a2 a3 : Option Value} {t : List (Option Value)}  (d : decode cc pc = .ok (.aload 4, 2)) (kk : AW Z Q M k n (pc + 2) (a0 :: a1 :: a2 :: a3 :: some (.null) :: t) (.null :: st)) : AW Z Q M k n pc (a0 :: a1 :: a2 :: a3 :: some (.null) :: t) st := fun H locs ls hH hS hL => lv_aloadN X.1 X.2.1 d (hL.2.2 4 (.null) rfl) (kk H locs ls hH hS hL)
theorem aw_lload4 (X : am_X own cc Z) {a0 a1 a2 a3 : Option Value} {t : List (Option Value)} {x : Int64} (d : decode cc pc = .ok (.lload 4, 2)) (kk : AW Z Q M k n (pc + 2) (a0 :: a1 :: a2 :: a3 :: some (.long x) :: t) (.long x :: st)) : AW Z Q M k n pc (a0 :: a1 :: a2 :: a3 :: some (.long x) :: t) st := fun H locs ls hH hS hL => lv_lload X.1 X.2.1 d (hL.2.2 4 (.long x) rfl) (kk H locs ls hH hS hL)
theorem aw_istore4 (X : am_X own cc Z) {a0 a1 a2 a3 : Option Value} {t : List (Option Value)} {u : Option Value} {x : Int32} (d : decode cc pc = .ok (.istore 4, 2)) (hn : 4 < zn Z) (hc : am_c1 (a0 :: a1 :: a2 :: a3 :: u :: t) 4 = true) (kk : AW Z Q M k n (pc + 2) (a0 :: a1 :: a2 :: a3 :: some (.int x) :: t) st) : AW Z Q M k n pc (a0 :: a1 :: a2 :: a3 :: u :: t) (.int x :: st) := fun H locs ls hH hS hL => lv_istore X.1 X.2.1 d hL.has hn rfl (fun ls' h' => kk H locs ls' hH hS (am_L.st1 h' hc))
theorem aw_astore4 (X : am_X own cc Z) {a0 a1 a2 a3 : Option Value} {t : List (Option Value)} {u : Option Value} {x : Nat} (d : decode cc pc = .ok (.astore 4, 2)) (hn : 4 < zn Z) (hc : am_c1 (a0 :: a1 :: a2 :: a3 :: u :: t) 4 = true) (kk : AW Z Q M k n (pc + 2) (a0 :: a1 :: a2 :: a3 :: some (.ref x) :: t) st) : AW Z Q M k n pc (a0 :: a1 :: a2 :: a3 :: u :: t) (.ref x :: st) := fun H locs ls hH hS hL => lv_astore X.1 X.2.1 d hL.has hn rfl (fun ls' h' => kk H locs ls' hH hS (am_L.st1 h' hc))
theorem aw_astoreN4 (X : am_X own cc Z) {a0 a1 a2 a3 : Option Value} {t : List (Option Value)} {u : Option Value}  (d : decode cc pc = .ok (.astore 4, 2)) (hn : 4 < zn Z) (hc : am_c1 (a0 :: a1 :: a2 :: a3 :: u :: t) 4 = true) (kk : AW Z Q M k n (pc + 2) (a0 :: a1 :: a2 :: a3 :: some (.null) :: t) st) : AW Z Q M k n pc (a0 :: a1 :: a2 :: a3 :: u :: t) (.null :: st) := fun H locs ls hH hS hL => lv_astoreN X.1 X.2.1 d hL.has hn rfl (fun ls' h' => kk H locs ls' hH hS (am_L.st1 h' hc))
theorem aw_lstore4 (X : am_X own cc Z) {a0 a1 a2 a3 : Option Value} {t : List (Option Value)} {u u1 : Option Value} {x : Int64} (d : decode cc pc = .ok (.lstore 4, 2)) (hn : 4 + 1 < zn Z) (hc : am_c1 (a0 :: a1 :: a2 :: a3 :: u :: u1 :: t) 4 = true) (kk : AW Z Q M k n (pc + 2) (a0 :: a1 :: a2 :: a3 :: some (.long x) :: none :: t) st) : AW Z Q M k n pc (a0 :: a1 :: a2 :: a3 :: u :: u1 :: t) (.long x :: st) := fun H locs ls hH hS hL => lv_lstore X.1 X.2.1 d hL.has hn rfl (fun ls' h' => kk H locs ls' hH hS (am_L.st2 h' hc))
theorem aw_iinc4 (X : am_X own cc Z) {a0 a1 a2 a3 : Option Value} {t : List (Option Value)} {x v : Int32} {j : Int} (d : decode cc pc = .ok (.iinc 4 j, 3)) (hn : 4 < zn Z) (hv : x + Int32.ofInt j = v) (hc : am_c1 (a0 :: a1 :: a2 :: a3 :: some (.int x) :: t) 4 = true) (kk : AW Z Q M k n (pc + 3) (a0 :: a1 :: a2 :: a3 :: some (.int v) :: t) st) : AW Z Q M k n pc (a0 :: a1 :: a2 :: a3 :: some (.int x) :: t) st := fun H locs ls hH hS hL => by
  obtain ⟨i0, hi0⟩ := List.getElem?_of_mem ((am_pr_in (a0 :: a1 :: a2 :: a3 :: some (.int x) :: t) 0 (4, .int x)).mpr ⟨4, by simp, rfl⟩)
  exact lv_iinc X.1 X.2.1 d hL.has hi0 hv hn rfl (fun ls' h' => kk H locs ls' hH hS (am_L.st1 h' hc))
theorem aw_iload5 (X : am_X own cc Z) {a0 a1 a2 a3 a4 : Option Value} {t : List (Option Value)} {x : Int32} (d : decode cc pc = .ok (.iload 5, 2)) (kk : AW Z Q M k n (pc + 2) (a0 :: a1 :: a2 :: a3 :: a4 :: some (.int x) :: t) (.int x :: st)) : AW Z Q M k n pc (a0 :: a1 :: a2 :: a3 :: a4 :: some (.int x) :: t) st := fun H locs ls hH hS hL => lv_iload X.1 X.2.1 d (hL.2.2 5 (.int x) rfl) (kk H locs ls hH hS hL)
theorem aw_aload5 (X : am_X own cc Z) {a0 a1 a2 a3 a4 : Option Value} {t : List (Option Value)} {x : Nat} (d : decode cc pc = .ok (.aload 5, 2)) (kk : AW Z Q M k n (pc + 2) (a0 :: a1 :: a2 :: a3 :: a4 :: some (.ref x) :: t) (.ref x :: st)) : AW Z Q M k n pc (a0 :: a1 :: a2 :: a3 :: a4 :: some (.ref x) :: t) st := fun H locs ls hH hS hL => lv_aload X.1 X.2.1 d (hL.2.2 5 (.ref x) rfl) (kk H locs ls hH hS hL)
theorem aw_aloadN5 (X : am_X own cc Z) {a0 a1 a2 a3 a4 : Option Value} {t : List (Option Value)}  (d : decode cc pc = .ok (.aload 5, 2)) (kk : AW Z Q M k n (pc + 2) (a0 :: a1 :: a2 :: a3 :: a4 :: some (.null) :: t) (.null :: st)) : AW Z Q M k n pc (a0 :: a1 :: a2 :: a3 :: a4 :: some (.null) :: t) st := fun H locs ls hH hS hL => lv_aloadN X.1 X.2.1 d (hL.2.2 5 (.null) rfl) (kk H locs ls hH hS hL)
theorem aw_lload5 (X : am_X own cc Z) {a0 a1 a2 a3 a4 : Option Value} {t : List (Option Value)} {x : Int64} (d : decode cc pc = .ok (.lload 5, 2)) (kk : AW Z Q M k n (pc + 2) (a0 :: a1 :: a2 :: a3 :: a4 :: some (.long x) :: t) (.long x :: st)) : AW Z Q M k n pc (a0 :: a1 :: a2 :: a3 :: a4 :: some (.long x) :: t) st := fun H locs ls hH hS hL => lv_lload X.1 X.2.1 d (hL.2.2 5 (.long x) rfl) (kk H locs ls hH hS hL)
theorem aw_istore5 (X : am_X own cc Z) {a0 a1 a2 a3 a4 : Option Value} {t : List (Option Value)} {u : Option Value} {x : Int32} (d : decode cc pc = .ok (.istore 5, 2)) (hn : 5 < zn Z) (hc : am_c1 (a0 :: a1 :: a2 :: a3 :: a4 :: u :: t) 5 = true) (kk : AW Z Q M k n (pc + 2) (a0 :: a1 :: a2 :: a3 :: a4 :: some (.int x) :: t) st) : AW Z Q M k n pc (a0 :: a1 :: a2 :: a3 :: a4 :: u :: t) (.int x :: st) := fun H locs ls hH hS hL => lv_istore X.1 X.2.1 d hL.has hn rfl (fun ls' h' => kk H locs ls' hH hS (am_L.st1 h' hc))
theorem aw_astore5 (X : am_X own cc Z) {a0 a1 a2 a3 a4 : Option Value} {t : List (Option Value)} {u : Option Value} {x : Nat} (d : decode cc pc = .ok (.astore 5, 2)) (hn : 5 < zn Z) (hc : am_c1 (a0 :: a1 :: a2 :: a3 :: a4 :: u :: t) 5 = true) (kk : AW Z Q M k n (pc + 2) (a0 :: a1 :: a2 :: a3 :: a4 :: some (.ref x) :: t) st) : AW Z Q M k n pc (a0 :: a1 :: a2 :: a3 :: a4 :: u :: t) (.ref x :: st) := fun H locs ls hH hS hL => lv_astore X.1 X.2.1 d hL.has hn rfl (fun ls' h' => kk H locs ls' hH hS (am_L.st1 h' hc))
theorem aw_astoreN5 (X : am_X own cc Z) {a0 a1 a2 a3 a4 : Option Value} {t : List (Option Value)} {u : Option Value}  (d : decode cc pc = .ok (.astore 5, 2)) (hn : 5 < zn Z) (hc : am_c1 (a0 :: a1 :: a2 :: a3 :: a4 :: u :: t) 5 = true) (kk : AW Z Q M k n (pc + 2) (a0 :: a1 :: a2 :: a3 :: a4 :: some (.null) :: t) st) : AW Z Q M k n pc (a0 :: a1 :: a2 :: a3 :: a4 :: u :: t) (.null :: st) := fun H locs ls hH hS hL => lv_astoreN X.1 X.2.1 d hL.has hn rfl (fun ls' h' => kk H locs ls' hH hS (am_L.st1 h' hc))
theorem aw_lstore5 (X : am_X own cc Z) {a0 a1 a2 a3 a4 : Option Value} {t : List (Option Value)} {u u1 : Option Value} {x : Int64} (d : decode cc pc = .ok (.lstore 5, 2)) (hn : 5 + 1 < zn Z) (hc : am_c1 (a0 :: a1 :: a2 :: a3 :: a4 :: u :: u1 :: t) 5 = true) (kk : AW Z Q M k n (pc + 2) (a0 :: a1 :: a2 :: a3 :: a4 :: some (.long x) :: none :: t) st) : AW Z Q M k n pc (a0 :: a1 :: a2 :: a3 :: a4 :: u :: u1 :: t) (.long x :: st) := fun H locs ls hH hS hL => lv_lstore X.1 X.2.1 d hL.has hn rfl (fun ls' h' => kk H locs ls' hH hS (am_L.st2 h' hc))
theorem aw_iinc5 (X : am_X own cc Z) {a0 a1 a2 a3 a4 : Option Value} {t : List (Option Value)} {x v : Int32} {j : Int} (d : decode cc pc = .ok (.iinc 5 j, 3)) (hn : 5 < zn Z) (hv : x + Int32.ofInt j = v) (hc : am_c1 (a0 :: a1 :: a2 :: a3 :: a4 :: some (.int x) :: t) 5 = true) (kk : AW Z Q M k n (pc + 3) (a0 :: a1 :: a2 :: a3 :: a4 :: some (.int v) :: t) st) : AW Z Q M k n pc (a0 :: a1 :: a2 :: a3 :: a4 :: some (.int x) :: t) st := fun H locs ls hH hS hL => by
  obtain ⟨i0, hi0⟩ := List.getElem?_of_mem ((am_pr_in (a0 :: a1 :: a2 :: a3 :: a4 :: some (.int x) :: t) 0 (5, .int x)).mpr ⟨5, by simp, rfl⟩)
  exact lv_iinc X.1 X.2.1 d hL.has hi0 hv hn rfl (fun ls' h' => kk H locs ls' hH hS (am_L.st1 h' hc))
theorem aw_iload6 (X : am_X own cc Z) {a0 a1 a2 a3 a4 a5 : Option Value} {t : List (Option Value)} {x : Int32} (d : decode cc pc = .ok (.iload 6, 2)) (kk : AW Z Q M k n (pc + 2) (a0 :: a1 :: a2 :: a3 :: a4 :: a5 :: some (.int x) :: t) (.int x :: st)) : AW Z Q M k n pc (a0 :: a1 :: a2 :: a3 :: a4 :: a5 :: some (.int x) :: t) st := fun H locs ls hH hS hL => lv_iload X.1 X.2.1 d (hL.2.2 6 (.int x) rfl) (kk H locs ls hH hS hL)
theorem aw_aload6 (X : am_X own cc Z) {a0 a1 a2 a3 a4 a5 : Option Value} {t : List (Option Value)} {x : Nat} (d : decode cc pc = .ok (.aload 6, 2)) (kk : AW Z Q M k n (pc + 2) (a0 :: a1 :: a2 :: a3 :: a4 :: a5 :: some (.ref x) :: t) (.ref x :: st)) : AW Z Q M k n pc (a0 :: a1 :: a2 :: a3 :: a4 :: a5 :: some (.ref x) :: t) st := fun H locs ls hH hS hL => lv_aload X.1 X.2.1 d (hL.2.2 6 (.ref x) rfl) (kk H locs ls hH hS hL)
theorem aw_aloadN6 (X : am_X own cc Z) {a0 a1 a2 a3 a4 a5 : Option Value} {t : List (Option Value)}  (d : decode cc pc = .ok (.aload 6, 2)) (kk : AW Z Q M k n (pc + 2) (a0 :: a1 :: a2 :: a3 :: a4 :: a5 :: some (.null) :: t) (.null :: st)) : AW Z Q M k n pc (a0 :: a1 :: a2 :: a3 :: a4 :: a5 :: some (.null) :: t) st := fun H locs ls hH hS hL => lv_aloadN X.1 X.2.1 d (hL.2.2 6 (.null) rfl) (kk H locs ls hH hS hL)
theorem aw_lload6 (X : am_X own cc Z) {a0 a1 a2 a3 a4 a5 : Option Value} {t : List (Option Value)} {x : Int64} (d : decode cc pc = .ok (.lload 6, 2)) (kk : AW Z Q M k n (pc + 2) (a0 :: a1 :: a2 :: a3 :: a4 :: a5 :: some (.long x) :: t) (.long x :: st)) : AW Z Q M k n pc (a0 :: a1 :: a2 :: a3 :: a4 :: a5 :: some (.long x) :: t) st := fun H locs ls hH hS hL => lv_lload X.1 X.2.1 d (hL.2.2 6 (.long x) rfl) (kk H locs ls hH hS hL)
theorem aw_istore6 (X : am_X own cc Z) {a0 a1 a2 a3 a4 a5 : Option Value} {t : List (Option Value)} {u : Option Value} {x : Int32} (d : decode cc pc = .ok (.istore 6, 2)) (hn : 6 < zn Z) (hc : am_c1 (a0 :: a1 :: a2 :: a3 :: a4 :: a5 :: u :: t) 6 = true) (kk : AW Z Q M k n (pc + 2) (a0 :: a1 :: a2 :: a3 :: a4 :: a5 :: some (.int x) :: t) st) : AW Z Q M k n pc (a0 :: a1 :: a2 :: a3 :: a4 :: a5 :: u :: t) (.int x :: st) := fun H locs ls hH hS hL => lv_istore X.1 X.2.1 d hL.has hn rfl (fun ls' h' => kk H locs ls' hH hS (am_L.st1 h' hc))
theorem aw_astore6 (X : am_X own cc Z) {a0 a1 a2 a3 a4 a5 : Option Value} {t : List (Option Value)} {u : Option Value} {x : Nat} (d : decode cc pc = .ok (.astore 6, 2)) (hn : 6 < zn Z) (hc : am_c1 (a0 :: a1 :: a2 :: a3 :: a4 :: a5 :: u :: t) 6 = true) (kk : AW Z Q M k n (pc + 2) (a0 :: a1 :: a2 :: a3 :: a4 :: a5 :: some (.ref x) :: t) st) : AW Z Q M k n pc (a0 :: a1 :: a2 :: a3 :: a4 :: a5 :: u :: t) (.ref x :: st) := fun H locs ls hH hS hL => lv_astore X.1 X.2.1 d hL.has hn rfl (fun ls' h' => kk H locs ls' hH hS (am_L.st1 h' hc))
theorem aw_astoreN6 (X : am_X own cc Z) {a0 a1 a2 a3 a4 a5 : Option Value} {t : List (Option Value)} {u : Option Value}  (d : decode cc pc = .ok (.astore 6, 2)) (hn : 6 < zn Z) (hc : am_c1 (a0 :: a1 :: a2 :: a3 :: a4 :: a5 :: u :: t) 6 = true) (kk : AW Z Q M k n (pc + 2) (a0 :: a1 :: a2 :: a3 :: a4 :: a5 :: some (.null) :: t) st) : AW Z Q M k n pc (a0 :: a1 :: a2 :: a3 :: a4 :: a5 :: u :: t) (.null :: st) := fun H locs ls hH hS hL => lv_astoreN X.1 X.2.1 d hL.has hn rfl (fun ls' h' => kk H locs ls' hH hS (am_L.st1 h' hc))
theorem aw_lstore6 (X : am_X own cc Z) {a0 a1 a2 a3 a4 a5 : Option Value} {t : List (Option Value)} {u u1 : Option Value} {x : Int64} (d : decode cc pc = .ok (.lstore 6, 2)) (hn : 6 + 1 < zn Z) (hc : am_c1 (a0 :: a1 :: a2 :: a3 :: a4 :: a5 :: u :: u1 :: t) 6 = true) (kk : AW Z Q M k n (pc + 2) (a0 :: a1 :: a2 :: a3 :: a4 :: a5 :: some (.long x) :: none :: t) st) : AW Z Q M k n pc (a0 :: a1 :: a2 :: a3 :: a4 :: a5 :: u :: u1 :: t) (.long x :: st) := fun H locs ls hH hS hL => lv_lstore X.1 X.2.1 d hL.has hn rfl (fun ls' h' => kk H locs ls' hH hS (am_L.st2 h' hc))
theorem aw_iinc6 (X : am_X own cc Z) {a0 a1 a2 a3 a4 a5 : Option Value} {t : List (Option Value)} {x v : Int32} {j : Int} (d : decode cc pc = .ok (.iinc 6 j, 3)) (hn : 6 < zn Z) (hv : x + Int32.ofInt j = v) (hc : am_c1 (a0 :: a1 :: a2 :: a3 :: a4 :: a5 :: some (.int x) :: t) 6 = true) (kk : AW Z Q M k n (pc + 3) (a0 :: a1 :: a2 :: a3 :: a4 :: a5 :: some (.int v) :: t) st) : AW Z Q M k n pc (a0 :: a1 :: a2 :: a3 :: a4 :: a5 :: some (.int x) :: t) st := fun H locs ls hH hS hL => by
  obtain ⟨i0, hi0⟩ := List.getElem?_of_mem ((am_pr_in (a0 :: a1 :: a2 :: a3 :: a4 :: a5 :: some (.int x) :: t) 0 (6, .int x)).mpr ⟨6, by simp, rfl⟩)
  exact lv_iinc X.1 X.2.1 d hL.has hi0 hv hn rfl (fun ls' h' => kk H locs ls' hH hS (am_L.st1 h' hc))
theorem aw_iload7 (X : am_X own cc Z) {a0 a1 a2 a3 a4 a5 a6 : Option Value} {t : List (Option Value)} {x : Int32} (d : decode cc pc = .ok (.iload 7, 2)) (kk : AW Z Q M k n (pc + 2) (a0 :: a1 :: a2 :: a3 :: a4 :: a5 :: a6 :: some (.int x) :: t) (.int x :: st)) : AW Z Q M k n pc (a0 :: a1 :: a2 :: a3 :: a4 :: a5 :: a6 :: some (.int x) :: t) st := fun H locs ls hH hS hL => lv_iload X.1 X.2.1 d (hL.2.2 7 (.int x) rfl) (kk H locs ls hH hS hL)
theorem aw_aload7 (X : am_X own cc Z) {a0 a1 a2 a3 a4 a5 a6 : Option Value} {t : List (Option Value)} {x : Nat} (d : decode cc pc = .ok (.aload 7, 2)) (kk : AW Z Q M k n (pc + 2) (a0 :: a1 :: a2 :: a3 :: a4 :: a5 :: a6 :: some (.ref x) :: t) (.ref x :: st)) : AW Z Q M k n pc (a0 :: a1 :: a2 :: a3 :: a4 :: a5 :: a6 :: some (.ref x) :: t) st := fun H locs ls hH hS hL => lv_aload X.1 X.2.1 d (hL.2.2 7 (.ref x) rfl) (kk H locs ls hH hS hL)
theorem aw_aloadN7 (X : am_X own cc Z) {a0 a1 a2 a3 a4 a5 a6 : Option Value} {t : List (Option Value)}  (d : decode cc pc = .ok (.aload 7, 2)) (kk : AW Z Q M k n (pc + 2) (a0 :: a1 :: a2 :: a3 :: a4 :: a5 :: a6 :: some (.null) :: t) (.null :: st)) : AW Z Q M k n pc (a0 :: a1 :: a2 :: a3 :: a4 :: a5 :: a6 :: some (.null) :: t) st := fun H locs ls hH hS hL => lv_aloadN X.1 X.2.1 d (hL.2.2 7 (.null) rfl) (kk H locs ls hH hS hL)
theorem aw_lload7 (X : am_X own cc Z) {a0 a1 a2 a3 a4 a5 a6 : Option Value} {t : List (Option Value)} {x : Int64} (d : decode cc pc = .ok (.lload 7, 2)) (kk : AW Z Q M k n (pc + 2) (a0 :: a1 :: a2 :: a3 :: a4 :: a5 :: a6 :: some (.long x) :: t) (.long x :: st)) : AW Z Q M k n pc (a0 :: a1 :: a2 :: a3 :: a4 :: a5 :: a6 :: some (.long x) :: t) st := fun H locs ls hH hS hL => lv_lload X.1 X.2.1 d (hL.2.2 7 (.long x) rfl) (kk H locs ls hH hS hL)
theorem aw_istore7 (X : am_X own cc Z) {a0 a1 a2 a3 a4 a5 a6 : Option Value} {t : List (Option Value)} {u : Option Value} {x : Int32} (d : decode cc pc = .ok (.istore 7, 2)) (hn : 7 < zn Z) (hc : am_c1 (a0 :: a1 :: a2 :: a3 :: a4 :: a5 :: a6 :: u :: t) 7 = true) (kk : AW Z Q M k n (pc + 2) (a0 :: a1 :: a2 :: a3 :: a4 :: a5 :: a6 :: some (.int x) :: t) st) : AW Z Q M k n pc (a0 :: a1 :: a2 :: a3 :: a4 :: a5 :: a6 :: u :: t) (.int x :: st) := fun H locs ls hH hS hL => lv_istore X.1 X.2.1 d hL.has hn rfl (fun ls' h' => kk H locs ls' hH hS (am_L.st1 h' hc))
theorem aw_astore7 (X : am_X own cc Z) {a0 a1 a2 a3 a4 a5 a6 : Option Value} {t : List (Option Value)} {u : Option Value} {x : Nat} (d : decode cc pc = .ok (.astore 7, 2)) (hn : 7 < zn Z) (hc : am_c1 (a0 :: a1 :: a2 :: a3 :: a4 :: a5 :: a6 :: u :: t) 7 = true) (kk : AW Z Q M k n (pc + 2) (a0 :: a1 :: a2 :: a3 :: a4 :: a5 :: a6 :: some (.ref x) :: t) st) : AW Z Q M k n pc (a0 :: a1 :: a2 :: a3 :: a4 :: a5 :: a6 :: u :: t) (.ref x :: st) := fun H locs ls hH hS hL => lv_astore X.1 X.2.1 d hL.has hn rfl (fun ls' h' => kk H locs ls' hH hS (am_L.st1 h' hc))
theorem aw_astoreN7 (X : am_X own cc Z) {a0 a1 a2 a3 a4 a5 a6 : Option Value} {t : List (Option Value)} {u : Option Value}  (d : decode cc pc = .ok (.astore 7, 2)) (hn : 7 < zn Z) (hc : am_c1 (a0 :: a1 :: a2 :: a3 :: a4 :: a5 :: a6 :: u :: t) 7 = true) (kk : AW Z Q M k n (pc + 2) (a0 :: a1 :: a2 :: a3 :: a4 :: a5 :: a6 :: some (.null) :: t) st) : AW Z Q M k n pc (a0 :: a1 :: a2 :: a3 :: a4 :: a5 :: a6 :: u :: t) (.null :: st) := fun H locs ls hH hS hL => lv_astoreN X.1 X.2.1 d hL.has hn rfl (fun ls' h' => kk H locs ls' hH hS (am_L.st1 h' hc))
theorem aw_lstore7 (X : am_X own cc Z) {a0 a1 a2 a3 a4 a5 a6 : Option Value} {t : List (Option Value)} {u u1 : Option Value} {x : Int64} (d : decode cc pc = .ok (.lstore 7, 2)) (hn : 7 + 1 < zn Z) (hc : am_c1 (a0 :: a1 :: a2 :: a3 :: a4 :: a5 :: a6 :: u :: u1 :: t) 7 = true) (kk : AW Z Q M k n (pc + 2) (a0 :: a1 :: a2 :: a3 :: a4 :: a5 :: a6 :: some (.long x) :: none :: t) st) : AW Z Q M k n pc (a0 :: a1 :: a2 :: a3 :: a4 :: a5 :: a6 :: u :: u1 :: t) (.long x :: st) := fun H locs ls hH hS hL => lv_lstore X.1 X.2.1 d hL.has hn rfl (fun ls' h' => kk H locs ls' hH hS (am_L.st2 h' hc))
theorem aw_iinc7 (X : am_X own cc Z) {a0 a1 a2 a3 a4 a5 a6 : Option Value} {t : List (Option Value)} {x v : Int32} {j : Int} (d : decode cc pc = .ok (.iinc 7 j, 3)) (hn : 7 < zn Z) (hv : x + Int32.ofInt j = v) (hc : am_c1 (a0 :: a1 :: a2 :: a3 :: a4 :: a5 :: a6 :: some (.int x) :: t) 7 = true) (kk : AW Z Q M k n (pc + 3) (a0 :: a1 :: a2 :: a3 :: a4 :: a5 :: a6 :: some (.int v) :: t) st) : AW Z Q M k n pc (a0 :: a1 :: a2 :: a3 :: a4 :: a5 :: a6 :: some (.int x) :: t) st := fun H locs ls hH hS hL => by
  obtain ⟨i0, hi0⟩ := List.getElem?_of_mem ((am_pr_in (a0 :: a1 :: a2 :: a3 :: a4 :: a5 :: a6 :: some (.int x) :: t) 0 (7, .int x)).mpr ⟨7, by simp, rfl⟩)
  exact lv_iinc X.1 X.2.1 d hL.has hi0 hv hn rfl (fun ls' h' => kk H locs ls' hH hS (am_L.st1 h' hc))
theorem aw_iload8 (X : am_X own cc Z) {a0 a1 a2 a3 a4 a5 a6 a7 : Option Value} {t : List (Option Value)} {x : Int32} (d : decode cc pc = .ok (.iload 8, 2)) (kk : AW Z Q M k n (pc + 2) (a0 :: a1 :: a2 :: a3 :: a4 :: a5 :: a6 :: a7 :: some (.int x) :: t) (.int x :: st)) : AW Z Q M k n pc (a0 :: a1 :: a2 :: a3 :: a4 :: a5 :: a6 :: a7 :: some (.int x) :: t) st := fun H locs ls hH hS hL => lv_iload X.1 X.2.1 d (hL.2.2 8 (.int x) rfl) (kk H locs ls hH hS hL)
theorem aw_aload8 (X : am_X own cc Z) {a0 a1 a2 a3 a4 a5 a6 a7 : Option Value} {t : List (Option Value)} {x : Nat} (d : decode cc pc = .ok (.aload 8, 2)) (kk : AW Z Q M k n (pc + 2) (a0 :: a1 :: a2 :: a3 :: a4 :: a5 :: a6 :: a7 :: some (.ref x) :: t) (.ref x :: st)) : AW Z Q M k n pc (a0 :: a1 :: a2 :: a3 :: a4 :: a5 :: a6 :: a7 :: some (.ref x) :: t) st := fun H locs ls hH hS hL => lv_aload X.1 X.2.1 d (hL.2.2 8 (.ref x) rfl) (kk H locs ls hH hS hL)
theorem aw_aloadN8 (X : am_X own cc Z) {a0 a1 a2 a3 a4 a5 a6 a7 : Option Value} {t : List (Option Value)}  (d : decode cc pc = .ok (.aload 8, 2)) (kk : AW Z Q M k n (pc + 2) (a0 :: a1 :: a2 :: a3 :: a4 :: a5 :: a6 :: a7 :: some (.null) :: t) (.null :: st)) : AW Z Q M k n pc (a0 :: a1 :: a2 :: a3 :: a4 :: a5 :: a6 :: a7 :: some (.null) :: t) st := fun H locs ls hH hS hL => lv_aloadN X.1 X.2.1 d (hL.2.2 8 (.null) rfl) (kk H locs ls hH hS hL)
theorem aw_lload8 (X : am_X own cc Z) {a0 a1 a2 a3 a4 a5 a6 a7 : Option Value} {t : List (Option Value)} {x : Int64} (d : decode cc pc = .ok (.lload 8, 2)) (kk : AW Z Q M k n (pc + 2) (a0 :: a1 :: a2 :: a3 :: a4 :: a5 :: a6 :: a7 :: some (.long x) :: t) (.long x :: st)) : AW Z Q M k n pc (a0 :: a1 :: a2 :: a3 :: a4 :: a5 :: a6 :: a7 :: some (.long x) :: t) st := fun H locs ls hH hS hL => lv_lload X.1 X.2.1 d (hL.2.2 8 (.long x) rfl) (kk H locs ls hH hS hL)
theorem aw_istore8 (X : am_X own cc Z) {a0 a1 a2 a3 a4 a5 a6 a7 : Option Value} {t : List (Option Value)} {u : Option Value} {x : Int32} (d : decode cc pc = .ok (.istore 8, 2)) (hn : 8 < zn Z) (hc : am_c1 (a0 :: a1 :: a2 :: a3 :: a4 :: a5 :: a6 :: a7 :: u :: t) 8 = true) (kk : AW Z Q M k n (pc + 2) (a0 :: a1 :: a2 :: a3 :: a4 :: a5 :: a6 :: a7 :: some (.int x) :: t) st) : AW Z Q M k n pc (a0 :: a1 :: a2 :: a3 :: a4 :: a5 :: a6 :: a7 :: u :: t) (.int x :: st) := fun H locs ls hH hS hL => lv_istore X.1 X.2.1 d hL.has hn rfl (fun ls' h' => kk H locs ls' hH hS (am_L.st1 h' hc))
theorem aw_astore8 (X : am_X own cc Z) {a0 a1 a2 a3 a4 a5 a6 a7 : Option Value} {t : List (Option Value)} {u : Option Value} {x : Nat} (d : decode cc pc = .ok (.astore 8, 2)) (hn : 8 < zn Z) (hc : am_c1 (a0 :: a1 :: a2 :: a3 :: a4 :: a5 :: a6 :: a7 :: u :: t) 8 = true) (kk : AW Z Q M k n (pc + 2) (a0 :: a1 :: a2 :: a3 :: a4 :: a5 :: a6 :: a7 :: some (.ref x) :: t) st) : AW Z Q M k n pc (a0 :: a1 :: a2 :: a3 :: a4 :: a5 :: a6 :: a7 :: u :: t) (.ref x :: st) := fun H locs ls hH hS hL => lv_astore X.1 X.2.1 d hL.has hn rfl (fun ls' h' => kk H locs ls' hH hS (am_L.st1 h' hc))
theorem aw_astoreN8 (X : am_X own cc Z) {a0 a1 a2 a3 a4 a5 a6 a7 : Option Value} {t : List (Option Value)} {u : Option Value}  (d : decode cc pc = .ok (.astore 8, 2)) (hn : 8 < zn Z) (hc : am_c1 (a0 :: a1 :: a2 :: a3 :: a4 :: a5 :: a6 :: a7 :: u :: t) 8 = true) (kk : AW Z Q M k n (pc + 2) (a0 :: a1 :: a2 :: a3 :: a4 :: a5 :: a6 :: a7 :: some (.null) :: t) st) : AW Z Q M k n pc (a0 :: a1 :: a2 :: a3 :: a4 :: a5 :: a6 :: a7 :: u :: t) (.null :: st) := fun H locs ls hH hS hL => lv_astoreN X.1 X.2.1 d hL.has hn rfl (fun ls' h' => kk H locs ls' hH hS (am_L.st1 h' hc))
theorem aw_lstore8 (X : am_X own cc Z) {a0 a1 a2 a3 a4 a5 a6 a7 : Option Value} {t : List (Option Value)} {u u1 : Option Value} {x : Int64} (d : decode cc pc = .ok (.lstore 8, 2)) (hn : 8 + 1 < zn Z) (hc : am_c1 (a0 :: a1 :: a2 :: a3 :: a4 :: a5 :: a6 :: a7 :: u :: u1 :: t) 8 = true) (kk : AW Z Q M k n (pc + 2) (a0 :: a1 :: a2 :: a3 :: a4 :: a5 :: a6 :: a7 :: some (.long x) :: none :: t) st) : AW Z Q M k n pc (a0 :: a1 :: a2 :: a3 :: a4 :: a5 :: a6 :: a7 :: u :: u1 :: t) (.long x :: st) := fun H locs ls hH hS hL => lv_lstore X.1 X.2.1 d hL.has hn rfl (fun ls' h' => kk H locs ls' hH hS (am_L.st2 h' hc))
theorem aw_iinc8 (X : am_X own cc Z) {a0 a1 a2 a3 a4 a5 a6 a7 : Option Value} {t : List (Option Value)} {x v : Int32} {j : Int} (d : decode cc pc = .ok (.iinc 8 j, 3)) (hn : 8 < zn Z) (hv : x + Int32.ofInt j = v) (hc : am_c1 (a0 :: a1 :: a2 :: a3 :: a4 :: a5 :: a6 :: a7 :: some (.int x) :: t) 8 = true) (kk : AW Z Q M k n (pc + 3) (a0 :: a1 :: a2 :: a3 :: a4 :: a5 :: a6 :: a7 :: some (.int v) :: t) st) : AW Z Q M k n pc (a0 :: a1 :: a2 :: a3 :: a4 :: a5 :: a6 :: a7 :: some (.int x) :: t) st := fun H locs ls hH hS hL => by
  obtain ⟨i0, hi0⟩ := List.getElem?_of_mem ((am_pr_in (a0 :: a1 :: a2 :: a3 :: a4 :: a5 :: a6 :: a7 :: some (.int x) :: t) 0 (8, .int x)).mpr ⟨8, by simp, rfl⟩)
  exact lv_iinc X.1 X.2.1 d hL.has hi0 hv hn rfl (fun ls' h' => kk H locs ls' hH hS (am_L.st1 h' hc))
theorem aw_iload9 (X : am_X own cc Z) {a0 a1 a2 a3 a4 a5 a6 a7 a8 : Option Value} {t : List (Option Value)} {x : Int32} (d : decode cc pc = .ok (.iload 9, 2)) (kk : AW Z Q M k n (pc + 2) (a0 :: a1 :: a2 :: a3 :: a4 :: a5 :: a6 :: a7 :: a8 :: some (.int x) :: t) (.int x :: st)) : AW Z Q M k n pc (a0 :: a1 :: a2 :: a3 :: a4 :: a5 :: a6 :: a7 :: a8 :: some (.int x) :: t) st := fun H locs ls hH hS hL => lv_iload X.1 X.2.1 d (hL.2.2 9 (.int x) rfl) (kk H locs ls hH hS hL)
theorem aw_aload9 (X : am_X own cc Z) {a0 a1 a2 a3 a4 a5 a6 a7 a8 : Option Value} {t : List (Option Value)} {x : Nat} (d : decode cc pc = .ok (.aload 9, 2)) (kk : AW Z Q M k n (pc + 2) (a0 :: a1 :: a2 :: a3 :: a4 :: a5 :: a6 :: a7 :: a8 :: some (.ref x) :: t) (.ref x :: st)) : AW Z Q M k n pc (a0 :: a1 :: a2 :: a3 :: a4 :: a5 :: a6 :: a7 :: a8 :: some (.ref x) :: t) st := fun H locs ls hH hS hL => lv_aload X.1 X.2.1 d (hL.2.2 9 (.ref x) rfl) (kk H locs ls hH hS hL)
theorem aw_aloadN9 (X : am_X own cc Z) {a0 a1 a2 a3 a4 a5 a6 a7 a8 : Option Value} {t : List (Option Value)}  (d : decode cc pc = .ok (.aload 9, 2)) (kk : AW Z Q M k n (pc + 2) (a0 :: a1 :: a2 :: a3 :: a4 :: a5 :: a6 :: a7 :: a8 :: some (.null) :: t) (.null :: st)) : AW Z Q M k n pc (a0 :: a1 :: a2 :: a3 :: a4 :: a5 :: a6 :: a7 :: a8 :: some (.null) :: t) st := fun H locs ls hH hS hL => lv_aloadN X.1 X.2.1 d (hL.2.2 9 (.null) rfl) (kk H locs ls hH hS hL)
theorem aw_lload9 (X : am_X own cc Z) {a0 a1 a2 a3 a4 a5 a6 a7 a8 : Option Value} {t : List (Option Value)} {x : Int64} (d : decode cc pc = .ok (.lload 9, 2)) (kk : AW Z Q M k n (pc + 2) (a0 :: a1 :: a2 :: a3 :: a4 :: a5 :: a6 :: a7 :: a8 :: some (.long x) :: t) (.long x :: st)) : AW Z Q M k n pc (a0 :: a1 :: a2 :: a3 :: a4 :: a5 :: a6 :: a7 :: a8 :: some (.long x) :: t) st := fun H locs ls hH hS hL => lv_lload X.1 X.2.1 d (hL.2.2 9 (.long x) rfl) (kk H locs ls hH hS hL)
theorem aw_istore9 (X : am_X own cc Z) {a0 a1 a2 a3 a4 a5 a6 a7 a8 : Option Value} {t : List (Option Value)} {u : Option Value} {x : Int32} (d : decode cc pc = .ok (.istore 9, 2)) (hn : 9 < zn Z) (hc : am_c1 (a0 :: a1 :: a2 :: a3 :: a4 :: a5 :: a6 :: a7 :: a8 :: u :: t) 9 = true) (kk : AW Z Q M k n (pc + 2) (a0 :: a1 :: a2 :: a3 :: a4 :: a5 :: a6 :: a7 :: a8 :: some (.int x) :: t) st) : AW Z Q M k n pc (a0 :: a1 :: a2 :: a3 :: a4 :: a5 :: a6 :: a7 :: a8 :: u :: t) (.int x :: st) := fun H locs ls hH hS hL => lv_istore X.1 X.2.1 d hL.has hn rfl (fun ls' h' => kk H locs ls' hH hS (am_L.st1 h' hc))
theorem aw_astore9 (X : am_X own cc Z) {a0 a1 a2 a3 a4 a5 a6 a7 a8 : Option Value} {t : List (Option Value)} {u : Option Value} {x : Nat} (d : decode cc pc = .ok (.astore 9, 2)) (hn : 9 < zn Z) (hc : am_c1 (a0 :: a1 :: a2 :: a3 :: a4 :: a5 :: a6 :: a7 :: a8 :: u :: t) 9 = true) (kk : AW Z Q M k n (pc + 2) (a0 :: a1 :: a2 :: a3 :: a4 :: a5 :: a6 :: a7 :: a8 :: some (.ref x) :: t) st) : AW Z Q M k n pc (a0 :: a1 :: a2 :: a3 :: a4 :: a5 :: a6 :: a7 :: a8 :: u :: t) (.ref x :: st) := fun H locs ls hH hS hL => lv_astore X.1 X.2.1 d hL.has hn rfl (fun ls' h' => kk H locs ls' hH hS (am_L.st1 h' hc))
theorem aw_astoreN9 (X : am_X own cc Z) {a0 a1 a2 a3 a4 a5 a6 a7 a8 : Option Value} {t : List (Option Value)} {u : Option Value}  (d : decode cc pc = .ok (.astore 9, 2)) (hn : 9 < zn Z) (hc : am_c1 (a0 :: a1 :: a2 :: a3 :: a4 :: a5 :: a6 :: a7 :: a8 :: u :: t) 9 = true) (kk : AW Z Q M k n (pc + 2) (a0 :: a1 :: a2 :: a3 :: a4 :: a5 :: a6 :: a7 :: a8 :: some (.null) :: t) st) : AW Z Q M k n pc (a0 :: a1 :: a2 :: a3 :: a4 :: a5 :: a6 :: a7 :: a8 :: u :: t) (.null :: st) := fun H locs ls hH hS hL => lv_astoreN X.1 X.2.1 d hL.has hn rfl (fun ls' h' => kk H locs ls' hH hS (am_L.st1 h' hc))
theorem aw_lstore9 (X : am_X own cc Z) {a0 a1 a2 a3 a4 a5 a6 a7 a8 : Option Value} {t : List (Option Value)} {u u1 : Option Value} {x : Int64} (d : decode cc pc = .ok (.lstore 9, 2)) (hn : 9 + 1 < zn Z) (hc : am_c1 (a0 :: a1 :: a2 :: a3 :: a4 :: a5 :: a6 :: a7 :: a8 :: u :: u1 :: t) 9 = true) (kk : AW Z Q M k n (pc + 2) (a0 :: a1 :: a2 :: a3 :: a4 :: a5 :: a6 :: a7 :: a8 :: some (.long x) :: none :: t) st) : AW Z Q M k n pc (a0 :: a1 :: a2 :: a3 :: a4 :: a5 :: a6 :: a7 :: a8 :: u :: u1 :: t) (.long x :: st) := fun H locs ls hH hS hL => lv_lstore X.1 X.2.1 d hL.has hn rfl (fun ls' h' => kk H locs ls' hH hS (am_L.st2 h' hc))
theorem aw_iinc9 (X : am_X own cc Z) {a0 a1 a2 a3 a4 a5 a6 a7 a8 : Option Value} {t : List (Option Value)} {x v : Int32} {j : Int} (d : decode cc pc = .ok (.iinc 9 j, 3)) (hn : 9 < zn Z) (hv : x + Int32.ofInt j = v) (hc : am_c1 (a0 :: a1 :: a2 :: a3 :: a4 :: a5 :: a6 :: a7 :: a8 :: some (.int x) :: t) 9 = true) (kk : AW Z Q M k n (pc + 3) (a0 :: a1 :: a2 :: a3 :: a4 :: a5 :: a6 :: a7 :: a8 :: some (.int v) :: t) st) : AW Z Q M k n pc (a0 :: a1 :: a2 :: a3 :: a4 :: a5 :: a6 :: a7 :: a8 :: some (.int x) :: t) st := fun H locs ls hH hS hL => by
  obtain ⟨i0, hi0⟩ := List.getElem?_of_mem ((am_pr_in (a0 :: a1 :: a2 :: a3 :: a4 :: a5 :: a6 :: a7 :: a8 :: some (.int x) :: t) 0 (9, .int x)).mpr ⟨9, by simp, rfl⟩)
  exact lv_iinc X.1 X.2.1 d hL.has hi0 hv hn rfl (fun ls' h' => kk H locs ls' hH hS (am_L.st1 h' hc))
theorem aw_iload10 (X : am_X own cc Z) {a0 a1 a2 a3 a4 a5 a6 a7 a8 a9 : Option Value} {t : List (Option Value)} {x : Int32} (d : decode cc pc = .ok (.iload 10, 2)) (kk : AW Z Q M k n (pc + 2) (a0 :: a1 :: a2 :: a3 :: a4 :: a5 :: a6 :: a7 :: a8 :: a9 :: some (.int x) :: t) (.int x :: st)) : AW Z Q M k n pc (a0 :: a1 :: a2 :: a3 :: a4 :: a5 :: a6 :: a7 :: a8 :: a9 :: some (.int x) :: t) st := fun H locs ls hH hS hL => lv_iload X.1 X.2.1 d (hL.2.2 10 (.int x) rfl) (kk H locs ls hH hS hL)
theorem aw_aload10 (X : am_X own cc Z) {a0 a1 a2 a3 a4 a5 a6 a7 a8 a9 : Option Value} {t : List (Option Value)} {x : Nat} (d : decode cc pc = .ok (.aload 10, 2)) (kk : AW Z Q M k n (pc + 2) (a0 :: a1 :: a2 :: a3 :: a4 :: a5 :: a6 :: a7 :: a8 :: a9 :: some (.ref x) :: t) (.ref x :: st)) : AW Z Q M k n pc (a0 :: a1 :: a2 :: a3 :: a4 :: a5 :: a6 :: a7 :: a8 :: a9 :: some (.ref x) :: t) st := fun H locs ls hH hS hL => lv_aload X.1 X.2.1 d (hL.2.2 10 (.ref x) rfl) (kk H locs ls hH hS hL)
theorem aw_aloadN10 (X : am_X own cc Z) {a0 a1 a2 a3 a4 a5 a6 a7 a8 a9 : Option Value} {t : List (Option Value)}  (d : decode cc pc = .ok (.aload 10, 2)) (kk : AW Z Q M k n (pc + 2) (a0 :: a1 :: a2 :: a3 :: a4 :: a5 :: a6 :: a7 :: a8 :: a9 :: some (.null) :: t) (.null :: st)) : AW Z Q M k n pc (a0 :: a1 :: a2 :: a3 :: a4 :: a5 :: a6 :: a7 :: a8 :: a9 :: some (.null) :: t) st := fun H locs ls hH hS hL => lv_aloadN X.1 X.2.1 d (hL.2.2 10 (.null) rfl) (kk H locs ls hH hS hL)
theorem aw_lload10 (X : am_X own cc Z) {a0 a1 a2 a3 a4 a5 a6 a7 a8 a9 : Option Value} {t : List (Option Value)} {x : Int64} (d : decode cc pc = .ok (.lload 10, 2)) (kk : AW Z Q M k n (pc + 2) (a0 :: a1 :: a2 :: a3 :: a4 :: a5 :: a6 :: a7 :: a8 :: a9 :: some (.long x) :: t) (.long x :: st)) : AW Z Q M k n pc (a0 :: a1 :: a2 :: a3 :: a4 :: a5 :: a6 :: a7 :: a8 :: a9 :: some (.long x) :: t) st := fun H locs ls hH hS hL => lv_lload X.1 X.2.1 d (hL.2.2 10 (.long x) rfl) (kk H locs ls hH hS hL)
theorem aw_istore10 (X : am_X own cc Z) {a0 a1 a2 a3 a4 a5 a6 a7 a8 a9 : Option Value} {t : List (Option Value)} {u : Option Value} {x : Int32} (d : decode cc pc = .ok (.istore 10, 2)) (hn : 10 < zn Z) (hc : am_c1 (a0 :: a1 :: a2 :: a3 :: a4 :: a5 :: a6 :: a7 :: a8 :: a9 :: u :: t) 10 = true) (kk : AW Z Q M k n (pc + 2) (a0 :: a1 :: a2 :: a3 :: a4 :: a5 :: a6 :: a7 :: a8 :: a9 :: some (.int x) :: t) st) : AW Z Q M k n pc (a0 :: a1 :: a2 :: a3 :: a4 :: a5 :: a6 :: a7 :: a8 :: a9 :: u :: t) (.int x :: st) := fun H locs ls hH hS hL => lv_istore X.1 X.2.1 d hL.has hn rfl (fun ls' h' => kk H locs ls' hH hS (am_L.st1 h' hc))
theorem aw_astore10 (X : am_X own cc Z) {a0 a1 a2 a3 a4 a5 a6 a7 a8 a9 : Option Value} {t : List (Option Value)} {u : Option Value} {x : Nat} (d : decode cc pc = .ok (.astore 10, 2)) (hn : 10 < zn Z) (hc : am_c1 (a0 :: a1 :: a2 :: a3 :: a4 :: a5 :: a6 :: a7 :: a8 :: a9 :: u :: t) 10 = true) (kk : AW Z Q M k n (pc + 2) (a0 :: a1 :: a2 :: a3 :: a4 :: a5 :: a6 :: a7 :: a8 :: a9 :: some (.ref x) :: t) st) : AW Z Q M k n pc (a0 :: a1 :: a2 :: a3 :: a4 :: a5 :: a6 :: a7 :: a8 :: a9 :: u :: t) (.ref x :: st) := fun H locs ls hH hS hL => lv_astore X.1 X.2.1 d hL.has hn rfl (fun ls' h' => kk H locs ls' hH hS (am_L.st1 h' hc))
theorem aw_astoreN10 (X : am_X own cc Z) {a0 a1 a2 a3 a4 a5 a6 a7 a8 a9 : Option Value} {t : List (Option Value)} {u : Option Value}  (d : decode cc pc = .ok (.astore 10, 2)) (hn : 10 < zn Z) (hc : am_c1 (a0 :: a1 :: a2 :: a3 :: a4 :: a5 :: a6 :: a7 :: a8 :: a9 :: u :: t) 10 = true) (kk : AW Z Q M k n (pc + 2) (a0 :: a1 :: a2 :: a3 :: a4 :: a5 :: a6 :: a7 :: a8 :: a9 :: some (.null) :: t) st) : AW Z Q M k n pc (a0 :: a1 :: a2 :: a3 :: a4 :: a5 :: a6 :: a7 :: a8 :: a9 :: u :: t) (.null :: st) := fun H locs ls hH hS hL => lv_astoreN X.1 X.2.1 d hL.has hn rfl (fun ls' h' => kk H locs ls' hH hS (am_L.st1 h' hc))
theorem aw_lstore10 (X : am_X own cc Z) {a0 a1 a2 a3 a4 a5 a6 a7 a8 a9 : Option Value} {t : List (Option Value)} {u u1 : Option Value} {x : Int64} (d : decode cc pc = .ok (.lstore 10, 2)) (hn : 10 + 1 < zn Z) (hc : am_c1 (a0 :: a1 :: a2 :: a3 :: a4 :: a5 :: a6 :: a7 :: a8 :: a9 :: u :: u1 :: t) 10 = true) (kk : AW Z Q M k n (pc + 2) (a0 :: a1 :: a2 :: a3 :: a4 :: a5 :: a6 :: a7 :: a8 :: a9 :: some (.long x) :: none :: t) st) : AW Z Q M k n pc (a0 :: a1 :: a2 :: a3 :: a4 :: a5 :: a6 :: a7 :: a8 :: a9 :: u :: u1 :: t) (.long x :: st) := fun H locs ls hH hS hL => lv_lstore X.1 X.2.1 d hL.has hn rfl (fun ls' h' => kk H locs ls' hH hS (am_L.st2 h' hc))
theorem aw_iinc10 (X : am_X own cc Z) {a0 a1 a2 a3 a4 a5 a6 a7 a8 a9 : Option Value} {t : List (Option Value)} {x v : Int32} {j : Int} (d : decode cc pc = .ok (.iinc 10 j, 3)) (hn : 10 < zn Z) (hv : x + Int32.ofInt j = v) (hc : am_c1 (a0 :: a1 :: a2 :: a3 :: a4 :: a5 :: a6 :: a7 :: a8 :: a9 :: some (.int x) :: t) 10 = true) (kk : AW Z Q M k n (pc + 3) (a0 :: a1 :: a2 :: a3 :: a4 :: a5 :: a6 :: a7 :: a8 :: a9 :: some (.int v) :: t) st) : AW Z Q M k n pc (a0 :: a1 :: a2 :: a3 :: a4 :: a5 :: a6 :: a7 :: a8 :: a9 :: some (.int x) :: t) st := fun H locs ls hH hS hL => by
  obtain ⟨i0, hi0⟩ := List.getElem?_of_mem ((am_pr_in (a0 :: a1 :: a2 :: a3 :: a4 :: a5 :: a6 :: a7 :: a8 :: a9 :: some (.int x) :: t) 0 (10, .int x)).mpr ⟨10, by simp, rfl⟩)
  exact lv_iinc X.1 X.2.1 d hL.has hi0 hv hn rfl (fun ls' h' => kk H locs ls' hH hS (am_L.st1 h' hc))
theorem aw_iload11 (X : am_X own cc Z) {a0 a1 a2 a3 a4 a5 a6 a7 a8 a9 a10 : Option Value} {t : List (Option Value)} {x : Int32} (d : decode cc pc = .ok (.iload 11, 2)) (kk : AW Z Q M k n (pc + 2) (a0 :: a1 :: a2 :: a3 :: a4 :: a5 :: a6 :: a7 :: a8 :: a9 :: a10 :: some (.int x) :: t) (.int x :: st)) : AW Z Q M k n pc (a0 :: a1 :: a2 :: a3 :: a4 :: a5 :: a6 :: a7 :: a8 :: a9 :: a10 :: some (.int x) :: t) st := fun H locs ls hH hS hL => lv_iload X.1 X.2.1 d (hL.2.2 11 (.int x) rfl) (kk H locs ls hH hS hL)
theorem aw_aload11 (X : am_X own cc Z) {a0 a1 a2 a3 a4 a5 a6 a7 a8 a9 a10 : Option Value} {t : List (Option Value)} {x : Nat} (d : decode cc pc = .ok (.aload 11, 2)) (kk : AW Z Q M k n (pc + 2) (a0 :: a1 :: a2 :: a3 :: a4 :: a5 :: a6 :: a7 :: a8 :: a9 :: a10 :: some (.ref x) :: t) (.ref x :: st)) : AW Z Q M k n pc (a0 :: a1 :: a2 :: a3 :: a4 :: a5 :: a6 :: a7 :: a8 :: a9 :: a10 :: some (.ref x) :: t) st := fun H locs ls hH hS hL => lv_aload X.1 X.2.1 d (hL.2.2 11 (.ref x) rfl) (kk H locs ls hH hS hL)
theorem aw_aloadN11 (X : am_X own cc Z) {a0 a1 a2 a3 a4 a5 a6 a7 a8 a9 a10 : Option Value} {t : List (Option Value)}  (d : decode cc pc = .ok (.aload 11, 2)) (kk : AW Z Q M k n (pc + 2) (a0 :: a1 :: a2 :: a3 :: a4 :: a5 :: a6 :: a7 :: a8 :: a9 :: a10 :: some (.null) :: t) (.null :: st)) : AW Z Q M k n pc (a0 :: a1 :: a2 :: a3 :: a4 :: a5 :: a6 :: a7 :: a8 :: a9 :: a10 :: some (.null) :: t) st := fun H locs ls hH hS hL => lv_aloadN X.1 X.2.1 d (hL.2.2 11 (.null) rfl) (kk H locs ls hH hS hL)
theorem aw_lload11 (X : am_X own cc Z) {a0 a1 a2 a3 a4 a5 a6 a7 a8 a9 a10 : Option Value} {t : List (Option Value)} {x : Int64} (d : decode cc pc = .ok (.lload 11, 2)) (kk : AW Z Q M k n (pc + 2) (a0 :: a1 :: a2 :: a3 :: a4 :: a5 :: a6 :: a7 :: a8 :: a9 :: a10 :: some (.long x) :: t) (.long x :: st)) : AW Z Q M k n pc (a0 :: a1 :: a2 :: a3 :: a4 :: a5 :: a6 :: a7 :: a8 :: a9 :: a10 :: some (.long x) :: t) st := fun H locs ls hH hS hL => lv_lload X.1 X.2.1 d (hL.2.2 11 (.long x) rfl) (kk H locs ls hH hS hL)
theorem aw_istore11 (X : am_X own cc Z) {a0 a1 a2 a3 a4 a5 a6 a7 a8 a9 a10 : Option Value} {t : List (Option Value)} {u : Option Value} {x : Int32} (d : decode cc pc = .ok (.istore 11, 2)) (hn : 11 < zn Z) (hc : am_c1 (a0 :: a1 :: a2 :: a3 :: a4 :: a5 :: a6 :: a7 :: a8 :: a9 :: a10 :: u :: t) 11 = true) (kk : AW Z Q M k n (pc + 2) (a0 :: a1 :: a2 :: a3 :: a4 :: a5 :: a6 :: a7 :: a8 :: a9 :: a10 :: some (.int x) :: t) st) : AW Z Q M k n pc (a0 :: a1 :: a2 :: a3 :: a4 :: a5 :: a6 :: a7 :: a8 :: a9 :: a10 :: u :: t) (.int x :: st) := fun H locs ls hH hS hL => lv_istore X.1 X.2.1 d hL.has hn rfl (fun ls' h' => kk H locs ls' hH hS (am_L.st1 h' hc))
theorem aw_astore11 (X : am_X own cc Z) {a0 a1 a2 a3 a4 a5 a6 a7 a8 a9 a10 : Option Value} {t : List (Option Value)} {u : Option Value} {x : Nat} (d : decode cc pc = .ok (.astore 11, 2)) (hn : 11 < zn Z) (hc : am_c1 (a0 :: a1 :: a2 :: a3 :: a4 :: a5 :: a6 :: a7 :: a8 :: a9 :: a10 :: u :: t) 11 = true) (kk : AW Z Q M k n (pc + 2) (a0 :: a1 :: a2 :: a3 :: a4 :: a5 :: a6 :: a7 :: a8 :: a9 :: a10 :: some (.ref x) :: t) st) : AW Z Q M k n pc (a0 :: a1 :: a2 :: a3 :: a4 :: a5 :: a6 :: a7 :: a8 :: a9 :: a10 :: u :: t) (.ref x :: st) := fun H locs ls hH hS hL => lv_astore X.1 X.2.1 d hL.has hn rfl (fun ls' h' => kk H locs ls' hH hS (am_L.st1 h' hc))
theorem aw_astoreN11 (X : am_X own cc Z) {a0 a1 a2 a3 a4 a5 a6 a7 a8 a9 a10 : Option Value} {t : List (Option Value)} {u : Option Value}  (d : decode cc pc = .ok (.astore 11, 2)) (hn : 11 < zn Z) (hc : am_c1 (a0 :: a1 :: a2 :: a3 :: a4 :: a5 :: a6 :: a7 :: a8 :: a9 :: a10 :: u :: t) 11 = true) (kk : AW Z Q M k n (pc + 2) (a0 :: a1 :: a2 :: a3 :: a4 :: a5 :: a6 :: a7 :: a8 :: a9 :: a10 :: some (.null) :: t) st) : AW Z Q M k n pc (a0 :: a1 :: a2 :: a3 :: a4 :: a5 :: a6 :: a7 :: a8 :: a9 :: a10 :: u :: t) (.null :: st) := fun H locs ls hH hS hL => lv_astoreN X.1 X.2.1 d hL.has hn rfl (fun ls' h' => kk H locs ls' hH hS (am_L.st1 h' hc))
theorem aw_lstore11 (X : am_X own cc Z) {a0 a1 a2 a3 a4 a5 a6 a7 a8 a9 a10 : Option Value} {t : List (Option Value)} {u u1 : Option Value} {x : Int64} (d : decode cc pc = .ok (.lstore 11, 2)) (hn : 11 + 1 < zn Z) (hc : am_c1 (a0 :: a1 :: a2 :: a3 :: a4 :: a5 :: a6 :: a7 :: a8 :: a9 :: a10 :: u :: u1 :: t) 11 = true) (kk : AW Z Q M k n (pc + 2) (a0 :: a1 :: a2 :: a3 :: a4 :: a5 :: a6 :: a7 :: a8 :: a9 :: a10 :: some (.long x) :: none :: t) st) : AW Z Q M k n pc (a0 :: a1 :: a2 :: a3 :: a4 :: a5 :: a6 :: a7 :: a8 :: a9 :: a10 :: u :: u1 :: t) (.long x :: st) := fun H locs ls hH hS hL => lv_lstore X.1 X.2.1 d hL.has hn rfl (fun ls' h' => kk H locs ls' hH hS (am_L.st2 h' hc))
theorem aw_iinc11 (X : am_X own cc Z) {a0 a1 a2 a3 a4 a5 a6 a7 a8 a9 a10 : Option Value} {t : List (Option Value)} {x v : Int32} {j : Int} (d : decode cc pc = .ok (.iinc 11 j, 3)) (hn : 11 < zn Z) (hv : x + Int32.ofInt j = v) (hc : am_c1 (a0 :: a1 :: a2 :: a3 :: a4 :: a5 :: a6 :: a7 :: a8 :: a9 :: a10 :: some (.int x) :: t) 11 = true) (kk : AW Z Q M k n (pc + 3) (a0 :: a1 :: a2 :: a3 :: a4 :: a5 :: a6 :: a7 :: a8 :: a9 :: a10 :: some (.int v) :: t) st) : AW Z Q M k n pc (a0 :: a1 :: a2 :: a3 :: a4 :: a5 :: a6 :: a7 :: a8 :: a9 :: a10 :: some (.int x) :: t) st := fun H locs ls hH hS hL => by
  obtain ⟨i0, hi0⟩ := List.getElem?_of_mem ((am_pr_in (a0 :: a1 :: a2 :: a3 :: a4 :: a5 :: a6 :: a7 :: a8 :: a9 :: a10 :: some (.int x) :: t) 0 (11, .int x)).mpr ⟨11, by simp, rfl⟩)
  exact lv_iinc X.1 X.2.1 d hL.has hi0 hv hn rfl (fun ls' h' => kk H locs ls' hH hS (am_L.st1 h' hc))
theorem aw_iload12 (X : am_X own cc Z) {a0 a1 a2 a3 a4 a5 a6 a7 a8 a9 a10 a11 : Option Value} {t : List (Option Value)} {x : Int32} (d : decode cc pc = .ok (.iload 12, 2)) (kk : AW Z Q M k n (pc + 2) (a0 :: a1 :: a2 :: a3 :: a4 :: a5 :: a6 :: a7 :: a8 :: a9 :: a10 :: a11 :: some (.int x) :: t) (.int x :: st)) : AW Z Q M k n pc (a0 :: a1 :: a2 :: a3 :: a4 :: a5 :: a6 :: a7 :: a8 :: a9 :: a10 :: a11 :: some (.int x) :: t) st := fun H locs ls hH hS hL => lv_iload X.1 X.2.1 d (hL.2.2 12 (.int x) rfl) (kk H locs ls hH hS hL)
theorem aw_aload12 (X : am_X own cc Z) {a0 a1 a2 a3 a4 a5 a6 a7 a8 a9 a10 a11 : Option Value} {t : List (Option Value)} {x : Nat} (d : decode cc pc = .ok (.aload 12, 2)) (kk : AW Z Q M k n (pc + 2) (a0 :: a1 :: a2 :: a3 :: a4 :: a5 :: a6 :: a7 :: a8 :: a9 :: a10 :: a11 :: some (.ref x) :: t) (.ref x :: st)) : AW Z Q M k n pc (a0 :: a1 :: a2 :: a3 :: a4 :: a5 :: a6 :: a7 :: a8 :: a9 :: a10 :: a11 :: some (.ref x) :: t) st := fun H locs ls hH hS hL => lv_aload X.1 X.2.1 d (hL.2.2 12 (.ref x) rfl) (kk H locs ls hH hS hL)
theorem aw_aloadN12 (X : am_X own cc Z) {a0 a1 a2 a3 a4 a5 a6 a7 a8 a9 a10 a11 : Option Value} {t : List (Option Value)}  (d : decode cc pc = .ok (.aload 12, 2)) (kk : AW Z Q M k n (pc + 2) (a0 :: a1 :: a2 :: a3 :: a4 :: a5 :: a6 :: a7 :: a8 :: a9 :: a10 :: a11 :: some (.null) :: t) (.null :: st)) : AW Z Q M k n pc (a0 :: a1 :: a2 :: a3 :: a4 :: a5 :: a6 :: a7 :: a8 :: a9 :: a10 :: a11 :: some (.null) :: t) st := fun H locs ls hH hS hL => lv_aloadN X.1 X.2.1 d (hL.2.2 12 (.null) rfl) (kk H locs ls hH hS hL)
theorem aw_lload12 (X : am_X own cc Z) {a0 a1 a2 a3 a4 a5 a6 a7 a8 a9 a10 a11 : Option Value} {t : List (Option Value)} {x : Int64} (d : decode cc pc = .ok (.lload 12, 2)) (kk : AW Z Q M k n (pc + 2) (a0 :: a1 :: a2 :: a3 :: a4 :: a5 :: a6 :: a7 :: a8 :: a9 :: a10 :: a11 :: some (.long x) :: t) (.long x :: st)) : AW Z Q M k n pc (a0 :: a1 :: a2 :: a3 :: a4 :: a5 :: a6 :: a7 :: a8 :: a9 :: a10 :: a11 :: some (.long x) :: t) st := fun H locs ls hH hS hL => lv_lload X.1 X.2.1 d (hL.2.2 12 (.long x) rfl) (kk H locs ls hH hS hL)
theorem aw_istore12 (X : am_X own cc Z) {a0 a1 a2 a3 a4 a5 a6 a7 a8 a9 a10 a11 : Option Value} {t : List (Option Value)} {u : Option Value} {x : Int32} (d : decode cc pc = .ok (.istore 12, 2)) (hn : 12 < zn Z) (hc : am_c1 (a0 :: a1 :: a2 :: a3 :: a4 :: a5 :: a6 :: a7 :: a8 :: a9 :: a10 :: a11 :: u :: t) 12 = true) (kk : AW Z Q M k n (pc + 2) (a0 :: a1 :: a2 :: a3 :: a4 :: a5 :: a6 :: a7 :: a8 :: a9 :: a10 :: a11 :: some (.int x) :: t) st) : AW Z Q M k n pc (a0 :: a1 :: a2 :: a3 :: a4 :: a5 :: a6 :: a7 :: a8 :: a9 :: a10 :: a11 :: u :: t) (.int x :: st) := fun H locs ls hH hS hL => lv_istore X.1 X.2.1 d hL.has hn rfl (fun ls' h' => kk H locs ls' hH hS (am_L.st1 h' hc))
theorem aw_astore12 (X : am_X own cc Z) {a0 a1 a2 a3 a4 a5 a6 a7 a8 a9 a10 a11 : Option Value} {t : List (Option Value)} {u : Option Value} {x : Nat} (d : decode cc pc = .ok (.astore 12, 2)) (hn : 12 < zn Z) (hc : am_c1 (a0 :: a1 :: a2 :: a3 :: a4 :: a5 :: a6 :: a7 :: a8 :: a9 :: a10 :: a11 :: u :: t) 12 = true) (kk : AW Z Q M k n (pc + 2) (a0 :: a1 :: a2 :: a3 :: a4 :: a5 :: a6 :: a7 :: a8 :: a9 :: a10 :: a11 :: some (.ref x) :: t) st) : AW Z Q M k n pc (a0 :: a1 :: a2 :: a3 :: a4 :: a5 :: a6 :: a7 :: a8 :: a9 :: a10 :: a11 :: u :: t) (.ref x :: st) := fun H locs ls hH hS hL => lv_astore X.1 X.2.1 d hL.has hn rfl (fun ls' h' => kk H locs ls' hH hS (am_L.st1 h' hc))
theorem aw_astoreN12 (X : am_X own cc Z) {a0 a1 a2 a3 a4 a5 a6 a7 a8 a9 a10 a11 : Option Value} {t : List (Option Value)} {u : Option Value}  (d : decode cc pc = .ok (.astore 12, 2)) (hn : 12 < zn Z) (hc : am_c1 (a0 :: a1 :: a2 :: a3 :: a4 :: a5 :: a6 :: a7 :: a8 :: a9 :: a10 :: a11 :: u :: t) 12 = true) (kk : AW Z Q M k n (pc + 2) (a0 :: a1 :: a2 :: a3 :: a4 :: a5 :: a6 :: a7 :: a8 :: a9 :: a10 :: a11 :: some (.null) :: t) st) : AW Z Q M k n pc (a0 :: a1 :: a2 :: a3 :: a4 :: a5 :: a6 :: a7 :: a8 :: a9 :: a10 :: a11 :: u :: t) (.null :: st) := fun H locs ls hH hS hL => lv_astoreN X.1 X.2.1 d hL.has hn rfl (fun ls' h' => kk H locs ls' hH hS (am_L.st1 h' hc))
theorem aw_lstore12 (X : am_X own cc Z) {a0 a1 a2 a3 a4 a5 a6 a7 a8 a9 a10 a11 : Option Value} {t : List (Option Value)} {u u1 : Option Value} {x : Int64} (d : decode cc pc = .ok (.lstore 12, 2)) (hn : 12 + 1 < zn Z) (hc : am_c1 (a0 :: a1 :: a2 :: a3 :: a4 :: a5 :: a6 :: a7 :: a8 :: a9 :: a10 :: a11 :: u :: u1 :: t) 12 = true) (kk : AW Z Q M k n (pc + 2) (a0 :: a1 :: a2 :: a3 :: a4 :: a5 :: a6 :: a7 :: a8 :: a9 :: a10 :: a11 :: some (.long x) :: none :: t) st) : AW Z Q M k n pc (a0 :: a1 :: a2 :: a3 :: a4 :: a5 :: a6 :: a7 :: a8 :: a9 :: a10 :: a11 :: u :: u1 :: t) (.long x :: st) := fun H locs ls hH hS hL => lv_lstore X.1 X.2.1 d hL.has hn rfl (fun ls' h' => kk H locs ls' hH hS (am_L.st2 h' hc))
theorem aw_iinc12 (X : am_X own cc Z) {a0 a1 a2 a3 a4 a5 a6 a7 a8 a9 a10 a11 : Option Value} {t : List (Option Value)} {x v : Int32} {j : Int} (d : decode cc pc = .ok (.iinc 12 j, 3)) (hn : 12 < zn Z) (hv : x + Int32.ofInt j = v) (hc : am_c1 (a0 :: a1 :: a2 :: a3 :: a4 :: a5 :: a6 :: a7 :: a8 :: a9 :: a10 :: a11 :: some (.int x) :: t) 12 = true) (kk : AW Z Q M k n (pc + 3) (a0 :: a1 :: a2 :: a3 :: a4 :: a5 :: a6 :: a7 :: a8 :: a9 :: a10 :: a11 :: some (.int v) :: t) st) : AW Z Q M k n pc (a0 :: a1 :: a2 :: a3 :: a4 :: a5 :: a6 :: a7 :: a8 :: a9 :: a10 :: a11 :: some (.int x) :: t) st := fun H locs ls hH hS hL => by
  obtain ⟨i0, hi0⟩ := List.getElem?_of_mem ((am_pr_in (a0 :: a1 :: a2 :: a3 :: a4 :: a5 :: a6 :: a7 :: a8 :: a9 :: a10 :: a11 :: some (.int x) :: t) 0 (12, .int x)).mpr ⟨12, by simp, rfl⟩)
  exact lv_iinc X.1 X.2.1 d hL.has hi0 hv hn rfl (fun ls' h' => kk H locs ls' hH hS (am_L.st1 h' hc))
theorem aw_iload13 (X : am_X own cc Z) {a0 a1 a2 a3 a4 a5 a6 a7 a8 a9 a10 a11 a12 : Option Value} {t : List (Option Value)} {x : Int32} (d : decode cc pc = .ok (.iload 13, 2)) (kk : AW Z Q M k n (pc + 2) (a0 :: a1 :: a2 :: a3 :: a4 :: a5 :: a6 :: a7 :: a8 :: a9 :: a10 :: a11 :: a12 :: some (.int x) :: t) (.int x :: st)) : AW Z Q M k n pc (a0 :: a1 :: a2 :: a3 :: a4 :: a5 :: a6 :: a7 :: a8 :: a9 :: a10 :: a11 :: a12 :: some (.int x) :: t) st := fun H locs ls hH hS hL => lv_iload X.1 X.2.1 d (hL.2.2 13 (.int x) rfl) (kk H locs ls hH hS hL)
theorem aw_aload13 (X : am_X own cc Z) {a0 a1 a2 a3 a4 a5 a6 a7 a8 a9 a10 a11 a12 : Option Value} {t : List (Option Value)} {x : Nat} (d : decode cc pc = .ok (.aload 13, 2)) (kk : AW Z Q M k n (pc + 2) (a0 :: a1 :: a2 :: a3 :: a4 :: a5 :: a6 :: a7 :: a8 :: a9 :: a10 :: a11 :: a12 :: some (.ref x) :: t) (.ref x :: st)) : AW Z Q M k n pc (a0 :: a1 :: a2 :: a3 :: a4 :: a5 :: a6 :: a7 :: a8 :: a9 :: a10 :: a11 :: a12 :: some (.ref x) :: t) st := fun H locs ls hH hS hL => lv_aload X.1 X.2.1 d (hL.2.2 13 (.ref x) rfl) (kk H locs ls hH hS hL)
theorem aw_aloadN13 (X : am_X own cc Z) {a0 a1 a2 a3 a4 a5 a6 a7 a8 a9 a10 a11 a12 : Option Value} {t : List (Option Value)}  (d : decode cc pc = .ok (.aload 13, 2)) (kk : AW Z Q M k n (pc + 2) (a0 :: a1 :: a2 :: a3 :: a4 :: a5 :: a6 :: a7 :: a8 :: a9 :: a10 :: a11 :: a12 :: some (.null) :: t) (.null :: st)) : AW Z Q M k n pc (a0 :: a1 :: a2 :: a3 :: a4 :: a5 :: a6 :: a7 :: a8 :: a9 :: a10 :: a11 :: a12 :: some (.null) :: t) st := fun H locs ls hH hS hL => lv_aloadN X.1 X.2.1 d (hL.2.2 13 (.null) rfl) (kk H locs ls hH hS hL)
theorem aw_lload13 (X : am_X own cc Z) {a0 a1 a2 a3 a4 a5 a6 a7 a8 a9 a10 a11 a12 : Option Value} {t : List (Option Value)} {x : Int64} (d : decode cc pc = .ok (.lload 13, 2)) (kk : AW Z Q M k n (pc + 2) (a0 :: a1 :: a2 :: a3 :: a4 :: a5 :: a6 :: a7 :: a8 :: a9 :: a10 :: a11 :: a12 :: some (.long x) :: t) (.long x :: st)) : AW Z Q M k n pc (a0 :: a1 :: a2 :: a3 :: a4 :: a5 :: a6 :: a7 :: a8 :: a9 :: a10 :: a11 :: a12 :: some (.long x) :: t) st := fun H locs ls hH hS hL => lv_lload X.1 X.2.1 d (hL.2.2 13 (.long x) rfl) (kk H locs ls hH hS hL)
theorem aw_istore13 (X : am_X own cc Z) {a0 a1 a2 a3 a4 a5 a6 a7 a8 a9 a10 a11 a12 : Option Value} {t : List (Option Value)} {u : Option Value} {x : Int32} (d : decode cc pc = .ok (.istore 13, 2)) (hn : 13 < zn Z) (hc : am_c1 (a0 :: a1 :: a2 :: a3 :: a4 :: a5 :: a6 :: a7 :: a8 :: a9 :: a10 :: a11 :: a12 :: u :: t) 13 = true) (kk : AW Z Q M k n (pc + 2) (a0 :: a1 :: a2 :: a3 :: a4 :: a5 :: a6 :: a7 :: a8 :: a9 :: a10 :: a11 :: a12 :: some (.int x) :: t) st) : AW Z Q M k n pc (a0 :: a1 :: a2 :: a3 :: a4 :: a5 :: a6 :: a7 :: a8 :: a9 :: a10 :: a11 :: a12 :: u :: t) (.int x :: st) := fun H locs ls hH hS hL => lv_istore X.1 X.2.1 d hL.has hn rfl (fun ls' h' => kk H locs ls' hH hS (am_L.st1 h' hc))
theorem aw_astore13 (X : am_X own cc Z) {a0 a1 a2 a3 a4 a5 a6 a7 a8 a9 a10 a11 a12 : Option Value} {t : List (Option Value)} {u : Option Value} {x : Nat} (d : decode cc pc = .ok (.astore 13, 2)) (hn : 13 < zn Z) (hc : am_c1 (a0 :: a1 :: a2 :: a3 :: a4 :: a5 :: a6 :: a7 :: a8 :: a9 :: a10 :: a11 :: a12 :: u :: t) 13 = true) (kk : AW Z Q M k n (pc + 2) (a0 :: a1 :: a2 :: a3 :: a4 :: a5 :: a6 :: a7 :: a8 :: a9 :: a10 :: a11 :: a12 :: some (.ref x) :: t) st) : AW Z Q M k n pc (a0 :: a1 :: a2 :: a3 :: a4 :: a5 :: a6 :: a7 :: a8 :: a9 :: a10 :: a11 :: a12 :: u :: t) (.ref x :: st) := fun H locs ls hH hS hL => lv_astore X.1 X.2.1 d hL.has hn rfl (fun ls' h' => kk H locs ls' hH hS (am_L.st1 h' hc))
theorem aw_astoreN13 (X : am_X own cc Z) {a0 a1 a2 a3 a4 a5 a6 a7 a8 a9 a10 a11 a12 : Option Value} {t : List (Option Value)} {u : Option Value}  (d : decode cc pc = .ok (.astore 13, 2)) (hn : 13 < zn Z) (hc : am_c1 (a0 :: a1 :: a2 :: a3 :: a4 :: a5 :: a6 :: a7 :: a8 :: a9 :: a10 :: a11 :: a12 :: u :: t) 13 = true) (kk : AW Z Q M k n (pc + 2) (a0 :: a1 :: a2 :: a3 :: a4 :: a5 :: a6 :: a7 :: a8 :: a9 :: a10 :: a11 :: a12 :: some (.null) :: t) st) : AW Z Q M k n pc (a0 :: a1 :: a2 :: a3 :: a4 :: a5 :: a6 :: a7 :: a8 :: a9 :: a10 :: a11 :: a12 :: u :: t) (.null :: st) := fun H locs ls hH hS hL => lv_astoreN X.1 X.2.1 d hL.has hn rfl (fun ls' h' => kk H locs ls' hH hS (am_L.st1 h' hc))
theorem aw_lstore13 (X : am_X own cc Z) {a0 a1 a2 a3 a4 a5 a6 a7 a8 a9 a10 a11 a12 : Option Value} {t : List (Option Value)} {u u1 : Option Value} {x : Int64} (d : decode cc pc = .ok (.lstore 13, 2)) (hn : 13 + 1 < zn Z) (hc : am_c1 (a0 :: a1 :: a2 :: a3 :: a4 :: a5 :: a6 :: a7 :: a8 :: a9 :: a10 :: a11 :: a12 :: u :: u1 :: t) 13 = true) (kk : AW Z Q M k n (pc + 2) (a0 :: a1 :: a2 :: a3 :: a4 :: a5 :: a6 :: a7 :: a8 :: a9 :: a10 :: a11 :: a12 :: some (.long x) :: none :: t) st) : AW Z Q M k n pc (a0 :: a1 :: a2 :: a3 :: a4 :: a5 :: a6 :: a7 :: a8 :: a9 :: a10 :: a11 :: a12 :: u :: u1 :: t) (.long x :: st) := fun H locs ls hH hS hL => lv_lstore X.1 X.2.1 d hL.has hn rfl (fun ls' h' => kk H locs ls' hH hS (am_L.st2 h' hc))
theorem aw_iinc13 (X : am_X own cc Z) {a0 a1 a2 a3 a4 a5 a6 a7 a8 a9 a10 a11 a12 : Option Value} {t : List (Option Value)} {x v : Int32} {j : Int} (d : decode cc pc = .ok (.iinc 13 j, 3)) (hn : 13 < zn Z) (hv : x + Int32.ofInt j = v) (hc : am_c1 (a0 :: a1 :: a2 :: a3 :: a4 :: a5 :: a6 :: a7 :: a8 :: a9 :: a10 :: a11 :: a12 :: some (.int x) :: t) 13 = true) (kk : AW Z Q M k n (pc + 3) (a0 :: a1 :: a2 :: a3 :: a4 :: a5 :: a6 :: a7 :: a8 :: a9 :: a10 :: a11 :: a12 :: some (.int v) :: t) st) : AW Z Q M k n pc (a0 :: a1 :: a2 :: a3 :: a4 :: a5 :: a6 :: a7 :: a8 :: a9 :: a10 :: a11 :: a12 :: some (.int x) :: t) st := fun H locs ls hH hS hL => by
  obtain ⟨i0, hi0⟩ := List.getElem?_of_mem ((am_pr_in (a0 :: a1 :: a2 :: a3 :: a4 :: a5 :: a6 :: a7 :: a8 :: a9 :: a10 :: a11 :: a12 :: some (.int x) :: t) 0 (13, .int x)).mpr ⟨13, by simp, rfl⟩)
  exact lv_iinc X.1 X.2.1 d hL.has hi0 hv hn rfl (fun ls' h' => kk H locs ls' hH hS (am_L.st1 h' hc))
theorem aw_iload14 (X : am_X own cc Z) {a0 a1 a2 a3 a4 a5 a6 a7 a8 a9 a10 a11 a12 a13 : Option Value} {t : List (Option Value)} {x : Int32} (d : decode cc pc = .ok (.iload 14, 2)) (kk : AW Z Q M k n (pc + 2) (a0 :: a1 :: a2 :: a3 :: a4 :: a5 :: a6 :: a7 :: a8 :: a9 :: a10 :: a11 :: a12 :: a13 :: some (.int x) :: t) (.int x :: st)) : AW Z Q M k n pc (a0 :: a1 :: a2 :: a3 :: a4 :: a5 :: a6 :: a7 :: a8 :: a9 :: a10 :: a11 :: a12 :: a13 :: some (.int x) :: t) st := fun H locs ls hH hS hL => lv_iload X.1 X.2.1 d (hL.2.2 14 (.int x) rfl) (kk H locs ls hH hS hL)
theorem aw_aload14 (X : am_X own cc Z) {a0 a1 a2 a3 a4 a5 a6 a7 a8 a9 a10 a11 a12 a13 : Option Value} {t : List (Option Value)} {x : Nat} (d : decode cc pc = .ok (.aload 14, 2)) (kk : AW Z Q M k n (pc + 2) (a0 :: a1 :: a2 :: a3 :: a4 :: a5 :: a6 :: a7 :: a8 :: a9 :: a10 :: a11 :: a12 :: a13 :: some (.ref x) :: t) (.ref x :: st)) : AW Z Q M k n pc (a0 :: a1 :: a2 :: a3 :: a4 :: a5 :: a6 :: a7 :: a8 :: a9 :: a10 :: a11 :: a12 :: a13 :: some (.ref x) :: t) st := fun H locs ls hH hS hL => lv_aload X.1 X.2.1 d (hL.2.2 14 (.ref x) rfl) (kk H locs ls hH hS hL)
theorem aw_aloadN14 (X : am_X own cc Z) {a0 a1 a2 a3 a4 a5 a6 a7 a8 a9 a10 a11 a12 a13 : Option Value} {t : List (Option Value)}  (d : decode cc pc = .ok (.aload 14, 2)) (kk : AW Z Q M k n (pc + 2) (a0 :: a1 :: a2 :: a3 :: a4 :: a5 :: a6 :: a7 :: a8 :: a9 :: a10 :: a11 :: a12 :: a13 :: some (.null) :: t) (.null :: st)) : AW Z Q M k n pc (a0 :: a1 :: a2 :: a3 :: a4 :: a5 :: a6 :: a7 :: a8 :: a9 :: a10 :: a11 :: a12 :: a13 :: some (.null) :: t) st := fun H locs ls hH hS hL => lv_aloadN X.1 X.2.1 d (hL.2.2 14 (.null) rfl) (kk H locs ls hH hS hL)
theorem aw_lload14 (X : am_X own cc Z) {a0 a1 a2 a3 a4 a5 a6 a7 a8 a9 a10 a11 a12 a13 : Option Value} {t : List (Option Value)} {x : Int64} (d : decode cc pc = .ok (.lload 14, 2)) (kk : AW Z Q M k n (pc + 2) (a0 :: a1 :: a2 :: a3 :: a4 :: a5 :: a6 :: a7 :: a8 :: a9 :: a10 :: a11 :: a12 :: a13 :: some (.long x) :: t) (.long x :: st)) : AW Z Q M k n pc (a0 :: a1 :: a2 :: a3 :: a4 :: a5 :: a6 :: a7 :: a8 :: a9 :: a10 :: a11 :: a12 :: a13 :: some (.long x) :: t) st := fun H locs ls hH hS hL => lv_lload X.1 X.2.1 d (hL.2.2 14 (.long x) rfl) (kk H locs ls hH hS hL)
theorem aw_istore14 (X : am_X own cc Z) {a0 a1 a2 a3 a4 a5 a6 a7 a8 a9 a10 a11 a12 a13 : Option Value} {t : List (Option Value)} {u : Option Value} {x : Int32} (d : decode cc pc = .ok (.istore 14, 2)) (hn : 14 < zn Z) (hc : am_c1 (a0 :: a1 :: a2 :: a3 :: a4 :: a5 :: a6 :: a7 :: a8 :: a9 :: a10 :: a11 :: a12 :: a13 :: u :: t) 14 = true) (kk : AW Z Q M k n (pc + 2) (a0 :: a1 :: a2 :: a3 :: a4 :: a5 :: a6 :: a7 :: a8 :: a9 :: a10 :: a11 :: a12 :: a13 :: some (.int x) :: t) st) : AW Z Q M k n pc (a0 :: a1 :: a2 :: a3 :: a4 :: a5 :: a6 :: a7 :: a8 :: a9 :: a10 :: a11 :: a12 :: a13 :: u :: t) (.int x :: st) := fun H locs ls hH hS hL => lv_istore X.1 X.2.1 d hL.has hn rfl (fun ls' h' => kk H locs ls' hH hS (am_L.st1 h' hc))
theorem aw_astore14 (X : am_X own cc Z) {a0 a1 a2 a3 a4 a5 a6 a7 a8 a9 a10 a11 a12 a13 : Option Value} {t : List (Option Value)} {u : Option Value} {x : Nat} (d : decode cc pc = .ok (.astore 14, 2)) (hn : 14 < zn Z) (hc : am_c1 (a0 :: a1 :: a2 :: a3 :: a4 :: a5 :: a6 :: a7 :: a8 :: a9 :: a10 :: a11 :: a12 :: a13 :: u :: t) 14 = true) (kk : AW Z Q M k n (pc + 2) (a0 :: a1 :: a2 :: a3 :: a4 :: a5 :: a6 :: a7 :: a8 :: a9 :: a10 :: a11 :: a12 :: a13 :: some (.ref x) :: t) st) : AW Z Q M k n pc (a0 :: a1 :: a2 :: a3 :: a4 :: a5 :: a6 :: a7 :: a8 :: a9 :: a10 :: a11 :: a12 :: a13 :: u :: t) (.ref x :: st) := fun H locs ls hH hS hL => lv_astore X.1 X.2.1 d hL.has hn rfl (fun ls' h' => kk H locs ls' hH hS (am_L.st1 h' hc))
theorem aw_astoreN14 (X : am_X own cc Z) {a0 a1 a2 a3 a4 a5 a6 a7 a8 a9 a10 a11 a12 a13 : Option Value} {t : List (Option Value)} {u : Option Value}  (d : decode cc pc = .ok (.astore 14, 2)) (hn : 14 < zn Z) (hc : am_c1 (a0 :: a1 :: a2 :: a3 :: a4 :: a5 :: a6 :: a7 :: a8 :: a9 :: a10 :: a11 :: a12 :: a13 :: u :: t) 14 = true) (kk : AW Z Q M k n (pc + 2) (a0 :: a1 :: a2 :: a3 :: a4 :: a5 :: a6 :: a7 :: a8 :: a9 :: a10 :: a11 :: a12 :: a13 :: some (.null) :: t) st) : AW Z Q M k n pc (a0 :: a1 :: a2 :: a3 :: a4 :: a5 :: a6 :: a7 :: a8 :: a9 :: a10 :: a11 :: a12 :: a13 :: u :: t) (.null :: st) := fun H locs ls hH hS hL => lv_astoreN X.1 X.2.1 d hL.has hn rfl (fun ls' h' => kk H locs ls' hH hS (am_L.st1 h' hc))
theorem aw_lstore14 (X : am_X own cc Z) {a0 a1 a2 a3 a4 a5 a6 a7 a8 a9 a10 a11 a12 a13 : Option Value} {t : List (Option Value)} {u u1 : Option Value} {x : Int64} (d : decode cc pc = .ok (.lstore 14, 2)) (hn : 14 + 1 < zn Z) (hc : am_c1 (a0 :: a1 :: a2 :: a3 :: a4 :: a5 :: a6 :: a7 :: a8 :: a9 :: a10 :: a11 :: a12 :: a13 :: u :: u1 :: t) 14 = true) (kk : AW Z Q M k n (pc + 2) (a0 :: a1 :: a2 :: a3 :: a4 :: a5 :: a6 :: a7 :: a8 :: a9 :: a10 :: a11 :: a12 :: a13 :: some (.long x) :: none :: t) st) : AW Z Q M k n pc (a0 :: a1 :: a2 :: a3 :: a4 :: a5 :: a6 :: a7 :: a8 :: a9 :: a10 :: a11 :: a12 :: a13 :: u :: u1 :: t) (.long x :: st) := fun H locs ls hH hS hL => lv_lstore X.1 X.2.1 d hL.has hn rfl (fun ls' h' => kk H locs ls' hH hS (am_L.st2 h' hc))
theorem aw_iinc14 (X : am_X own cc Z) {a0 a1 a2 a3 a4 a5 a6 a7 a8 a9 a10 a11 a12 a13 : Option Value} {t : List (Option Value)} {x v : Int32} {j : Int} (d : decode cc pc = .ok (.iinc 14 j, 3)) (hn : 14 < zn Z) (hv : x + Int32.ofInt j = v) (hc : am_c1 (a0 :: a1 :: a2 :: a3 :: a4 :: a5 :: a6 :: a7 :: a8 :: a9 :: a10 :: a11 :: a12 :: a13 :: some (.int x) :: t) 14 = true) (kk : AW Z Q M k n (pc + 3) (a0 :: a1 :: a2 :: a3 :: a4 :: a5 :: a6 :: a7 :: a8 :: a9 :: a10 :: a11 :: a12 :: a13 :: some (.int v) :: t) st) : AW Z Q M k n pc (a0 :: a1 :: a2 :: a3 :: a4 :: a5 :: a6 :: a7 :: a8 :: a9 :: a10 :: a11 :: a12 :: a13 :: some (.int x) :: t) st := fun H locs ls hH hS hL => by
  obtain ⟨i0, hi0⟩ := List.getElem?_of_mem ((am_pr_in (a0 :: a1 :: a2 :: a3 :: a4 :: a5 :: a6 :: a7 :: a8 :: a9 :: a10 :: a11 :: a12 :: a13 :: some (.int x) :: t) 0 (14, .int x)).mpr ⟨14, by simp, rfl⟩)
  exact lv_iinc X.1 X.2.1 d hL.has hi0 hv hn rfl (fun ls' h' => kk H locs ls' hH hS (am_L.st1 h' hc))
theorem aw_iload15 (X : am_X own cc Z) {a0 a1 a2 a3 a4 a5 a6 a7 a8 a9 a10 a11 a12 a13 a14 : Option Value} {t : List (Option Value)} {x : Int32} (d : decode cc pc = .ok (.iload 15, 2)) (kk : AW Z Q M k n (pc + 2) (a0 :: a1 :: a2 :: a3 :: a4 :: a5 :: a6 :: a7 :: a8 :: a9 :: a10 :: a11 :: a12 :: a13 :: a14 :: some (.int x) :: t) (.int x :: st)) : AW Z Q M k n pc (a0 :: a1 :: a2 :: a3 :: a4 :: a5 :: a6 :: a7 :: a8 :: a9 :: a10 :: a11 :: a12 :: a13 :: a14 :: some (.int x) :: t) st := fun H locs ls hH hS hL => lv_iload X.1 X.2.1 d (hL.2.2 15 (.int x) rfl) (kk H locs ls hH hS hL)
theorem aw_aload15 (X : am_X own cc Z) {a0 a1 a2 a3 a4 a5 a6 a7 a8 a9 a10 a11 a12 a13 a14 : Option Value} {t : List (Option Value)} {x : Nat} (d : decode cc pc = .ok (.aload 15, 2)) (kk : AW Z Q M k n (pc + 2) (a0 :: a1 :: a2 :: a3 :: a4 :: a5 :: a6 :: a7 :: a8 :: a9 :: a10 :: a11 :: a12 :: a13 :: a14 :: some (.ref x) :: t) (.ref x :: st)) : AW Z Q M k n pc (a0 :: a1 :: a2 :: a3 :: a4 :: a5 :: a6 :: a7 :: a8 :: a9 :: a10 :: a11 :: a12 :: a13 :: a14 :: some (.ref x) :: t) st := fun H locs ls hH hS hL => lv_aload X.1 X.2.1 d (hL.2.2 15 (.ref x) rfl) (kk H locs ls hH hS hL)
theorem aw_aloadN15 (X : am_X own cc Z) {a0 a1 a2 a3 a4 a5 a6 a7 a8 a9 a10 a11 a12 a13 a14 : Option Value} {t : List (Option Value)}  (d : decode cc pc = .ok (.aload 15, 2)) (kk : AW Z Q M k n (pc + 2) (a0 :: a1 :: a2 :: a3 :: a4 :: a5 :: a6 :: a7 :: a8 :: a9 :: a10 :: a11 :: a12 :: a13 :: a14 :: some (.null) :: t) (.null :: st)) : AW Z Q M k n pc (a0 :: a1 :: a2 :: a3 :: a4 :: a5 :: a6 :: a7 :: a8 :: a9 :: a10 :: a11 :: a12 :: a13 :: a14 :: some (.null) :: t) st := fun H locs ls hH hS hL => lv_aloadN X.1 X.2.1 d (hL.2.2 15 (.null) rfl) (kk H locs ls hH hS hL)
theorem aw_lload15 (X : am_X own cc Z) {a0 a1 a2 a3 a4 a5 a6 a7 a8 a9 a10 a11 a12 a13 a14 : Option Value} {t : List (Option Value)} {x : Int64} (d : decode cc pc = .ok (.lload 15, 2)) (kk : AW Z Q M k n (pc + 2) (a0 :: a1 :: a2 :: a3 :: a4 :: a5 :: a6 :: a7 :: a8 :: a9 :: a10 :: a11 :: a12 :: a13 :: a14 :: some (.long x) :: t) (.long x :: st)) : AW Z Q M k n pc (a0 :: a1 :: a2 :: a3 :: a4 :: a5 :: a6 :: a7 :: a8 :: a9 :: a10 :: a11 :: a12 :: a13 :: a14 :: some (.long x) :: t) st := fun H locs ls hH hS hL => lv_lload X.1 X.2.1 d (hL.2.2 15 (.long x) rfl) (kk H locs ls hH hS hL)
theorem aw_istore15 (X : am_X own cc Z) {a0 a1 a2 a3 a4 a5 a6 a7 a8 a9 a10 a11 a12 a13 a14 : Option Value} {t : List (Option Value)} {u : Option Value} {x : Int32} (d : decode cc pc = .ok (.istore 15, 2)) (hn : 15 < zn Z) (hc : am_c1 (a0 :: a1 :: a2 :: a3 :: a4 :: a5 :: a6 :: a7 :: a8 :: a9 :: a10 :: a11 :: a12 :: a13 :: a14 :: u :: t) 15 = true) (kk : AW Z Q M k n (pc + 2) (a0 :: a1 :: a2 :: a3 :: a4 :: a5 :: a6 :: a7 :: a8 :: a9 :: a10 :: a11 :: a12 :: a13 :: a14 :: some (.int x) :: t) st) : AW Z Q M k n pc (a0 :: a1 :: a2 :: a3 :: a4 :: a5 :: a6 :: a7 :: a8 :: a9 :: a10 :: a11 :: a12 :: a13 :: a14 :: u :: t) (.int x :: st) := fun H locs ls hH hS hL => lv_istore X.1 X.2.1 d hL.has hn rfl (fun ls' h' => kk H locs ls' hH hS (am_L.st1 h' hc))
theorem aw_astore15 (X : am_X own cc Z) {a0 a1 a2 a3 a4 a5 a6 a7 a8 a9 a10 a11 a12 a13 a14 : Option Value} {t : List (Option Value)} {u : Option Value} {x : Nat} (d : decode cc pc = .ok (.astore 15, 2)) (hn : 15 < zn Z) (hc : am_c1 (a0 :: a1 :: a2 :: a3 :: a4 :: a5 :: a6 :: a7 :: a8 :: a9 :: a10 :: a11 :: a12 :: a13 :: a14 :: u :: t) 15 = true) (kk : AW Z Q M k n (pc + 2) (a0 :: a1 :: a2 :: a3 :: a4 :: a5 :: a6 :: a7 :: a8 :: a9 :: a10 :: a11 :: a12 :: a13 :: a14 :: some (.ref x) :: t) st) : AW Z Q M k n pc (a0 :: a1 :: a2 :: a3 :: a4 :: a5 :: a6 :: a7 :: a8 :: a9 :: a10 :: a11 :: a12 :: a13 :: a14 :: u :: t) (.ref x :: st) := fun H locs ls hH hS hL => lv_astore X.1 X.2.1 d hL.has hn rfl (fun ls' h' => kk H locs ls' hH hS (am_L.st1 h' hc))
theorem aw_astoreN15 (X : am_X own cc Z) {a0 a1 a2 a3 a4 a5 a6 a7 a8 a9 a10 a11 a12 a13 a14 : Option Value} {t : List (Option Value)} {u : Option Value}  (d : decode cc pc = .ok (.astore 15, 2)) (hn : 15 < zn Z) (hc : am_c1 (a0 :: a1 :: a2 :: a3 :: a4 :: a5 :: a6 :: a7 :: a8 :: a9 :: a10 :: a11 :: a12 :: a13 :: a14 :: u :: t) 15 = true) (kk : AW Z Q M k n (pc + 2) (a0 :: a1 :: a2 :: a3 :: a4 :: a5 :: a6 :: a7 :: a8 :: a9 :: a10 :: a11 :: a12 :: a13 :: a14 :: some (.null) :: t) st) : AW Z Q M k n pc (a0 :: a1 :: a2 :: a3 :: a4 :: a5 :: a6 :: a7 :: a8 :: a9 :: a10 :: a11 :: a12 :: a13 :: a14 :: u :: t) (.null :: st) := fun H locs ls hH hS hL => lv_astoreN X.1 X.2.1 d hL.has hn rfl (fun ls' h' => kk H locs ls' hH hS (am_L.st1 h' hc))
theorem aw_lstore15 (X : am_X own cc Z) {a0 a1 a2 a3 a4 a5 a6 a7 a8 a9 a10 a11 a12 a13 a14 : Option Value} {t : List (Option Value)} {u u1 : Option Value} {x : Int64} (d : decode cc pc = .ok (.lstore 15, 2)) (hn : 15 + 1 < zn Z) (hc : am_c1 (a0 :: a1 :: a2 :: a3 :: a4 :: a5 :: a6 :: a7 :: a8 :: a9 :: a10 :: a11 :: a12 :: a13 :: a14 :: u :: u1 :: t) 15 = true) (kk : AW Z Q M k n (pc + 2) (a0 :: a1 :: a2 :: a3 :: a4 :: a5 :: a6 :: a7 :: a8 :: a9 :: a10 :: a11 :: a12 :: a13 :: a14 :: some (.long x) :: none :: t) st) : AW Z Q M k n pc (a0 :: a1 :: a2 :: a3 :: a4 :: a5 :: a6 :: a7 :: a8 :: a9 :: a10 :: a11 :: a12 :: a13 :: a14 :: u :: u1 :: t) (.long x :: st) := fun H locs ls hH hS hL => lv_lstore X.1 X.2.1 d hL.has hn rfl (fun ls' h' => kk H locs ls' hH hS (am_L.st2 h' hc))
theorem aw_iinc15 (X : am_X own cc Z) {a0 a1 a2 a3 a4 a5 a6 a7 a8 a9 a10 a11 a12 a13 a14 : Option Value} {t : List (Option Value)} {x v : Int32} {j : Int} (d : decode cc pc = .ok (.iinc 15 j, 3)) (hn : 15 < zn Z) (hv : x + Int32.ofInt j = v) (hc : am_c1 (a0 :: a1 :: a2 :: a3 :: a4 :: a5 :: a6 :: a7 :: a8 :: a9 :: a10 :: a11 :: a12 :: a13 :: a14 :: some (.int x) :: t) 15 = true) (kk : AW Z Q M k n (pc + 3) (a0 :: a1 :: a2 :: a3 :: a4 :: a5 :: a6 :: a7 :: a8 :: a9 :: a10 :: a11 :: a12 :: a13 :: a14 :: some (.int v) :: t) st) : AW Z Q M k n pc (a0 :: a1 :: a2 :: a3 :: a4 :: a5 :: a6 :: a7 :: a8 :: a9 :: a10 :: a11 :: a12 :: a13 :: a14 :: some (.int x) :: t) st := fun H locs ls hH hS hL => by
  obtain ⟨i0, hi0⟩ := List.getElem?_of_mem ((am_pr_in (a0 :: a1 :: a2 :: a3 :: a4 :: a5 :: a6 :: a7 :: a8 :: a9 :: a10 :: a11 :: a12 :: a13 :: a14 :: some (.int x) :: t) 0 (15, .int x)).mpr ⟨15, by simp, rfl⟩)
  exact lv_iinc X.1 X.2.1 d hL.has hi0 hv hn rfl (fun ls' h' => kk H locs ls' hH hS (am_L.st1 h' hc))
theorem aw_iload16 (X : am_X own cc Z) {a0 a1 a2 a3 a4 a5 a6 a7 a8 a9 a10 a11 a12 a13 a14 a15 : Option Value} {t : List (Option Value)} {x : Int32} (d : decode cc pc = .ok (.iload 16, 2)) (kk : AW Z Q M k n (pc + 2) (a0 :: a1 :: a2 :: a3 :: a4 :: a5 :: a6 :: a7 :: a8 :: a9 :: a10 :: a11 :: a12 :: a13 :: a14 :: a15 :: some (.int x) :: t) (.int x :: st)) : AW Z Q M k n pc (a0 :: a1 :: a2 :: a3 :: a4 :: a5 :: a6 :: a7 :: a8 :: a9 :: a10 :: a11 :: a12 :: a13 :: a14 :: a15 :: some (.int x) :: t) st := fun H locs ls hH hS hL => lv_iload X.1 X.2.1 d (hL.2.2 16 (.int x) rfl) (kk H locs ls hH hS hL)
theorem aw_aload16 (X : am_X own cc Z) {a0 a1 a2 a3 a4 a5 a6 a7 a8 a9 a10 a11 a12 a13 a14 a15 : Option Value} {t : List (Option Value)} {x : Nat} (d : decode cc pc = .ok (.aload 16, 2)) (kk : AW Z Q M k n (pc + 2) (a0 :: a1 :: a2 :: a3 :: a4 :: a5 :: a6 :: a7 :: a8 :: a9 :: a10 :: a11 :: a12 :: a13 :: a14 :: a15 :: some (.ref x) :: t) (.ref x :: st)) : AW Z Q M k n pc (a0 :: a1 :: a2 :: a3 :: a4 :: a5 :: a6 :: a7 :: a8 :: a9 :: a10 :: a11 :: a12 :: a13 :: a14 :: a15 :: some (.ref x) :: t) st := fun H locs ls hH hS hL => lv_aload X.1 X.2.1 d (hL.2.2 16 (.ref x) rfl) (kk H locs ls hH hS hL)
theorem aw_aloadN16 (X : am_X own cc Z) {a0 a1 a2 a3 a4 a5 a6 a7 a8 a9 a10 a11 a12 a13 a14 a15 : Option Value} {t : List (Option Value)}  (d : decode cc pc = .ok (.aload 16, 2)) (kk : AW Z Q M k n (pc + 2) (a0 :: a1 :: a2 :: a3 :: a4 :: a5 :: a6 :: a7 :: a8 :: a9 :: a10 :: a11 :: a12 :: a13 :: a14 :: a15 :: some (.null) :: t) (.null :: st)) : AW Z Q M k n pc (a0 :: a1 :: a2 :: a3 :: a4 :: a5 :: a6 :: a7 :: a8 :: a9 :: a10 :: a11 :: a12 :: a13 :: a14 :: a15 :: some (.null) :: t) st := fun H locs ls hH hS hL => lv_aloadN X.1 X.2.1 d (hL.2.2 16 (.null) rfl) (kk H locs ls hH hS hL)
theorem aw_lload16 (X : am_X own cc Z) {a0 a1 a2 a3 a4 a5 a6 a7 a8 a9 a10 a11 a12 a13 a14 a15 : Option Value} {t : List (Option Value)} {x : Int64} (d : decode cc pc = .ok (.lload 16, 2)) (kk : AW Z Q M k n (pc + 2) (a0 :: a1 :: a2 :: a3 :: a4 :: a5 :: a6 :: a7 :: a8 :: a9 :: a10 :: a11 :: a12 :: a13 :: a14 :: a15 :: some (.long x) :: t) (.long x :: st)) : AW Z Q M k n pc (a0 :: a1 :: a2 :: a3 :: a4 :: a5 :: a6 :: a7 :: a8 :: a9 :: a10 :: a11 :: a12 :: a13 :: a14 :: a15 :: some (.long x) :: t) st := fun H locs ls hH hS hL => lv_lload X.1 X.2.1 d (hL.2.2 16 (.long x) rfl) (kk H locs ls hH hS hL)
theorem aw_istore16 (X : am_X own cc Z) {a0 a1 a2 a3 a4 a5 a6 a7 a8 a9 a10 a11 a12 a13 a14 a15 : Option Value} {t : List (Option Value)} {u : Option Value} {x : Int32} (d : decode cc pc = .ok (.istore 16, 2)) (hn : 16 < zn Z) (hc : am_c1 (a0 :: a1 :: a2 :: a3 :: a4 :: a5 :: a6 :: a7 :: a8 :: a9 :: a10 :: a11 :: a12 :: a13 :: a14 :: a15 :: u :: t) 16 = true) (kk : AW Z Q M k n (pc + 2) (a0 :: a1 :: a2 :: a3 :: a4 :: a5 :: a6 :: a7 :: a8 :: a9 :: a10 :: a11 :: a12 :: a13 :: a14 :: a15 :: some (.int x) :: t) st) : AW Z Q M k n pc (a0 :: a1 :: a2 :: a3 :: a4 :: a5 :: a6 :: a7 :: a8 :: a9 :: a10 :: a11 :: a12 :: a13 :: a14 :: a15 :: u :: t) (.int x :: st) := fun H locs ls hH hS hL => lv_istore X.1 X.2.1 d hL.has hn rfl (fun ls' h' => kk H locs ls' hH hS (am_L.st1 h' hc))
theorem aw_astore16 (X : am_X own cc Z) {a0 a1 a2 a3 a4 a5 a6 a7 a8 a9 a10 a11 a12 a13 a14 a15 : Option Value} {t : List (Option Value)} {u : Option Value} {x : Nat} (d : decode cc pc = .ok (.astore 16, 2)) (hn : 16 < zn Z) (hc : am_c1 (a0 :: a1 :: a2 :: a3 :: a4 :: a5 :: a6 :: a7 :: a8 :: a9 :: a10 :: a11 :: a12 :: a13 :: a14 :: a15 :: u :: t) 16 = true) (kk : AW Z Q M k n (pc + 2) (a0 :: a1 :: a2 :: a3 :: a4 :: a5 :: a6 :: a7 :: a8 :: a9 :: a10 :: a11 :: a12 :: a13 :: a14 :: a15 :: some (.ref x) :: t) st) : AW Z Q M k n pc (a0 :: a1 :: a2 :: a3 :: a4 :: a5 :: a6 :: a7 :: a8 :: a9 :: a10 :: a11 :: a12 :: a13 :: a14 :: a15 :: u :: t) (.ref x :: st) := fun H locs ls hH hS hL => lv_astore X.1 X.2.1 d hL.has hn rfl (fun ls' h' => kk H locs ls' hH hS (am_L.st1 h' hc))
theorem aw_astoreN16 (X : am_X own cc Z) {a0 a1 a2 a3 a4 a5 a6 a7 a8 a9 a10 a11 a12 a13 a14 a15 : Option Value} {t : List (Option Value)} {u : Option Value}  (d : decode cc pc = .ok (.astore 16, 2)) (hn : 16 < zn Z) (hc : am_c1 (a0 :: a1 :: a2 :: a3 :: a4 :: a5 :: a6 :: a7 :: a8 :: a9 :: a10 :: a11 :: a12 :: a13 :: a14 :: a15 :: u :: t) 16 = true) (kk : AW Z Q M k n (pc + 2) (a0 :: a1 :: a2 :: a3 :: a4 :: a5 :: a6 :: a7 :: a8 :: a9 :: a10 :: a11 :: a12 :: a13 :: a14 :: a15 :: some (.null) :: t) st) : AW Z Q M k n pc (a0 :: a1 :: a2 :: a3 :: a4 :: a5 :: a6 :: a7 :: a8 :: a9 :: a10 :: a11 :: a12 :: a13 :: a14 :: a15 :: u :: t) (.null :: st) := fun H locs ls hH hS hL => lv_astoreN X.1 X.2.1 d hL.has hn rfl (fun ls' h' => kk H locs ls' hH hS (am_L.st1 h' hc))
theorem aw_lstore16 (X : am_X own cc Z) {a0 a1 a2 a3 a4 a5 a6 a7 a8 a9 a10 a11 a12 a13 a14 a15 : Option Value} {t : List (Option Value)} {u u1 : Option Value} {x : Int64} (d : decode cc pc = .ok (.lstore 16, 2)) (hn : 16 + 1 < zn Z) (hc : am_c1 (a0 :: a1 :: a2 :: a3 :: a4 :: a5 :: a6 :: a7 :: a8 :: a9 :: a10 :: a11 :: a12 :: a13 :: a14 :: a15 :: u :: u1 :: t) 16 = true) (kk : AW Z Q M k n (pc + 2) (a0 :: a1 :: a2 :: a3 :: a4 :: a5 :: a6 :: a7 :: a8 :: a9 :: a10 :: a11 :: a12 :: a13 :: a14 :: a15 :: some (.long x) :: none :: t) st) : AW Z Q M k n pc (a0 :: a1 :: a2 :: a3 :: a4 :: a5 :: a6 :: a7 :: a8 :: a9 :: a10 :: a11 :: a12 :: a13 :: a14 :: a15 :: u :: u1 :: t) (.long x :: st) := fun H locs ls hH hS hL => lv_lstore X.1 X.2.1 d hL.has hn rfl (fun ls' h' => kk H locs ls' hH hS (am_L.st2 h' hc))
theorem aw_iinc16 (X : am_X own cc Z) {a0 a1 a2 a3 a4 a5 a6 a7 a8 a9 a10 a11 a12 a13 a14 a15 : Option Value} {t : List (Option Value)} {x v : Int32} {j : Int} (d : decode cc pc = .ok (.iinc 16 j, 3)) (hn : 16 < zn Z) (hv : x + Int32.ofInt j = v) (hc : am_c1 (a0 :: a1 :: a2 :: a3 :: a4 :: a5 :: a6 :: a7 :: a8 :: a9 :: a10 :: a11 :: a12 :: a13 :: a14 :: a15 :: some (.int x) :: t) 16 = true) (kk : AW Z Q M k n (pc + 3) (a0 :: a1 :: a2 :: a3 :: a4 :: a5 :: a6 :: a7 :: a8 :: a9 :: a10 :: a11 :: a12 :: a13 :: a14 :: a15 :: some (.int v) :: t) st) : AW Z Q M k n pc (a0 :: a1 :: a2 :: a3 :: a4 :: a5 :: a6 :: a7 :: a8 :: a9 :: a10 :: a11 :: a12 :: a13 :: a14 :: a15 :: some (.int x) :: t) st := fun H locs ls hH hS hL => by
  obtain ⟨i0, hi0⟩ := List.getElem?_of_mem ((am_pr_in (a0 :: a1 :: a2 :: a3 :: a4 :: a5 :: a6 :: a7 :: a8 :: a9 :: a10 :: a11 :: a12 :: a13 :: a14 :: a15 :: some (.int x) :: t) 0 (16, .int x)).mpr ⟨16, by simp, rfl⟩)
  exact lv_iinc X.1 X.2.1 d hL.has hi0 hv hn rfl (fun ls' h' => kk H locs ls' hH hS (am_L.st1 h' hc))
theorem aw_iload17 (X : am_X own cc Z) {a0 a1 a2 a3 a4 a5 a6 a7 a8 a9 a10 a11 a12 a13 a14 a15 a16 : Option Value} {t : List (Option Value)} {x : Int32} (d : decode cc pc = .ok (.iload 17, 2)) (kk : AW Z Q M k n (pc + 2) (a0 :: a1 :: a2 :: a3 :: a4 :: a5 :: a6 :: a7 :: a8 :: a9 :: a10 :: a11 :: a12 :: a13 :: a14 :: a15 :: a16 :: some (.int x) :: t) (.int x :: st)) : AW Z Q M k n pc (a0 :: a1 :: a2 :: a3 :: a4 :: a5 :: a6 :: a7 :: a8 :: a9 :: a10 :: a11 :: a12 :: a13 :: a14 :: a15 :: a16 :: some (.int x) :: t) st := fun H locs ls hH hS hL => lv_iload X.1 X.2.1 d (hL.2.2 17 (.int x) rfl) (kk H locs ls hH hS hL)
theorem aw_aload17 (X : am_X own cc Z) {a0 a1 a2 a3 a4 a5 a6 a7 a8 a9 a10 a11 a12 a13 a14 a15 a16 : Option Value} {t : List (Option Value)} {x : Nat} (d : decode cc pc = .ok (.aload 17, 2)) (kk : AW Z Q M k n (pc + 2) (a0 :: a1 :: a2 :: a3 :: a4 :: a5 :: a6 :: a7 :: a8 :: a9 :: a10 :: a11 :: a12 :: a13 :: a14 :: a15 :: a16 :: some (.ref x) :: t) (.ref x :: st)) : AW Z Q M k n pc (a0 :: a1 :: a2 :: a3 :: a4 :: a5 :: a6 :: a7 :: a8 :: a9 :: a10 :: a11 :: a12 :: a13 :: a14 :: a15 :: a16 :: some (.ref x) :: t) st := fun H locs ls hH hS hL => lv_aload X.1 X.2.1 d (hL.2.2 17 (.ref x) rfl) (kk H locs ls hH hS hL)
theorem aw_aloadN17 (X : am_X own cc Z) {a0 a1 a2 a3 a4 a5 a6 a7 a8 a9 a10 a11 a12 a13 a14 a15 a16 : Option Value} {t : List (Option Value)}  (d : decode cc pc = .ok (.aload 17, 2)) (kk : AW Z Q M k n (pc + 2) (a0 :: a1 :: a2 :: a3 :: a4 :: a5 :: a6 :: a7 :: a8 :: a9 :: a10 :: a11 :: a12 :: a13 :: a14 :: a15 :: a16 :: some (.null) :: t) (.null :: st)) : AW Z Q M k n pc (a0 :: a1 :: a2 :: a3 :: a4 :: a5 :: a6 :: a7 :: a8 :: a9 :: a10 :: a11 :: a12 :: a13 :: a14 :: a15 :: a16 :: some (.null) :: t) st := fun H locs ls hH hS hL => lv_aloadN X.1 X.2.1 d (hL.2.2 17 (.null) rfl) (kk H locs ls hH hS hL)
theorem aw_lload17 (X : am_X own cc Z) {a0 a1 a2 a3 a4 a5 a6 a7 a8 a9 a10 a11 a12 a13 a14 a15 a16 : Option Value} {t : List (Option Value)} {x : Int64} (d : decode cc pc = .ok (.lload 17, 2)) (kk : AW Z Q M k n (pc + 2) (a0 :: a1 :: a2 :: a3 :: a4 :: a5 :: a6 :: a7 :: a8 :: a9 :: a10 :: a11 :: a12 :: a13 :: a14 :: a15 :: a16 :: some (.long x) :: t) (.long x :: st)) : AW Z Q M k n pc (a0 :: a1 :: a2 :: a3 :: a4 :: a5 :: a6 :: a7 :: a8 :: a9 :: a10 :: a11 :: a12 :: a13 :: a14 :: a15 :: a16 :: some (.long x) :: t) st := fun H locs ls hH hS hL => lv_lload X.1 X.2.1 d (hL.2.2 17 (.long x) rfl) (kk H locs ls hH hS hL)
theorem aw_istore17 (X : am_X own cc Z) {a0 a1 a2 a3 a4 a5 a6 a7 a8 a9 a10 a11 a12 a13 a14 a15 a16 : Option Value} {t : List (Option Value)} {u : Option Value} {x : Int32} (d : decode cc pc = .ok (.istore 17, 2)) (hn : 17 < zn Z) (hc : am_c1 (a0 :: a1 :: a2 :: a3 :: a4 :: a5 :: a6 :: a7 :: a8 :: a9 :: a10 :: a11 :: a12 :: a13 :: a14 :: a15 :: a16 :: u :: t) 17 = true) (kk : AW Z Q M k n (pc + 2) (a0 :: a1 :: a2 :: a3 :: a4 :: a5 :: a6 :: a7 :: a8 :: a9 :: a10 :: a11 :: a12 :: a13 :: a14 :: a15 :: a16 :: some (.int x) :: t) st) : AW Z Q M k n pc (a0 :: a1 :: a2 :: a3 :: a4 :: a5 :: a6 :: a7 :: a8 :: a9 :: a10 :: a11 :: a12 :: a13 :: a14 :: a15 :: a16 :: u :: t) (.int x :: st) := fun H locs ls hH hS hL => lv_istore X.1 X.2.1 d hL.has hn rfl (fun ls' h' => kk H locs ls' hH hS (am_L.st1 h' hc))
theorem aw_astore17 (X : am_X own cc Z) {a0 a1 a2 a3 a4 a5 a6 a7 a8 a9 a10 a11 a12 a13 a14 a15 a16 : Option Value} {t : List (Option Value)} {u : Option Value} {x : Nat} (d : decode cc pc = .ok (.astore 17, 2)) (hn : 17 < zn Z) (hc : am_c1 (a0 :: a1 :: a2 :: a3 :: a4 :: a5 :: a6 :: a7 :: a8 :: a9 :: a10 :: a11 :: a12 :: a13 :: a14 :: a15 :: a16 :: u :: t) 17 = true) (kk : AW Z Q M k n (pc + 2) (a0 :: a1 :: a2 :: a3 :: a4 :: a5 :: a6 :: a7 :: a8 :: a9 :: a10 :: a11 :: a12 :: a13 :: a14 :: a15 :: a16 :: some (.ref x) :: t) st) : AW Z Q M k n pc (a0 :: a1 :: a2 :: a3 :: a4 :: a5 :: a6 :: a7 :: a8 :: a9 :: a10 :: a11 :: a12 :: a13 :: a14 :: a15 :: a16 :: u :: t) (.ref x :: st) := fun H locs ls hH hS hL => lv_astore X.1 X.2.1 d hL.has hn rfl (fun ls' h' => kk H locs ls' hH hS (am_L.st1 h' hc))
theorem aw_astoreN17 (X : am_X own cc Z) {a0 a1 a2 a3 a4 a5 a6 a7 a8 a9 a10 a11 a12 a13 a14 a15 a16 : Option Value} {t : List (Option Value)} {u : Option Value}  (d : decode cc pc = .ok (.astore 17, 2)) (hn : 17 < zn Z) (hc : am_c1 (a0 :: a1 :: a2 :: a3 :: a4 :: a5 :: a6 :: a7 :: a8 :: a9 :: a10 :: a11 :: a12 :: a13 :: a14 :: a15 :: a16 :: u :: t) 17 = true) (kk : AW Z Q M k n (pc + 2) (a0 :: a1 :: a2 :: a3 :: a4 :: a5 :: a6 :: a7 :: a8 :: a9 :: a10 :: a11 :: a12 :: a13 :: a14 :: a15 :: a16 :: some (.null) :: t) st) : AW Z Q M k n pc (a0 :: a1 :: a2 :: a3 :: a4 :: a5 :: a6 :: a7 :: a8 :: a9 :: a10 :: a11 :: a12 :: a13 :: a14 :: a15 :: a16 :: u :: t) (.null :: st) := fun H locs ls hH hS hL => lv_astoreN X.1 X.2.1 d hL.has hn rfl (fun ls' h' => kk H locs ls' hH hS (am_L.st1 h' hc))
theorem aw_lstore17 (X : am_X own cc Z) {a0 a1 a2 a3 a4 a5 a6 a7 a8 a9 a10 a11 a12 a13 a14 a15 a16 : Option Value} {t : List (Option Value)} {u u1 : Option Value} {x : Int64} (d : decode cc pc = .ok (.lstore 17, 2)) (hn : 17 + 1 < zn Z) (hc : am_c1 (a0 :: a1 :: a2 :: a3 :: a4 :: a5 :: a6 :: a7 :: a8 :: a9 :: a10 :: a11 :: a12 :: a13 :: a14 :: a15 :: a16 :: u :: u1 :: t) 17 = true) (kk : AW Z Q M k n (pc + 2) (a0 :: a1 :: a2 :: a3 :: a4 :: a5 :: a6 :: a7 :: a8 :: a9 :: a10 :: a11 :: a12 :: a13 :: a14 :: a15 :: a16 :: some (.long x) :: none :: t) st) : AW Z Q M k n pc (a0 :: a1 :: a2 :: a3 :: a4 :: a5 :: a6 :: a7 :: a8 :: a9 :: a10 :: a11 :: a12 :: a13 :: a14 :: a15 :: a16 :: u :: u1 :: t) (.long x :: st) := fun H locs ls hH hS hL => lv_lstore X.1 X.2.1 d hL.has hn rfl (fun ls' h' => kk H locs ls' hH hS (am_L.st2 h' hc))
theorem aw_iinc17 (X : am_X own cc Z) {a0 a1 a2 a3 a4 a5 a6 a7 a8 a9 a10 a11 a12 a13 a14 a15 a16 : Option Value} {t : List (Option Value)} {x v : Int32} {j : Int} (d : decode cc pc = .ok (.iinc 17 j, 3)) (hn : 17 < zn Z) (hv : x + Int32.ofInt j = v) (hc : am_c1 (a0 :: a1 :: a2 :: a3 :: a4 :: a5 :: a6 :: a7 :: a8 :: a9 :: a10 :: a11 :: a12 :: a13 :: a14 :: a15 :: a16 :: some (.int x) :: t) 17 = true) (kk : AW Z Q M k n (pc + 3) (a0 :: a1 :: a2 :: a3 :: a4 :: a5 :: a6 :: a7 :: a8 :: a9 :: a10 :: a11 :: a12 :: a13 :: a14 :: a15 :: a16 :: some (.int v) :: t) st) : AW Z Q M k n pc (a0 :: a1 :: a2 :: a3 :: a4 :: a5 :: a6 :: a7 :: a8 :: a9 :: a10 :: a11 :: a12 :: a13 :: a14 :: a15 :: a16 :: some (.int x) :: t) st := fun H locs ls hH hS hL => by
  obtain ⟨i0, hi0⟩ := List.getElem?_of_mem ((am_pr_in (a0 :: a1 :: a2 :: a3 :: a4 :: a5 :: a6 :: a7 :: a8 :: a9 :: a10 :: a11 :: a12 :: a13 :: a14 :: a15 :: a16 :: some (.int x) :: t) 0 (17, .int x)).mpr ⟨17, by simp, rfl⟩)
  exact lv_iinc X.1 X.2.1 d hL.has hi0 hv hn rfl (fun ls' h' => kk H locs ls' hH hS (am_L.st1 h' hc))
end AWrows
end
section
section AMheap
variable {Z : AZ} {own : String} {cc : ByteArray} {Q : State → Prop} {M : AM} {k n pc : Nat} {L : List (Option Value)} {st : List Value}
/-- class ci: its name, its fields, their number -/
def am_C (ci : Nat) (C : String) (T : u_T) (N : Nat) : Prop := vwCl[ci]? = some (C, T, N) ∧ (∀ w ∈ u_ws C T N, w ∈ lw_tbl) ∧ (∃ ty : Nat → FieldType, ∀ k, k < N → parseFieldDescriptor (T k).2.2.1 = some (ty k)) ∧ (∀ a, a < N → ∀ b, b < N → a ≠ b → (T a).2.1 ≠ (T b).2.1)
theorem am_ok_lay {C : String} {T : u_T} {j : Nat} : am_ok (u_lay C T j) = true := by
  unfold u_lay
  split <;> rfl
theorem am_C.ts {ci : Nat} {C : String} {T : u_T} {N : Nat} (h : am_C ci C T N) (X : am_X own cc Z) : ∀ w ∈ u_ws C T N, w.before (za Z) (zs Z) = true := by
  intro w hw
  have h1 := h.2.1 w hw
  obtain ⟨j, -, rfl⟩ := List.mem_map.mp hw
  exact X.w h1 am_ok_lay
def am_lk (own : String) (idx : Nat) (ref name desc : String) : Prop := Cond.fieldLink own idx ref name desc ∈ lw_tbl ∨ ∃ host, Cond.fieldLinkNest own idx ref name desc host ∈ lw_tbl
def am_sf (ref owner name desc : String) : Prop := ref = owner ∨ Cond.sameField ref owner name desc ∈ lw_tbl
theorem am_sf.use {ref owner name desc : String} (h : am_sf ref owner name desc) (X : am_X own cc Z) : ∀ x, (zs Z).fieldFound? owner name desc = some x → (zs Z).fieldFound? ref name desc = some x := by
  rcases h with rfl | h
  · exact fun x h => h
  · exact u_same (X.w h rfl)
/-- the entry idx of own's pool names the field j of the class ci -/
def am_F (own : String) (idx ci j : Nat) : Prop := ∃ (C : String) (T : u_T) (N : Nat) (ref : String), am_C ci C T N ∧ j < N ∧ am_lk own idx ref (T j).2.1 (T j).2.2.1 ∧ am_sf ref (T j).1 (T j).2.1 (T j).2.2.1
theorem aw_get (X : am_X own cc Z) {idx ci j a : Nat} {fs : List Value} {v : Value} (hF : am_F own idx ci j) (d : decode cc pc = .ok (.getfield idx, 3)) (hM : M a = some (.inr (ci, fs))) (hv : fs[j]? = some v)
    (kk : AW Z Q M k n (pc + 3) L (v :: st)) : AW Z Q M k n pc L (.ref a :: st) := by
  intro H locs ls hH hS hL
  obtain ⟨C, T, N, ref, hC, hj, hlk, hsf⟩ := hF
  rcases hlk with h | ⟨host, h⟩
  · exact va_get X.1 X.2.1 (hC.ts X) (fun _ h => h) X.2.2.2.1 X.K (hH.P hM) 0 rfl hC.1 j hj (X.w h rfl) (hsf.use X) hv d (kk H locs ls hH hS hL)
  · exact va_getN X.1 X.2.1 (hC.ts X) (fun _ h => h) X.2.2.2.1 X.K (hH.P hM) 0 rfl hC.1 j hj (X.w h rfl) (hsf.use X) hv d (kk H locs ls hH hS hL)
def am_Fp (own : String) (idx ci j : Nat) (ty : FieldType) : Prop := ∃ (C : String) (T : u_T) (N : Nat) (ref : String), am_C ci C T N ∧ j < N ∧ am_lk own idx ref (T j).2.1 (T j).2.2.1 ∧ am_sf ref (T j).1 (T j).2.1 (T j).2.2.1 ∧ (T j).2.2.2 = false ∧ parseFieldDescriptor (T j).2.2.1 = some ty
theorem aw_put (X : am_X own cc Z) {idx ci j a : Nat} {fs fs' : List Value} {v : Value} {ty : FieldType} (hF : am_Fp own idx ci j ty) (d : decode cc pc = .ok (.putfield idx, 3)) (hM : M a = some (.inr (ci, fs))) (hfs : fs.set j v = fs') (hl : j < fs.length) (hn : narrow ty v = v) (hfit : fits ty v = true)
    (kk : AW Z Q (am_up M a (.inr (ci, fs'))) k n (pc + 3) L st) : AW Z Q M k n pc L (v :: .ref a :: st) := by
  intro H locs ls hH hS hL
  subst hfs
  obtain ⟨C, T, N, ref, hC, hj, hlk, hsf, hfin, hd⟩ := hF
  obtain ⟨ty0, hty⟩ := hC.2.2.1
  have hts := hC.ts X
  have hin : ∀ w ∈ u_ws C T N, w ∈ u_ws C T N := fun _ h => h
  have hap := va_apart (own := own) hts hin ty0 hty hC.2.2.2 X.K hC.1
  obtain ⟨r, h1, cell, q1, q2, q3, q4⟩ := (hH a _ hM).1
  have hr : r = (C, T, N) := Option.some.inj (h1.symm.trans hC.1)
  subst hr
  obtain ⟨hS1, hfc, kC, hkC, hkind⟩ := X.K.1 ci _ hC.1
  obtain ⟨cf, kf, fi, f, hi, hsl⟩ := hS1 j hj
  have hlay := hts _ (hin _ (u_in_lay hj))
  unfold u_lay at hlay
  rw [if_neg (by rw [hfin]; decide)] at hlay
  have hst := (u_facts hfc hkC (u_lays hts hin hj) hi).1
  have h6 := u_store hfc hkC hkind hlay hi hd hn hfit
  have fin : ∀ H' : Heap, H'[a]? = some (cell.setSlot f.slot v) → H'.size = H.size → (∀ q, q ≠ a → H'[q]? = H[q]?) → W (zp Z) (zl Z) (ze Z) (zR Z) (zs Z) (zm Z) (za Z) (zb Z) (zM Z) (zc Z) H' (locs ++ [⟨a, f.slot⟩]) k n Q (F0 (zm Z) (pc + 3) ls st) := by
    intro H' e1 e2 e3
    rw [hsl] at e1 ⊢
    exact kk H' _ ls (hH.put hM ⟨_, hC.1, t_OB.to (V := updV (vp_V fs) j v) ⟨_, e1, q2, q3, t_set q4 hap hj v⟩ (fun i _ => vp_updV_set hl v i)⟩ e3) (hS.put e2 e3 (hH a _ hM).2) hL
  rcases hlk with h | ⟨host, h⟩
  · exact W.putK X.1 X.2.1 (f := f) ⟨X.2.2.2.1, X.w h rfl, ⟨_, _, _, hsf.use X _ hi⟩, hst⟩ (by rw [q2]; exact h6) q1 q3 (by rw [hsl]; exact k2_hasslot (q4 j hj)) rfl rfl d fin
  · exact va_WputK X.1 X.2.1 (f := f) X.2.2.2.1 (X.w h rfl) (hsf.use X _ hi) hst (by rw [q2]; exact h6) q1 q3 (by rw [hsl]; exact k2_hasslot (q4 j hj)) rfl rfl d fin
def am_Ff (own : String) (idx ci j : Nat) (ty : FieldType) : Prop := ∃ (C : String) (T : u_T) (N : Nat), am_C ci C T N ∧ j < N ∧ Cond.fieldLink own idx own (T j).2.1 (T j).2.2.1 ∈ lw_tbl ∧ (T j).1 = own ∧ (T j).2.2.2 = true ∧ parseFieldDescriptor (T j).2.2.1 = some ty
theorem aw_putF (X : am_X own cc Z) {idx ci j a : Nat} {fs fs' : List Value} {v : Value} {ty : FieldType} (hF : am_Ff own idx ci j ty) (hinit : (zM Z).name = "<init>") (d : decode cc pc = .ok (.putfield idx, 3)) (hM : M a = some (.inr (ci, fs))) (hfs : fs.set j v = fs') (hl : j < fs.length) (hn : narrow ty v = v) (hfit : fits ty v = true)
    (kk : AW Z Q (am_up M a (.inr (ci, fs'))) k n (pc + 3) L st) : AW Z Q M k n pc L (v :: .ref a :: st) := by
  intro H locs ls hH hS hL
  subst hfs
  obtain ⟨C, T, N, hC, hj, hlk, hdecl, hfin, hd⟩ := hF
  obtain ⟨ty0, hty⟩ := hC.2.2.1
  have hts := hC.ts X
  have hin : ∀ w ∈ u_ws C T N, w ∈ u_ws C T N := fun _ h => h
  have hap := va_apart (own := own) hts hin ty0 hty hC.2.2.2 X.K hC.1
  obtain ⟨r, h1, cell, q1, q2, q3, q4⟩ := (hH a _ hM).1
  have hr : r = (C, T, N) := Option.some.inj (h1.symm.trans hC.1)
  subst hr
  obtain ⟨hS1, hfc, kC, hkC, hkind⟩ := X.K.1 ci _ hC.1
  obtain ⟨cf, kf, fi, f, hi, hsl⟩ := hS1 j hj
  have hlay := hts _ (hin _ (u_in_lay hj))
  unfold u_lay at hlay
  rw [if_pos hfin] at hlay
  have hst := (u_facts hfc hkC (u_lays hts hin hj) hi).1
  have hcf : (zm Z).cls = cf := by
    obtain ⟨_, _, c', _, _, _, -, -, hf', -, -, -, hown2, -⟩ := Cond.laysFinal_spec hlay
    have e1 : c' = cf := by have := hi.symm.trans hf'; simp at this; exact this.1.symm
    rw [hdecl] at hown2
    rw [← e1]; exact Option.some.inj (X.2.2.2.1.symm.trans hown2)
  have h6 := u_fits hfc hkC hkind (Or.inr hlay) hi hd hn hfit
  rw [hdecl] at hi
  refine W.putFinK X.1 X.2.1 X.2.2.2.1 (X.w hlk rfl) hi hst hcf hinit (by rw [q2]; exact h6) q1 q3 (by rw [hsl]; exact k2_hasslot (q4 j hj)) rfl rfl d fun H' e1 e2 e3 => ?_
  rw [hsl] at e1 ⊢
  exact kk H' _ ls (hH.put hM ⟨_, hC.1, t_OB.to (V := updV (vp_V fs) j v) ⟨_, e1, q2, q3, t_set q4 hap hj v⟩ (fun i _ => vp_updV_set hl v i)⟩ e3) (hS.put e2 e3 (hH a _ hM).2) hL
/-! arrays -/
theorem am_in {x : Int32} {N j : Nat} (hx : x = nI j) (hj : j < N) (hN : N < 2 ^ 31) : vp_in x N := by rw [hx]; exact vp_in_nI hj hN
theorem am_cl {x : Int32} {N j : Nat} (hx : x = nI j) (hj : j < N) (hN : N < 2 ^ 31) : x.toNatClampNeg = j := by rw [hx]; exact nI_clamp (by omega)
theorem aw_iald (X : am_X own cc Z) {N j a : Nat} {x : Int32} {f : Nat → Int32} (d : decode cc pc = .ok (.iaload, 1)) (hM : M a = some (am_ai (zG Z) N f)) (hx : x = nI j) (hj : j < N) (hN : N < 2 ^ 31)
    (kk : AW Z Q M k n (pc + 1) L (.int (f j) :: st)) : AW Z Q M k n pc L (.int x :: .ref a :: st) := by
  intro H locs ls hH hS hL
  exact va_iald X.1 X.2.1 X.K (hH.P hM) 0 0 rfl rfl (am_in hx hj hN) d (by rw [am_cl hx hj hN]; exact kk H locs ls hH hS hL)
theorem aw_zald (X : am_X own cc Z) {N j a : Nat} {x : Int32} {f : Nat → Int32} (d : decode cc pc = .ok (.baload, 1)) (hM : M a = some (am_az (zG Z) N f)) (hx : x = nI j) (hj : j < N) (hN : N < 2 ^ 31)
    (kk : AW Z Q M k n (pc + 1) L (.int (f j) :: st)) : AW Z Q M k n pc L (.int x :: .ref a :: st) := by
  intro H locs ls hH hS hL
  exact va_zald X.1 X.2.1 X.K (hH.P hM) 0 2 rfl rfl (am_in hx hj hN) d (by rw [am_cl hx hj hN]; exact kk H locs ls hH hS hL)
theorem aw_lald (X : am_X own cc Z) {N j a : Nat} {x : Int32} {f : Nat → Int64} (d : decode cc pc = .ok (.laload, 1)) (hM : M a = some (am_al (zG Z) N f)) (hx : x = nI j) (hj : j < N) (hN : N < 2 ^ 31)
    (kk : AW Z Q M k n (pc + 1) L (.long (f j) :: st)) : AW Z Q M k n pc L (.int x :: .ref a :: st) := by
  intro H locs ls hH hS hL
  exact va_lald X.1 X.2.1 X.K (hH.P hM) 0 1 rfl rfl (am_in hx hj hN) d (by rw [am_cl hx hj hN]; exact kk H locs ls hH hS hL)
/-- the kinds of the arrays of references -/
def am_T (t : Nat) (E : String) : Prop := ∀ G : AG, (am_tys G)[t]? = some (G.2.1 t, .object E)
theorem aw_aald (X : am_X own cc Z) {t N j a : Nat} {E : String} {x : Int32} {f : Nat → Option Nat} (ht : am_T t E) (d : decode cc pc = .ok (.aaload, 1)) (hM : M a = some (am_aq (zG Z) t N f)) (hx : x = nI j) (hj : j < N) (hN : N < 2 ^ 31)
    (kk : AW Z Q M k n (pc + 1) L (va_rf (f j) :: st)) : AW Z Q M k n pc L (.int x :: .ref a :: st) := by
  intro H locs ls hH hS hL
  exact va_aldq X.1 X.2.1 X.K (hH.P hM) 0 t rfl (ht _) (am_in hx hj hN) d (by rw [am_cl hx hj hN]; exact kk H locs ls hH hS hL)
theorem aw_iast (X : am_X own cc Z) {N j a : Nat} {x y : Int32} {f : Nat → Int32} (d : decode cc pc = .ok (.iastore, 1)) (hM : M a = some (am_ai (zG Z) N f)) (hx : x = nI j) (hj : j < N) (hN : N < 2 ^ 31)
    (kk : AW Z Q (am_up M a (am_ai (zG Z) N (upd f j y))) k n (pc + 1) L st) : AW Z Q M k n pc L (.int y :: .int x :: .ref a :: st) := by
  intro H locs ls hH hS hL
  have hin := am_in hx hj hN
  refine W.iast X.1 X.2.1 (hH a _ hM).1 ((X.K.2 0 _ rfl).1 N (fun j => .int (f j))) (fun q => by cases q) (by show ¬ (x < 0 ∨ (arrV _ _ _).slots.size ≤ _); rw [arrV_size]; exact hin) rfl rfl d fun H1 e1 z oq => ?_
  rw [am_cl hx hj hN] at e1
  refine kk H1 _ ls (hH.put hM ?_ oq) (hS.put z oq (hH a _ hM).2) hL
  show H1[a]? = some (vp_cell _ _)
  rw [e1, vp_cell_i, vp_cell_i, arrV_store]
  congr 2
  funext q
  by_cases hq : q = j
  · subst hq
    simp [updV, upd]
  · simp [updV, upd, hq]
theorem aw_zast (X : am_X own cc Z) {N j a : Nat} {x y : Int32} {f : Nat → Int32} (d : decode cc pc = .ok (.bastore, 1)) (hM : M a = some (am_az (zG Z) N f)) (hx : x = nI j) (hj : j < N) (hN : N < 2 ^ 31) (hy : narrow .boolean (.int y) = .int y)
    (kk : AW Z Q (am_up M a (am_az (zG Z) N (upd f j y))) k n (pc + 1) L st) : AW Z Q M k n pc L (.int y :: .int x :: .ref a :: st) := by
  intro H locs ls hH hS hL
  have hin := am_in hx hj hN
  refine W.zast X.1 X.2.1 (hH a _ hM).1 ((X.K.2 2 _ rfl).1 N (fun j => .int (f j))) (fun q => by cases q) (by show ¬ (x < 0 ∨ (arrV _ _ _).slots.size ≤ _); rw [arrV_size]; exact hin) rfl rfl d fun H1 e1 z oq => ?_
  rw [am_cl hx hj hN, hy] at e1
  refine kk H1 _ ls (hH.put hM ?_ oq) (hS.put z oq (hH a _ hM).2) hL
  show H1[a]? = some (vp_cell _ _)
  rw [e1, vp_cell_i, vp_cell_i, arrV_store]
  congr 2
  funext q
  by_cases hq : q = j
  · subst hq
    simp [updV, upd]
  · simp [updV, upd, hq]
theorem aw_last (X : am_X own cc Z) {N j a : Nat} {x : Int32} {y : Int64} {f : Nat → Int64} (d : decode cc pc = .ok (.lastore, 1)) (hM : M a = some (am_al (zG Z) N f)) (hx : x = nI j) (hj : j < N) (hN : N < 2 ^ 31)
    (kk : AW Z Q (am_up M a (am_al (zG Z) N (vp_updL f j y))) k n (pc + 1) L st) : AW Z Q M k n pc L (.long y :: .int x :: .ref a :: st) := by
  intro H locs ls hH hS hL
  have hin := am_in hx hj hN
  refine W.last X.1 X.2.1 (hH a _ hM).1 ((X.K.2 1 _ rfl).1 N (fun j => .long (f j))) (fun q => by cases q) (by show ¬ (x < 0 ∨ (arrV _ _ _).slots.size ≤ _); rw [arrV_size]; exact hin) rfl rfl d fun H1 e1 z oq => ?_
  rw [am_cl hx hj hN] at e1
  refine kk H1 _ ls (hH.put hM ?_ oq) (hS.put z oq (hH a _ hM).2) hL
  show H1[a]? = some (vp_cell _ _)
  rw [e1, vp_cell_l, vp_cell_l, arrV_store]
  congr 2
  funext q
  by_cases hq : q = j
  · subst hq
    simp [updV, vp_updL]
  · simp [updV, vp_updL, hq]
/-- the class ci may stand in arrays over E -/
def am_as (ci t : Nat) : Prop := ∃ (C E : String) (T : u_T) (N : Nat), vwCl[ci]? = some (C, T, N) ∧ am_T t E ∧ (C = E ∨ Cond.castable C E ∈ lw_tbl)
theorem aw_aast (X : am_X own cc Z) {t N j a v ci : Nat} {vs : List Value} {x : Int32} {f : Nat → Option Nat} (has : am_as ci t) (d : decode cc pc = .ok (.aastore, 1)) (hM : M a = some (am_aq (zG Z) t N f)) (hV : M v = some (.inr (ci, vs))) (hx : x = nI j) (hj : j < N) (hN : N < 2 ^ 31)
    (kk : AW Z Q (am_up M a (am_aq (zG Z) t N (va_up f j (some v)))) k n (pc + 1) L st) : AW Z Q M k n pc L (.ref v :: .int x :: .ref a :: st) := by
  intro H locs ls hH hS hL
  obtain ⟨C, E, T, N0, hc, hT, hCE⟩ := has
  have hin := am_in hx hj hN
  have hlt : x.toNatClampNeg < N := Nat.not_le.mp fun q => hin (Or.inr q)
  have h0 : ¬ x < 0 := fun q => hin (Or.inl q)
  obtain ⟨r', hr', cellV, g1, g2, g3, -⟩ := (hH v _ hV).1
  have hcls := (X.K.1 ci _ hc).2
  obtain ⟨kA, comp, k1, k2, k3, -⟩ := (X.K.2 t _ (hT _)).2
  obtain ⟨kC, hkC, -⟩ := hcls.2
  have hasg : (zs Z).vm.assignable ((zG Z).1.1 ci) comp = true := by
    rcases hCE with rfl | h
    · have hcomp : comp = (zG Z).1.1 ci := Option.some.inj (k3.symm.trans hcls.1)
      rw [hcomp]
      exact va_assign hcls
    · exact vb_asgC (va_Nw.of rfl (X.w h rfl)) comp _ k3 hcls.1
  have hkcomp : ∃ kk, (zs Z).vm.classes[comp]? = some kk := by
    obtain ⟨k9, h9, -⟩ := Vm.findClass_spec k3
    exact ⟨k9, h9⟩
  obtain ⟨kcomp, hkcomp⟩ := hkcomp
  refine W.aast X.1 X.2.1 (hH a _ hM).1 (fun q h => by cases h) (fun h => by cases h) k1 k2 rfl hkcomp ⟨h0, by show _ < (arrV _ _ _).slots.size; rw [arrV_size]; exact hlt⟩ g1 (fun q h => by rw [g3] at h; cases h) (by rw [g2]; exact hkC) (by rw [g2]; exact hasg) rfl rfl d fun H1 e1 z oq => ?_
  rw [am_cl hx hj hN] at e1
  refine kk H1 _ ls (hH.put hM ?_ oq) (hS.put z oq (hH a _ hM).2) hL
  show H1[a]? = some (vp_cell _ _)
  rw [e1, vp_cell_q, vp_cell_q, arrV_store]
  congr 2
  funext q
  by_cases hq : q = j
  · subst hq
    simp [updV, va_up, va_rf]
  · simp [updV, va_up, hq]
theorem aw_aastN (X : am_X own cc Z) {t N j a : Nat} {E : String} {x : Int32} {f : Nat → Option Nat} (ht : am_T t E) (d : decode cc pc = .ok (.aastore, 1)) (hM : M a = some (am_aq (zG Z) t N f)) (hx : x = nI j) (hj : j < N) (hN : N < 2 ^ 31)
    (kk : AW Z Q (am_up M a (am_aq (zG Z) t N (va_up f j none))) k n (pc + 1) L st) : AW Z Q M k n pc L (.null :: .int x :: .ref a :: st) := by
  intro H locs ls hH hS hL
  have hin := am_in hx hj hN
  refine va_WaastN (C := E) X.1 X.2.1 (hH a _ hM).1 ((X.K.2 t _ (ht _)).1 N (fun j => va_rf (f j))) (fun h => by cases h) (by show ¬ (x < 0 ∨ (arrV _ _ _).slots.size ≤ _); rw [arrV_size]; exact hin) rfl rfl d fun H1 e1 z oq => ?_
  rw [am_cl hx hj hN] at e1
  refine kk H1 _ ls (hH.put hM ?_ oq) (hS.put z oq (hH a _ hM).2) hL
  show H1[a]? = some (vp_cell _ _)
  rw [e1, vp_cell_q, vp_cell_q, arrV_store]
  congr 2
  funext q
  by_cases hq : q = j
  · subst hq
    simp [updV, va_up, va_rf]
  · simp [updV, va_up, hq]
/-- an array's length -/
theorem aw_alen (X : am_X own cc Z) {a N : Nat} {x : vp_A} {cA : ClassId} (d : decode cc pc = .ok (.arraylength, 1)) (hM : M a = some (.inl (cA, x))) {t : Nat} {ty : FieldType} (ht : (am_tys (zG Z))[t]? = some (cA, ty)) (hN : x.1 = N)
    (kk : AW Z Q M k n (pc + 1) L (.int (nI N) :: st)) : AW Z Q M k n pc L (.ref a :: st) := by
  intro H locs ls hH hS hL
  subst hN
  exact va_alen X.1 X.2.1 X.K (hH.P hM) 0 t rfl ht rfl d (kk H locs ls hH hS hL)
/-! new cells: at the heap's end, an address that the map doesn't know -/
theorem aw_new (X : am_X own cc Z) {idx ci N : Nat} {C : String} {T : u_T} {fs : List Value} (hC : am_C ci C T N) (ty : Nat → FieldType) (hty : ∀ k, k < N → parseFieldDescriptor (T k).2.2.1 = some (ty k)) (hfs : ∀ j, j < N → defaultValue (ty j) = vp_V fs j)
    (hcl : Cond.classLink own idx C ∈ lw_tbl) (hin : Cond.instantiable C N ∈ lw_tbl) (hini : Cond.initialized C ∈ lw_tbl) (d : decode cc pc = .ok (.new idx, 3)) (h1 : k + 1 ≤ (zR Z).cells) (h2 : n + N ≤ (zR Z).slots)
    (kk : ∀ q : Nat, am_A (zG Z) q → (∀ j e, M j = some e → j < q) → AW Z Q (am_up M q (.inr (ci, fs))) (k + 1) (n + N) (pc + 3) L (.ref q :: st)) : AW Z Q M k n pc L st := by
  intro H locs ls hH hS hL
  have hKn := X.K.1 ci _ hC.1
  refine W.newcK X.1 X.2.1 X.2.2.2.1 (X.w hcl rfl) (X.w hin rfl) (X.w hini rfl) rfl d h1 h2 hKn.2.1 rfl fun H1 kC hkC e1 z1 o1 => ?_
  exact kk H.size (X.A hS) (fun j e hj => hH.lt hj) H1 locs ls (hH.add rfl (X.A hS) ⟨_, hC.1, (u_born ty (hC.ts X) (fun _ h => h) hKn hkC e1 hty).to hfs⟩ o1) (am_S.add hS rfl z1 o1) hL
theorem aw_newa (X : am_X own cc Z) {atype : ArrayType} {ty : FieldType} (t N : Nat) (a0 : vp_A) {x : Int32} (harr : Cond.arrayClass (newarray.typeOf atype) ∈ lw_tbl) (hty : newarray.typeOf atype = ty) (ht : ∀ G : AG, (am_tys G)[t]? = some (G.2.1 t, ty)) (hra : ∀ (U : State) (cA : ClassId), va_RA U cA ty → U.vm.findClass ("[" ++ ty.toString) = some cA)
    (ha : ∀ cA : ClassId, vp_cell cA a0 = arrV cA N (fun _ => defaultValue ty)) (d : decode cc pc = .ok (.newarray atype, 2)) (hx : x = nI N) (hN : N < 65536) (hb : N * componentBytes ty ≤ 536870912) (h1 : k + 1 ≤ (zR Z).cells) (h2 : n + N ≤ (zR Z).slots)
    (kk : ∀ q : Nat, am_A (zG Z) q → (∀ j e, M j = some e → j < q) → AW Z Q (am_up M q (.inl ((zG Z).2.1 t, a0))) (k + 1) (n + N) (pc + 2) L (.ref q :: st)) : AW Z Q M k n pc L (.int x :: st) := by
  intro H locs ls hH hS hL
  subst hty
  refine va_newaK X.1 X.2.1 (X.w harr rfl) rfl d rfl (by rw [hx]; exact nI_pos (by omega)) (by rw [hx]; exact nI_clamp (by omega)) hb h1 h2 rfl fun H1 cA e1 z1 o1 hAr hNm => ?_
  have hcA : cA = (zG Z).2.1 t := Option.some.inj (hNm.symm.trans (hra _ _ (X.K.2 t _ (ht _)).2))
  subst hcA
  exact kk H.size (X.A hS) (fun j e hj => hH.lt hj) H1 locs ls (hH.add rfl (X.A hS) (by show H1[H.size]? = some (vp_cell _ _); rw [ha]; exact e1) o1) (am_S.add hS rfl z1 o1) hL
theorem aw_newq (X : am_X own cc Z) {idx t N : Nat} {E : String} {x : Int32} (ht : am_T t E) (hcl : Cond.classLink own idx E ∈ lw_tbl) (hov : Cond.arrayOver (.object E) ∈ lw_tbl) (d : decode cc pc = .ok (.anewarray idx, 3)) (hx : x = nI N) (hN : N < 65536) (h1 : k + 1 ≤ (zR Z).cells) (h2 : n + N ≤ (zR Z).slots)
    (kk : ∀ q : Nat, am_A (zG Z) q → (∀ j e, M j = some e → j < q) → AW Z Q (am_up M q (am_aq (zG Z) t N (fun _ => none))) (k + 1) (n + N) (pc + 3) L (.ref q :: st)) : AW Z Q M k n pc L (.int x :: st) := by
  intro H locs ls hH hS hL
  have hcl0 : x.toNatClampNeg = N := by rw [hx]; exact nI_clamp (by omega)
  refine W.anew X.1 X.2.1 X.2.2.2.1 (X.w hcl rfl) (X.w hov rfl) rfl d rfl (by rw [hx]; exact nI_pos (by omega)) (by rw [hcl0]; omega) h1 (by rw [hcl0]; exact h2) fun cA kA comp f1 f2 f3 f4 => ?_
  obtain ⟨kA', comp', g1, g2, g3, g4⟩ := (X.K.2 t _ (ht _)).2
  have hcA : cA = (zG Z).2.1 t := Option.some.inj (f1.symm.trans g4)
  subst hcA
  rw [hcl0]
  generalize hH1 : H.push ({ cls := (zG Z).2.1 t, slots := Array.replicate N .null, vm := .none } : Cell) = H1
  have z1 : H1.size = H.size + 1 := by rw [← hH1, Array.size_push]
  have e1 : H1[H.size]? = some (arrV ((zG Z).2.1 t) N (fun _ => .null)) := by rw [← hH1, Array.getElem?_push_size, ← arrV_new]
  have o1 : ∀ q : Nat, q < H.size → H1[q]? = H[q]? := fun q hq => by rw [← hH1, Array.getElem?_push, if_neg (Nat.ne_of_lt hq)]
  exact kk H.size (X.A hS) (fun j e hj => hH.lt hj) H1 locs ls (hH.add rfl (X.A hS) (by show H1[H.size]? = some (vp_cell _ _); rw [vp_cell_q]; exact e1) o1) (am_S.add hS rfl z1 o1) hL
/-- Object() -/
theorem aw_obj (X : am_X own cc Z) {idx a : Nat} (hl : Cond.methodLink own idx Lib.objectInit ∈ lw_tbl) (hi : Cond.instanceMethod Lib.objectInit ∈ lw_tbl) (hcd : Cond.code Lib.objectInit ⟨#[0xb1]⟩ 1 none ∈ lw_tbl) (d : decode cc pc = .ok (.invokespecial idx, 3)) (h1 : 1 ≤ (zR Z).frames) (h2 : (st.map fun v => v.category).sum + 12 ≤ (zR Z).locals)
    (kk : AW Z Q M k n (pc + 3) L st) : AW Z Q M k n pc L (.ref a :: st) := by
  intro H locs ls hH hS hL
  refine W.objInit X.1 X.2.1 X.2.2.2.1 (X.w hl rfl) (X.w hi rfl) (X.w hcd rfl) rfl (by rw [X.2.2.1]; exact hL.1) rfl d h1 (by show 2 * JFrame.monitorRoom _ + _ + _ ≤ _; have h3 : (F0 (zm Z) pc ls (.ref a :: st)).monitorRoom = 0 := rfl; omega) ?_
  exact kk H locs ls hH hS hL
/-- constants of the pool -/
theorem aw_ldc2 (X : am_X own cc Z) {idx : Nat} {v : Int64} (hw : Cond.constantLong own idx v ∈ lw_tbl) (d : decode cc pc = .ok (.ldc2_w idx, 3)) (kk : AW Z Q M k n (pc + 3) L (.long v :: st)) : AW Z Q M k n pc L st := fun H locs ls hH hS hL => lv_ldc2 X.1 X.2.1 X.2.2.2.1 (X.w hw rfl) d (kk H locs ls hH hS hL)
theorem aw_ldc (X : am_X own cc Z) {idx : Nat} {v : Int32} (hw : Cond.constant own idx v ∈ lw_tbl) (d : decode cc pc = .ok (.ldc idx, 2)) (kk : AW Z Q M k n (pc + 2) L (.int v :: st)) : AW Z Q M k n pc L st := fun H locs ls hH hS hL => lv_ldc X.1 X.2.1 X.2.2.2.1 (X.w hw rfl) d (kk H locs ls hH hS hL)
end AMheap
end
section
section AMcalls
def am_Pc (G : AG) (M : AM) (av : List Value) : Array Value → State → Prop := va_Pc av (fun U => am_E G U ∧ am_H G M U.heap)
def am_Qc (G : AG) (post : Option Value → AM → Prop) : Array Value → State → Outcome → State → Prop := fun _ s0 oc t => (∃ (v : Option Value) (M' : AM), oc = .returned v ∧ post v M' ∧ am_H G M' t.heap) ∧ va_F (am_A G) s0 t
def am_XC (G : AG) (px : String → AM → Prop) : String → State → State → Prop := fun E s0 t => (∃ M' : AM, px E M' ∧ am_H G M' t.heap) ∧ va_F (am_A G) s0 t
theorem am_Pc.blind (G : AG) (M : AM) (av : List Value) : FrameBlind (am_Pc G M av) := fun a U g mk h => ⟨h.1, h.2.1.cl, h.2.2⟩
/-- a contract: from the map M, with these arguments, it returns with post -/
def Cn (l : Launch) (G : AG) (y : MethodName) (cc : ByteArray) (maxL : Nat) (ret : Option FieldType) (rm : Room) (M : AM) (av : List Value) (post : Option Value → AM → Prop) : Prop :=
  Met l y [Cond.code y cc maxL ret] rm (am_Pc G M av) (am_Qc G post) rm.cells rm.slots (am_A G)
/-- .. or throws with px -/
def Cx (l : Launch) (G : AG) (y : MethodName) (cc : ByteArray) (maxL : Nat) (ret : Option FieldType) (rm : Room) (M : AM) (av : List Value) (post : Option Value → AM → Prop) (px : String → AM → Prop) : Prop :=
  vx_Met l y [Cond.code y cc maxL ret] rm (am_Pc G M av) (am_Qc G post) (am_XC G px) rm.cells rm.slots (am_A G)
/-- of a method with handlers -/
def Cw (l : Launch) (G : AG) (y : MethodName) (cc : ByteArray) (maxL : Nat) (ret : Option FieldType) (hh : List (Nat × Nat × Nat × Nat)) (rm : Room) (M : AM) (av : List Value) (post : Option Value → AM → Prop) : Prop :=
  Met l y [Cond.codeWith y cc maxL ret hh] rm (am_Pc G M av) (am_Qc G post) rm.cells rm.slots (am_A G)
def am_Q (Z : AZ) (post : Option Value → AM → Prop) (px : String → AM → Prop) (mc ms : Nat) : State → Prop := vx_MQ (zb Z) (am_Qc (zG Z) post) (am_XC (zG Z) px) (za Z) (zs Z) mc ms (am_A (zG Z))
def am_args (av : List Value) (nL : Nat) : List (Option Value) := (av.flatMap fun v => if v.category = 2 then [some v, none] else [some v]) ++ List.replicate (nL - (lg_sl av).length) none
theorem am_args_in : ∀ (av : List Value) (i : Nat) (N : Nat) (k : Nat) (v : Value), ((av.flatMap fun v => if v.category = 2 then [some v, none] else [some v]) ++ List.replicate N none)[k]? = some (some v) → (i + k, v) ∈ lv_args i av
  | [], i, N, k, v, h => by
    simp only [List.flatMap_nil, List.nil_append] at h
    have := List.mem_of_getElem? h
    simp at this
  | u :: t, i, N, k, v, h => by
    by_cases hc : u.category = 2
    · simp only [List.flatMap_cons, hc, if_true, lv_args] at h ⊢
      match k, h with
      | 0, h =>
        simp at h
        rw [h]
        exact List.mem_cons_self
      | 1, h => simp at h
      | k + 2, h =>
        have h1 := am_args_in t (i + 2) N k v (by simpa using h)
        rw [show i + (k + 2) = i + 2 + k by omega]
        exact List.mem_cons_of_mem _ h1
    · simp only [List.flatMap_cons, hc, if_false, lv_args] at h ⊢
      match k, h with
      | 0, h =>
        simp at h
        rw [h]
        exact List.mem_cons_self
      | k + 1, h =>
        have h1 := am_args_in t (i + 1) N k v (by simpa using h)
        rw [show i + (k + 1) = i + 1 + k by omega]
        exact List.mem_cons_of_mem _ h1
theorem am_args_has {av : List Value} {nL : Nat} (h : (lg_sl av).length ≤ nL) : am_L ((lg_sl av ++ List.replicate (nL - (lg_sl av).length) Slot.unset).toArray) nL (am_args av nL) := by
  refine am_L.of (lv_entry av h) fun k v hk => ?_
  have h1 := am_args_in av 0 _ k v hk
  rwa [Nat.zero_add] at h1
/-- what a body may take for granted -/
def am_B (Z : AZ) (l : Launch) (G : AG) (y : MethodName) (cc : ByteArray) (maxL : Nat) (ret : Option FieldType) (rm : Room) : Prop :=
  zG Z = G ∧ zn Z = maxL ∧ zl Z = l ∧ zR Z = rm ∧ am_X y.cls cc Z ∧ (zM Z).sig.returnType = ret ∧ (zM Z).name = y.name
theorem Cx.of {l : Launch} {G : AG} {y : MethodName} {cc : ByteArray} {maxL : Nat} {ret : Option FieldType} {rm : Room} {M : AM} {av : List Value} {post : Option Value → AM → Prop} {px : String → AM → Prop} (hy : plainName y.cls = true) (L : List (Option Value)) (hL : am_args av maxL = L) (hlen : (lg_sl av).length ≤ maxL)
    (body : ∀ Z : AZ, am_B Z l G y cc maxL ret rm → (∀ x ∈ (zc Z).exceptionTable.toList, False) → AW Z (am_Q Z post px rm.cells rm.slots) M 0 0 0 L []) : Cx l G y cc maxL ret rm M av post px := by
  subst hL
  refine vx_ofW (cc := cc) (maxL := maxL) (ret := ret) hy rfl ?_
  intro p e s m args below meth c s₁ B hml htab hv
  obtain ⟨rfl, hE, hM⟩ := hv
  rw [lg_entry_eq]
  exact body (G, maxL, p, l, e, rm, s, m, av.toArray, below, meth, c) ⟨rfl, rfl, rfl, rfl, ⟨B.exec, B.bytes, hml, findClass_of_methodNamed B.named, B.notSynchronized, fun w hw hk => am_ok_any hk (hE.1 w hw hk), hE⟩, B.returns, (name_of_methodNamed B.named B.method).1⟩ htab s.heap [] _ hM va_S.rf (am_args_has hlen)
theorem am_noX {below : List Frame} {Qc : Array Value → State → Outcome → State → Prop} {a : Array Value} {s : State} {mc ms : Nat} {G : AG} {t : State} (h : vx_MQ below Qc (am_XC G (fun _ _ => False)) a s mc ms (am_A G) t) : MQ below Qc a s mc ms (am_A G) t := by
  obtain ⟨o, h1, h2, h3⟩ := h
  rcases h3 with ⟨h4, h5⟩ | ⟨q, -, E, ce, L, hx, -⟩
  · exact ⟨o, h1, h2, h4, h5⟩
  · obtain ⟨⟨M', h, -⟩, -⟩ := hx
    exact h.elim
theorem Cn.of {l : Launch} {G : AG} {y : MethodName} {cc : ByteArray} {maxL : Nat} {ret : Option FieldType} {rm : Room} {M : AM} {av : List Value} {post : Option Value → AM → Prop} (hy : plainName y.cls = true) (L : List (Option Value)) (hL : am_args av maxL = L) (hlen : (lg_sl av).length ≤ maxL)
    (body : ∀ Z : AZ, am_B Z l G y cc maxL ret rm → AW Z (am_Q Z post (fun _ _ => False) rm.cells rm.slots) M 0 0 0 L []) : Cn l G y cc maxL ret rm M av post := by
  subst hL
  refine Met.ofW (cc := cc) (maxL := maxL) (ret := ret) hy rfl ?_
  intro p e s m args below meth c s₁ B hml hv
  obtain ⟨rfl, hE, hM⟩ := hv
  rw [lg_entry_eq]
  intro T hT hX
  obtain ⟨t, h1, h2⟩ := body (G, maxL, p, l, e, rm, s, m, av.toArray, below, meth, c) ⟨rfl, rfl, rfl, rfl, ⟨B.exec, B.bytes, hml, findClass_of_methodNamed B.named, B.notSynchronized, fun w hw hk => am_ok_any hk (hE.1 w hw hk), hE⟩, B.returns, (name_of_methodNamed B.named B.method).1⟩ s.heap [] _ hM va_S.rf (am_args_has hlen) T hT hX
  exact ⟨t, h1, am_noX h2⟩
theorem Cw.of {l : Launch} {G : AG} {y : MethodName} {cc : ByteArray} {maxL : Nat} {ret : Option FieldType} {hh : List (Nat × Nat × Nat × Nat)} {rm : Room} {M : AM} {av : List Value} {post : Option Value → AM → Prop} (hy : plainName y.cls = true) (L : List (Option Value)) (hL : am_args av maxL = L) (hlen : (lg_sl av).length ≤ maxL)
    (body : ∀ Z : AZ, am_B Z l G y cc maxL ret rm → (zc Z).exceptionTable.toList = tableOf hh → AW Z (am_Q Z post (fun _ _ => False) rm.cells rm.slots) M 0 0 0 L []) : Cw l G y cc maxL ret hh rm M av post := by
  subst hL
  refine va_MetW (cc := cc) (maxL := maxL) (ret := ret) (hh := hh) hy rfl ?_
  intro p e s m args below meth c s₁ B hml hv
  have htab := vx_table (x := y) B (atoms_spec (ws := [Cond.codeWith y cc maxL ret hh]) B.pre _ List.mem_cons_self)
  obtain ⟨rfl, hE, hM⟩ := hv
  rw [lg_entry_eq]
  intro T hT hX
  obtain ⟨t, h1, h2⟩ := body (G, maxL, p, l, e, rm, s, m, av.toArray, below, meth, c) ⟨rfl, rfl, rfl, rfl, ⟨B.exec, B.bytes, hml, findClass_of_methodNamed B.named, B.notSynchronized, fun w hw hk => am_ok_any hk (hE.1 w hw hk), hE⟩, B.returns, (name_of_methodNamed B.named B.method).1⟩ htab s.heap [] _ hM va_S.rf (am_args_has hlen) T hT hX
  exact ⟨t, h1, am_noX h2⟩
theorem Cn.le {l : Launch} {G : AG} {y : MethodName} {cc : ByteArray} {maxL : Nat} {ret : Option FieldType} {rm : Room} {M : AM} {av : List Value} {post post' : Option Value → AM → Prop} (h : Cn l G y cc maxL ret rm M av post) (hp : ∀ v M', post v M' → post' v M') : Cn l G y cc maxL ret rm M av post' := by
  intro p e ha hc hk s m args below hf happ hP hK
  obtain ⟨n, o, h1, h2, h3, ⟨⟨v, M', h4, h5, h6⟩, h7⟩, h8⟩ := h p e ha hc hk s m args below hf happ hP hK
  exact ⟨n, o, h1, h2, h3, ⟨⟨v, M', h4, hp v M' h5, h6⟩, h7⟩, h8⟩
variable {Z : AZ} {own : String} {cc : ByteArray} {Q : State → Prop} {M : AM} {k n pc : Nat} {L : List (Option Value)} {st st0 : List Value}
variable {post : Option Value → AM → Prop} {px : String → AM → Prop}
/-! ends -/
theorem aw_ireturn (X : am_X own cc Z) {ty : FieldType} {v : Int32} (hr : (zM Z).sig.returnType = some ty) (hn : narrow ty (.int v) = .int v) (d : decode cc pc = .ok (.ireturn, 1)) (hp : post (some (.int v)) M) : AW Z (am_Q Z post px k n) M k n pc L [.int v] :=
  fun H locs ls hH hS hL => vx_ret (W.zret X.1 X.2.1 hr hn (fun t ht hW => ⟨⟨some (.int v), M, rfl, hp, by rw [ht]; exact hH⟩, hS.F ht⟩) hS.2.2 d X.2.2.2.2.1)
theorem aw_lreturn (X : am_X own cc Z) {v : Int64} (hr : (zM Z).sig.returnType = some .long) (d : decode cc pc = .ok (.lreturn, 1)) (hp : post (some (.long v)) M) : AW Z (am_Q Z post px k n) M k n pc L [.long v] :=
  fun H locs ls hH hS hL => vx_ret (W.lret X.1 X.2.1 hr (fun t ht hW => ⟨⟨some (.long v), M, rfl, hp, by rw [ht]; exact hH⟩, hS.F ht⟩) hS.2.2 d X.2.2.2.2.1)
theorem aw_vreturn (X : am_X own cc Z) (hr : (zM Z).sig.returnType = none) (d : decode cc pc = .ok (.return_, 1)) (hp : post none M) : AW Z (am_Q Z post px k n) M k n pc L [] :=
  fun H locs ls hH hS hL => vx_ret (W.vret X.1 X.2.1 hr (fun t ht hW => ⟨⟨none, M, rfl, hp, by rw [ht]; exact hH⟩, hS.F ht⟩) hS.2.2 d X.2.2.2.2.1)
theorem aw_areturn (X : am_X own cc Z) {rt : FieldType} {v : Value} (hr : (zM Z).sig.returnType = some rt) (hrt : (∃ n, rt = .object n) ∨ ∃ t, rt = .array t) (hv : v = .null ∨ ∃ a, v = .ref a) (d : decode cc pc = .ok (.areturn, 1)) (hp : post (some v) M) : AW Z (am_Q Z post px k n) M k n pc L [v] :=
  fun H locs ls hH hS hL => vx_ret (W.aret X.1 X.2.1 hr hrt hv (fun t ht hW => ⟨⟨some v, M, rfl, hp, by rw [ht]; exact hH⟩, hS.F ht⟩) hS.2.2 d X.2.2.2.2.1)
/-! calls -/
theorem aw_after {free : Addr → Prop} {mc ms : Nat} {a : Array Value} (hfr : free = am_A (zG Z)) (hr : ∀ (H : Heap) (locs : List Loc) (ls : Array Slot), am_H (zG Z) M H → va_S (am_A (zG Z)) (zs Z).heap H locs → am_L ls (zn Z) L → va_Run (zp Z) (zl Z) (ze Z) (zR Z) (zs Z) (zm Z) (za Z) (zb Z) (zM Z) (zc Z) H locs k n mc ms (F0 (zm Z) pc ls st0) st (am_Qc (zG Z) post a) free)
    (kk : ∀ (v : Option Value) (M' : AM), post v M' → AW Z Q M' (k + mc) (n + ms) (pc + 3) L (v.toList ++ st)) : AW Z Q M k n pc L st0 := by
  subst hfr
  intro H locs ls hH hS hL T hT X
  obtain ⟨v, st₀, t, T', Lo, h0, X', hLo, e1, e2, ⟨⟨v', M', hv, hp, hH'⟩, hz, hk⟩, hst⟩ := hr H locs ls hH hS hL T hT X
  cases hv
  rw [h0] at hz hk
  obtain ⟨t2, a1, b1⟩ := kk v M' hp T'.heap (locs ++ Lo) ls (by rw [e1]; exact hH') ⟨Nat.le_trans hS.1 (by rw [e1]; exact hz), fun q h1 h2 => by rw [e1, hk q (Nat.lt_of_lt_of_le h1 hS.1) h2]; exact hS.2.1 q h1 h2, fun q hq => (List.mem_append.mp hq).elim (hS.2.2 q) (hLo q)⟩ hL T' rfl X'
  exact ⟨t2, hst t2 a1, b1⟩
/-- what holds where an exception is under way -/
def AX (Z : AZ) (Q : State → Prop) (M : AM) (k n pc : Nat) (L : List (Option Value)) (st : List Value) (E : String) : Prop :=
  ∀ (H : Heap) (locs : List Loc) (ls : Array Slot) (ce : Cell) (q : Addr), am_H (zG Z) M H → va_S (am_A (zG Z)) (zs Z).heap H locs → am_L ls (zn Z) L → H[q]? = some ce → ce.vm = .none → (zs Z).vm.findClass E = some ce.cls →
    vx_W (zp Z) (zl Z) (ze Z) (zR Z) (zs Z) (zm Z) (za Z) (zb Z) (zM Z) (zc Z) H locs k n Q (F0 (zm Z) pc ls st) q
theorem aw_afterX {free : Addr → Prop} {mc ms : Nat} {a : Array Value} (hfr : free = am_A (zG Z)) (hr : ∀ (H : Heap) (locs : List Loc) (ls : Array Slot), am_H (zG Z) M H → va_S (am_A (zG Z)) (zs Z).heap H locs → am_L ls (zn Z) L → vx_Run (zp Z) (zl Z) (ze Z) (zR Z) (zs Z) (zm Z) (za Z) (zb Z) (zM Z) (zc Z) H locs k n mc ms (F0 (zm Z) pc ls st0) st (am_Qc (zG Z) post a) (am_XC (zG Z) px) free)
    (kk : ∀ (v : Option Value) (M' : AM), post v M' → AW Z Q M' (k + mc) (n + ms) (pc + 3) L (v.toList ++ st)) (kx : ∀ (E : String) (M' : AM), px E M' → AX Z Q M' (k + mc) (n + ms) pc L st E) : AW Z Q M k n pc L st0 := by
  subst hfr
  intro H locs ls hH hS hL T hT X
  rcases hr H locs ls hH hS hL T hT X with ⟨v, st₀, t, T', Lo, h0, X', hLo, e1, e2, ⟨⟨v', M', hv, hp, hH'⟩, hz, hk⟩, hst⟩ | ⟨q, st₀, t, T', Lo, E, ce, h0, X', hLo, e1, e2, ⟨⟨M', hp, hH'⟩, hz, hk⟩, hce, hcv, hcl, hst⟩
  · cases hv
    rw [h0] at hz hk
    obtain ⟨t2, a1, b1⟩ := kk v M' hp T'.heap (locs ++ Lo) ls (by rw [e1]; exact hH') ⟨Nat.le_trans hS.1 (by rw [e1]; exact hz), fun q h1 h2 => by rw [e1, hk q (Nat.lt_of_lt_of_le h1 hS.1) h2]; exact hS.2.1 q h1 h2, fun q hq => (List.mem_append.mp hq).elim (hS.2.2 q) (hLo q)⟩ hL T' rfl X'
    exact ⟨t2, hst t2 a1, b1⟩
  · rw [h0] at hz hk
    obtain ⟨t2, a1, b1⟩ := kx E M' hp T'.heap (locs ++ Lo) ls ce q (by rw [e1]; exact hH') ⟨Nat.le_trans hS.1 (by rw [e1]; exact hz), fun q h1 h2 => by rw [e1, hk q (Nat.lt_of_lt_of_le h1 hS.1) h2]; exact hS.2.1 q h1 h2, fun q hq => (List.mem_append.mp hq).elim (hS.2.2 q) (hLo q)⟩ hL (by rw [e1]; exact hce) hcv hcl T' rfl X'
    exact ⟨t2, hst.trans a1, b1⟩
/-- the words of a call -/
def am_cw (own : String) (idx : Nat) (y : MethodName) (bytes : ByteArray) (maxL : Nat) (ret : Option FieldType) (nA : Nat) : Prop :=
  Cond.code y bytes maxL ret ∈ lw_tbl ∧ Cond.initialized y.cls ∈ lw_tbl ∧ (y.cls ≠ "java/lang/invoke/MethodHandle" ∧ y.cls ≠ "java/lang/invoke/VarHandle") ∧ (parseMethodDescriptor y.desc).map (fun d => d.parameters.length) = some nA ∧ Cond.methodLink own idx y ∈ lw_tbl
def am_cv (own : String) (idx : Nat) (C : String) (y : MethodName) (bytes : ByteArray) (maxL : Nat) (ret : Option FieldType) (nA : Nat) : Prop :=
  am_cw own idx y bytes maxL ret nA ∧ Cond.instanceMethod y ∈ lw_tbl ∧ Cond.selects C y y ∈ lw_tbl
def am_cs (own : String) (idx : Nat) (y : MethodName) (bytes : ByteArray) (maxL : Nat) (ret : Option FieldType) (nA : Nat) : Prop :=
  am_cw own idx y bytes maxL ret nA ∧ Cond.static y ∈ lw_tbl
/-- the room of a call -/
def am_rm (rm R : Room) (maxL : Nat) : Prop := rm.frames + 1 ≤ R.frames ∧ 8 + (maxL + 11) + rm.locals ≤ R.locals
theorem am_code_mv {y : MethodName} {bytes : ByteArray} {maxL : Nat} {ret : Option FieldType} {a : Array Value} {s : State} (h : (Cond.code y bytes maxL ret).before a s = true) : ∀ w ∈ [Cond.code y bytes maxL ret], ∀ (a' : Array Value) (U : State), s.WarmedH U.vm → w.before a' U = true := by
  intro w hw a' U hW
  rw [List.mem_singleton.mp hw]
  exact am_ok_any (w := Cond.code y bytes maxL ret) rfl (am_ok_mv (w := Cond.code y bytes maxL ret) rfl hW (am_ok_any rfl h))
theorem am_callB (X : am_X own cc Z) {idx : Nat} {y : MethodName} {bytes : ByteArray} {maxL : Nat} {ret : Option FieldType} {nA : Nat} {rm : Room} (h : am_cw own idx y bytes maxL ret nA) (hR : am_rm rm (zR Z) maxL) : CallB (zR Z) (zs Z) (za Z) own idx y bytes maxL ret [Cond.code y bytes maxL ret] rm rm.cells rm.slots nA := by
  obtain ⟨h1, h2, h3, h4, h5⟩ := h
  refine ⟨rfl, rfl, hR.1, hR.2, am_code_mv (X.w h1 rfl), List.mem_cons_self, X.w h1 rfl, X.w h2 rfl, h3, fun sig hs => ?_, X.w h5 rfl⟩
  rw [hs] at h4
  exact (Option.some.inj h4).symm
theorem am_preS (X : am_X own cc Z) {av : List Value} {H : Heap} {locs : List Loc} (hH : am_H (zG Z) M H) (hS : va_S (am_A (zG Z)) (zs Z).heap H locs) : PreS (zs Z) H (am_Pc (zG Z) M av) av :=
  ⟨am_Pc.blind _ _ _, fun U hU hW => ⟨rfl, X.2.2.2.2.2.2.mv hW (by rw [hU]; exact hS), by rw [hU]; exact hH⟩⟩
theorem am_preV (X : am_X own cc Z) {ci b : Nat} {C : String} {T : u_T} {N : Nat} {fs : List Value} {As : List Value} {H : Heap} {locs : List Loc} (hci : vwCl[ci]? = some (C, T, N)) (hM : M b = some (.inr (ci, fs))) (hH : am_H (zG Z) M H) (hS : va_S (am_A (zG Z)) (zs Z).heap H locs) : PreV (zs Z) H C b (am_Pc (zG Z) M (.ref b :: As)) As :=
  ⟨am_Pc.blind _ _ _, va_recv X.K (hH.P hM) (ci := ci) (q0 := 0) hci rfl, (am_preS X hH hS).2⟩
theorem aw_callV (X : am_X own cc Z) {idx ci b nA : Nat} {C : String} {T : u_T} {N : Nat} {fs : List Value} {As : List Value} {y : MethodName} {bytes : ByteArray} {maxL : Nat} {ret : Option FieldType} {rm : Room} (hc : Cn (zl Z) (zG Z) y bytes maxL ret rm M (.ref b :: As) post) (hw : am_cv own idx C y bytes maxL ret nA) (hci : vwCl[ci]? = some (C, T, N)) (hM : M b = some (.inr (ci, fs)))
    (d : decode cc pc = .ok (.invokevirtual idx, 3)) (hn : As.length = nA) (hst : st0 = As.reverse ++ .ref b :: st) (hW : (st.map fun v => v.category).sum ≤ 8) (hR : am_rm rm (zR Z) maxL) (hf : k + rm.cells ≤ (zR Z).cells ∧ n + rm.slots ≤ (zR Z).slots)
    (kk : ∀ (v : Option Value) (M' : AM), post v M' → AW Z Q M' (k + rm.cells) (n + rm.slots) (pc + 3) L (v.toList ++ st)) : AW Z Q M k n pc L st0 :=
  aw_after rfl (fun H locs ls hH hS hL => va_runV (Ts := []) ⟨X.1, X.2.1, X.2.2.1, X.2.2.2.1, fun w h => nomatch h⟩ hc ⟨am_callB X hw.1 hR, X.w hw.2.1 rfl, X.w hw.2.2 rfl⟩ (am_preV X hci hM hH hS) rfl hn hL.1 hst (lv_room hW) d hf) kk
theorem aw_callVX (X : am_X own cc Z) {idx ci b nA : Nat} {C : String} {T : u_T} {N : Nat} {fs : List Value} {As : List Value} {y : MethodName} {bytes : ByteArray} {maxL : Nat} {ret : Option FieldType} {rm : Room} (hc : Cx (zl Z) (zG Z) y bytes maxL ret rm M (.ref b :: As) post px) (hw : am_cv own idx C y bytes maxL ret nA) (hci : vwCl[ci]? = some (C, T, N)) (hM : M b = some (.inr (ci, fs)))
    (d : decode cc pc = .ok (.invokevirtual idx, 3)) (hn : As.length = nA) (hst : st0 = As.reverse ++ .ref b :: st) (hW : (st.map fun v => v.category).sum ≤ 8) (hR : am_rm rm (zR Z) maxL) (hf : k + rm.cells ≤ (zR Z).cells ∧ n + rm.slots ≤ (zR Z).slots)
    (kk : ∀ (v : Option Value) (M' : AM), post v M' → AW Z Q M' (k + rm.cells) (n + rm.slots) (pc + 3) L (v.toList ++ st)) (kx : ∀ (E : String) (M' : AM), px E M' → AX Z Q M' (k + rm.cells) (n + rm.slots) pc L st E) : AW Z Q M k n pc L st0 :=
  aw_afterX rfl (fun H locs ls hH hS hL => vx_runV (Ts := []) ⟨X.1, X.2.1, X.2.2.1, X.2.2.2.1, fun w h => nomatch h⟩ hc ⟨am_callB X hw.1 hR, X.w hw.2.1 rfl, X.w hw.2.2 rfl⟩ (am_preV X hci hM hH hS) rfl hn hL.1 hst (lv_room hW) d hf) kk kx
theorem aw_callS (X : am_X own cc Z) {idx nA : Nat} {As : List Value} {y : MethodName} {bytes : ByteArray} {maxL : Nat} {ret : Option FieldType} {rm : Room} (hc : Cn (zl Z) (zG Z) y bytes maxL ret rm M As post) (hw : am_cs own idx y bytes maxL ret nA)
    (d : decode cc pc = .ok (.invokestatic idx, 3)) (hn : As.length = nA) (hst : st0 = As.reverse ++ st) (hW : (st.map fun v => v.category).sum ≤ 8) (hR : am_rm rm (zR Z) maxL) (hf : k + rm.cells ≤ (zR Z).cells ∧ n + rm.slots ≤ (zR Z).slots)
    (kk : ∀ (v : Option Value) (M' : AM), post v M' → AW Z Q M' (k + rm.cells) (n + rm.slots) (pc + 3) L (v.toList ++ st)) : AW Z Q M k n pc L st0 :=
  aw_after rfl (fun H locs ls hH hS hL => va_runS (Ts := []) ⟨X.1, X.2.1, X.2.2.1, X.2.2.2.1, fun w h => nomatch h⟩ hc ⟨am_callB X hw.1 hR, X.w hw.2 rfl⟩ (am_preS X hH hS) rfl hn hL.1 hst (lv_room hW) d hf) kk
theorem aw_callSX (X : am_X own cc Z) {idx nA : Nat} {As : List Value} {y : MethodName} {bytes : ByteArray} {maxL : Nat} {ret : Option FieldType} {rm : Room} (hc : Cx (zl Z) (zG Z) y bytes maxL ret rm M As post px) (hw : am_cs own idx y bytes maxL ret nA)
    (d : decode cc pc = .ok (.invokestatic idx, 3)) (hn : As.length = nA) (hst : st0 = As.reverse ++ st) (hW : (st.map fun v => v.category).sum ≤ 8) (hR : am_rm rm (zR Z) maxL) (hf : k + rm.cells ≤ (zR Z).cells ∧ n + rm.slots ≤ (zR Z).slots)
    (kk : ∀ (v : Option Value) (M' : AM), post v M' → AW Z Q M' (k + rm.cells) (n + rm.slots) (pc + 3) L (v.toList ++ st)) (kx : ∀ (E : String) (M' : AM), px E M' → AX Z Q M' (k + rm.cells) (n + rm.slots) pc L st E) : AW Z Q M k n pc L st0 :=
  aw_afterX rfl (fun H locs ls hH hS hL => vx_runS (Ts := []) ⟨X.1, X.2.1, X.2.2.1, X.2.2.2.1, fun w h => nomatch h⟩ hc ⟨am_callB X hw.1 hR, X.w hw.2 rfl⟩ (am_preS X hH hS) rfl hn hL.1 hst (lv_room hW) d hf) kk kx
/-- a constructor -/
def am_ci (own : String) (idx : Nat) (y : MethodName) (bytes : ByteArray) (maxL : Nat) (nA : Nat) : Prop :=
  (Cond.code y bytes maxL none ∈ lw_tbl ∧ Cond.initialized y.cls ∈ lw_tbl ∧ (y.cls ≠ "java/lang/invoke/MethodHandle" ∧ y.cls ≠ "java/lang/invoke/VarHandle") ∧ (parseMethodDescriptor y.desc).map (fun d => d.parameters.length) = some nA) ∧ (Cond.methodLink own idx y ∈ lw_tbl ∨ ∃ host, Cond.methodLinkNest own idx y host ∈ lw_tbl) ∧ y.name = "<init>" ∧ Cond.instanceMethod y ∈ lw_tbl
theorem aw_callI (X : am_X own cc Z) {idx b nA : Nat} {As : List Value} {y : MethodName} {bytes : ByteArray} {maxL : Nat} {rm : Room} (hc : Cn (zl Z) (zG Z) y bytes maxL none rm M (.ref b :: As) post) (hw : am_ci own idx y bytes maxL nA)
    (d : decode cc pc = .ok (.invokespecial idx, 3)) (hn : As.length = nA) (hst : st0 = As.reverse ++ .ref b :: st) (hW : (st.map fun v => v.category).sum ≤ 8) (hR : am_rm rm (zR Z) maxL) (hf : k + rm.cells ≤ (zR Z).cells ∧ n + rm.slots ≤ (zR Z).slots)
    (kk : ∀ (v : Option Value) (M' : AM), post v M' → AW Z Q M' (k + rm.cells) (n + rm.slots) (pc + 3) L (v.toList ++ st)) : AW Z Q M k n pc L st0 := by
  obtain ⟨⟨h1, h2, h3, h4⟩, hl, hnm, hin⟩ := hw
  rcases hl with hl | ⟨host, hl⟩
  · exact aw_after rfl (fun H locs ls hH hS hL => va_runI (Ts := []) ⟨X.1, X.2.1, X.2.2.1, X.2.2.2.1, fun w h => nomatch h⟩ hc ⟨am_callB X ⟨h1, h2, h3, h4, hl⟩ hR, hnm, X.w hin rfl⟩ (am_preS X hH hS) rfl hn hL.1 hst (lv_room hW) d hf) kk
  · refine aw_after rfl (fun H locs ls hH hS hL => va_runIN (host := host) (Ts := []) ⟨X.1, X.2.1, X.2.2.1, X.2.2.2.1, fun w h => nomatch h⟩ hc ⟨⟨⟨rfl, rfl, hR.1, hR.2, am_code_mv (X.w h1 rfl), List.mem_cons_self⟩, X.w h1 rfl, X.w h2 rfl, h3, fun sig hs => ?_, X.w hl rfl⟩, hnm, X.w hin rfl⟩ (am_preS X hH hS) rfl hn hL.1 hst (lv_room hW) d hf) kk
    rw [hs] at h4
    exact (Option.some.inj h4).symm
/-- a static method with handlers -/
def am_csw (own : String) (idx : Nat) (y : MethodName) (bytes : ByteArray) (maxL : Nat) (ret : Option FieldType) (hh : List (Nat × Nat × Nat × Nat)) (nA : Nat) : Prop :=
  (Cond.codeWith y bytes maxL ret hh ∈ lw_tbl ∧ Cond.initialized y.cls ∈ lw_tbl ∧ (y.cls ≠ "java/lang/invoke/MethodHandle" ∧ y.cls ≠ "java/lang/invoke/VarHandle") ∧ (parseMethodDescriptor y.desc).map (fun d => d.parameters.length) = some nA ∧ Cond.methodLink own idx y ∈ lw_tbl) ∧ Cond.static y ∈ lw_tbl
theorem aw_callSW (X : am_X own cc Z) {idx nA : Nat} {As : List Value} {y : MethodName} {bytes : ByteArray} {maxL : Nat} {ret : Option FieldType} {hh : List (Nat × Nat × Nat × Nat)} {rm : Room} (hc : Cw (zl Z) (zG Z) y bytes maxL ret hh rm M As post) (hw : am_csw own idx y bytes maxL ret hh nA)
    (d : decode cc pc = .ok (.invokestatic idx, 3)) (hn : As.length = nA) (hst : st0 = As.reverse ++ st) (hW : (st.map fun v => v.category).sum ≤ 8) (hR : am_rm rm (zR Z) maxL) (hf : k + rm.cells ≤ (zR Z).cells ∧ n + rm.slots ≤ (zR Z).slots)
    (kk : ∀ (v : Option Value) (M' : AM), post v M' → AW Z Q M' (k + rm.cells) (n + rm.slots) (pc + 3) L (v.toList ++ st)) : AW Z Q M k n pc L st0 := by
  obtain ⟨⟨h1, h2, h3, h4, h5⟩, h6⟩ := hw
  refine aw_after rfl (fun H locs ls hH hS hL => vx_runSW (hh := hh) (Ts := []) ⟨X.1, X.2.1, X.2.2.1, X.2.2.2.1, fun w h => nomatch h⟩ hc ⟨⟨rfl, rfl, hR.1, hR.2, fun w hw a' U hW => ?_, List.mem_cons_self⟩, X.w h1 rfl, X.w h2 rfl, h3, fun sig hs => ?_, X.w h5 rfl, X.w h6 rfl⟩ (am_preS X hH hS) rfl hn hL.1 hst (lv_room hW) d hf) kk
  · rw [List.mem_singleton.mp hw]
    exact am_ok_any (w := Cond.codeWith y bytes maxL ret hh) rfl (am_ok_mv (w := Cond.codeWith y bytes maxL ret hh) rfl hW (am_ok_any rfl (X.w h1 rfl)))
  · rw [hs] at h4
    exact (Option.some.inj h4).symm
/-! exceptions -/
theorem ax_out (X : am_X own cc Z) (hout : ∀ x ∈ (zc Z).exceptionTable.toList, False) {E : String} {mc ms : Nat} (h1 : k ≤ mc) (h2 : n ≤ ms) (hp : px E M) : AX Z (am_Q Z post px mc ms) M k n pc L st E :=
  fun H locs ls ce q hH hS hL hce hcv hcl => vx_out (fun x hx => (hout x hx).elim) X.2.2.2.2.1 hce hcv hcl (fun t ht hA => ⟨⟨M, hp, by rw [ht]; exact hH⟩, hS.F ht⟩) hS.2.2 h1 h2
theorem ax_catch (X : am_X own cc Z) {E name : String} (pre : List ExceptionTableEntry) (x : ExceptionTableEntry) (suf : List ExceptionTableEntry) (hsplit : (zc Z).exceptionTable.toList = pre ++ x :: suf)
    (hpass : ∀ z ∈ pre, covers z pc = false ∨ (z.catchType ≠ 0 ∧ ∃ nm : String, Cond.classLink own z.catchType nm ∈ lw_tbl ∧ va_Nc E nm (zs Z))) (hx : covers x pc = true) (h0 : x.catchType ≠ 0) (hlink : Cond.classLink own x.catchType name ∈ lw_tbl) (hcast : Cond.castable E name ∈ lw_tbl)
    (kk : ∀ q : Nat, AW Z Q M k n x.handlerPc L [.ref q]) : AX Z Q M k n pc L st E :=
  fun H locs ls ce q hH hS hL hce hcv hcl => vx_catch X.2.2.2.1 pre x suf hsplit (fun z hz => (hpass z hz).imp id (fun ⟨a, nm, b, c⟩ => ⟨a, nm, X.w b rfl, c⟩)) hx h0 (X.w hlink rfl) (X.w hcast rfl) hce hcv hcl (kk q H locs ls hH hS hL)
/-! throws of RollSync -/
abbrev am_nm : List String := ["java/lang/RuntimeException", "java/lang/Exception"]
/-- the words of 'throw new cls(..)' -/
def am_th (ik ic : Nat) (cls : String) : Prop := Bundle.fit cls = true ∧ Cond.classLink "RollSync" ik cls ∈ lw_tbl ∧ Cond.initialized cls ∈ lw_tbl ∧ (∀ w ∈ vx_atS "RollSync" ic cls am_nm, w ∈ lw_tbl ∧ am_ok w = true) ∧ (∀ w ∈ Cond.classLink "RollSync" ik cls :: Cond.initialized cls :: vx_atS "RollSync" ic cls am_nm, vx_ot w = true)
theorem am_nm_fit : ∀ n ∈ am_nm, Bundle.fit n = true := by decide +kernel
theorem am_XC.of {px : String → AM → Prop} {E : String} {s t : State} {H : Heap} {locs : List Loc} {G : AG} (hH : am_H G M H) (hS : va_S (am_A G) s.heap H locs) (hp : px E M) (h1 : H.size ≤ t.heap.size) (h2 : ∀ q : Nat, q < H.size → t.heap[q]? = H[q]?) : am_XC G px E s t :=
  ⟨⟨M, hp, fun q e hq => ⟨(hH q e hq).1.kept (h2 q (hH.lt hq)), (hH q e hq).2⟩⟩, ⟨Nat.le_trans hS.1 h1, fun q a b => (h2 q (Nat.lt_of_lt_of_le a hS.1)).trans (hS.2.1 q a b)⟩⟩
theorem aw_throw (X : am_X "RollSync" cc Z) (hfl : (zl Z).stackTraces = false) {ik is ic mc ms : Nat} {cls text : String} (hth : am_th ik ic cls) (hin : (is, text) ∈ am_strs) (d0 : decode cc pc = .ok (.new ik, 3)) (d3 : decode cc (pc + 3) = .ok (.dup, 1)) (d4 : decode cc (pc + 4) = .ok (.ldc is, 2)) (d6 : decode cc (pc + 6) = .ok (.invokespecial ic, 3)) (d9 : decode cc (pc + 9) = .ok (.athrow, 1))
    (hout : ∀ x ∈ (zc Z).exceptionTable.toList, False) (hf : 5 < (zR Z).frames) (hlo : (st.map fun v => v.category).sum + 82 ≤ (zR Z).locals) (h1 : k + 1 ≤ (zR Z).cells) (h2 : n + 6 ≤ (zR Z).slots) (h3 : k + 1 ≤ mc) (h4 : n + 6 ≤ ms) (hp : px cls M) : AW Z (am_Q Z post px mc ms) M k n pc L st := by
  intro H locs ls hH hS hL
  obtain ⟨t1, t2, t3, t4, t5⟩ := hth
  obtain ⟨-, -, hU, hN, -, -, hst, -⟩ := X.2.2.2.2.2.2
  obtain ⟨sa, hsa⟩ := hst _ hin
  exact vx_throwS X.1 X.2.1 hfl X.2.2.2.1 t1 am_nm_fit (X.w t2 rfl) (X.w t3 rfl) hsa (fun w hw => X.w (t4 w hw).1 (t4 w hw).2) t5 hU hN hS (hL.1.trans X.2.2.1.symm) d0 d3 d4 d6 d9 (fun x hx => (hout x hx).elim) hf hlo h1 h2 X.2.2.2.2.1 (fun t ht a b => am_XC.of hH hS hp a b) hS.2.2 h3 h4
theorem aw_throwW (X : am_X "RollSync" cc Z) (hfl : (zl Z).stackTraces = false) {ik is ic mc ms : Nat} {cls text : String} (hth : am_th ik ic cls) (hin : (is, text) ∈ am_strs) (d0 : decode cc pc = .ok (.new ik, 3)) (d3 : decode cc (pc + 3) = .ok (.dup, 1)) (d4 : decode cc (pc + 4) = .ok (.ldc_w is, 3)) (d7 : decode cc (pc + 7) = .ok (.invokespecial ic, 3)) (d10 : decode cc (pc + 10) = .ok (.athrow, 1))
    (hout : ∀ x ∈ (zc Z).exceptionTable.toList, False) (hf : 5 < (zR Z).frames) (hlo : (st.map fun v => v.category).sum + 82 ≤ (zR Z).locals) (h1 : k + 1 ≤ (zR Z).cells) (h2 : n + 6 ≤ (zR Z).slots) (h3 : k + 1 ≤ mc) (h4 : n + 6 ≤ ms) (hp : px cls M) : AW Z (am_Q Z post px mc ms) M k n pc L st := by
  intro H locs ls hH hS hL
  obtain ⟨t1, t2, t3, t4, t5⟩ := hth
  obtain ⟨-, -, hU, hN, -, -, hst, -⟩ := X.2.2.2.2.2.2
  obtain ⟨sa, hsa⟩ := hst _ hin
  exact vx_throwSW X.1 X.2.1 hfl X.2.2.2.1 t1 am_nm_fit (X.w t2 rfl) (X.w t3 rfl) hsa (fun w hw => X.w (t4 w hw).1 (t4 w hw).2) t5 hU hN hS (hL.1.trans X.2.2.1.symm) d0 d3 d4 d7 d10 (fun x hx => (hout x hx).elim) hf hlo h1 h2 X.2.2.2.2.1 (fun t ht a b => am_XC.of hH hS hp a b) hS.2.2 h3 h4
end AMcalls
end
section
theorem zz_end : True := trivial
end
