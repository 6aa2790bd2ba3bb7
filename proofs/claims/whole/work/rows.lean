section
-- ===== PART A: goes FIRST, ahead of the names: the tables' words, and 'selects' of the private methods out of them =====
/-- a private method of a class that the tables say can be made, by its rows of tables_1 -/
def lw_okq (q : MethodName × Nat) : Prop := (q.1.cls ≠ "java/lang/invoke/MethodHandle" ∧ q.1.cls ≠ "java/lang/invoke/VarHandle") ∧ Cond.instantiable q.1.cls q.2 ∈ tables_1 ∧ Cond.privateMethod q.1 ∈ tables_1 ∧ Cond.instanceMethod q.1 ∈ tables_1
theorem lw_p0 : lw_okq (⟨"TransactionalFlash$Device", "chooseVictim", "(I)I"⟩, 15) := ⟨⟨by decide +kernel, by decide +kernel⟩, List.mem_of_getElem? (i := 80) (by decide +kernel), List.mem_of_getElem? (i := 424) (by decide +kernel), List.mem_of_getElem? (i := 425) (by decide +kernel)⟩
theorem lw_p1 : lw_okq (⟨"TransactionalFlash$Device", "isBetterVictim", "(II)Z"⟩, 15) := ⟨⟨by decide +kernel, by decide +kernel⟩, List.mem_of_getElem? (i := 80) (by decide +kernel), List.mem_of_getElem? (i := 436) (by decide +kernel), List.mem_of_getElem? (i := 437) (by decide +kernel)⟩
theorem lw_p2 : lw_okq (⟨"java/lang/Throwable", "fillInStackTrace", "(I)Ljava/lang/Throwable;"⟩, 6) := ⟨⟨by decide +kernel, by decide +kernel⟩, List.mem_of_getElem? (i := 486) (by decide +kernel), List.mem_of_getElem? (i := 484) (by decide +kernel), List.mem_of_getElem? (i := 485) (by decide +kernel)⟩
theorem lw_p3 : lw_okq (⟨"TransactionalFlash$FormatText", "endOfRun", "(IIZ)I"⟩, 11) := ⟨⟨by decide +kernel, by decide +kernel⟩, List.mem_of_getElem? (i := 30) (by decide +kernel), List.mem_of_getElem? (i := 554) (by decide +kernel), List.mem_of_getElem? (i := 555) (by decide +kernel)⟩
theorem lw_p4 : lw_okq (⟨"TransactionalFlash$FormatText", "takeRun", "(IIZ)I"⟩, 11) := ⟨⟨by decide +kernel, by decide +kernel⟩, List.mem_of_getElem? (i := 30) (by decide +kernel), List.mem_of_getElem? (i := 559) (by decide +kernel), List.mem_of_getElem? (i := 560) (by decide +kernel)⟩
theorem lw_p5 : lw_okq (⟨"TransactionalFlash$FormatText", "takeWord", "(II)I"⟩, 11) := ⟨⟨by decide +kernel, by decide +kernel⟩, List.mem_of_getElem? (i := 30) (by decide +kernel), List.mem_of_getElem? (i := 563) (by decide +kernel), List.mem_of_getElem? (i := 564) (by decide +kernel)⟩
theorem lw_p6 : lw_okq (⟨"TransactionalFlash$FormatText", "wordDue", "()Ljava/lang/String;"⟩, 11) := ⟨⟨by decide +kernel, by decide +kernel⟩, List.mem_of_getElem? (i := 30) (by decide +kernel), List.mem_of_getElem? (i := 567) (by decide +kernel), List.mem_of_getElem? (i := 568) (by decide +kernel)⟩
theorem lw_p7 : lw_okq (⟨"TransactionalFlash$FormatText", "takeNumber", "(II)I"⟩, 11) := ⟨⟨by decide +kernel, by decide +kernel⟩, List.mem_of_getElem? (i := 30) (by decide +kernel), List.mem_of_getElem? (i := 625) (by decide +kernel), List.mem_of_getElem? (i := 626) (by decide +kernel)⟩
theorem lw_p8 : lw_okq (⟨"TransactionalFlash$FormatText", "stepOnIf", "(Z)I"⟩, 11) := ⟨⟨by decide +kernel, by decide +kernel⟩, List.mem_of_getElem? (i := 30) (by decide +kernel), List.mem_of_getElem? (i := 629) (by decide +kernel), List.mem_of_getElem? (i := 630) (by decide +kernel)⟩
theorem lw_p9 : lw_okq (⟨"TransactionalFlash$FormatText", "hasSpaceFor", "(I)Z"⟩, 11) := ⟨⟨by decide +kernel, by decide +kernel⟩, List.mem_of_getElem? (i := 30) (by decide +kernel), List.mem_of_getElem? (i := 633) (by decide +kernel), List.mem_of_getElem? (i := 634) (by decide +kernel)⟩
theorem lw_p10 : lw_okq (⟨"TransactionalFlash$FormatText", "takeValue", "(I)I"⟩, 11) := ⟨⟨by decide +kernel, by decide +kernel⟩, List.mem_of_getElem? (i := 30) (by decide +kernel), List.mem_of_getElem? (i := 637) (by decide +kernel), List.mem_of_getElem? (i := 638) (by decide +kernel)⟩
theorem lw_p11 : lw_okq (⟨"TransactionalFlash$FormatText", "setError", "(II)V"⟩, 11) := ⟨⟨by decide +kernel, by decide +kernel⟩, List.mem_of_getElem? (i := 30) (by decide +kernel), List.mem_of_getElem? (i := 641) (by decide +kernel), List.mem_of_getElem? (i := 642) (by decide +kernel)⟩
theorem lw_p12 : lw_okq (⟨"TransactionalFlash$FormatText", "takeSemicolon", "()I"⟩, 11) := ⟨⟨by decide +kernel, by decide +kernel⟩, List.mem_of_getElem? (i := 30) (by decide +kernel), List.mem_of_getElem? (i := 645) (by decide +kernel), List.mem_of_getElem? (i := 646) (by decide +kernel)⟩
theorem lw_p13 : lw_okq (⟨"TransactionalFlash$Flash", "clearPage", "(II)V"⟩, 18) := ⟨⟨by decide +kernel, by decide +kernel⟩, List.mem_of_getElem? (i := 86) (by decide +kernel), List.mem_of_getElem? (i := 658) (by decide +kernel), List.mem_of_getElem? (i := 659) (by decide +kernel)⟩
theorem lw_p14 : lw_okq (⟨"TransactionalFlash$Device", "makeRoom", "()Z"⟩, 15) := ⟨⟨by decide +kernel, by decide +kernel⟩, List.mem_of_getElem? (i := 80) (by decide +kernel), List.mem_of_getElem? (i := 678) (by decide +kernel), List.mem_of_getElem? (i := 679) (by decide +kernel)⟩
theorem lw_p15 : lw_okq (⟨"TransactionalFlash$Device", "collect", "(I)Z"⟩, 15) := ⟨⟨by decide +kernel, by decide +kernel⟩, List.mem_of_getElem? (i := 80) (by decide +kernel), List.mem_of_getElem? (i := 682) (by decide +kernel), List.mem_of_getElem? (i := 683) (by decide +kernel)⟩
def lw_privs_1 : List (MethodName × Nat) := [(⟨"TransactionalFlash$Device", "chooseVictim", "(I)I"⟩, 15), (⟨"TransactionalFlash$Device", "isBetterVictim", "(II)Z"⟩, 15), (⟨"java/lang/Throwable", "fillInStackTrace", "(I)Ljava/lang/Throwable;"⟩, 6), (⟨"TransactionalFlash$FormatText", "endOfRun", "(IIZ)I"⟩, 11), (⟨"TransactionalFlash$FormatText", "takeRun", "(IIZ)I"⟩, 11), (⟨"TransactionalFlash$FormatText", "takeWord", "(II)I"⟩, 11), (⟨"TransactionalFlash$FormatText", "wordDue", "()Ljava/lang/String;"⟩, 11), (⟨"TransactionalFlash$FormatText", "takeNumber", "(II)I"⟩, 11), (⟨"TransactionalFlash$FormatText", "stepOnIf", "(Z)I"⟩, 11), (⟨"TransactionalFlash$FormatText", "hasSpaceFor", "(I)Z"⟩, 11), (⟨"TransactionalFlash$FormatText", "takeValue", "(I)I"⟩, 11), (⟨"TransactionalFlash$FormatText", "setError", "(II)V"⟩, 11), (⟨"TransactionalFlash$FormatText", "takeSemicolon", "()I"⟩, 11), (⟨"TransactionalFlash$Flash", "clearPage", "(II)V"⟩, 18), (⟨"TransactionalFlash$Device", "makeRoom", "()Z"⟩, 15), (⟨"TransactionalFlash$Device", "collect", "(I)Z"⟩, 15)]
theorem lw_r1 : ∀ q ∈ lw_privs_1, lw_okq q := List.forall_mem_cons.mpr ⟨lw_p0, List.forall_mem_cons.mpr ⟨lw_p1, List.forall_mem_cons.mpr ⟨lw_p2, List.forall_mem_cons.mpr ⟨lw_p3, List.forall_mem_cons.mpr ⟨lw_p4, List.forall_mem_cons.mpr ⟨lw_p5, List.forall_mem_cons.mpr ⟨lw_p6, List.forall_mem_cons.mpr ⟨lw_p7, List.forall_mem_cons.mpr ⟨lw_p8, List.forall_mem_cons.mpr ⟨lw_p9, List.forall_mem_cons.mpr ⟨lw_p10, List.forall_mem_cons.mpr ⟨lw_p11, List.forall_mem_cons.mpr ⟨lw_p12, List.forall_mem_cons.mpr ⟨lw_p13, List.forall_mem_cons.mpr ⟨lw_p14, List.forall_mem_cons.mpr ⟨lw_p15, fun _ h => absurd h List.not_mem_nil⟩⟩⟩⟩⟩⟩⟩⟩⟩⟩⟩⟩⟩⟩⟩⟩
theorem lw_p16 : lw_okq (⟨"TransactionalFlash$Flash", "losesPower", "()Z"⟩, 18) := ⟨⟨by decide +kernel, by decide +kernel⟩, List.mem_of_getElem? (i := 86) (by decide +kernel), List.mem_of_getElem? (i := 690) (by decide +kernel), List.mem_of_getElem? (i := 691) (by decide +kernel)⟩
theorem lw_p17 : lw_okq (⟨"TransactionalFlash$Device", "fillMapPage", "(II)V"⟩, 15) := ⟨⟨by decide +kernel, by decide +kernel⟩, List.mem_of_getElem? (i := 80) (by decide +kernel), List.mem_of_getElem? (i := 720) (by decide +kernel), List.mem_of_getElem? (i := 721) (by decide +kernel)⟩
theorem lw_p18 : lw_okq (⟨"TransactionalFlash", "isNoneOrKnown", "(I)Z"⟩, 2) := ⟨⟨by decide +kernel, by decide +kernel⟩, List.mem_of_getElem? (i := 22) (by decide +kernel), List.mem_of_getElem? (i := 752) (by decide +kernel), List.mem_of_getElem? (i := 753) (by decide +kernel)⟩
theorem lw_p19 : lw_okq (⟨"TransactionalFlash", "isNoneOrOpen", "(I)Z"⟩, 2) := ⟨⟨by decide +kernel, by decide +kernel⟩, List.mem_of_getElem? (i := 22) (by decide +kernel), List.mem_of_getElem? (i := 779) (by decide +kernel), List.mem_of_getElem? (i := 780) (by decide +kernel)⟩
theorem lw_p20 : lw_okq (⟨"TransactionalFlash$Device", "readMap", "()V"⟩, 15) := ⟨⟨by decide +kernel, by decide +kernel⟩, List.mem_of_getElem? (i := 80) (by decide +kernel), List.mem_of_getElem? (i := 967) (by decide +kernel), List.mem_of_getElem? (i := 968) (by decide +kernel)⟩
theorem lw_p21 : lw_okq (⟨"TransactionalFlash$Replay", "gather", "(LTransactionalFlash$Flash;I)V"⟩, 3) := ⟨⟨by decide +kernel, by decide +kernel⟩, List.mem_of_getElem? (i := 226) (by decide +kernel), List.mem_of_getElem? (i := 975) (by decide +kernel), List.mem_of_getElem? (i := 976) (by decide +kernel)⟩
theorem lw_p22 : lw_okq (⟨"TransactionalFlash$Replay", "sortByVersion", "(LTransactionalFlash$Flash;)V"⟩, 3) := ⟨⟨by decide +kernel, by decide +kernel⟩, List.mem_of_getElem? (i := 226) (by decide +kernel), List.mem_of_getElem? (i := 979) (by decide +kernel), List.mem_of_getElem? (i := 980) (by decide +kernel)⟩
theorem lw_p23 : lw_okq (⟨"TransactionalFlash$Replay", "applyCommit", "(LTransactionalFlash$Flash;LTransactionalFlash$PageTable;I)V"⟩, 3) := ⟨⟨by decide +kernel, by decide +kernel⟩, List.mem_of_getElem? (i := 226) (by decide +kernel), List.mem_of_getElem? (i := 984) (by decide +kernel), List.mem_of_getElem? (i := 985) (by decide +kernel)⟩
theorem lw_p24 : lw_okq (⟨"TransactionalFlash$Device", "eraseDeadBlocks", "()Z"⟩, 15) := ⟨⟨by decide +kernel, by decide +kernel⟩, List.mem_of_getElem? (i := 80) (by decide +kernel), List.mem_of_getElem? (i := 993) (by decide +kernel), List.mem_of_getElem? (i := 994) (by decide +kernel)⟩
theorem lw_p25 : lw_okq (⟨"TransactionalFlashModel", "refuse", "(I)I"⟩, 51) := ⟨⟨by decide +kernel, by decide +kernel⟩, List.mem_of_getElem? (i := 1079) (by decide +kernel), List.mem_of_getElem? (i := 1247) (by decide +kernel), List.mem_of_getElem? (i := 1248) (by decide +kernel)⟩
theorem lw_p26 : lw_okq (⟨"TransactionalFlashModel", "append", "(I)V"⟩, 51) := ⟨⟨by decide +kernel, by decide +kernel⟩, List.mem_of_getElem? (i := 1079) (by decide +kernel), List.mem_of_getElem? (i := 1251) (by decide +kernel), List.mem_of_getElem? (i := 1252) (by decide +kernel)⟩
theorem lw_p27 : lw_okq (⟨"TransactionalFlashModel", "told", "(I)I"⟩, 51) := ⟨⟨by decide +kernel, by decide +kernel⟩, List.mem_of_getElem? (i := 1079) (by decide +kernel), List.mem_of_getElem? (i := 1259) (by decide +kernel), List.mem_of_getElem? (i := 1260) (by decide +kernel)⟩
theorem lw_p28 : lw_okq (⟨"TransactionalFlashModel", "readFormat", "()Z"⟩, 51) := ⟨⟨by decide +kernel, by decide +kernel⟩, List.mem_of_getElem? (i := 1079) (by decide +kernel), List.mem_of_getElem? (i := 1274) (by decide +kernel), List.mem_of_getElem? (i := 1275) (by decide +kernel)⟩
theorem lw_p29 : lw_okq (⟨"TransactionalFlashModel", "readHead", "()Z"⟩, 51) := ⟨⟨by decide +kernel, by decide +kernel⟩, List.mem_of_getElem? (i := 1079) (by decide +kernel), List.mem_of_getElem? (i := 1278) (by decide +kernel), List.mem_of_getElem? (i := 1279) (by decide +kernel)⟩
theorem lw_p30 : lw_okq (⟨"TransactionalFlashModel", "readSetting", "(JII)Z"⟩, 51) := ⟨⟨by decide +kernel, by decide +kernel⟩, List.mem_of_getElem? (i := 1079) (by decide +kernel), List.mem_of_getElem? (i := 1283) (by decide +kernel), List.mem_of_getElem? (i := 1284) (by decide +kernel)⟩
theorem lw_p31 : lw_okq (⟨"TransactionalFlashModel", "takesWord", "(J)Z"⟩, 51) := ⟨⟨by decide +kernel, by decide +kernel⟩, List.mem_of_getElem? (i := 1079) (by decide +kernel), List.mem_of_getElem? (i := 1287) (by decide +kernel), List.mem_of_getElem? (i := 1288) (by decide +kernel)⟩
def lw_privs_2 : List (MethodName × Nat) := [(⟨"TransactionalFlash$Flash", "losesPower", "()Z"⟩, 18), (⟨"TransactionalFlash$Device", "fillMapPage", "(II)V"⟩, 15), (⟨"TransactionalFlash", "isNoneOrKnown", "(I)Z"⟩, 2), (⟨"TransactionalFlash", "isNoneOrOpen", "(I)Z"⟩, 2), (⟨"TransactionalFlash$Device", "readMap", "()V"⟩, 15), (⟨"TransactionalFlash$Replay", "gather", "(LTransactionalFlash$Flash;I)V"⟩, 3), (⟨"TransactionalFlash$Replay", "sortByVersion", "(LTransactionalFlash$Flash;)V"⟩, 3), (⟨"TransactionalFlash$Replay", "applyCommit", "(LTransactionalFlash$Flash;LTransactionalFlash$PageTable;I)V"⟩, 3), (⟨"TransactionalFlash$Device", "eraseDeadBlocks", "()Z"⟩, 15), (⟨"TransactionalFlashModel", "refuse", "(I)I"⟩, 51), (⟨"TransactionalFlashModel", "append", "(I)V"⟩, 51), (⟨"TransactionalFlashModel", "told", "(I)I"⟩, 51), (⟨"TransactionalFlashModel", "readFormat", "()Z"⟩, 51), (⟨"TransactionalFlashModel", "readHead", "()Z"⟩, 51), (⟨"TransactionalFlashModel", "readSetting", "(JII)Z"⟩, 51), (⟨"TransactionalFlashModel", "takesWord", "(J)Z"⟩, 51)]
theorem lw_r2 : ∀ q ∈ lw_privs_2, lw_okq q := List.forall_mem_cons.mpr ⟨lw_p16, List.forall_mem_cons.mpr ⟨lw_p17, List.forall_mem_cons.mpr ⟨lw_p18, List.forall_mem_cons.mpr ⟨lw_p19, List.forall_mem_cons.mpr ⟨lw_p20, List.forall_mem_cons.mpr ⟨lw_p21, List.forall_mem_cons.mpr ⟨lw_p22, List.forall_mem_cons.mpr ⟨lw_p23, List.forall_mem_cons.mpr ⟨lw_p24, List.forall_mem_cons.mpr ⟨lw_p25, List.forall_mem_cons.mpr ⟨lw_p26, List.forall_mem_cons.mpr ⟨lw_p27, List.forall_mem_cons.mpr ⟨lw_p28, List.forall_mem_cons.mpr ⟨lw_p29, List.forall_mem_cons.mpr ⟨lw_p30, List.forall_mem_cons.mpr ⟨lw_p31, fun _ h => absurd h List.not_mem_nil⟩⟩⟩⟩⟩⟩⟩⟩⟩⟩⟩⟩⟩⟩⟩⟩
theorem lw_p32 : lw_okq (⟨"TransactionalFlashModel", "peek", "()I"⟩, 51) := ⟨⟨by decide +kernel, by decide +kernel⟩, List.mem_of_getElem? (i := 1079) (by decide +kernel), List.mem_of_getElem? (i := 1291) (by decide +kernel), List.mem_of_getElem? (i := 1292) (by decide +kernel)⟩
theorem lw_p33 : lw_okq (⟨"TransactionalFlashModel", "byteAt", "(I)I"⟩, 51) := ⟨⟨by decide +kernel, by decide +kernel⟩, List.mem_of_getElem? (i := 1079) (by decide +kernel), List.mem_of_getElem? (i := 1295) (by decide +kernel), List.mem_of_getElem? (i := 1296) (by decide +kernel)⟩
theorem lw_p34 : lw_okq (⟨"TransactionalFlashModel", "fails", "(II)Z"⟩, 51) := ⟨⟨by decide +kernel, by decide +kernel⟩, List.mem_of_getElem? (i := 1079) (by decide +kernel), List.mem_of_getElem? (i := 1302) (by decide +kernel), List.mem_of_getElem? (i := 1303) (by decide +kernel)⟩
theorem lw_p35 : lw_okq (⟨"TransactionalFlashModel", "readNumber", "(II)Z"⟩, 51) := ⟨⟨by decide +kernel, by decide +kernel⟩, List.mem_of_getElem? (i := 1079) (by decide +kernel), List.mem_of_getElem? (i := 1308) (by decide +kernel), List.mem_of_getElem? (i := 1309) (by decide +kernel)⟩
theorem lw_p36 : lw_okq (⟨"TransactionalFlashModel", "readLogical", "()Z"⟩, 51) := ⟨⟨by decide +kernel, by decide +kernel⟩, List.mem_of_getElem? (i := 1079) (by decide +kernel), List.mem_of_getElem? (i := 1316) (by decide +kernel), List.mem_of_getElem? (i := 1317) (by decide +kernel)⟩
theorem lw_p37 : lw_okq (⟨"TransactionalFlashModel", "readSemicolon", "()Z"⟩, 51) := ⟨⟨by decide +kernel, by decide +kernel⟩, List.mem_of_getElem? (i := 1079) (by decide +kernel), List.mem_of_getElem? (i := 1325) (by decide +kernel), List.mem_of_getElem? (i := 1326) (by decide +kernel)⟩
theorem lw_p38 : lw_okq (⟨"TransactionalFlashModel", "readFill", "()Z"⟩, 51) := ⟨⟨by decide +kernel, by decide +kernel⟩, List.mem_of_getElem? (i := 1079) (by decide +kernel), List.mem_of_getElem? (i := 1329) (by decide +kernel), List.mem_of_getElem? (i := 1330) (by decide +kernel)⟩
theorem lw_p39 : lw_okq (⟨"TransactionalFlashModel", "readValue", "()Z"⟩, 51) := ⟨⟨by decide +kernel, by decide +kernel⟩, List.mem_of_getElem? (i := 1079) (by decide +kernel), List.mem_of_getElem? (i := 1334) (by decide +kernel), List.mem_of_getElem? (i := 1335) (by decide +kernel)⟩
theorem lw_p40 : lw_okq (⟨"TransactionalFlashModel", "startAnew", "()V"⟩, 51) := ⟨⟨by decide +kernel, by decide +kernel⟩, List.mem_of_getElem? (i := 1079) (by decide +kernel), List.mem_of_getElem? (i := 1339) (by decide +kernel), List.mem_of_getElem? (i := 1340) (by decide +kernel)⟩
theorem lw_p41 : lw_okq (⟨"TransactionalFlashModel", "forgets", "()V"⟩, 51) := ⟨⟨by decide +kernel, by decide +kernel⟩, List.mem_of_getElem? (i := 1079) (by decide +kernel), List.mem_of_getElem? (i := 1343) (by decide +kernel), List.mem_of_getElem? (i := 1344) (by decide +kernel)⟩
theorem lw_p42 : lw_okq (⟨"TransactionalFlashModel", "writesOutside", "(II)I"⟩, 51) := ⟨⟨by decide +kernel, by decide +kernel⟩, List.mem_of_getElem? (i := 1079) (by decide +kernel), List.mem_of_getElem? (i := 1347) (by decide +kernel), List.mem_of_getElem? (i := 1348) (by decide +kernel)⟩
theorem lw_p43 : lw_okq (⟨"TransactionalFlashModel", "pagesForCommit", "()I"⟩, 51) := ⟨⟨by decide +kernel, by decide +kernel⟩, List.mem_of_getElem? (i := 1079) (by decide +kernel), List.mem_of_getElem? (i := 1351) (by decide +kernel), List.mem_of_getElem? (i := 1352) (by decide +kernel)⟩
theorem lw_p44 : lw_okq (⟨"TransactionalFlashModel", "parts", "()I"⟩, 51) := ⟨⟨by decide +kernel, by decide +kernel⟩, List.mem_of_getElem? (i := 1079) (by decide +kernel), List.mem_of_getElem? (i := 1355) (by decide +kernel), List.mem_of_getElem? (i := 1356) (by decide +kernel)⟩
theorem lw_p45 : lw_okq (⟨"TransactionalFlashModel", "hasRoom", "(I)Z"⟩, 51) := ⟨⟨by decide +kernel, by decide +kernel⟩, List.mem_of_getElem? (i := 1079) (by decide +kernel), List.mem_of_getElem? (i := 1359) (by decide +kernel), List.mem_of_getElem? (i := 1360) (by decide +kernel)⟩
theorem lw_p46 : lw_okq (⟨"TransactionalFlashModel", "validAll", "()I"⟩, 51) := ⟨⟨by decide +kernel, by decide +kernel⟩, List.mem_of_getElem? (i := 1079) (by decide +kernel), List.mem_of_getElem? (i := 1363) (by decide +kernel), List.mem_of_getElem? (i := 1364) (by decide +kernel)⟩
theorem lw_p47 : lw_okq (⟨"TransactionalFlashModel", "validIn", "(I)I"⟩, 51) := ⟨⟨by decide +kernel, by decide +kernel⟩, List.mem_of_getElem? (i := 1079) (by decide +kernel), List.mem_of_getElem? (i := 1367) (by decide +kernel), List.mem_of_getElem? (i := 1368) (by decide +kernel)⟩
def lw_privs_3 : List (MethodName × Nat) := [(⟨"TransactionalFlashModel", "peek", "()I"⟩, 51), (⟨"TransactionalFlashModel", "byteAt", "(I)I"⟩, 51), (⟨"TransactionalFlashModel", "fails", "(II)Z"⟩, 51), (⟨"TransactionalFlashModel", "readNumber", "(II)Z"⟩, 51), (⟨"TransactionalFlashModel", "readLogical", "()Z"⟩, 51), (⟨"TransactionalFlashModel", "readSemicolon", "()Z"⟩, 51), (⟨"TransactionalFlashModel", "readFill", "()Z"⟩, 51), (⟨"TransactionalFlashModel", "readValue", "()Z"⟩, 51), (⟨"TransactionalFlashModel", "startAnew", "()V"⟩, 51), (⟨"TransactionalFlashModel", "forgets", "()V"⟩, 51), (⟨"TransactionalFlashModel", "writesOutside", "(II)I"⟩, 51), (⟨"TransactionalFlashModel", "pagesForCommit", "()I"⟩, 51), (⟨"TransactionalFlashModel", "parts", "()I"⟩, 51), (⟨"TransactionalFlashModel", "hasRoom", "(I)Z"⟩, 51), (⟨"TransactionalFlashModel", "validAll", "()I"⟩, 51), (⟨"TransactionalFlashModel", "validIn", "(I)I"⟩, 51)]
theorem lw_r3 : ∀ q ∈ lw_privs_3, lw_okq q := List.forall_mem_cons.mpr ⟨lw_p32, List.forall_mem_cons.mpr ⟨lw_p33, List.forall_mem_cons.mpr ⟨lw_p34, List.forall_mem_cons.mpr ⟨lw_p35, List.forall_mem_cons.mpr ⟨lw_p36, List.forall_mem_cons.mpr ⟨lw_p37, List.forall_mem_cons.mpr ⟨lw_p38, List.forall_mem_cons.mpr ⟨lw_p39, List.forall_mem_cons.mpr ⟨lw_p40, List.forall_mem_cons.mpr ⟨lw_p41, List.forall_mem_cons.mpr ⟨lw_p42, List.forall_mem_cons.mpr ⟨lw_p43, List.forall_mem_cons.mpr ⟨lw_p44, List.forall_mem_cons.mpr ⟨lw_p45, List.forall_mem_cons.mpr ⟨lw_p46, List.forall_mem_cons.mpr ⟨lw_p47, fun _ h => absurd h List.not_mem_nil⟩⟩⟩⟩⟩⟩⟩⟩⟩⟩⟩⟩⟩⟩⟩⟩
theorem lw_p48 : lw_okq (⟨"TransactionalFlashModel", "isGood", "(I)Z"⟩, 51) := ⟨⟨by decide +kernel, by decide +kernel⟩, List.mem_of_getElem? (i := 1079) (by decide +kernel), List.mem_of_getElem? (i := 1371) (by decide +kernel), List.mem_of_getElem? (i := 1372) (by decide +kernel)⟩
theorem lw_p49 : lw_okq (⟨"TransactionalFlashModel", "isWanted", "(I)Z"⟩, 51) := ⟨⟨by decide +kernel, by decide +kernel⟩, List.mem_of_getElem? (i := 1079) (by decide +kernel), List.mem_of_getElem? (i := 1375) (by decide +kernel), List.mem_of_getElem? (i := 1376) (by decide +kernel)⟩
theorem lw_p50 : lw_okq (⟨"TransactionalFlashModel", "isWantedData", "(I)Z"⟩, 51) := ⟨⟨by decide +kernel, by decide +kernel⟩, List.mem_of_getElem? (i := 1079) (by decide +kernel), List.mem_of_getElem? (i := 1379) (by decide +kernel), List.mem_of_getElem? (i := 1380) (by decide +kernel)⟩
theorem lw_p51 : lw_okq (⟨"TransactionalFlashModel", "isReadBy", "(II)Z"⟩, 51) := ⟨⟨by decide +kernel, by decide +kernel⟩, List.mem_of_getElem? (i := 1079) (by decide +kernel), List.mem_of_getElem? (i := 1383) (by decide +kernel), List.mem_of_getElem? (i := 1384) (by decide +kernel)⟩
theorem lw_p52 : lw_okq (⟨"TransactionalFlashModel", "isNewest", "(I)Z"⟩, 51) := ⟨⟨by decide +kernel, by decide +kernel⟩, List.mem_of_getElem? (i := 1079) (by decide +kernel), List.mem_of_getElem? (i := 1387) (by decide +kernel), List.mem_of_getElem? (i := 1388) (by decide +kernel)⟩
theorem lw_p53 : lw_okq (⟨"TransactionalFlashModel", "flashSize", "()I"⟩, 51) := ⟨⟨by decide +kernel, by decide +kernel⟩, List.mem_of_getElem? (i := 1079) (by decide +kernel), List.mem_of_getElem? (i := 1391) (by decide +kernel), List.mem_of_getElem? (i := 1392) (by decide +kernel)⟩
theorem lw_p54 : lw_okq (⟨"TransactionalFlashModel", "isCopyOf", "(II)Z"⟩, 51) := ⟨⟨by decide +kernel, by decide +kernel⟩, List.mem_of_getElem? (i := 1079) (by decide +kernel), List.mem_of_getElem? (i := 1395) (by decide +kernel), List.mem_of_getElem? (i := 1396) (by decide +kernel)⟩
theorem lw_p55 : lw_okq (⟨"TransactionalFlashModel", "programsData", "(III)I"⟩, 51) := ⟨⟨by decide +kernel, by decide +kernel⟩, List.mem_of_getElem? (i := 1079) (by decide +kernel), List.mem_of_getElem? (i := 1399) (by decide +kernel), List.mem_of_getElem? (i := 1400) (by decide +kernel)⟩
theorem lw_p56 : lw_okq (⟨"TransactionalFlashModel", "programsPage", "(III)I"⟩, 51) := ⟨⟨by decide +kernel, by decide +kernel⟩, List.mem_of_getElem? (i := 1079) (by decide +kernel), List.mem_of_getElem? (i := 1403) (by decide +kernel), List.mem_of_getElem? (i := 1404) (by decide +kernel)⟩
theorem lw_p57 : lw_okq (⟨"TransactionalFlashModel", "freeIn", "(I)I"⟩, 51) := ⟨⟨by decide +kernel, by decide +kernel⟩, List.mem_of_getElem? (i := 1079) (by decide +kernel), List.mem_of_getElem? (i := 1407) (by decide +kernel), List.mem_of_getElem? (i := 1408) (by decide +kernel)⟩
theorem lw_p58 : lw_okq (⟨"TransactionalFlashModel", "kindMany", "(II)I"⟩, 51) := ⟨⟨by decide +kernel, by decide +kernel⟩, List.mem_of_getElem? (i := 1079) (by decide +kernel), List.mem_of_getElem? (i := 1411) (by decide +kernel), List.mem_of_getElem? (i := 1412) (by decide +kernel)⟩
theorem lw_p59 : lw_okq (⟨"TransactionalFlashModel", "makesRoom", "()Z"⟩, 51) := ⟨⟨by decide +kernel, by decide +kernel⟩, List.mem_of_getElem? (i := 1079) (by decide +kernel), List.mem_of_getElem? (i := 1415) (by decide +kernel), List.mem_of_getElem? (i := 1416) (by decide +kernel)⟩
theorem lw_p60 : lw_okq (⟨"TransactionalFlashModel", "freeBlock", "()I"⟩, 51) := ⟨⟨by decide +kernel, by decide +kernel⟩, List.mem_of_getElem? (i := 1079) (by decide +kernel), List.mem_of_getElem? (i := 1419) (by decide +kernel), List.mem_of_getElem? (i := 1420) (by decide +kernel)⟩
theorem lw_p61 : lw_okq (⟨"TransactionalFlashModel", "isFree", "(I)Z"⟩, 51) := ⟨⟨by decide +kernel, by decide +kernel⟩, List.mem_of_getElem? (i := 1079) (by decide +kernel), List.mem_of_getElem? (i := 1423) (by decide +kernel), List.mem_of_getElem? (i := 1424) (by decide +kernel)⟩
theorem lw_p62 : lw_okq (⟨"TransactionalFlashModel", "losesPower", "()V"⟩, 51) := ⟨⟨by decide +kernel, by decide +kernel⟩, List.mem_of_getElem? (i := 1079) (by decide +kernel), List.mem_of_getElem? (i := 1427) (by decide +kernel), List.mem_of_getElem? (i := 1428) (by decide +kernel)⟩
theorem lw_p63 : lw_okq (⟨"TransactionalFlashModel", "freeMany", "()I"⟩, 51) := ⟨⟨by decide +kernel, by decide +kernel⟩, List.mem_of_getElem? (i := 1079) (by decide +kernel), List.mem_of_getElem? (i := 1431) (by decide +kernel), List.mem_of_getElem? (i := 1432) (by decide +kernel)⟩
def lw_privs_4 : List (MethodName × Nat) := [(⟨"TransactionalFlashModel", "isGood", "(I)Z"⟩, 51), (⟨"TransactionalFlashModel", "isWanted", "(I)Z"⟩, 51), (⟨"TransactionalFlashModel", "isWantedData", "(I)Z"⟩, 51), (⟨"TransactionalFlashModel", "isReadBy", "(II)Z"⟩, 51), (⟨"TransactionalFlashModel", "isNewest", "(I)Z"⟩, 51), (⟨"TransactionalFlashModel", "flashSize", "()I"⟩, 51), (⟨"TransactionalFlashModel", "isCopyOf", "(II)Z"⟩, 51), (⟨"TransactionalFlashModel", "programsData", "(III)I"⟩, 51), (⟨"TransactionalFlashModel", "programsPage", "(III)I"⟩, 51), (⟨"TransactionalFlashModel", "freeIn", "(I)I"⟩, 51), (⟨"TransactionalFlashModel", "kindMany", "(II)I"⟩, 51), (⟨"TransactionalFlashModel", "makesRoom", "()Z"⟩, 51), (⟨"TransactionalFlashModel", "freeBlock", "()I"⟩, 51), (⟨"TransactionalFlashModel", "isFree", "(I)Z"⟩, 51), (⟨"TransactionalFlashModel", "losesPower", "()V"⟩, 51), (⟨"TransactionalFlashModel", "freeMany", "()I"⟩, 51)]
theorem lw_r4 : ∀ q ∈ lw_privs_4, lw_okq q := List.forall_mem_cons.mpr ⟨lw_p48, List.forall_mem_cons.mpr ⟨lw_p49, List.forall_mem_cons.mpr ⟨lw_p50, List.forall_mem_cons.mpr ⟨lw_p51, List.forall_mem_cons.mpr ⟨lw_p52, List.forall_mem_cons.mpr ⟨lw_p53, List.forall_mem_cons.mpr ⟨lw_p54, List.forall_mem_cons.mpr ⟨lw_p55, List.forall_mem_cons.mpr ⟨lw_p56, List.forall_mem_cons.mpr ⟨lw_p57, List.forall_mem_cons.mpr ⟨lw_p58, List.forall_mem_cons.mpr ⟨lw_p59, List.forall_mem_cons.mpr ⟨lw_p60, List.forall_mem_cons.mpr ⟨lw_p61, List.forall_mem_cons.mpr ⟨lw_p62, List.forall_mem_cons.mpr ⟨lw_p63, fun _ h => absurd h List.not_mem_nil⟩⟩⟩⟩⟩⟩⟩⟩⟩⟩⟩⟩⟩⟩⟩⟩
theorem lw_p64 : lw_okq (⟨"TransactionalFlashModel", "nextVictim", "()I"⟩, 51) := ⟨⟨by decide +kernel, by decide +kernel⟩, List.mem_of_getElem? (i := 1079) (by decide +kernel), List.mem_of_getElem? (i := 1435) (by decide +kernel), List.mem_of_getElem? (i := 1436) (by decide +kernel)⟩
theorem lw_p65 : lw_okq (⟨"TransactionalFlashModel", "collects", "(I)Z"⟩, 51) := ⟨⟨by decide +kernel, by decide +kernel⟩, List.mem_of_getElem? (i := 1079) (by decide +kernel), List.mem_of_getElem? (i := 1439) (by decide +kernel), List.mem_of_getElem? (i := 1440) (by decide +kernel)⟩
theorem lw_p66 : lw_okq (⟨"TransactionalFlashModel", "copiesPage", "(I)Z"⟩, 51) := ⟨⟨by decide +kernel, by decide +kernel⟩, List.mem_of_getElem? (i := 1079) (by decide +kernel), List.mem_of_getElem? (i := 1443) (by decide +kernel), List.mem_of_getElem? (i := 1444) (by decide +kernel)⟩
theorem lw_p67 : lw_okq (⟨"TransactionalFlashModel", "lowestFree", "()I"⟩, 51) := ⟨⟨by decide +kernel, by decide +kernel⟩, List.mem_of_getElem? (i := 1079) (by decide +kernel), List.mem_of_getElem? (i := 1447) (by decide +kernel), List.mem_of_getElem? (i := 1448) (by decide +kernel)⟩
theorem lw_p68 : lw_okq (⟨"TransactionalFlashModel", "programsAt", "(IIII)Z"⟩, 51) := ⟨⟨by decide +kernel, by decide +kernel⟩, List.mem_of_getElem? (i := 1079) (by decide +kernel), List.mem_of_getElem? (i := 1451) (by decide +kernel), List.mem_of_getElem? (i := 1452) (by decide +kernel)⟩
theorem lw_p69 : lw_okq (⟨"TransactionalFlashModel", "operates", "()Z"⟩, 51) := ⟨⟨by decide +kernel, by decide +kernel⟩, List.mem_of_getElem? (i := 1079) (by decide +kernel), List.mem_of_getElem? (i := 1455) (by decide +kernel), List.mem_of_getElem? (i := 1456) (by decide +kernel)⟩
theorem lw_p70 : lw_okq (⟨"TransactionalFlashModel", "erasesBlock", "(I)Z"⟩, 51) := ⟨⟨by decide +kernel, by decide +kernel⟩, List.mem_of_getElem? (i := 1079) (by decide +kernel), List.mem_of_getElem? (i := 1459) (by decide +kernel), List.mem_of_getElem? (i := 1460) (by decide +kernel)⟩
theorem lw_p71 : lw_okq (⟨"TransactionalFlashModel", "countsCommit", "()Z"⟩, 51) := ⟨⟨by decide +kernel, by decide +kernel⟩, List.mem_of_getElem? (i := 1079) (by decide +kernel), List.mem_of_getElem? (i := 1463) (by decide +kernel), List.mem_of_getElem? (i := 1464) (by decide +kernel)⟩
theorem lw_p72 : lw_okq (⟨"TransactionalFlashModel", "makesCheckpoint", "()Z"⟩, 51) := ⟨⟨by decide +kernel, by decide +kernel⟩, List.mem_of_getElem? (i := 1079) (by decide +kernel), List.mem_of_getElem? (i := 1467) (by decide +kernel), List.mem_of_getElem? (i := 1468) (by decide +kernel)⟩
theorem lw_p73 : lw_okq (⟨"TransactionalFlashModel", "programsMap", "(I)Z"⟩, 51) := ⟨⟨by decide +kernel, by decide +kernel⟩, List.mem_of_getElem? (i := 1079) (by decide +kernel), List.mem_of_getElem? (i := 1471) (by decide +kernel), List.mem_of_getElem? (i := 1472) (by decide +kernel)⟩
theorem lw_p74 : lw_okq (⟨"TransactionalFlashModel", "openMany", "()I"⟩, 51) := ⟨⟨by decide +kernel, by decide +kernel⟩, List.mem_of_getElem? (i := 1079) (by decide +kernel), List.mem_of_getElem? (i := 1483) (by decide +kernel), List.mem_of_getElem? (i := 1484) (by decide +kernel)⟩
theorem lw_p75 : lw_okq (⟨"TransactionalFlashModel", "isTransaction", "(I)Z"⟩, 51) := ⟨⟨by decide +kernel, by decide +kernel⟩, List.mem_of_getElem? (i := 1079) (by decide +kernel), List.mem_of_getElem? (i := 1491) (by decide +kernel), List.mem_of_getElem? (i := 1492) (by decide +kernel)⟩
theorem lw_p76 : lw_okq (⟨"TransactionalFlashModel", "isLogical", "(I)Z"⟩, 51) := ⟨⟨by decide +kernel, by decide +kernel⟩, List.mem_of_getElem? (i := 1079) (by decide +kernel), List.mem_of_getElem? (i := 1495) (by decide +kernel), List.mem_of_getElem? (i := 1496) (by decide +kernel)⟩
theorem lw_p77 : lw_okq (⟨"TransactionalFlashModel", "canAct", "(I)Z"⟩, 51) := ⟨⟨by decide +kernel, by decide +kernel⟩, List.mem_of_getElem? (i := 1079) (by decide +kernel), List.mem_of_getElem? (i := 1499) (by decide +kernel), List.mem_of_getElem? (i := 1500) (by decide +kernel)⟩
theorem lw_p78 : lw_okq (⟨"TransactionalFlashModel", "writesIn", "(III)I"⟩, 51) := ⟨⟨by decide +kernel, by decide +kernel⟩, List.mem_of_getElem? (i := 1079) (by decide +kernel), List.mem_of_getElem? (i := 1503) (by decide +kernel), List.mem_of_getElem? (i := 1504) (by decide +kernel)⟩
theorem lw_p79 : lw_okq (⟨"TransactionalFlashModel", "valueOf", "(II)I"⟩, 51) := ⟨⟨by decide +kernel, by decide +kernel⟩, List.mem_of_getElem? (i := 1079) (by decide +kernel), List.mem_of_getElem? (i := 1511) (by decide +kernel), List.mem_of_getElem? (i := 1512) (by decide +kernel)⟩
def lw_privs_5 : List (MethodName × Nat) := [(⟨"TransactionalFlashModel", "nextVictim", "()I"⟩, 51), (⟨"TransactionalFlashModel", "collects", "(I)Z"⟩, 51), (⟨"TransactionalFlashModel", "copiesPage", "(I)Z"⟩, 51), (⟨"TransactionalFlashModel", "lowestFree", "()I"⟩, 51), (⟨"TransactionalFlashModel", "programsAt", "(IIII)Z"⟩, 51), (⟨"TransactionalFlashModel", "operates", "()Z"⟩, 51), (⟨"TransactionalFlashModel", "erasesBlock", "(I)Z"⟩, 51), (⟨"TransactionalFlashModel", "countsCommit", "()Z"⟩, 51), (⟨"TransactionalFlashModel", "makesCheckpoint", "()Z"⟩, 51), (⟨"TransactionalFlashModel", "programsMap", "(I)Z"⟩, 51), (⟨"TransactionalFlashModel", "openMany", "()I"⟩, 51), (⟨"TransactionalFlashModel", "isTransaction", "(I)Z"⟩, 51), (⟨"TransactionalFlashModel", "isLogical", "(I)Z"⟩, 51), (⟨"TransactionalFlashModel", "canAct", "(I)Z"⟩, 51), (⟨"TransactionalFlashModel", "writesIn", "(III)I"⟩, 51), (⟨"TransactionalFlashModel", "valueOf", "(II)I"⟩, 51)]
theorem lw_r5 : ∀ q ∈ lw_privs_5, lw_okq q := List.forall_mem_cons.mpr ⟨lw_p64, List.forall_mem_cons.mpr ⟨lw_p65, List.forall_mem_cons.mpr ⟨lw_p66, List.forall_mem_cons.mpr ⟨lw_p67, List.forall_mem_cons.mpr ⟨lw_p68, List.forall_mem_cons.mpr ⟨lw_p69, List.forall_mem_cons.mpr ⟨lw_p70, List.forall_mem_cons.mpr ⟨lw_p71, List.forall_mem_cons.mpr ⟨lw_p72, List.forall_mem_cons.mpr ⟨lw_p73, List.forall_mem_cons.mpr ⟨lw_p74, List.forall_mem_cons.mpr ⟨lw_p75, List.forall_mem_cons.mpr ⟨lw_p76, List.forall_mem_cons.mpr ⟨lw_p77, List.forall_mem_cons.mpr ⟨lw_p78, List.forall_mem_cons.mpr ⟨lw_p79, fun _ h => absurd h List.not_mem_nil⟩⟩⟩⟩⟩⟩⟩⟩⟩⟩⟩⟩⟩⟩⟩⟩
theorem lw_p80 : lw_okq (⟨"TransactionalFlashModel", "locksOf", "(I)I"⟩, 51) := ⟨⟨by decide +kernel, by decide +kernel⟩, List.mem_of_getElem? (i := 1079) (by decide +kernel), List.mem_of_getElem? (i := 1519) (by decide +kernel), List.mem_of_getElem? (i := 1520) (by decide +kernel)⟩
theorem lw_p81 : lw_okq (⟨"TransactionalFlashModel", "commits0", "(II)Z"⟩, 51) := ⟨⟨by decide +kernel, by decide +kernel⟩, List.mem_of_getElem? (i := 1079) (by decide +kernel), List.mem_of_getElem? (i := 1523) (by decide +kernel), List.mem_of_getElem? (i := 1524) (by decide +kernel)⟩
theorem lw_p82 : lw_okq (⟨"TransactionalFlashModel", "unlocks", "(I)V"⟩, 51) := ⟨⟨by decide +kernel, by decide +kernel⟩, List.mem_of_getElem? (i := 1079) (by decide +kernel), List.mem_of_getElem? (i := 1527) (by decide +kernel), List.mem_of_getElem? (i := 1528) (by decide +kernel)⟩
theorem lw_p83 : lw_okq (⟨"TransactionalFlashModel", "readerMany", "()I"⟩, 51) := ⟨⟨by decide +kernel, by decide +kernel⟩, List.mem_of_getElem? (i := 1079) (by decide +kernel), List.mem_of_getElem? (i := 1539) (by decide +kernel), List.mem_of_getElem? (i := 1540) (by decide +kernel)⟩
theorem lw_p84 : lw_okq (⟨"TransactionalFlashModel", "isOpenReader", "(I)Z"⟩, 51) := ⟨⟨by decide +kernel, by decide +kernel⟩, List.mem_of_getElem? (i := 1079) (by decide +kernel), List.mem_of_getElem? (i := 1547) (by decide +kernel), List.mem_of_getElem? (i := 1548) (by decide +kernel)⟩
theorem lw_p85 : lw_okq (⟨"TransactionalFlashModel", "readsCheckpoint", "()V"⟩, 51) := ⟨⟨by decide +kernel, by decide +kernel⟩, List.mem_of_getElem? (i := 1079) (by decide +kernel), List.mem_of_getElem? (i := 1571) (by decide +kernel), List.mem_of_getElem? (i := 1572) (by decide +kernel)⟩
theorem lw_p86 : lw_okq (⟨"TransactionalFlashModel", "latestEnd", "()I"⟩, 51) := ⟨⟨by decide +kernel, by decide +kernel⟩, List.mem_of_getElem? (i := 1079) (by decide +kernel), List.mem_of_getElem? (i := 1575) (by decide +kernel), List.mem_of_getElem? (i := 1576) (by decide +kernel)⟩
theorem lw_p87 : lw_okq (⟨"TransactionalFlashModel", "readsMap", "(I)V"⟩, 51) := ⟨⟨by decide +kernel, by decide +kernel⟩, List.mem_of_getElem? (i := 1079) (by decide +kernel), List.mem_of_getElem? (i := 1579) (by decide +kernel), List.mem_of_getElem? (i := 1580) (by decide +kernel)⟩
theorem lw_p88 : lw_okq (⟨"TransactionalFlashModel", "appliesAll", "()V"⟩, 51) := ⟨⟨by decide +kernel, by decide +kernel⟩, List.mem_of_getElem? (i := 1079) (by decide +kernel), List.mem_of_getElem? (i := 1583) (by decide +kernel), List.mem_of_getElem? (i := 1584) (by decide +kernel)⟩
theorem lw_p89 : lw_okq (⟨"TransactionalFlashModel", "nextApplied", "(I)I"⟩, 51) := ⟨⟨by decide +kernel, by decide +kernel⟩, List.mem_of_getElem? (i := 1079) (by decide +kernel), List.mem_of_getElem? (i := 1587) (by decide +kernel), List.mem_of_getElem? (i := 1588) (by decide +kernel)⟩
theorem lw_p90 : lw_okq (⟨"TransactionalFlashModel", "isApplied", "(I)Z"⟩, 51) := ⟨⟨by decide +kernel, by decide +kernel⟩, List.mem_of_getElem? (i := 1079) (by decide +kernel), List.mem_of_getElem? (i := 1591) (by decide +kernel), List.mem_of_getElem? (i := 1592) (by decide +kernel)⟩
theorem lw_p91 : lw_okq (⟨"TransactionalFlashModel", "appliesCommit", "(I)V"⟩, 51) := ⟨⟨by decide +kernel, by decide +kernel⟩, List.mem_of_getElem? (i := 1079) (by decide +kernel), List.mem_of_getElem? (i := 1595) (by decide +kernel), List.mem_of_getElem? (i := 1596) (by decide +kernel)⟩
theorem lw_p92 : lw_okq (⟨"TransactionalFlashModel", "erasesUseless", "()Z"⟩, 51) := ⟨⟨by decide +kernel, by decide +kernel⟩, List.mem_of_getElem? (i := 1079) (by decide +kernel), List.mem_of_getElem? (i := 1599) (by decide +kernel), List.mem_of_getElem? (i := 1600) (by decide +kernel)⟩
theorem lw_p93 : lw_okq (⟨"TransactionalFlashModel", "findsActive", "()V"⟩, 51) := ⟨⟨by decide +kernel, by decide +kernel⟩, List.mem_of_getElem? (i := 1079) (by decide +kernel), List.mem_of_getElem? (i := 1603) (by decide +kernel), List.mem_of_getElem? (i := 1604) (by decide +kernel)⟩
theorem lw_p94 : lw_okq (⟨"TransactionalFlashModel", "isProgrammed", "(I)Z"⟩, 51) := ⟨⟨by decide +kernel, by decide +kernel⟩, List.mem_of_getElem? (i := 1079) (by decide +kernel), List.mem_of_getElem? (i := 1607) (by decide +kernel), List.mem_of_getElem? (i := 1608) (by decide +kernel)⟩
theorem lw_p95 : lw_okq (⟨"TransactionalFlashModel", "isBlock", "(I)Z"⟩, 51) := ⟨⟨by decide +kernel, by decide +kernel⟩, List.mem_of_getElem? (i := 1079) (by decide +kernel), List.mem_of_getElem? (i := 1667) (by decide +kernel), List.mem_of_getElem? (i := 1668) (by decide +kernel)⟩
def lw_privs_6 : List (MethodName × Nat) := [(⟨"TransactionalFlashModel", "locksOf", "(I)I"⟩, 51), (⟨"TransactionalFlashModel", "commits0", "(II)Z"⟩, 51), (⟨"TransactionalFlashModel", "unlocks", "(I)V"⟩, 51), (⟨"TransactionalFlashModel", "readerMany", "()I"⟩, 51), (⟨"TransactionalFlashModel", "isOpenReader", "(I)Z"⟩, 51), (⟨"TransactionalFlashModel", "readsCheckpoint", "()V"⟩, 51), (⟨"TransactionalFlashModel", "latestEnd", "()I"⟩, 51), (⟨"TransactionalFlashModel", "readsMap", "(I)V"⟩, 51), (⟨"TransactionalFlashModel", "appliesAll", "()V"⟩, 51), (⟨"TransactionalFlashModel", "nextApplied", "(I)I"⟩, 51), (⟨"TransactionalFlashModel", "isApplied", "(I)Z"⟩, 51), (⟨"TransactionalFlashModel", "appliesCommit", "(I)V"⟩, 51), (⟨"TransactionalFlashModel", "erasesUseless", "()Z"⟩, 51), (⟨"TransactionalFlashModel", "findsActive", "()V"⟩, 51), (⟨"TransactionalFlashModel", "isProgrammed", "(I)Z"⟩, 51), (⟨"TransactionalFlashModel", "isBlock", "(I)Z"⟩, 51)]
theorem lw_r6 : ∀ q ∈ lw_privs_6, lw_okq q := List.forall_mem_cons.mpr ⟨lw_p80, List.forall_mem_cons.mpr ⟨lw_p81, List.forall_mem_cons.mpr ⟨lw_p82, List.forall_mem_cons.mpr ⟨lw_p83, List.forall_mem_cons.mpr ⟨lw_p84, List.forall_mem_cons.mpr ⟨lw_p85, List.forall_mem_cons.mpr ⟨lw_p86, List.forall_mem_cons.mpr ⟨lw_p87, List.forall_mem_cons.mpr ⟨lw_p88, List.forall_mem_cons.mpr ⟨lw_p89, List.forall_mem_cons.mpr ⟨lw_p90, List.forall_mem_cons.mpr ⟨lw_p91, List.forall_mem_cons.mpr ⟨lw_p92, List.forall_mem_cons.mpr ⟨lw_p93, List.forall_mem_cons.mpr ⟨lw_p94, List.forall_mem_cons.mpr ⟨lw_p95, fun _ h => absurd h List.not_mem_nil⟩⟩⟩⟩⟩⟩⟩⟩⟩⟩⟩⟩⟩⟩⟩⟩
def lw_privs : List (MethodName × Nat) := lw_privs_1 ++ (lw_privs_2 ++ (lw_privs_3 ++ (lw_privs_4 ++ (lw_privs_5 ++ (lw_privs_6)))))
def lw_tbl : List Cond := k2_sels lw_privs ++ tables_1
theorem lw_privs_ok : ∀ q ∈ lw_privs, lw_okq q := by
  show ∀ q ∈ lw_privs_1 ++ (lw_privs_2 ++ (lw_privs_3 ++ (lw_privs_4 ++ (lw_privs_5 ++ (lw_privs_6))))), lw_okq q
  exact List.forall_mem_append.mpr ⟨lw_r1, List.forall_mem_append.mpr ⟨lw_r2, List.forall_mem_append.mpr ⟨lw_r3, List.forall_mem_append.mpr ⟨lw_r4, List.forall_mem_append.mpr ⟨lw_r5, lw_r6⟩⟩⟩⟩⟩
-- ===== end of PART A; then your names; then what follows =====
end
section
/-! ===== BEGIN words of one list among another's, by their places ===== -/
theorem goodIn_r {big : List Cond} (ws : List Cond) (ps : List Nat) (hp : ws = ps.filterMap (fun i => big[i]?)) (h : ws.all goodWord = true) : GoodIn big ws := by
  intro w hw
  have h1 := List.all_eq_true.mp h w hw
  rw [hp] at hw
  obtain ⟨i, -, hi⟩ := List.mem_filterMap.mp hw
  have hm : w ∈ big := by first | exact List.mem_of_getElem? hi | exact List.getElem?_mem hi
  exact ⟨hm, good_of_word h1⟩
theorem goodIn_app {big a b : List Cond} (ha : GoodIn big a) (hb : GoodIn big b) : GoodIn big (a ++ b) := fun w h => (List.mem_append.mp h).elim (ha w) (hb w)
theorem goodIn_ca {big a b : List Cond} {c : Cond} (ha : GoodIn big (c :: a)) (hb : GoodIn big b) : GoodIn big (c :: (a ++ b)) := fun w h => (List.mem_cons.mp h).elim (fun e => ha w (List.mem_cons.mpr (Or.inl e))) (fun h => (List.mem_append.mp h).elim (fun h => ha w (List.mem_cons.mpr (Or.inr h))) (hb w))
theorem goodIn_sub {big ws : List Cond} (hm : ∀ w ∈ ws, w ∈ big) (h : ws.all goodWord = true) : GoodIn big ws := fun w hw => ⟨hm w hw, good_of_word (List.all_eq_true.mp h w hw)⟩
/-! ===== END ===== -/

/-! ===== BEGIN exceptions that leave a method, and their catching by the caller (launches without stack traces) ===== -/
section VXA
/-! The laws vx_back, vx_callV, vx_callS, vx_callSW, vx_throw0, vx_throwS follow proofs of the library, with one case more: JvmDerived/Free/Laws.lean (Back.of_free), Shelf42/LK1.lean (callV, callS), Shelf/KitTraced.lean (throwNew0V, throwNewS). -/
/-- where a method has thrown q: the class by its name, the cell, what was written, the world -/
def vx_T (XC : String → State → State → Prop) (st : State) (q : Addr) (t : State) (mc ms : Nat) (free : Addr → Prop) : Prop :=
  ∃ (E : String) (ce : Cell) (L : List Loc), XC E st t ∧ t.heap[q]? = some ce ∧ ce.vm = .none ∧ st.vm.findClass E = some ce.cls ∧ st.WarmedH t.vm ∧ st.sameButNew ({ t with vm := st.vm } : State) L mc ms ∧ ∀ z ∈ L, free z.base
def vx_Q (Qc : Array Value → State → Outcome → State → Prop) (XC : String → State → State → Prop) (mc ms : Nat) (free : Addr → Prop) : Array Value → State → Outcome → State → Prop := fun a st o t =>
  (Qc a st o t ∧ ∃ L, FrameEnd st o t L mc ms ∧ ∀ q ∈ L, free q.base) ∨ ∃ q, o = .threw q ∧ vx_T XC st q t mc ms free
/-- a callee that returns or throws -/
def vx_Met (l : Launch) (y : MethodName) (ws : List Cond) (rm : Room) (Pc : Array Value → State → Prop) (Qc : Array Value → State → Outcome → State → Prop) (XC : String → State → State → Prop) (mc ms : Nat) (free : Addr → Prop) : Prop :=
  MetFree l y (headSpec ws rm) Pc (fun _ _ _ _ _ => True) (vx_Q Qc XC mc ms free)
def vx_Post (XC : String → State → State → Prop) (mc ms : Nat) (free : Addr → Prop) : Pt → Array Value → Addr → Pt → Prop := fun A a q B =>
  ∃ (g : JFrame) (mk : MethodId) (t : State) (L : List Loc) (E : String) (ce : Cell), B.U.heap = t.heap ∧ B.U.vm = t.vm ∧ XC E (A.U.calling g mk a) t ∧ t.heap[q]? = some ce ∧ ce.vm = .none ∧ A.U.vm.findClass E = some ce.cls ∧ B.locs = A.locs ++ L ∧ (∀ z ∈ L, free z.base) ∧ B.cells = A.cells + mc ∧ B.slots = A.slots + ms
def vx_Back (l : Launch) (R : Room) (p : Program) (e : Env) (below : List Frame) (s : State) (sargs : Array Value) (y : MethodName) (len W9 : Nat)
    (Pre : Pt → Array Value → Prop) (Post : Pt → Array Value → Option Value → Pt → Prop) (PostX : Pt → Array Value → Addr → Pt → Prop) : Prop :=
  ∀ (m : MethodId) (meth : Method) (c : Code) (A : Pt) (g : JFrame) (ig : Instr) (mk : MethodId) (a : Array Value),
    Stand p l e R s m sargs below meth c A.U A.locs A.cells A.slots → g.method = m → g.locals.size = c.maxLocals → decode c.code g.pc = .ok (ig, len) →
    2 * g.monitorRoom + (g.stack.map fun v => v.category).sum ≤ W9 → A.U.methodNamed? y = some mk → Pre A a →
    (∃ (v : Option Value) (B : Pt), Stand p l e R s m sargs below meth c B.U B.locs B.cells B.slots ∧ Post A a v B ∧
      Steps p.tables e below (doInvoke e (A.U.setTop g) [] mk a).1 (B.U.setTop { g with pc := g.pc + len, stack := v.toList ++ g.stack })) ∨
    (∃ (q : Addr) (B : Pt), Stand p l e R s m sargs below meth c B.U B.locs B.cells B.slots ∧ PostX A a q B ∧
      Steps p.tables e below (doInvoke e (A.U.setTop g) [] mk a).1 ((B.U.setTop g).pushFrame (.throwing q)))
section Payer
variable {l : Launch} {R : Room} {p : Program} {e : Env} {below : List Frame} {s : State} {sargs : Array Value} {y : MethodName} {len W9 : Nat}
theorem vx_back {ws : List Cond} {rm : Room} {Pc : Array Value → State → Prop} {Qc : Array Value → State → Outcome → State → Prop} {XC : String → State → State → Prop} {mc ms : Nat} {free : Addr → Prop} {bytes : ByteArray} {maxL : Nat} {ret : Option FieldType}
    (hM : vx_Met l y ws rm Pc Qc XC mc ms free) (hblind : FrameBlind Pc) (hrc : rm.cells = mc) (hrs : rm.slots = ms)
    (hframes : rm.frames + 1 ≤ R.frames) (hlocals : W9 + (maxL + 11) + rm.locals ≤ R.locals)
    (hws : ∀ w ∈ ws, ∀ a' U, s.WarmedH U.vm → w.before a' U = true) (hcode : Cond.code y bytes maxL ret ∈ ws) (hinit : ∀ a' U, s.WarmedH U.vm → (Cond.initialized y.cls).before a' U = true) :
    vx_Back l R p e below s sargs y len W9 (PreOf R mc ms Pc) (PostOf Qc mc ms free) (vx_Post XC mc ms free) := by
  intro m meth c A g ig mk a X hg hsize hdg hW hn hp
  have h1 : (headSpec ws rm).pre.before a A.U = true := atoms_intro fun w hw => hws w hw _ _ X.warmed
  have h2 : (Cond.code y bytes maxL ret).before a A.U = true := hws _ hcode _ _ X.warmed
  have h3 : (Cond.initialized y.cls).before a A.U = true := hinit _ _ X.warmed
  have h4 : A.cells + (headSpec ws rm).room.cells ≤ R.cells := by rw [show (headSpec ws rm).room.cells = mc from hrc]; exact hp.1
  have h5 : A.slots + (headSpec ws rm).room.slots ≤ R.slots := by rw [show (headSpec ws rm).room.slots = ms from hrs]; exact hp.2.1
  have hPc : Pc a (A.U.calling g mk a) := hblind _ _ _ _ hp.2.2
  obtain ⟨U, Ls, c0, s0⟩ := A
  dsimp only [Pt.U, Pt.locs, Pt.cells, Pt.slots] at h1 h2 h3 h4 h5 X hn hPc ⊢
  obtain ⟨methY, cY, hmY, hcY, -, hlY, -, -, -, -⟩ := Cond.code_spec hn h2
  obtain ⟨kY, hkY, -⟩ := className_of_methodNamed hn
  have hinitY : kY.init = .initialized := Cond.initialized_spec (findClass_of_methodNamed hn) hkY h3
  have h : At U g.method c below := by rw [hg]; exact X.here
  have hlocals9 : W9 + (maxL + 11) + (headSpec ws rm).room.locals ≤ R.locals := hlocals
  have happ : (headSpec ws rm).appliesLoose y e.platform (U.calling g mk a) = true :=
    Spec.appliesLoose_calling (g := g) h hdg hn hkY hinitY
      (X.room_calling (g := g) (R' := (headSpec ws rm).room) hsize hmY hcY hframes (by rw [hlY]; omega) h4 h5) h1
  obtain ⟨mid, hmid⟩ := h.above
  have hfr : (U.setTop g).frames = (.java g :: mid) ++ below := by rw [State.frames_setTop' g h.top, hmid]; rfl
  obtain ⟨o, s₂, hsteps, -, hend, hq⟩ := Steps.callFree hM p X.admits X.cas X.clock (acts := []) hfr happ hPc trivial
  have hq' : vx_Q Qc XC mc ms free a (U.calling g mk a) o s₂ := hq
  rw [State.frames_setTop' g h.top] at hend
  obtain ⟨g₀, hg0⟩ := Option.isSome_iff_exists.mp h.top
  obtain ⟨r, hr⟩ := State.topJava?_eq_some.mp hg0
  have hr' : (({ U with heap := s₂.heap, slotsUsed := s₂.slotsUsed } : State).setVm s₂.vm).frames = .java g₀ :: r := hr
  rcases hq' with ⟨hqc, L, hfe, hL⟩ | ⟨q, rfl, E, ce, L, hx, hce, hcv, hcl, hW₂, hsm, hL⟩
  · obtain ⟨⟨v, rfl⟩, hW₂, e2, q2, q3, q4, q5, q6⟩ := id hfe
    have e3 : s₂ = ({ (U.calling g mk a).setFrames s₂.frames with heap := s₂.heap, slotsUsed := s₂.slotsUsed } : State).setVm s₂.vm := by
      have : s₂ = ({ s₂ with vm := (U.calling g mk a).vm } : State).setVm s₂.vm := rfl
      rw [e2] at this
      exact this
    obtain ⟨c₂, i₂, len₂, hc₂, hd₂, hf₂⟩ := hend
    have hW' : U.WarmedH s₂.vm := hW₂
    have hcc : c₂ = c := by
      have h1 : s₂.code? g.method = U.code? g.method := by
        rw [State.code?_eq, State.code?_eq, hW'.alike.method?]
      exact Option.some.inj (hc₂.symm.trans (h1.trans h.code))
    subst hcc
    have hlen : len₂ = len := by rw [hdg] at hd₂; cases hd₂; rfl
    subst hlen
    have hs₂ : s₂ = (({ U with heap := s₂.heap, slotsUsed := s₂.slotsUsed } : State).setVm s₂.vm).setTop { g with pc := g.pc + len₂, stack := v.toList ++ g.stack } := by
      refine e3.trans ?_
      rw [hf₂, State.calling_eq h.top, State.setFrames_setFrames, State.setTop_of_frames _ hr', hr]
      rfl
    have hsame : U.sameButNew ({ U with heap := s₂.heap, slotsUsed := s₂.slotsUsed } : State) L mc ms := by
      refine ⟨?_, q2, q3, q4, q5, q6⟩
      obtain ⟨t, ht, -⟩ := State.frames_cons hr
      show ({ U with heap := s₂.heap, slotsUsed := s₂.slotsUsed } : State) = { U.setFrames U.frames with heap := s₂.heap, slotsUsed := s₂.slotsUsed }
      rw [State.setFrames_self ht]
    subst hg
    refine Or.inl ⟨v, ⟨(({ U with heap := s₂.heap, slotsUsed := s₂.slotsUsed } : State).setVm s₂.vm), Ls ++ L, c0 + mc, s0 + ms⟩,
      ⟨X.admits, X.cas, X.clock, X.frames, X.room, X.hears, X.method, X.code, (X.here.setHeapUsed s₂.heap s₂.slotsUsed).setVm hW'.alike, X.tail, State.WarmedH.trans X.warmed hW', X.limits, X.bytes, X.same.trans (hsame.setVm s.vm)⟩,
      ⟨g, mk, s₂, L, rfl, rfl, hqc, rfl, hL, rfl, rfl⟩, ?_⟩
    show Steps p.tables e below _ ((({ U with heap := s₂.heap, slotsUsed := s₂.slotsUsed } : State).setVm s₂.vm).setTop { g with pc := g.pc + len₂, stack := v.toList ++ g.stack })
    rw [← hs₂]
    exact hsteps
  · obtain ⟨e2, q2, q3, q4, q5, q6⟩ := id hsm
    have e3 : s₂ = ({ (U.calling g mk a).setFrames s₂.frames with heap := s₂.heap, slotsUsed := s₂.slotsUsed } : State).setVm s₂.vm := by
      have : s₂ = ({ s₂ with vm := (U.calling g mk a).vm } : State).setVm s₂.vm := rfl
      rw [e2] at this
      exact this
    have hf₂ : s₂.frames = .throwing q :: .java g :: U.frames.tail := hend
    have hW' : U.WarmedH s₂.vm := hW₂
    have hs₂ : s₂ = ((({ U with heap := s₂.heap, slotsUsed := s₂.slotsUsed } : State).setVm s₂.vm).setTop g).pushFrame (.throwing q) := by
      refine e3.trans ?_
      rw [hf₂, State.calling_eq h.top, State.setFrames_setFrames, State.pushFrame, State.frames_setTop _ hr', State.setTop_of_frames _ hr', State.setFrames_setFrames, hr]
      rfl
    have hsame : U.sameButNew ({ U with heap := s₂.heap, slotsUsed := s₂.slotsUsed } : State) L mc ms := by
      refine ⟨?_, q2, q3, q4, q5, q6⟩
      obtain ⟨t, ht, -⟩ := State.frames_cons hr
      show ({ U with heap := s₂.heap, slotsUsed := s₂.slotsUsed } : State) = { U.setFrames U.frames with heap := s₂.heap, slotsUsed := s₂.slotsUsed }
      rw [State.setFrames_self ht]
    subst hg
    refine Or.inr ⟨q, ⟨(({ U with heap := s₂.heap, slotsUsed := s₂.slotsUsed } : State).setVm s₂.vm), Ls ++ L, c0 + mc, s0 + ms⟩,
      ⟨X.admits, X.cas, X.clock, X.frames, X.room, X.hears, X.method, X.code, (X.here.setHeapUsed s₂.heap s₂.slotsUsed).setVm hW'.alike, X.tail, State.WarmedH.trans X.warmed hW', X.limits, X.bytes, X.same.trans (hsame.setVm s.vm)⟩,
      ⟨g, mk, s₂, L, E, ce, rfl, rfl, hx, hce, hcv, hcl, rfl, hL, rfl, rfl⟩, ?_⟩
    show Steps p.tables e below _ (((({ U with heap := s₂.heap, slotsUsed := s₂.slotsUsed } : State).setVm s₂.vm).setTop g).pushFrame (.throwing q))
    rw [← hs₂]
    exact hsteps
end Payer
section Calls
variable {p : Program} {l : Launch} {e : Env} {R : Room} {s : State} {m : MethodId} {args : Array Value} {below : List Frame} {meth : Method} {c : Code} {T : State} {locs : List Loc} {cells slots : Nat}
theorem vx_callV (X : Stand p l e R s m args below meth c T locs cells slots) (hexec : p.tables.exec = Jvm.exec) {own C : String} {index : Nat} {y : MethodName} {bytes : ByteArray} {maxL : Nat} {ret : Option FieldType}
    (hown : s.vm.findClass own = some m.cls) (hlink : (Cond.methodLink own index y).before args s = true) (hinst : (Cond.instanceMethod y).before args s = true) (hsel : (Cond.selects C y y).before args s = true)
    (hcode : (Cond.code y bytes maxL ret).before args s = true) (hy : y.cls ≠ "java/lang/invoke/MethodHandle" ∧ y.cls ≠ "java/lang/invoke/VarHandle")
    {W9 : Nat} {Pre : Pt → Array Value → Prop} {Post : Pt → Array Value → Option Value → Pt → Prop} {PostX : Pt → Array Value → Addr → Pt → Prop} (hK : vx_Back l R p e below s args y 3 W9 Pre Post PostX)
    {b : Addr} {cellB : Cell} (hcell : T.heap[b]? = some cellB) (hobj : cellB.vm.isStatics = false) (hcls : s.vm.findClass C = some cellB.cls)
    {g : JFrame} (hg : g.method = m) (hsize : g.locals.size = c.maxLocals) {argsL rest : List Value} (hlen : ∀ sig, parseMethodDescriptor y.desc = some sig → argsL.length = sig.parameters.length)
    (hstack : g.stack = argsL.reverse ++ .ref b :: rest) (hW : 2 * g.monitorRoom + (rest.map fun v => v.category).sum ≤ W9) (hdg : decode c.code g.pc = .ok (.invokevirtual index, 3))
    (hpre : ∀ vm₁, s.WarmedH vm₁ → Pre ⟨T.setVm vm₁, locs, cells, slots⟩ (Value.ref b :: argsL).toArray) :
    (∃ (v : Option Value) (vm₁ : Vm) (B : Pt), s.WarmedH vm₁ ∧ Stand p l e R s m args below meth c B.U B.locs B.cells B.slots ∧ Post ⟨T.setVm vm₁, locs, cells, slots⟩ (Value.ref b :: argsL).toArray v B ∧
      ∀ target, Steps p.tables e below (B.U.setTop { g with pc := g.pc + 3, stack := v.toList ++ rest }) target → Steps p.tables e below (T.setTop g) target) ∨
    (∃ (q : Addr) (vm₁ : Vm) (B : Pt), s.WarmedH vm₁ ∧ Stand p l e R s m args below meth c B.U B.locs B.cells B.slots ∧ PostX ⟨T.setVm vm₁, locs, cells, slots⟩ (Value.ref b :: argsL).toArray q B ∧
      Steps p.tables e below (T.setTop g) ((B.U.setTop { g with stack := rest }).pushFrame (.throwing q))) := by
  obtain ⟨mk, methM, hnamed, hmethM, hstM, habM⟩ := Cond.instanceMethod_spec hinst
  obtain ⟨methM', cM, hmethM', -, -, -, -, -, -, hsigM⟩ := Cond.code_spec hnamed hcode
  cases hmethM.symm.trans hmethM'
  obtain ⟨c2, r2, m2, q1, q2, q3, q4, kP, hkP, hkPi⟩ := Cond.selects_spec hsel
  cases hcls.symm.trans q1
  cases (State.methodFound?_of_named hnamed hy).symm.trans q2
  cases hnamed.symm.trans q3
  have hselP : selectMethod e.platform s.vm cellB.cls mk = .method mk := by rw [Launch.admits_selectMethod X.admits]; exact q4
  obtain ⟨vm₁, X₁, hstep₁⟩ := X.invokevirtual hexec hown hlink hnamed hmethM hstM hkP hkPi hy (a := b) (cell := cellB) hcell
    (fun z h => by rw [h] at hobj; cases hobj) hselP hmethM habM hkP hkPi (g := g) hg (argsL := argsL) (rest := rest) (hlen _ hsigM) hstack hdg
  rcases hK m meth c ⟨T.setVm vm₁, locs, cells, slots⟩ { g with stack := rest } (.invokevirtual index) mk (Value.ref b :: argsL).toArray X₁ hg hsize hdg hW (X₁.named hnamed) (hpre vm₁ X₁.warmed) with ⟨v, B, X', hpost, hsteps⟩ | ⟨q, B, X', hpost, hsteps⟩
  · exact Or.inl ⟨v, vm₁, B, X₁.warmed, X', hpost, fun target h => hstep₁ _ fun acts => by rw [doInvoke_state]; exact hsteps.trans h⟩
  · exact Or.inr ⟨q, vm₁, B, X₁.warmed, X', hpost, hstep₁ _ fun acts => by rw [doInvoke_state]; exact hsteps⟩
theorem vx_callS (X : Stand p l e R s m args below meth c T locs cells slots) (hexec : p.tables.exec = Jvm.exec) {own : String} {index : Nat} {y : MethodName} {bytes : ByteArray} {maxL : Nat} {ret : Option FieldType}
    (hown : s.vm.findClass own = some m.cls) (hlink : (Cond.methodLink own index y).before args s = true) (hstat : (Cond.static y).before args s = true) (hinit : (Cond.initialized y.cls).before args s = true)
    (hcode : (Cond.code y bytes maxL ret).before args s = true) (hy : y.cls ≠ "java/lang/invoke/MethodHandle" ∧ y.cls ≠ "java/lang/invoke/VarHandle")
    {W9 : Nat} {Pre : Pt → Array Value → Prop} {Post : Pt → Array Value → Option Value → Pt → Prop} {PostX : Pt → Array Value → Addr → Pt → Prop} (hK : vx_Back l R p e below s args y 3 W9 Pre Post PostX)
    {g : JFrame} (hg : g.method = m) (hsize : g.locals.size = c.maxLocals) {argsL rest : List Value} (hlen : ∀ sig, parseMethodDescriptor y.desc = some sig → argsL.length = sig.parameters.length)
    (hstack : g.stack = argsL.reverse ++ rest) (hW : 2 * g.monitorRoom + (rest.map fun v => v.category).sum ≤ W9) (hdg : decode c.code g.pc = .ok (.invokestatic index, 3))
    (hpre : ∀ vm₁, s.WarmedH vm₁ → Pre ⟨T.setVm vm₁, locs, cells, slots⟩ argsL.toArray) :
    (∃ (v : Option Value) (vm₁ : Vm) (B : Pt), s.WarmedH vm₁ ∧ Stand p l e R s m args below meth c B.U B.locs B.cells B.slots ∧ Post ⟨T.setVm vm₁, locs, cells, slots⟩ argsL.toArray v B ∧
      ∀ target, Steps p.tables e below (B.U.setTop { g with pc := g.pc + 3, stack := v.toList ++ rest }) target → Steps p.tables e below (T.setTop g) target) ∨
    (∃ (q : Addr) (vm₁ : Vm) (B : Pt), s.WarmedH vm₁ ∧ Stand p l e R s m args below meth c B.U B.locs B.cells B.slots ∧ PostX ⟨T.setVm vm₁, locs, cells, slots⟩ argsL.toArray q B ∧
      Steps p.tables e below (T.setTop g) ((B.U.setTop { g with stack := rest }).pushFrame (.throwing q))) := by
  obtain ⟨mk, hnamed⟩ := Cond.code_named hcode
  obtain ⟨methM, cM, hmethM, -, -, -, -, -, -, hsigM⟩ := Cond.code_spec hnamed hcode
  have hstatic : methM.isStatic = true := Cond.static_spec hnamed hmethM hstat
  obtain ⟨kP, hkP, -⟩ := className_of_methodNamed hnamed
  have hinitP : kP.init = .initialized := Cond.initialized_spec (findClass_of_methodNamed hnamed) hkP hinit
  obtain ⟨vm₁, X₁, hstep₁⟩ := X.invokestatic hexec hown hlink hnamed hmethM hstatic hkP hinitP hy (g := g) hg (argsL := argsL) (rest := rest) (hlen _ hsigM) hstack hdg
  rcases hK m meth c ⟨T.setVm vm₁, locs, cells, slots⟩ { g with stack := rest } (.invokestatic index) mk argsL.toArray X₁ hg hsize hdg hW (X₁.named hnamed) (hpre vm₁ X₁.warmed) with ⟨v, B, X', hpost, hsteps⟩ | ⟨q, B, X', hpost, hsteps⟩
  · exact Or.inl ⟨v, vm₁, B, X₁.warmed, X', hpost, fun target h => hstep₁ _ fun acts => by rw [doInvoke_state]; exact hsteps.trans h⟩
  · exact Or.inr ⟨q, vm₁, B, X₁.warmed, X', hpost, hstep₁ _ fun acts => by rw [doInvoke_state]; exact hsteps⟩
end Calls
theorem vx_cls {s : State} {T : State} {vm₁ : Vm} {E : String} {k : ClassId} (hW : s.WarmedH vm₁) (h : (T.setVm vm₁).vm.findClass E = some k) : s.vm.findClass E = some k := by
  have h1 : vm₁.findClass E = some k := h
  rw [hW.alike.findClass] at h1
  exact h1
/-- the method's frame g, with q thrown over it -/
def vx_W (p : Program) (l : Launch) (e : Env) (R : Room) (s : State) (m : MethodId) (args : Array Value) (below : List Frame) (meth : Method) (c : Code) (H : Heap) (locs : List Loc) (cells slots : Nat) (Q : State → Prop) (g : JFrame) (q : Addr) : Prop :=
  ∀ T : State, T.heap = H → Stand p l e R s m args below meth c T locs cells slots → ∃ t, Steps p.tables e below ((T.setTop g).pushFrame (.throwing q)) t ∧ Q t
def vx_Run (p : Program) (l : Launch) (e : Env) (R : Room) (s : State) (m : MethodId) (args : Array Value) (below : List Frame) (meth : Method) (c : Code) (H : Heap) (locs : List Loc) (cells slots mc ms : Nat) (g : JFrame) (rest : List Value) (Qa : State → Outcome → State → Prop) (XC : String → State → State → Prop) (free : Addr → Prop) : Prop :=
  ∀ T : State, T.heap = H → Stand p l e R s m args below meth c T locs cells slots →
    (∃ (v : Option Value) (st₀ t T' : State) (L : List Loc), st₀.heap = H ∧ Stand p l e R s m args below meth c T' (locs ++ L) (cells + mc) (slots + ms) ∧ (∀ q ∈ L, free q.base) ∧ T'.heap = t.heap ∧ T'.vm = t.vm ∧ Qa st₀ (.returned v) t ∧
      Goes p e below T g T' { g with pc := g.pc + 3, stack := v.toList ++ rest }) ∨
    (∃ (q : Addr) (st₀ t T' : State) (L : List Loc) (E : String) (ce : Cell), st₀.heap = H ∧ Stand p l e R s m args below meth c T' (locs ++ L) (cells + mc) (slots + ms) ∧ (∀ z ∈ L, free z.base) ∧ T'.heap = t.heap ∧ T'.vm = t.vm ∧ XC E st₀ t ∧ t.heap[q]? = some ce ∧ ce.vm = .none ∧ s.vm.findClass E = some ce.cls ∧
      Steps p.tables e below (T.setTop g) ((T'.setTop { g with stack := rest }).pushFrame (.throwing q)))
def vx_X {S : Type} (px : S → Prop) (B : String → S → State → Prop) (A : Nat → Prop) : String → State → State → Prop := fun E st t => ∃ u : S, px u ∧ B E u t ∧ va_F A st t
section Runs
variable {p : Program} {l : Launch} {e : Env} {R : Room} {s : State} {m : MethodId} {args : Array Value} {below : List Frame} {meth : Method} {c : Code} {H : Heap} {locs : List Loc} {cells slots : Nat}
variable {y : MethodName} {bytes cc : ByteArray} {maxL nL mc ms n index : Nat} {ret : Option FieldType} {ws : List Cond} {rm : Room} {Pc : Array Value → State → Prop} {Qc : Array Value → State → Outcome → State → Prop} {XC : String → State → State → Prop} {free : Addr → Prop} {Ts : List Cond} {own C : String} {b : Addr} {As rest : List Value} {g : JFrame}
theorem vx_callBack (cb : CallB R s args own index y bytes maxL ret ws rm mc ms n) (hM : vx_Met l y ws rm Pc Qc XC mc ms free) (hbl : FrameBlind Pc) : vx_Back l R p e below s args y 3 8 (PreOf R mc ms Pc) (PostOf Qc mc ms free) (vx_Post XC mc ms free) := by
  obtain ⟨hrc, hrs, hfr, hlo, hws, hcw, -, hini, -⟩ := cb
  exact vx_back (bytes := bytes) (maxL := maxL) (ret := ret) hM hbl hrc hrs hfr hlo hws hcw (fun a' U hW => word_at hW (Or.inl (by first | rfl | simp [Cond.onTables, Cond.keeps, Cond.steady])) hini)
theorem vx_runV (S : CallFix p m c cc nL s args Ts own) (hM : vx_Met l y ws rm Pc Qc XC mc ms free) (cw : CallW R s args own C index y bytes maxL ret ws rm mc ms n) (hp : PreV s H C b Pc As)
    (hg : g.method = m) (hn : As.length = n) (hsize : g.locals.size = nL) (hstack : g.stack = As.reverse ++ .ref b :: rest) (hW : 2 * g.monitorRoom + (rest.map fun v => v.category).sum ≤ 8) (hdg : decode cc g.pc = .ok (.invokevirtual index, 3)) (hf : cells + mc ≤ R.cells ∧ slots + ms ≤ R.slots) :
    vx_Run p l e R s m args below meth c H locs cells slots mc ms g rest (Qc (Value.ref b :: As).toArray) XC free := by
  have hK : vx_Back l R p e below s args y 3 8 (PreOf R mc ms Pc) (PostOf Qc mc ms free) (vx_Post XC mc ms free) := vx_callBack cw.1 hM hp.1
  obtain ⟨⟨-, -, -, -, -, -, hcode, -, hy, hlen, hl⟩, hin, hse⟩ := cw
  obtain ⟨hx, hb, hml, ho, -⟩ := S
  obtain ⟨-, ⟨cellB, hcB, hoB, hclB⟩, hPc⟩ := hp
  intro T hT X
  rcases vx_callV X hx (C := C) (bytes := bytes) (maxL := maxL) (ret := ret) ho hl hin hse hcode hy hK (by rw [hT]; exact hcB) hoB hclB hg (hsize.trans hml.symm) (argsL := As) (rest := rest) (fun sig h => hn.trans (hlen sig h)) hstack hW (by rw [hb]; exact hdg)
    (fun vm₁ hW₁ => ⟨hf.1, hf.2, hPc (T.setVm vm₁) hT hW₁⟩) with ⟨v, vm₁, ⟨U', l2, c2, s2⟩, hW₁, X', ⟨g', mk, t, L, e1, e2, hq, h1, hL, h2, h3⟩, st⟩ | ⟨q, vm₁, ⟨U', l2, c2, s2⟩, hW₁, X', ⟨g', mk, t, L, E, ce, e1, e2, hq, hce, hcv, hcl, h1, hL, h2, h3⟩, st⟩
  · dsimp only [Pt.U, Pt.locs, Pt.cells, Pt.slots] at X' e1 e2 h1 h2 h3 st
    subst h1; subst h2; subst h3
    exact Or.inl ⟨v, (T.setVm vm₁).calling g' mk (Value.ref b :: As).toArray, t, U', L, hT, X', hL, e1, e2, hq, st⟩
  · dsimp only [Pt.U, Pt.locs, Pt.cells, Pt.slots] at X' e1 e2 h1 h2 h3 st hcl
    subst h1; subst h2; subst h3
    exact Or.inr ⟨q, (T.setVm vm₁).calling g' mk (Value.ref b :: As).toArray, t, U', L, E, ce, hT, X', hL, e1, e2, hq, hce, hcv, vx_cls hW₁ hcl, st⟩
theorem vx_runS (S : CallFix p m c cc nL s args Ts own) (hM : vx_Met l y ws rm Pc Qc XC mc ms free) (cw : CallB R s args own index y bytes maxL ret ws rm mc ms n ∧ (Cond.static y).before args s = true) (hp : PreS s H Pc As)
    (hg : g.method = m) (hn : As.length = n) (hsize : g.locals.size = nL) (hstack : g.stack = As.reverse ++ rest) (hW : 2 * g.monitorRoom + (rest.map fun v => v.category).sum ≤ 8) (hdg : decode cc g.pc = .ok (.invokestatic index, 3)) (hf : cells + mc ≤ R.cells ∧ slots + ms ≤ R.slots) :
    vx_Run p l e R s m args below meth c H locs cells slots mc ms g rest (Qc As.toArray) XC free := by
  have hK : vx_Back l R p e below s args y 3 8 (PreOf R mc ms Pc) (PostOf Qc mc ms free) (vx_Post XC mc ms free) := vx_callBack cw.1 hM hp.1
  obtain ⟨⟨-, -, -, -, -, -, hcode, hini, hy, hlen, hl⟩, hstt⟩ := cw
  obtain ⟨hx, hb, hml, ho, -⟩ := S
  intro T hT X
  rcases vx_callS X hx (bytes := bytes) (maxL := maxL) (ret := ret) ho hl hstt hini hcode hy hK hg (hsize.trans hml.symm) (argsL := As) (rest := rest) (fun sig h => hn.trans (hlen sig h)) hstack hW (by rw [hb]; exact hdg)
    (fun vm₁ hW₁ => ⟨hf.1, hf.2, hp.2 (T.setVm vm₁) hT hW₁⟩) with ⟨v, vm₁, ⟨U', l2, c2, s2⟩, hW₁, X', ⟨g', mk, t, L, e1, e2, hq, h1, hL, h2, h3⟩, st⟩ | ⟨q, vm₁, ⟨U', l2, c2, s2⟩, hW₁, X', ⟨g', mk, t, L, E, ce, e1, e2, hq, hce, hcv, hcl, h1, hL, h2, h3⟩, st⟩
  · dsimp only [Pt.U, Pt.locs, Pt.cells, Pt.slots] at X' e1 e2 h1 h2 h3 st
    subst h1; subst h2; subst h3
    exact Or.inl ⟨v, (T.setVm vm₁).calling g' mk As.toArray, t, U', L, hT, X', hL, e1, e2, hq, st⟩
  · dsimp only [Pt.U, Pt.locs, Pt.cells, Pt.slots] at X' e1 e2 h1 h2 h3 st hcl
    subst h1; subst h2; subst h3
    exact Or.inr ⟨q, (T.setVm vm₁).calling g' mk As.toArray, t, U', L, E, ce, hT, X', hL, e1, e2, hq, hce, hcv, vx_cls hW₁ hcl, st⟩
end Runs
section Rows
variable {p : Program} {l : Launch} {e : Env} {R : Room} {s : State} {m : MethodId} {args : Array Value} {below : List Frame} {meth : Method} {c : Code} {H : Heap} {locs : List Loc} {cells slots : Nat} {Q : State → Prop}
variable {mc ms : Nat} {free : Addr → Prop} {A0 A1 : Nat → Prop} {H0 : Heap} {a : Array Value} {pc : Nat} {ls : Array Slot} {st0 rest : List Value}
theorem vx_keep {st₀ t T' : State} {L : List Loc} (h0 : st₀.heap = H) (e1 : T'.heap = t.heap) (hS : va_S A0 H0 H locs) (hA : ∀ q, q < H.size → A1 q → A0 q) (hf : ∀ q, free q → A0 q) (hL : ∀ q ∈ L, free q.base) (hF : va_F A1 st₀ t) :
    H.size ≤ T'.heap.size ∧ (∀ q : Nat, q < H.size → ¬ A1 q → T'.heap[q]? = H[q]?) ∧ va_S A0 H0 T'.heap (locs ++ L) := by
  obtain ⟨hz, hk⟩ := hF
  rw [h0] at hz hk
  exact ⟨by rw [e1]; exact hz, fun q h1 h2 => by rw [e1]; exact hk q h1 h2,
    ⟨Nat.le_trans hS.1 (by rw [e1]; exact hz), fun q h1 h2 => by rw [e1, hk q (Nat.lt_of_lt_of_le h1 hS.1) (fun z => h2 (hA q (Nat.lt_of_lt_of_le h1 hS.1) z))]; exact hS.2.1 q h1 h2, fun q hq => by
      rcases List.mem_append.mp hq with h | h
      · exact hS.2.2 q h
      · exact hf _ (hL q h)⟩⟩
theorem vx_calli {S SX : Type} {post : Int32 → S → Prop} {px : SX → Prop} {B : S → State → Prop} {BX : String → SX → State → Prop} {AX : Nat → Prop} (hr : vx_Run p l e R s m args below meth c H locs cells slots mc ms (F0 m pc ls st0) rest (va_Qi post B A1 a) (vx_X px BX AX) free) (hS : va_S A0 H0 H locs) (hA : ∀ q, q < H.size → A1 q → A0 q) (hf : ∀ q, free q → A0 q) (hAX : ∀ q, q < H.size → AX q → A0 q)
    (kx : ∀ (E : String) (ce : Cell) (q9 : Addr) (u : SX) (t : State) (H1 : Heap) (locs1 : List Loc), t.heap = H1 → s.vm.Alike t.vm → px u → BX E u t → H.size ≤ H1.size → (∀ q : Nat, q < H.size → ¬ AX q → H1[q]? = H[q]?) → va_S A0 H0 H1 locs1 → H1[q9]? = some ce → ce.vm = .none → s.vm.findClass E = some ce.cls → vx_W p l e R s m args below meth c H1 locs1 (cells + mc) (slots + ms) Q (F0 m pc ls rest) q9)
    (kk : ∀ (r : Int32) (u : S) (t : State) (H1 : Heap) (locs1 : List Loc), t.heap = H1 → s.vm.Alike t.vm → post r u → B u t → H.size ≤ H1.size → (∀ q : Nat, q < H.size → ¬ A1 q → H1[q]? = H[q]?) → va_S A0 H0 H1 locs1 → W p l e R s m args below meth c H1 locs1 (cells + mc) (slots + ms) Q (F0 m (pc + 3) ls (.int r :: rest))) : W p l e R s m args below meth c H locs cells slots Q (F0 m pc ls st0) := by
  intro T hT X
  rcases hr T hT X with ⟨v, st₀, t, T', L, h0, X', hL, e1, e2, ⟨⟨r, u, hv, hp, hb⟩, hF⟩, st⟩ | ⟨q, st₀, t, T', L, E, ce, h0, X', hL, e1, e2, ⟨u, hp, hb, hF⟩, hce, hcv, hcl, st⟩
  · cases hv
    obtain ⟨k1, k2, k3⟩ := vx_keep h0 e1 hS hA hf hL hF
    obtain ⟨t2, a1, b1⟩ := kk r u t T'.heap (locs ++ L) e1.symm (by rw [← e2]; exact X'.warmed.alike) hp hb k1 k2 k3 T' rfl X'
    exact ⟨t2, st t2 a1, b1⟩
  · obtain ⟨k1, k2, k3⟩ := vx_keep h0 e1 hS hAX hf hL hF
    obtain ⟨t2, a1, b1⟩ := kx E ce q u t T'.heap (locs ++ L) e1.symm (by rw [← e2]; exact X'.warmed.alike) hp hb k1 k2 k3 (by rw [e1]; exact hce) hcv hcl T' rfl X'
    exact ⟨t2, st.trans a1, b1⟩
theorem vx_calll {S SX : Type} {post : Int64 → S → Prop} {px : SX → Prop} {B : S → State → Prop} {BX : String → SX → State → Prop} {AX : Nat → Prop} (hr : vx_Run p l e R s m args below meth c H locs cells slots mc ms (F0 m pc ls st0) rest (va_Ql post B A1 a) (vx_X px BX AX) free) (hS : va_S A0 H0 H locs) (hA : ∀ q, q < H.size → A1 q → A0 q) (hf : ∀ q, free q → A0 q) (hAX : ∀ q, q < H.size → AX q → A0 q)
    (kx : ∀ (E : String) (ce : Cell) (q9 : Addr) (u : SX) (t : State) (H1 : Heap) (locs1 : List Loc), t.heap = H1 → s.vm.Alike t.vm → px u → BX E u t → H.size ≤ H1.size → (∀ q : Nat, q < H.size → ¬ AX q → H1[q]? = H[q]?) → va_S A0 H0 H1 locs1 → H1[q9]? = some ce → ce.vm = .none → s.vm.findClass E = some ce.cls → vx_W p l e R s m args below meth c H1 locs1 (cells + mc) (slots + ms) Q (F0 m pc ls rest) q9)
    (kk : ∀ (r : Int64) (u : S) (t : State) (H1 : Heap) (locs1 : List Loc), t.heap = H1 → s.vm.Alike t.vm → post r u → B u t → H.size ≤ H1.size → (∀ q : Nat, q < H.size → ¬ A1 q → H1[q]? = H[q]?) → va_S A0 H0 H1 locs1 → W p l e R s m args below meth c H1 locs1 (cells + mc) (slots + ms) Q (F0 m (pc + 3) ls (.long r :: rest))) : W p l e R s m args below meth c H locs cells slots Q (F0 m pc ls st0) := by
  intro T hT X
  rcases hr T hT X with ⟨v, st₀, t, T', L, h0, X', hL, e1, e2, ⟨⟨r, u, hv, hp, hb⟩, hF⟩, st⟩ | ⟨q, st₀, t, T', L, E, ce, h0, X', hL, e1, e2, ⟨u, hp, hb, hF⟩, hce, hcv, hcl, st⟩
  · cases hv
    obtain ⟨k1, k2, k3⟩ := vx_keep h0 e1 hS hA hf hL hF
    obtain ⟨t2, a1, b1⟩ := kk r u t T'.heap (locs ++ L) e1.symm (by rw [← e2]; exact X'.warmed.alike) hp hb k1 k2 k3 T' rfl X'
    exact ⟨t2, st t2 a1, b1⟩
  · obtain ⟨k1, k2, k3⟩ := vx_keep h0 e1 hS hAX hf hL hF
    obtain ⟨t2, a1, b1⟩ := kx E ce q u t T'.heap (locs ++ L) e1.symm (by rw [← e2]; exact X'.warmed.alike) hp hb k1 k2 k3 (by rw [e1]; exact hce) hcv hcl T' rfl X'
    exact ⟨t2, st.trans a1, b1⟩
theorem vx_callf {S SX : Type} {post : UInt32 → S → Prop} {px : SX → Prop} {B : S → State → Prop} {BX : String → SX → State → Prop} {AX : Nat → Prop} (hr : vx_Run p l e R s m args below meth c H locs cells slots mc ms (F0 m pc ls st0) rest (va_Qf post B A1 a) (vx_X px BX AX) free) (hS : va_S A0 H0 H locs) (hA : ∀ q, q < H.size → A1 q → A0 q) (hf : ∀ q, free q → A0 q) (hAX : ∀ q, q < H.size → AX q → A0 q)
    (kx : ∀ (E : String) (ce : Cell) (q9 : Addr) (u : SX) (t : State) (H1 : Heap) (locs1 : List Loc), t.heap = H1 → s.vm.Alike t.vm → px u → BX E u t → H.size ≤ H1.size → (∀ q : Nat, q < H.size → ¬ AX q → H1[q]? = H[q]?) → va_S A0 H0 H1 locs1 → H1[q9]? = some ce → ce.vm = .none → s.vm.findClass E = some ce.cls → vx_W p l e R s m args below meth c H1 locs1 (cells + mc) (slots + ms) Q (F0 m pc ls rest) q9)
    (kk : ∀ (r : UInt32) (u : S) (t : State) (H1 : Heap) (locs1 : List Loc), t.heap = H1 → s.vm.Alike t.vm → post r u → B u t → H.size ≤ H1.size → (∀ q : Nat, q < H.size → ¬ A1 q → H1[q]? = H[q]?) → va_S A0 H0 H1 locs1 → W p l e R s m args below meth c H1 locs1 (cells + mc) (slots + ms) Q (F0 m (pc + 3) ls (.float r :: rest))) : W p l e R s m args below meth c H locs cells slots Q (F0 m pc ls st0) := by
  intro T hT X
  rcases hr T hT X with ⟨v, st₀, t, T', L, h0, X', hL, e1, e2, ⟨⟨r, u, hv, hp, hb⟩, hF⟩, st⟩ | ⟨q, st₀, t, T', L, E, ce, h0, X', hL, e1, e2, ⟨u, hp, hb, hF⟩, hce, hcv, hcl, st⟩
  · cases hv
    obtain ⟨k1, k2, k3⟩ := vx_keep h0 e1 hS hA hf hL hF
    obtain ⟨t2, a1, b1⟩ := kk r u t T'.heap (locs ++ L) e1.symm (by rw [← e2]; exact X'.warmed.alike) hp hb k1 k2 k3 T' rfl X'
    exact ⟨t2, st t2 a1, b1⟩
  · obtain ⟨k1, k2, k3⟩ := vx_keep h0 e1 hS hAX hf hL hF
    obtain ⟨t2, a1, b1⟩ := kx E ce q u t T'.heap (locs ++ L) e1.symm (by rw [← e2]; exact X'.warmed.alike) hp hb k1 k2 k3 (by rw [e1]; exact hce) hcv hcl T' rfl X'
    exact ⟨t2, st.trans a1, b1⟩
theorem vx_calld {S SX : Type} {post : UInt64 → S → Prop} {px : SX → Prop} {B : S → State → Prop} {BX : String → SX → State → Prop} {AX : Nat → Prop} (hr : vx_Run p l e R s m args below meth c H locs cells slots mc ms (F0 m pc ls st0) rest (va_Qd post B A1 a) (vx_X px BX AX) free) (hS : va_S A0 H0 H locs) (hA : ∀ q, q < H.size → A1 q → A0 q) (hf : ∀ q, free q → A0 q) (hAX : ∀ q, q < H.size → AX q → A0 q)
    (kx : ∀ (E : String) (ce : Cell) (q9 : Addr) (u : SX) (t : State) (H1 : Heap) (locs1 : List Loc), t.heap = H1 → s.vm.Alike t.vm → px u → BX E u t → H.size ≤ H1.size → (∀ q : Nat, q < H.size → ¬ AX q → H1[q]? = H[q]?) → va_S A0 H0 H1 locs1 → H1[q9]? = some ce → ce.vm = .none → s.vm.findClass E = some ce.cls → vx_W p l e R s m args below meth c H1 locs1 (cells + mc) (slots + ms) Q (F0 m pc ls rest) q9)
    (kk : ∀ (r : UInt64) (u : S) (t : State) (H1 : Heap) (locs1 : List Loc), t.heap = H1 → s.vm.Alike t.vm → post r u → B u t → H.size ≤ H1.size → (∀ q : Nat, q < H.size → ¬ A1 q → H1[q]? = H[q]?) → va_S A0 H0 H1 locs1 → W p l e R s m args below meth c H1 locs1 (cells + mc) (slots + ms) Q (F0 m (pc + 3) ls (.double r :: rest))) : W p l e R s m args below meth c H locs cells slots Q (F0 m pc ls st0) := by
  intro T hT X
  rcases hr T hT X with ⟨v, st₀, t, T', L, h0, X', hL, e1, e2, ⟨⟨r, u, hv, hp, hb⟩, hF⟩, st⟩ | ⟨q, st₀, t, T', L, E, ce, h0, X', hL, e1, e2, ⟨u, hp, hb, hF⟩, hce, hcv, hcl, st⟩
  · cases hv
    obtain ⟨k1, k2, k3⟩ := vx_keep h0 e1 hS hA hf hL hF
    obtain ⟨t2, a1, b1⟩ := kk r u t T'.heap (locs ++ L) e1.symm (by rw [← e2]; exact X'.warmed.alike) hp hb k1 k2 k3 T' rfl X'
    exact ⟨t2, st t2 a1, b1⟩
  · obtain ⟨k1, k2, k3⟩ := vx_keep h0 e1 hS hAX hf hL hF
    obtain ⟨t2, a1, b1⟩ := kx E ce q u t T'.heap (locs ++ L) e1.symm (by rw [← e2]; exact X'.warmed.alike) hp hb k1 k2 k3 (by rw [e1]; exact hce) hcv hcl T' rfl X'
    exact ⟨t2, st.trans a1, b1⟩
theorem vx_callv {S SX : Type} {post : S → Prop} {px : SX → Prop} {B : S → State → Prop} {BX : String → SX → State → Prop} {AX : Nat → Prop} (hr : vx_Run p l e R s m args below meth c H locs cells slots mc ms (F0 m pc ls st0) rest (va_Qv post B A1 a) (vx_X px BX AX) free) (hS : va_S A0 H0 H locs) (hA : ∀ q, q < H.size → A1 q → A0 q) (hf : ∀ q, free q → A0 q) (hAX : ∀ q, q < H.size → AX q → A0 q)
    (kx : ∀ (E : String) (ce : Cell) (q9 : Addr) (u : SX) (t : State) (H1 : Heap) (locs1 : List Loc), t.heap = H1 → s.vm.Alike t.vm → px u → BX E u t → H.size ≤ H1.size → (∀ q : Nat, q < H.size → ¬ AX q → H1[q]? = H[q]?) → va_S A0 H0 H1 locs1 → H1[q9]? = some ce → ce.vm = .none → s.vm.findClass E = some ce.cls → vx_W p l e R s m args below meth c H1 locs1 (cells + mc) (slots + ms) Q (F0 m pc ls rest) q9)
    (kk : ∀ (u : S) (t : State) (H1 : Heap) (locs1 : List Loc), t.heap = H1 → s.vm.Alike t.vm → post u → B u t → H.size ≤ H1.size → (∀ q : Nat, q < H.size → ¬ A1 q → H1[q]? = H[q]?) → va_S A0 H0 H1 locs1 → W p l e R s m args below meth c H1 locs1 (cells + mc) (slots + ms) Q (F0 m (pc + 3) ls (rest))) : W p l e R s m args below meth c H locs cells slots Q (F0 m pc ls st0) := by
  intro T hT X
  rcases hr T hT X with ⟨v, st₀, t, T', L, h0, X', hL, e1, e2, ⟨⟨u, hv, hp, hb⟩, hF⟩, st⟩ | ⟨q, st₀, t, T', L, E, ce, h0, X', hL, e1, e2, ⟨u, hp, hb, hF⟩, hce, hcv, hcl, st⟩
  · cases hv
    obtain ⟨k1, k2, k3⟩ := vx_keep h0 e1 hS hA hf hL hF
    obtain ⟨t2, a1, b1⟩ := kk u t T'.heap (locs ++ L) e1.symm (by rw [← e2]; exact X'.warmed.alike) hp hb k1 k2 k3 T' rfl X'
    exact ⟨t2, st t2 a1, b1⟩
  · obtain ⟨k1, k2, k3⟩ := vx_keep h0 e1 hS hAX hf hL hF
    obtain ⟨t2, a1, b1⟩ := kx E ce q u t T'.heap (locs ++ L) e1.symm (by rw [← e2]; exact X'.warmed.alike) hp hb k1 k2 k3 (by rw [e1]; exact hce) hcv hcl T' rfl X'
    exact ⟨t2, st.trans a1, b1⟩
/-- caught by the row x of this method's table; the rows ahead don't take it -/
theorem vx_catch {own name : String} {E : String} {ce : Cell} {q : Addr} (hown : s.vm.findClass own = some m.cls) (pre : List ExceptionTableEntry) (x : ExceptionTableEntry) (suf : List ExceptionTableEntry) (hsplit : c.exceptionTable.toList = pre ++ x :: suf)
    (hpass : ∀ z ∈ pre, covers z pc = false ∨ (z.catchType ≠ 0 ∧ ∃ nm : String, (Cond.classLink own z.catchType nm).before args s = true ∧ va_Nc E nm s)) (hx : covers x pc = true) (h0 : x.catchType ≠ 0)
    (hlink : (Cond.classLink own x.catchType name).before args s = true) (hcast : (Cond.castable E name).before args s = true) (hcell : H[q]? = some ce) (hv : ce.vm = .none) (hcl : s.vm.findClass E = some ce.cls)
    (kk : W p l e R s m args below meth c H locs cells slots Q (F0 m x.handlerPc ls [.ref q])) : vx_W p l e R s m args below meth c H locs cells slots Q (F0 m pc ls rest) q := by
  intro T hT X
  have hpl : e.platform.magicAccessors = ({} : Platform).magicAccessors := by rw [X.admits.platform]
  obtain ⟨c3, c4, hc3, hc4, hasg⟩ := Cond.castable_spec hcast
  cases Option.some.inj (hc3.symm.trans hcl)
  obtain ⟨c5, hc5, hcl5⟩ := Cond.classLink_spec hown hlink e.platform hpl
  cases Option.some.inj (hc4.symm.trans hc5)
  obtain ⟨vm', X', st⟩ := X.thenCaughtThrough q (g := F0 m pc ls rest) rfl (Steps.refl _) (by rw [hT]; exact hcell) (by rw [hv]; rfl) (by obtain ⟨k9, h9, -⟩ := Vm.findClass_spec hcl; exact ⟨k9, h9⟩) pre x suf hsplit
    (fun z hz => by
      rcases hpass z hz with h | ⟨hz0, nm, hl1, hn1⟩
      · exact Or.inl h
      · obtain ⟨c6, hc6, hcl6⟩ := Cond.classLink_spec hown hl1 e.platform hpl
        obtain ⟨a8, b8, h1, h2, h3⟩ := hn1
        cases Option.some.inj (h1.symm.trans hcl)
        cases Option.some.inj (h2.symm.trans hc6)
        exact Or.inr ⟨hz0, _, hcl6, h3⟩) hx (Or.inr ⟨h0, c4, hcl5, hasg⟩)
  obtain ⟨t, a1, b1⟩ := kk (T.setVm vm') hT X'
  exact ⟨t, st.trans a1, b1⟩
end Rows
section Ends
variable {p : Program} {l : Launch} {e : Env} {R : Room} {s : State} {m : MethodId} {args : Array Value} {below : List Frame} {meth : Method} {c : Code} {H : Heap} {locs : List Loc} {cells slots : Nat} {Q : State → Prop}
variable {mc ms : Nat} {free : Addr → Prop} {A0 A1 : Nat → Prop} {H0 : Heap} {a : Array Value} {ls : Array Slot} {st0 rest : List Value}
variable {Qc : Array Value → State → Outcome → State → Prop} {XC : String → State → State → Prop}
/-- what a body that may throw owes at its end -/
def vx_MQ (below : List Frame) (Qc : Array Value → State → Outcome → State → Prop) (XC : String → State → State → Prop) (a : Array Value) (s : State) (mc ms : Nat) (free : Addr → Prop) : State → Prop := fun t =>
  ∃ o, t.status = .running ∧ Ended t below o ∧ vx_Q Qc XC mc ms free a s o t
theorem vx_ret {g : JFrame} {mc ms : Nat} (k : W p l e R s m args below meth c H locs cells slots (MQ below Qc args s mc ms free) g) : W p l e R s m args below meth c H locs cells slots (vx_MQ below Qc XC args s mc ms free) g := by
  intro T hT X
  obtain ⟨t, a1, o, b1, b2, b3, b4⟩ := k T hT X
  exact ⟨t, a1, o, b1, b2, Or.inl ⟨b3, b4⟩⟩
/-- not caught here: it goes on to the caller -/
theorem vx_widen {g : JFrame} {q : Addr} {k n : Nat} (h1 : cells ≤ k) (h2 : slots ≤ n) (kk : vx_W p l e R s m args below meth c H locs k n Q g q) : vx_W p l e R s m args below meth c H locs cells slots Q g q := fun T hT X => kk T hT (stand_widen X h1 h2)
theorem vx_out {pc : Nat} {E : String} {ce : Cell} {q : Addr} {mc ms : Nat} (hout : ∀ x ∈ c.exceptionTable.toList, covers x pc = false) (hlocks : meth.locks = false) (hcell : H[q]? = some ce) (hv : ce.vm = .none) (hcl : s.vm.findClass E = some ce.cls)
    (hx : ∀ t : State, t.heap = H → s.vm.Alike t.vm → XC E s t) (hf : ∀ z ∈ locs, free z.base) (hc : cells ≤ mc) (hs : slots ≤ ms) :
    vx_W p l e R s m args below meth c H locs cells slots (vx_MQ below Qc XC args s mc ms free) (F0 m pc ls rest) q := by
  intro T hT X
  obtain ⟨st1, hrun, hend, hW, hsm⟩ := X.leaveThrown q (g := F0 m pc ls rest) rfl rfl rfl hout hlocks
  have hcell9 : (T.setFrames (.throwing q :: below)).heap[q]? = some ce := by
    show T.heap[q]? = some ce
    rw [hT]; exact hcell
  exact ⟨_, st1, .threw q, hrun, hend, Or.inr ⟨q, rfl, E, ce, locs, hx _ hT hW.alike, hcell9, hv, hcl, hW, hsm.mono hc hs, hf⟩⟩
theorem vx_frame {U : State} {k n : Nat} (h : s.sameButNew ({ U with vm := s.vm } : State) locs k n) : s.heap.size ≤ U.heap.size ∧ ∀ q : Nat, q < s.heap.size → (∀ z ∈ locs, z.base ≠ q) → U.heap[q]? = s.heap[q]? := by
  obtain ⟨-, h2, -, -, -, h6⟩ := h
  refine ⟨h2, fun q hq hz => ?_⟩
  obtain ⟨c9, e1, e2, e3, e4⟩ := h6 q _ (Array.getElem?_eq_getElem hq)
  have hs : c9.slots = (s.heap[q]).slots := Array.ext_getElem? fun i => e4 i fun hm => hz _ hm rfl
  have h9 : c9 = s.heap[q] := by
    rw [hs] at e2
    exact e2
  have e5 : U.heap[q]? = some c9 := e1
  rw [e5, h9, Array.getElem?_eq_getElem hq]
/-- the words of a throw but the four that speak of the heap -/
def vx_no (w : Cond) : Bool := decide (w ≠ .isRef (.static Bundle.tN "UNASSIGNED_STACK" Bundle.steD)) && decide (w ≠ .isRef (.static Bundle.tN "SUPPRESSED_SENTINEL" Bundle.listD)) && decide (w ≠ .laysStatic Bundle.tN "UNASSIGNED_STACK" Bundle.steD) && decide (w ≠ .laysStatic Bundle.tN "SUPPRESSED_SENTINEL" Bundle.listD)
def vx_at0 (own : String) (ic : Nat) (X : String) (names : List String) : List Cond := (Bundle.ownAtoms0 own ic X names).filter vx_no
def vx_atS (own : String) (ic : Nat) (X : String) (names : List String) : List Cond := (Bundle.ownAtoms own ic X names).filter vx_no
/-- a word that the tables alone decide, or a good one -/
def vx_ot (w : Cond) : Bool := w.onTables || goodWord w
theorem vx_ot_at {args a' : Array Value} {s U : State} {w : Cond} (hW : s.WarmedH U.vm) (hvm : s.vm = U.vm) (hg : vx_ot w = true) (h : w.before args s = true) : w.before a' U = true := by
  simp only [vx_ot, Bool.or_eq_true] at hg
  rcases hg with hg | hg
  · exact va_tabs hg hvm h
  · exact word_at hW (good_of_word hg) h
/-- a list's words: the good ones out of the method's own list, the others by premises of their own -/
theorem vx_hat {args : Array Value} {s : State} {L B : List Cond} (h1 : ∀ w ∈ L.filter goodWord, w.before args s = true) (h2 : ∀ w ∈ L.filter (fun w => !goodWord w), w ∈ B) (h3 : ∀ w ∈ B, w.before args s = true) : ∀ w ∈ L, w.before args s = true := by
  intro w hw
  by_cases g : goodWord w = true
  · exact h1 w (List.mem_filter.mpr ⟨hw, g⟩)
  · refine h3 w (h2 w (List.mem_filter.mpr ⟨hw, ?_⟩))
    show (!goodWord w) = true
    cases hgw : goodWord w
    · rfl
    · exact absurd hgw g
theorem vx_c {args : Array Value} {s : State} {w : Cond} {B : List Cond} (h : w.before args s = true) (t : ∀ w ∈ B, w.before args s = true) : ∀ w' ∈ w :: B, w'.before args s = true := fun w' h' => (List.mem_cons.mp h').elim (fun e => by rw [e]; exact h) (t w')
theorem vx_n {args : Array Value} {s : State} : ∀ w ∈ ([] : List Cond), w.before args s = true := fun _ h => nomatch h
theorem vx_own {args : Array Value} {s : State} {L : List Cond} (h1 : ∀ w ∈ L.filter vx_no, w.before args s = true)
    (hU : (Cond.isRef (.static Bundle.tN "UNASSIGNED_STACK" Bundle.steD)).before args s = true) (hN : (Cond.isRef (.static Bundle.tN "SUPPRESSED_SENTINEL" Bundle.listD)).before args s = true)
    (lU : (Cond.laysStatic Bundle.tN "UNASSIGNED_STACK" Bundle.steD).before args s = true) (lN : (Cond.laysStatic Bundle.tN "SUPPRESSED_SENTINEL" Bundle.listD).before args s = true) : ∀ w ∈ L, w.before args s = true := by
  intro w hw
  by_cases e1 : w = .isRef (.static Bundle.tN "UNASSIGNED_STACK" Bundle.steD)
  · rw [e1]; exact hU
  · by_cases e2 : w = .isRef (.static Bundle.tN "SUPPRESSED_SENTINEL" Bundle.listD)
    · rw [e2]; exact hN
    · by_cases e3 : w = .laysStatic Bundle.tN "UNASSIGNED_STACK" Bundle.steD
      · rw [e3]; exact lU
      · by_cases e4 : w = .laysStatic Bundle.tN "SUPPRESSED_SENTINEL" Bundle.listD
        · rw [e4]; exact lN
        · exact h1 w (List.mem_filter.mpr ⟨hw, by unfold vx_no; rw [decide_eq_true e1, decide_eq_true e2, decide_eq_true e3, decide_eq_true e4]; rfl⟩)
/-- where a static field lies, its class's statics cell in H -/
def vx_L (C n d : String) (A : Nat → Prop) (U : State) (H : Heap) : Prop := ∃ (c : ClassId) (k : Class) (i : Nat) (f : Field) (a : Nat) (cell : Cell), U.vm.findClass C = some c ∧ U.fieldFound? C n d = some (c, k, i, f) ∧ f.isStatic = true ∧ k.statics = some a ∧ H[a]? = some cell ∧ cell.vm.isStatics = true ∧ cell.cls = c ∧ f.slot < cell.slots.size ∧ k.staticTypes[f.slot]? = some f.type ∧ ¬ A a
theorem vx_L.moved {C n d : String} {A : Nat → Prop} {u U : State} {H : Heap} (hvm : u.vm.Alike U.vm) (h : vx_L C n d A u H) : vx_L C n d A U H := by
  obtain ⟨c, k, i, f, a, cell, h1, h2, h3, h4, h5, h6, h7, h8, h9, h10⟩ := h
  obtain ⟨k', hi', he⟩ := State.fieldFound?_setVm hvm h2
  exact ⟨c, k', i, f, a, cell, by rw [hvm.findClass]; exact h1, hi', h3, by rw [he]; exact h4, h5, h6, h7, h8, by rw [he]; exact h9, h10⟩
theorem vx_L.kept {C n d : String} {A : Nat → Prop} {U : State} {H H1 : Heap} (h : vx_L C n d A U H) (hq : ∀ a : Nat, a < H.size → ¬ A a → H1[a]? = H[a]?) : vx_L C n d A U H1 := by
  obtain ⟨c, k, i, f, a, cell, h1, h2, h3, h4, h5, h6, h7, h8, h9, h10⟩ := h
  exact ⟨c, k, i, f, a, cell, h1, h2, h3, h4, by rw [hq a (Array.getElem?_eq_some_iff.mp h5).1 h10]; exact h5, h6, h7, h8, h9, h10⟩
theorem vx_L.narrow {C n d : String} {A B : Nat → Prop} {U : State} {H : Heap} (h : vx_L C n d A U H) (hAB : ∀ q, B q → A q) : vx_L C n d B U H := by
  obtain ⟨c, k, i, f, a, cell, h1, h2, h3, h4, h5, h6, h7, h8, h9, h10⟩ := h
  exact ⟨c, k, i, f, a, cell, h1, h2, h3, h4, h5, h6, h7, h8, h9, fun z => h10 (hAB _ z)⟩
theorem vx_L.word {C n d : String} {A : Nat → Prop} {s : State} {args : Array Value} (h : vx_L C n d A s s.heap) : (Cond.laysStatic C n d).before args s = true := by
  obtain ⟨c, k, i, f, a, cell, h1, h2, h3, h4, h5, h6, h7, h8, h9, -⟩ := h
  show (Cond.laysStatic C n d).holds args s none s [] = true
  exact Cond.laysStatic_of h1 h2 h3 h4 h5 h6 h7 h8 h9
/-- .. and what it holds: null or some reference -/
def vx_Zq (C n d : String) (A : Nat → Prop) (U : State) (H : Heap) : Prop := va_Zq C n d A U H ∧ vx_L C n d A U H
theorem vx_Zq.moved {C n d : String} {A : Nat → Prop} {u U : State} {H : Heap} (hvm : u.vm.Alike U.vm) (h : vx_Zq C n d A u H) : vx_Zq C n d A U H := ⟨va_Zq.moved hvm h.1, vx_L.moved hvm h.2⟩
theorem vx_Zq.kept {C n d : String} {A : Nat → Prop} {U : State} {H H1 : Heap} (h : vx_Zq C n d A U H) (hq : ∀ a : Nat, a < H.size → ¬ A a → H1[a]? = H[a]?) : vx_Zq C n d A U H1 := ⟨va_Zq.kept h.1 hq, vx_L.kept h.2 hq⟩
theorem vx_Zq.narrow {C n d : String} {A B : Nat → Prop} {U : State} {H : Heap} (h : vx_Zq C n d A U H) (hAB : ∀ q, B q → A q) : vx_Zq C n d B U H := ⟨va_Zq.narrow h.1 hAB, vx_L.narrow h.2 hAB⟩
theorem vx_Zqof {args : Array Value} {s : State} {C n d : String} {A : Nat → Prop} (hl : (Cond.laysStatic C n d).before args s = true) (hini : (Cond.initialized C).before args s = true) (h : (Cond.isRef (.static C n d)).before args s = true) (hA : ∀ a : Nat, a < s.heap.size → ¬ A a) : vx_Zq C n d A s s.heap := by
  refine ⟨va_Zqof hl hini h hA, ?_⟩
  obtain ⟨c, k, i, f, a, cell, h1, h2, h3, h4, h5, h6, h7, h8, h9⟩ := Cond.laysStatic_spec hl
  exact ⟨c, k, i, f, a, cell, h1, h2, h3, h4, h5, h6, h7, h8, h9, hA a (Array.getElem?_eq_some_iff.mp h5).1⟩
theorem vx_isRef {C n d : String} {v : Value} {A : Nat → Prop} {s : State} {args : Array Value} (h : va_Z C n d v A s s.heap) (hv : v.isRef = true) : (Cond.isRef (.static C n d)).before args s = true := by
  obtain ⟨cf, kf, fi, f, a, cell, h1, h2, h3, h4, h5, h6, h7, -⟩ := h
  have he : (Term.static C n d).eval args s none [] s = some v := by
    simp [Term.eval, State.fieldNamed?, h1, h2, h4, h5, h6, h7]
  simp only [Cond.before, Cond.holds, Cond.value, he]
  cases v <;> simp_all [Value.isRef]
theorem vx_isRefq {C n d : String} {A : Nat → Prop} {s : State} {args : Array Value} (h : va_Zq C n d A s s.heap) : (Cond.isRef (.static C n d)).before args s = true := by
  rcases h with h | ⟨t, h⟩
  · exact vx_isRef h rfl
  · exact vx_isRef h rfl
/-- the same frame, seen from here: as if the method were called anew in this heap -/
theorem vx_rebase {T : State} (X : Stand p l e R s m args below meth c T locs cells slots) {R' : Room} (hf : R'.frames ≤ R.frames) (hl : R'.locals ≤ R.locals) (hc : cells + R'.cells ≤ R.cells) (hs : slots + R'.slots ≤ R.slots) :
    Stand p l e R' ((T.setVm s.vm).setFrames (.invoking m args :: below)) m args below meth c T [] 0 0 := by
  have htop : (T.setVm s.vm).topJava?.isSome := X.here.top
  have hF : ((T.setVm s.vm).setFrames (.invoking m args :: below)).frames = .invoking m args :: below := State.frames_setFrames _ (State.cur_lt_of_top htop)
  obtain ⟨g₀, hg0⟩ := Option.isSome_iff_exists.mp htop
  obtain ⟨r, hr⟩ := State.topJava?_eq_some.mp hg0
  have hl9 : e.platform.stackLimits (T.setVm s.vm).me = e.platform.stackLimits s.me := X.limits
  have hb9 : (T.setVm s.vm).me.stackBytes = s.me.stackBytes := X.bytes
  refine ⟨X.admits, X.cas, X.clock, hF, ?_, X.hears, X.method, X.code, X.here, X.tail, X.warmed, ?_, ?_, ?_⟩
  · have h := X.room
    have hU : ((T.setVm s.vm).setFrames (.invoking m args :: below)).localsInUse = s.localsInUse := by
      rw [State.localsInUse_invoking hF (meth := meth) (c := c) X.method X.code, State.localsInUse_invoking X.frames X.method X.code]
    simp only [State.hasRoom, Bool.and_eq_true, decide_eq_true_eq] at h ⊢
    obtain ⟨⟨⟨⟨h1, h2, h3, h4, h5, h6⟩, h7⟩, h8⟩, h9⟩ := h
    rw [X.frames, List.length_cons] at h2 h3
    have q1 := X.heapSize
    have q2 := X.used
    simp only [hF, hU, List.length_cons, State.stackLimits_setFrames, State.stackBytes_setFrames, hl9, hb9]
    refine ⟨⟨⟨⟨by omega, by omega, by omega, by omega, by omega, h6⟩, ?_⟩, ?_⟩, X.book⟩
    · show T.heap.size + R'.cells ≤ e.platform.maxCells
      omega
    · show T.slotsUsed + R'.slots ≤ e.platform.maxSlots
      omega
  · rw [State.stackLimits_setFrames]; rfl
  · rw [State.stackBytes_setFrames]; rfl
  · refine ⟨?_, Nat.le_refl _, Nat.le_refl _, ?_, ?_, fun a c9 h9 => ⟨c9, h9, rfl, rfl, fun _ _ => rfl⟩⟩
    · obtain ⟨t, ht, -⟩ := State.frames_cons hr
      show T.setVm s.vm = { ((T.setVm s.vm).setFrames (.invoking m args :: below)).setFrames (T.setVm s.vm).frames with heap := T.heap, slotsUsed := T.slotsUsed }
      rw [State.setFrames_setFrames, State.setFrames_self ht]
      rfl
    · show T.slotsUsed = T.slotsUsed + ((T.heap.toList.drop T.heap.size).map (·.slots.size)).sum
      rw [List.drop_eq_nil_of_le (Nat.le_of_eq Array.length_toList)]
      rfl
    · show ((T.heap.toList.drop T.heap.size).map (·.slots.size)).sum ≤ 0
      rw [List.drop_eq_nil_of_le (Nat.le_of_eq Array.length_toList)]
      exact Nat.le_refl _
/-- 'throw new E()': new; dup; invokespecial; athrow -/
theorem vx_throw0 {cc : ByteArray} {pc : Nat} (hexec : p.tables.exec = Jvm.exec) (hb : c.code = cc) (hl : l.stackTraces = false) {own cls : String} {names : List String} {ik ic mc ms : Nat} {A : Nat → Prop}
    (hown : s.vm.findClass own = some m.cls) (hcls : Bundle.fit cls = true) (hnames : ∀ n ∈ names, Bundle.fit n = true)
    (hk : (Cond.classLink own ik cls).before args s = true) (hini : (Cond.initialized cls).before args s = true) (hat : ∀ w ∈ vx_at0 own ic cls names, w.before args s = true)
    (hgood : ∀ w ∈ Cond.classLink own ik cls :: Cond.initialized cls :: vx_at0 own ic cls names, vx_ot w = true)
    (hU : vx_Zq Bundle.tN "UNASSIGNED_STACK" Bundle.steD A s s.heap) (hN : vx_Zq Bundle.tN "SUPPRESSED_SENTINEL" Bundle.listD A s s.heap) (hS : va_S A s.heap H locs) (hsize : ls.size = c.maxLocals)
    (d0 : decode cc pc = .ok (.new ik, 3)) (d3 : decode cc (pc + 3) = .ok (.dup, 1)) (d4 : decode cc (pc + 4) = .ok (.invokespecial ic, 3)) (d7 : decode cc (pc + 7) = .ok (.athrow, 1))
    (hout : ∀ x ∈ c.exceptionTable.toList, covers x (pc + 7) = false)
    (hRframes : names.length + 3 < R.frames) (hRlocals : (rest.map fun v => v.category).sum + (13 * (names.length + 1) + 42) ≤ R.locals) (hRcells : cells + 1 ≤ R.cells) (hRslots : slots + 6 ≤ R.slots) (hlocks : meth.locks = false)
    (hx : ∀ t : State, s.vm.Alike t.vm → H.size ≤ t.heap.size → (∀ q : Nat, q < H.size → t.heap[q]? = H[q]?) → XC cls s t)
    (hf : ∀ z ∈ locs, free z.base) (hc : cells + 1 ≤ mc) (hs : slots + 6 ≤ ms) :
    W p l e R s m args below meth c H locs cells slots (vx_MQ below Qc XC args s mc ms free) (F0 m pc ls rest) := by
  intro T hT X
  have htr : e.platform.stackTraces = false := (show e.platform.stackTraces = l.stackTraces by rw [X.admits.platform]).trans hl
  have Y := vx_rebase X (R' := { frames := R.frames, locals := R.locals, cells := 1, slots := 6 }) (Nat.le_refl _) (Nat.le_refl _) hRcells hRslots
  obtain ⟨s', hA⟩ : ∃ z, z = (T.setVm s.vm).setFrames (.invoking m args :: below) := ⟨_, rfl⟩
  rw [← hA] at Y
  have hvm : s'.vm = s.vm := by rw [hA]; rfl
  have hhp : s'.heap = H := by rw [hA]; exact hT
  have hW0 : s.WarmedH s'.vm := by rw [hvm]; exact State.WarmedH.refl s
  have hat' : ∀ w ∈ vx_at0 own ic cls names, w.before args s' = true := fun w hw => vx_ot_at hW0 hvm.symm (hgood w (List.mem_cons_of_mem _ (List.mem_cons_of_mem _ hw))) (hat w hw)
  have hk' : (Cond.classLink own ik cls).before args s' = true := vx_ot_at hW0 hvm.symm (hgood _ List.mem_cons_self) hk
  have hini' : (Cond.initialized cls).before args s' = true := vx_ot_at hW0 hvm.symm (hgood _ (List.mem_cons_of_mem _ List.mem_cons_self)) hini
  have hU' : vx_Zq Bundle.tN "UNASSIGNED_STACK" Bundle.steD A s' s'.heap := by rw [hhp]; exact vx_Zq.moved hW0.alike (hU.kept hS.2.1)
  have hN' : vx_Zq Bundle.tN "SUPPRESSED_SENTINEL" Bundle.listD A s' s'.heap := by rw [hhp]; exact vx_Zq.moved hW0.alike (hN.kept hS.2.1)
  have h : ∀ w ∈ Bundle.ownAtoms0 own ic cls names, w.before args s' = true := vx_own hat' (vx_isRefq hU'.1) (vx_isRefq hN'.1) hU'.2.word hN'.2.word
  have hown' : s'.vm.findClass own = some m.cls := by rw [hvm]; exact hown
  have hins : (Cond.instantiable cls 6).before args s' = true := h _ (by simp [Bundle.ownAtoms0])
  obtain ⟨vm₁, cX, kX, hfX, hkX, -, -, X₁, st1⟩ := Y.newCold hexec (own := own) (C := cls) (index := ik) (n := 6) hown' hk' hins hini'
    (g := F0 m pc ls rest) rfl (by rw [hb]; exact d0) (Nat.le_refl _) (Nat.le_refl _)
  generalize hT1 : (T.setVm vm₁).pushCell { cls := cX, slots := kX.instanceTypes.map defaultValue, vm := .none } = T1 at X₁ st1
  have hcat : (Value.ref T.heap.size).category = 1 := rfl
  have hcellA : T1.heap[T.heap.size]? = some (freshCell cX kX) := by rw [← hT1]; exact State.heap_pushCell_size _ _
  have d3' : decode c.code (pc + 3) = .ok (.dup, 1) := by rw [hb]; exact d3
  obtain ⟨U, hsteps, hrun, hend, hW, hsame, ce, hce, hO⟩ := X₁.ctorThrow0 hexec htr (own := own) (cls := cls) (names := names) (ic := ic) hown' hcls hnames h (fun x hx => nomatch hx) hfX hkX hcellA (by rw [hhp, hT]; exact Nat.le_refl _)
    (g := { method := m, pc := pc + 4, locals := ls, stack := .ref T.heap.size :: .ref T.heap.size :: rest, locked := none }) rfl hsize rfl rfl (rest := rest) rfl
    (by rw [hb]; exact d4) (by rw [hb]; exact d7) hout hRframes (by simp only [List.map_cons, List.sum_cons, hcat]; omega) hlocks
  obtain ⟨f1, f2⟩ := vx_frame hsame
  rw [hhp] at f1 f2
  have hWs : s.WarmedH U.vm := State.WarmedH.trans hW0 hW
  have hcl : s.vm.findClass cls = some ce.cls := by
    have h9 := hO.cls
    rw [hvm] at h9
    exact h9
  have hall : s.sameButNew ({ U with vm := s.vm } : State) locs mc ms := by
    subst hA
    obtain ⟨e1, e2⟩ := hsame
    rw [State.setFrames_setFrames] at e1
    have h2 : (T.setVm s.vm).sameButNew ({ U with vm := s.vm } : State) [] (0 + 1) (0 + 6) := ⟨e1, e2⟩
    have h3 := X.same.trans h2
    rw [List.append_nil] at h3
    exact h3.mono hc hs
  refine ⟨U, ?_, .threw T.heap.size, hrun, hend, Or.inr ⟨T.heap.size, rfl, cls, ce, locs, hx U hWs.alike f1 (fun q hq => f2 q hq (fun z hz => nomatch hz)), hce, hO.vm, hcl, hWs, hall, hf⟩⟩
  refine st1 _ ?_
  show Steps p.tables e below (T1.setTop { method := m, pc := pc + 3, locals := ls, stack := .ref T.heap.size :: rest, locked := none }) _
  jvm_step X₁.here [X₁.here.top, hexec, d3', Value.category]
  exact hsteps
/-- 'throw new E("text")': new; dup; ldc; invokespecial; athrow -/
theorem vx_throwS {cc : ByteArray} {pc : Nat} (hexec : p.tables.exec = Jvm.exec) (hb : c.code = cc) (hl : l.stackTraces = false) {own cls text : String} {names : List String} {ik is ic mc ms sa : Nat} {A : Nat → Prop}
    (hown : s.vm.findClass own = some m.cls) (hcls : Bundle.fit cls = true) (hnames : ∀ n ∈ names, Bundle.fit n = true)
    (hk : (Cond.classLink own ik cls).before args s = true) (hini : (Cond.initialized cls).before args s = true) (hstr : vk_R own is text sa s) (hat : ∀ w ∈ vx_atS own ic cls names, w.before args s = true)
    (hgood : ∀ w ∈ Cond.classLink own ik cls :: Cond.initialized cls :: vx_atS own ic cls names, vx_ot w = true)
    (hU : vx_Zq Bundle.tN "UNASSIGNED_STACK" Bundle.steD A s s.heap) (hN : vx_Zq Bundle.tN "SUPPRESSED_SENTINEL" Bundle.listD A s s.heap) (hS : va_S A s.heap H locs) (hsize : ls.size = c.maxLocals)
    (d0 : decode cc pc = .ok (.new ik, 3)) (d3 : decode cc (pc + 3) = .ok (.dup, 1)) (d4 : decode cc (pc + 4) = .ok (.ldc is, 2)) (d6 : decode cc (pc + 6) = .ok (.invokespecial ic, 3)) (d9 : decode cc (pc + 9) = .ok (.athrow, 1))
    (hout : ∀ x ∈ c.exceptionTable.toList, covers x (pc + 9) = false)
    (hRframes : names.length + 3 < R.frames) (hRlocals : (rest.map fun v => v.category).sum + (13 * (names.length + 1) + 43) ≤ R.locals) (hRcells : cells + 1 ≤ R.cells) (hRslots : slots + 6 ≤ R.slots) (hlocks : meth.locks = false)
    (hx : ∀ t : State, s.vm.Alike t.vm → H.size ≤ t.heap.size → (∀ q : Nat, q < H.size → t.heap[q]? = H[q]?) → XC cls s t)
    (hf : ∀ z ∈ locs, free z.base) (hc : cells + 1 ≤ mc) (hs : slots + 6 ≤ ms) :
    W p l e R s m args below meth c H locs cells slots (vx_MQ below Qc XC args s mc ms free) (F0 m pc ls rest) := by
  intro T hT X
  have htr : e.platform.stackTraces = false := (show e.platform.stackTraces = l.stackTraces by rw [X.admits.platform]).trans hl
  have Y := vx_rebase X (R' := { frames := R.frames, locals := R.locals, cells := 1, slots := 6 }) (Nat.le_refl _) (Nat.le_refl _) hRcells hRslots
  obtain ⟨s', hA⟩ : ∃ z, z = (T.setVm s.vm).setFrames (.invoking m args :: below) := ⟨_, rfl⟩
  rw [← hA] at Y
  have hvm : s'.vm = s.vm := by rw [hA]; rfl
  have hhp : s'.heap = H := by rw [hA]; exact hT
  have hW0 : s.WarmedH s'.vm := by rw [hvm]; exact State.WarmedH.refl s
  have hat' : ∀ w ∈ vx_atS own ic cls names, w.before args s' = true := fun w hw => vx_ot_at hW0 hvm.symm (hgood w (List.mem_cons_of_mem _ (List.mem_cons_of_mem _ hw))) (hat w hw)
  have hk' : (Cond.classLink own ik cls).before args s' = true := vx_ot_at hW0 hvm.symm (hgood _ List.mem_cons_self) hk
  have hini' : (Cond.initialized cls).before args s' = true := vx_ot_at hW0 hvm.symm (hgood _ (List.mem_cons_of_mem _ List.mem_cons_self)) hini
  have hU' : vx_Zq Bundle.tN "UNASSIGNED_STACK" Bundle.steD A s' s'.heap := by rw [hhp]; exact vx_Zq.moved hW0.alike (hU.kept hS.2.1)
  have hN' : vx_Zq Bundle.tN "SUPPRESSED_SENTINEL" Bundle.listD A s' s'.heap := by rw [hhp]; exact vx_Zq.moved hW0.alike (hN.kept hS.2.1)
  have h : ∀ w ∈ Bundle.ownAtoms own ic cls names, w.before args s' = true := vx_own hat' (vx_isRefq hU'.1) (vx_isRefq hN'.1) hU'.2.word hN'.2.word
  have hown' : s'.vm.findClass own = some m.cls := by rw [hvm]; exact hown
  have hins : (Cond.instantiable cls 6).before args s' = true := h _ (by simp [Bundle.ownAtoms])
  obtain ⟨vm₁, cX, kX, hfX, hkX, -, -, X₁, st1⟩ := Y.newCold hexec (own := own) (C := cls) (index := ik) (n := 6) hown' hk' hins hini'
    (g := F0 m pc ls rest) rfl (by rw [hb]; exact d0) (Nat.le_refl _) (Nat.le_refl _)
  generalize hT1 : (T.setVm vm₁).pushCell { cls := cX, slots := kX.instanceTypes.map defaultValue, vm := .none } = T1 at X₁ st1
  have hcat : (Value.ref T.heap.size).category = 1 := rfl
  have hcellA : T1.heap[T.heap.size]? = some (freshCell cX kX) := by rw [← hT1]; exact State.heap_pushCell_size _ _
  have d3' : decode c.code (pc + 3) = .ok (.dup, 1) := by rw [hb]; exact d3
  have d4' : decode c.code (pc + 4) = .ok (.ldc is, 2) := by rw [hb]; exact d4
  have hstr' : vk_R own is text sa s' := vk_R.warm hW0 hstr
  obtain ⟨U, hsteps, hrun, hend, hW, hsame, ce, hce, hO⟩ := X₁.ctorThrowS hexec htr (own := own) (cls := cls) (names := names) (ic := ic) hown' hcls hnames h (fun x hx => nomatch hx) hfX hkX hcellA (by rw [hhp, hT]; exact Nat.le_refl _) (msg := .ref sa) rfl
    (g := { method := m, pc := pc + 6, locals := ls, stack := .ref sa :: .ref T.heap.size :: .ref T.heap.size :: rest, locked := none }) rfl hsize rfl rfl (rest := rest) rfl
    (by rw [hb]; exact d6) (by rw [hb]; exact d9) hout hRframes (by simp only [List.map_cons, List.sum_cons, hcat]; omega) hlocks
  obtain ⟨f1, f2⟩ := vx_frame hsame
  rw [hhp] at f1 f2
  have hWs : s.WarmedH U.vm := State.WarmedH.trans hW0 hW
  have hcl : s.vm.findClass cls = some ce.cls := by
    have h9 := hO.cls
    rw [hvm] at h9
    exact h9
  have hall : s.sameButNew ({ U with vm := s.vm } : State) locs mc ms := by
    subst hA
    obtain ⟨e1, e2⟩ := hsame
    rw [State.setFrames_setFrames] at e1
    have h2 : (T.setVm s.vm).sameButNew ({ U with vm := s.vm } : State) [] (0 + 1) (0 + 6) := ⟨e1, e2⟩
    have h3 := X.same.trans h2
    rw [List.append_nil] at h3
    exact h3.mono hc hs
  refine ⟨U, ?_, .threw T.heap.size, hrun, hend, Or.inr ⟨T.heap.size, rfl, cls, ce, locs, hx U hWs.alike f1 (fun q hq => f2 q hq (fun z hz => nomatch hz)), hce, hO.vm, hcl, hWs, hall, hf⟩⟩
  refine st1 _ ?_
  show Steps p.tables e below (T1.setTop { method := m, pc := pc + 3, locals := ls, stack := .ref T.heap.size :: rest, locked := none }) _
  jvm_step X₁.here [X₁.here.top, hexec, d3', Value.category]
  exact X₁.ldcString hexec (own := own) (text := text) (index := is) (a := sa) hown' hstr'.1 hstr'.2
    (g := { method := m, pc := pc + 4, locals := ls, stack := .ref T.heap.size :: .ref T.heap.size :: rest, locked := none }) rfl d4' _ hsteps
/-- 'throw new E("text")', the text by a wide index -/
theorem vx_throwSW {cc : ByteArray} {pc : Nat} (hexec : p.tables.exec = Jvm.exec) (hb : c.code = cc) (hl : l.stackTraces = false) {own cls text : String} {names : List String} {ik is ic mc ms sa : Nat} {A : Nat → Prop}
    (hown : s.vm.findClass own = some m.cls) (hcls : Bundle.fit cls = true) (hnames : ∀ n ∈ names, Bundle.fit n = true)
    (hk : (Cond.classLink own ik cls).before args s = true) (hini : (Cond.initialized cls).before args s = true) (hstr : vk_R own is text sa s) (hat : ∀ w ∈ vx_atS own ic cls names, w.before args s = true)
    (hgood : ∀ w ∈ Cond.classLink own ik cls :: Cond.initialized cls :: vx_atS own ic cls names, vx_ot w = true)
    (hU : vx_Zq Bundle.tN "UNASSIGNED_STACK" Bundle.steD A s s.heap) (hN : vx_Zq Bundle.tN "SUPPRESSED_SENTINEL" Bundle.listD A s s.heap) (hS : va_S A s.heap H locs) (hsize : ls.size = c.maxLocals)
    (d0 : decode cc pc = .ok (.new ik, 3)) (d3 : decode cc (pc + 3) = .ok (.dup, 1)) (d4 : decode cc (pc + 4) = .ok (.ldc_w is, 3)) (d7 : decode cc (pc + 7) = .ok (.invokespecial ic, 3)) (d10 : decode cc (pc + 10) = .ok (.athrow, 1))
    (hout : ∀ x ∈ c.exceptionTable.toList, covers x (pc + 10) = false)
    (hRframes : names.length + 3 < R.frames) (hRlocals : (rest.map fun v => v.category).sum + (13 * (names.length + 1) + 43) ≤ R.locals) (hRcells : cells + 1 ≤ R.cells) (hRslots : slots + 6 ≤ R.slots) (hlocks : meth.locks = false)
    (hx : ∀ t : State, s.vm.Alike t.vm → H.size ≤ t.heap.size → (∀ q : Nat, q < H.size → t.heap[q]? = H[q]?) → XC cls s t)
    (hf : ∀ z ∈ locs, free z.base) (hc : cells + 1 ≤ mc) (hs : slots + 6 ≤ ms) :
    W p l e R s m args below meth c H locs cells slots (vx_MQ below Qc XC args s mc ms free) (F0 m pc ls rest) := by
  intro T hT X
  have htr : e.platform.stackTraces = false := (show e.platform.stackTraces = l.stackTraces by rw [X.admits.platform]).trans hl
  have Y := vx_rebase X (R' := { frames := R.frames, locals := R.locals, cells := 1, slots := 6 }) (Nat.le_refl _) (Nat.le_refl _) hRcells hRslots
  obtain ⟨s', hA⟩ : ∃ z, z = (T.setVm s.vm).setFrames (.invoking m args :: below) := ⟨_, rfl⟩
  rw [← hA] at Y
  have hvm : s'.vm = s.vm := by rw [hA]; rfl
  have hhp : s'.heap = H := by rw [hA]; exact hT
  have hW0 : s.WarmedH s'.vm := by rw [hvm]; exact State.WarmedH.refl s
  have hat' : ∀ w ∈ vx_atS own ic cls names, w.before args s' = true := fun w hw => vx_ot_at hW0 hvm.symm (hgood w (List.mem_cons_of_mem _ (List.mem_cons_of_mem _ hw))) (hat w hw)
  have hk' : (Cond.classLink own ik cls).before args s' = true := vx_ot_at hW0 hvm.symm (hgood _ List.mem_cons_self) hk
  have hini' : (Cond.initialized cls).before args s' = true := vx_ot_at hW0 hvm.symm (hgood _ (List.mem_cons_of_mem _ List.mem_cons_self)) hini
  have hU' : vx_Zq Bundle.tN "UNASSIGNED_STACK" Bundle.steD A s' s'.heap := by rw [hhp]; exact vx_Zq.moved hW0.alike (hU.kept hS.2.1)
  have hN' : vx_Zq Bundle.tN "SUPPRESSED_SENTINEL" Bundle.listD A s' s'.heap := by rw [hhp]; exact vx_Zq.moved hW0.alike (hN.kept hS.2.1)
  have h : ∀ w ∈ Bundle.ownAtoms own ic cls names, w.before args s' = true := vx_own hat' (vx_isRefq hU'.1) (vx_isRefq hN'.1) hU'.2.word hN'.2.word
  have hown' : s'.vm.findClass own = some m.cls := by rw [hvm]; exact hown
  have hins : (Cond.instantiable cls 6).before args s' = true := h _ (by simp [Bundle.ownAtoms])
  obtain ⟨vm₁, cX, kX, hfX, hkX, -, -, X₁, st1⟩ := Y.newCold hexec (own := own) (C := cls) (index := ik) (n := 6) hown' hk' hins hini'
    (g := F0 m pc ls rest) rfl (by rw [hb]; exact d0) (Nat.le_refl _) (Nat.le_refl _)
  generalize hT1 : (T.setVm vm₁).pushCell { cls := cX, slots := kX.instanceTypes.map defaultValue, vm := .none } = T1 at X₁ st1
  have hcat : (Value.ref T.heap.size).category = 1 := rfl
  have hcellA : T1.heap[T.heap.size]? = some (freshCell cX kX) := by rw [← hT1]; exact State.heap_pushCell_size _ _
  have d3' : decode c.code (pc + 3) = .ok (.dup, 1) := by rw [hb]; exact d3
  have d4' : decode c.code (pc + 4) = .ok (.ldc_w is, 3) := by rw [hb]; exact d4
  have hstr' : vk_R own is text sa s' := vk_R.warm hW0 hstr
  obtain ⟨U, hsteps, hrun, hend, hW, hsame, ce, hce, hO⟩ := X₁.ctorThrowS hexec htr (own := own) (cls := cls) (names := names) (ic := ic) hown' hcls hnames h (fun x hx => nomatch hx) hfX hkX hcellA (by rw [hhp, hT]; exact Nat.le_refl _) (msg := .ref sa) rfl
    (g := { method := m, pc := pc + 7, locals := ls, stack := .ref sa :: .ref T.heap.size :: .ref T.heap.size :: rest, locked := none }) rfl hsize rfl rfl (rest := rest) rfl
    (by rw [hb]; exact d7) (by rw [hb]; exact d10) hout hRframes (by simp only [List.map_cons, List.sum_cons, hcat]; omega) hlocks
  obtain ⟨f1, f2⟩ := vx_frame hsame
  rw [hhp] at f1 f2
  have hWs : s.WarmedH U.vm := State.WarmedH.trans hW0 hW
  have hcl : s.vm.findClass cls = some ce.cls := by
    have h9 := hO.cls
    rw [hvm] at h9
    exact h9
  have hall : s.sameButNew ({ U with vm := s.vm } : State) locs mc ms := by
    subst hA
    obtain ⟨e1, e2⟩ := hsame
    rw [State.setFrames_setFrames] at e1
    have h2 : (T.setVm s.vm).sameButNew ({ U with vm := s.vm } : State) [] (0 + 1) (0 + 6) := ⟨e1, e2⟩
    have h3 := X.same.trans h2
    rw [List.append_nil] at h3
    exact h3.mono hc hs
  refine ⟨U, ?_, .threw T.heap.size, hrun, hend, Or.inr ⟨T.heap.size, rfl, cls, ce, locs, hx U hWs.alike f1 (fun q hq => f2 q hq (fun z hz => nomatch hz)), hce, hO.vm, hcl, hWs, hall, hf⟩⟩
  refine st1 _ ?_
  show Steps p.tables e below (T1.setTop { method := m, pc := pc + 3, locals := ls, stack := .ref T.heap.size :: rest, locked := none }) _
  jvm_step X₁.here [X₁.here.top, hexec, d3', Value.category]
  exact X₁.ldcStringW hexec (own := own) (text := text) (index := is) (a := sa) hown' hstr'.1 hstr'.2
    (g := { method := m, pc := pc + 4, locals := ls, stack := .ref T.heap.size :: .ref T.heap.size :: rest, locked := none }) rfl d4' _ hsteps
end Ends
section Bodies
variable {l : Launch}
theorem vx_ofW {y : MethodName} {ws ws' : List Cond} {rm : Room} {Pc : Array Value → State → Prop} {Qc : Array Value → State → Outcome → State → Prop} {XC : String → State → State → Prop} {mc ms : Nat} {free : Addr → Prop} {cc : ByteArray} {maxL : Nat} {ret : Option FieldType}
    (hy : plainName y.cls = true) (hw : ws = Cond.code y cc maxL ret :: ws')
    (body : ∀ p e s m args below meth c s₁, BodyLoose p l y (headSpec ws rm) cc maxL ret e s m args below meth c s₁ → c.maxLocals = maxL → (∀ x ∈ c.exceptionTable.toList, False) → Pc args s →
      W p l e (headSpec ws rm).room s m args below meth c s.heap [] 0 0 (vx_MQ below Qc XC args s mc ms free) (entryFrame m args maxL)) : vx_Met l y ws rm Pc Qc XC mc ms free := by
  refine MetFree.of_bodyS (code := cc) (maxLocals := maxL) (ret := ret) hy ?_ ?_
  · intro args s m h hn
    obtain ⟨meth, c, h1, h2, h3, h4, h5, h6, -, -⟩ := Cond.code_spec hn (atoms_spec (ws := ws) h _ (by rw [hw]; exact List.mem_cons_self))
    exact ⟨meth, c, h1, h2, h3, h4, h5, h6⟩
  · intro p e s m args below meth c s₁ B hml hP _
    have hh0 : s₁.heap = s.heap := by rw [B.state]; rfl
    have ht : ∀ x ∈ c.exceptionTable.toList, False := by
      obtain ⟨meth9, c9, h1, h2, -, -, -, -, h7, -⟩ := Cond.code_spec B.named (atoms_spec (ws := ws) B.pre _ (by rw [hw]; exact List.mem_cons_self))
      cases Option.some.inj (h1.symm.trans B.method)
      cases Option.some.inj (h2.symm.trans (Stand.of_body B).code)
      intro x hx
      rw [Array.isEmpty_iff.mp h7] at hx
      cases hx
    obtain ⟨t, a1, o, b1, b2, b3⟩ := body p e s m args below meth c s₁ B hml ht hP s₁ hh0 (Stand.of_body B)
    exact ⟨t, o, a1, b1, b2, b3⟩
/-- the table of a body with handlers -/
theorem vx_table {p : Program} {x y : MethodName} {S : Spec} {cc bytes : ByteArray} {maxL maxL' : Nat} {ret ret' : Option FieldType} {e : Env} {s s₁ : State} {m : MethodId} {args : Array Value} {below : List Frame} {meth : Method} {c : Code} {hh : List (Nat × Nat × Nat × Nat)}
    (B : BodyLoose p l y S cc maxL ret e s m args below meth c s₁) (h : (Cond.codeWith y bytes maxL' ret' hh).before args s = true) : c.exceptionTable.toList = tableOf hh := by
  obtain ⟨m9, meth9, c9, hn9, h1, h2, -, -, h6, -⟩ := Cond.codeWith_spec h
  cases Option.some.inj (hn9.symm.trans B.named)
  cases Option.some.inj (h1.symm.trans B.method)
  cases Option.some.inj (h2.symm.trans (Stand.of_body B).code)
  rw [← h6, table_eq]
end Bodies
end VXA
/-! ===== END ===== -/
/-! ===== BEGIN a static call of a method with an exception table ===== -/
section VXS
variable {p : Program} {l : Launch} {e : Env} {R : Room} {s : State} {m : MethodId} {args : Array Value} {below : List Frame} {meth : Method} {c : Code} {T : State} {H : Heap} {locs : List Loc} {cells slots : Nat}
abbrev vx_CSW (R : Room) (s : State) (args : Array Value) (own : String) (index : Nat) (y : MethodName) (bytes : ByteArray) (maxL : Nat) (ret : Option FieldType) (hh : List (Nat × Nat × Nat × Nat)) (ws : List Cond) (rm : Room) (mc ms n : Nat) : Prop :=
  (rm.cells = mc ∧ rm.slots = ms ∧ rm.frames + 1 ≤ R.frames ∧ 8 + (maxL + 11) + rm.locals ≤ R.locals ∧ (∀ w ∈ ws, ∀ (a' : Array Value) (U : State), s.WarmedH U.vm → w.before a' U = true) ∧ Cond.codeWith y bytes maxL ret hh ∈ ws) ∧
  (Cond.codeWith y bytes maxL ret hh).before args s = true ∧ (Cond.initialized y.cls).before args s = true ∧ (y.cls ≠ "java/lang/invoke/MethodHandle" ∧ y.cls ≠ "java/lang/invoke/VarHandle") ∧
  (∀ sig, parseMethodDescriptor y.desc = some sig → n = sig.parameters.length) ∧ (Cond.methodLink own index y).before args s = true ∧ (Cond.static y).before args s = true
theorem vx_cwSW {own : String} {index maxL mc ms : Nat} {y : MethodName} {bytes : ByteArray} {ret : Option FieldType} {hh : List (Nat × Nat × Nat × Nat)} {Ts ws ws' : List Cond} {rm : Room} (n : Nat) (ht : ∀ w ∈ Ts, w.before args s = true) (hT : GoodIn Ts (va_wsS own index y ws)) (hw : ws = Cond.codeWith y bytes maxL ret hh :: ws') (hrc : rm.cells = mc) (hrs : rm.slots = ms)
    (hd : y.cls ≠ "java/lang/invoke/MethodHandle" ∧ y.cls ≠ "java/lang/invoke/VarHandle" ∧ (parseMethodDescriptor y.desc).map (fun d => d.parameters.length) = some n) (hR : rm.frames + 1 ≤ R.frames ∧ 8 + (maxL + 11) + rm.locals ≤ R.locals) :
    vx_CSW R s args own index y bytes maxL ret hh ws rm mc ms n := by
  have ok : ∀ w ∈ va_wsS own index y ws, w.before args s = true := fun w h => ht w (hT w h).1
  have hG : GoodIn Ts ws := fun w h => hT w (by unfold va_wsS; exact List.mem_append_right _ h)
  have hc : Cond.codeWith y bytes maxL ret hh ∈ ws := by rw [hw]; exact List.mem_cons_self
  refine ⟨⟨hrc, hrs, hR.1, hR.2, pay_in ht hG, hc⟩, ht _ (hG _ hc).1, ok _ (by simp [va_wsS]), ⟨hd.1, hd.2.1⟩, fun sig h => ?_, ok _ (by simp [va_wsS]), ok _ (by simp [va_wsS])⟩
  have h2 := hd.2.2
  rw [h] at h2
  exact (Option.some.inj h2).symm
theorem vx_callSW (X : Stand p l e R s m args below meth c T locs cells slots) (hexec : p.tables.exec = Jvm.exec) {own : String} {index : Nat} {y : MethodName} {bytes : ByteArray} {maxL : Nat} {ret : Option FieldType} {hh : List (Nat × Nat × Nat × Nat)}
    (hown : s.vm.findClass own = some m.cls) (hlink : (Cond.methodLink own index y).before args s = true) (hstat : (Cond.static y).before args s = true) (hinit : (Cond.initialized y.cls).before args s = true)
    (hcode : (Cond.codeWith y bytes maxL ret hh).before args s = true) (hy : y.cls ≠ "java/lang/invoke/MethodHandle" ∧ y.cls ≠ "java/lang/invoke/VarHandle")
    {W9 : Nat} {Pre : Pt → Array Value → Prop} {Post : Pt → Array Value → Option Value → Pt → Prop} (hK : Back l R p e below s args y 3 W9 Pre Post)
    {g : JFrame} (hg : g.method = m) (hsize : g.locals.size = c.maxLocals) {argsL rest : List Value} (hlen : ∀ sig, parseMethodDescriptor y.desc = some sig → argsL.length = sig.parameters.length)
    (hstack : g.stack = argsL.reverse ++ rest) (hW : 2 * g.monitorRoom + (rest.map fun v => v.category).sum ≤ W9) (hdg : decode c.code g.pc = .ok (.invokestatic index, 3))
    (hpre : ∀ vm₁, s.WarmedH vm₁ → Pre ⟨T.setVm vm₁, locs, cells, slots⟩ argsL.toArray) :
    ∃ (v : Option Value) (vm₁ : Vm) (B : Pt), s.WarmedH vm₁ ∧ Stand p l e R s m args below meth c B.U B.locs B.cells B.slots ∧ Post ⟨T.setVm vm₁, locs, cells, slots⟩ argsL.toArray v B ∧
      ∀ target, Steps p.tables e below (B.U.setTop { g with pc := g.pc + 3, stack := v.toList ++ rest }) target → Steps p.tables e below (T.setTop g) target := by
  obtain ⟨mk, methM, cM, hnamed, hmethM, -, -, -, -, -, -, hsigM⟩ := Cond.codeWith_spec hcode
  have hstatic : methM.isStatic = true := Cond.static_spec hnamed hmethM hstat
  obtain ⟨kP, hkP, -⟩ := className_of_methodNamed hnamed
  have hinitP : kP.init = .initialized := Cond.initialized_spec (findClass_of_methodNamed hnamed) hkP hinit
  obtain ⟨vm₁, X₁, hstep₁⟩ := X.invokestatic hexec hown hlink hnamed hmethM hstatic hkP hinitP hy (g := g) hg (argsL := argsL) (rest := rest) (hlen _ hsigM) hstack hdg
  obtain ⟨v, B, X', hpost, hsteps⟩ := hK m meth c ⟨T.setVm vm₁, locs, cells, slots⟩ { g with stack := rest } (.invokestatic index) mk argsL.toArray X₁ hg hsize hdg hW (X₁.named hnamed) (hpre vm₁ X₁.warmed)
  exact ⟨v, vm₁, B, X₁.warmed, X', hpost, fun target h => hstep₁ _ fun acts => by rw [doInvoke_state]; exact hsteps.trans h⟩
theorem vx_runSW {y : MethodName} {bytes cc : ByteArray} {maxL nL mc ms n index : Nat} {ret : Option FieldType} {hh : List (Nat × Nat × Nat × Nat)} {ws : List Cond} {rm : Room} {Pc : Array Value → State → Prop} {Qc : Array Value → State → Outcome → State → Prop} {free : Addr → Prop} {Ts : List Cond} {own : String} {As rest : List Value} {g : JFrame}
    (S : CallFix p m c cc nL s args Ts own) (hM : Met l y ws rm Pc Qc mc ms free) (cw : vx_CSW R s args own index y bytes maxL ret hh ws rm mc ms n) (hp : PreS s H Pc As)
    (hg : g.method = m) (hn : As.length = n) (hsize : g.locals.size = nL) (hstack : g.stack = As.reverse ++ rest) (hW : 2 * g.monitorRoom + (rest.map fun v => v.category).sum ≤ 8) (hdg : decode cc g.pc = .ok (.invokestatic index, 3)) (hf : cells + mc ≤ R.cells ∧ slots + ms ≤ R.slots) :
    va_Run p l e R s m args below meth c H locs cells slots mc ms g rest (Qc As.toArray) (free) := by
  obtain ⟨⟨hrc, hrs, hfr, hlo, hws, hcw⟩, hcode, hini, hy, hlen, hl, hstt⟩ := cw
  have hK : Back l R p e below s args y 3 8 (PreOf R mc ms Pc) (PostOf Qc mc ms free) := va_backW (hh := hh) (bytes := bytes) (maxL := maxL) (ret := ret) hM hp.1 hrc hrs hfr hlo hws hcw (fun a' U hW => word_at hW (Or.inl (by first | rfl | simp [Cond.onTables, Cond.keeps, Cond.steady])) hini)
  obtain ⟨hx, hb, hml, ho, -⟩ := S
  intro T hT X
  obtain ⟨v, vm₁, ⟨U', l2, c2, s2⟩, hW₁, X', ⟨g', mk, t, L, e1, e2, hq, h1, hL, h2, h3⟩, st⟩ := vx_callSW X hx (hh := hh) (bytes := bytes) (maxL := maxL) (ret := ret) ho hl hstt hini hcode hy hK hg (hsize.trans hml.symm) (argsL := As) (rest := rest) (fun sig h => hn.trans (hlen sig h)) hstack hW (by rw [hb]; exact hdg)
    (fun vm₁ hW₁ => ⟨hf.1, hf.2, hp.2 (T.setVm vm₁) hT hW₁⟩)
  dsimp only [Pt.U, Pt.locs, Pt.cells, Pt.slots] at X' e1 e2 h1 h2 h3 st
  subst h1; subst h2; subst h3
  exact ⟨v, (T.setVm vm₁).calling g' mk As.toArray, t, U', L, hT, X', hL, e1, e2, hq, st⟩
/-- not caught here, past rows that name other classes: it goes on to the caller -/
theorem vx_outP {p : Program} {l : Launch} {e : Env} {R : Room} {s : State} {m : MethodId} {args : Array Value} {below : List Frame} {meth : Method} {c : Code} {H : Heap} {locs : List Loc} {cells slots : Nat} {free : Addr → Prop} {ls : Array Slot} {rest : List Value} {Qc : Array Value → State → Outcome → State → Prop} {XC : String → State → State → Prop}
    {pc : Nat} {own E : String} {ce : Cell} {q : Addr} {mc ms : Nat} (hown : s.vm.findClass own = some m.cls) (hlocks : meth.locks = false)
    (hpass : ∀ z ∈ c.exceptionTable.toList, covers z pc = false ∨ (z.catchType ≠ 0 ∧ ∃ nm : String, (Cond.classLink own z.catchType nm).before args s = true ∧ va_Nc E nm s)) (hcell : H[q]? = some ce) (hv : ce.vm = .none) (hcl : s.vm.findClass E = some ce.cls)
    (hx : ∀ t : State, t.heap = H → s.vm.Alike t.vm → XC E s t) (hf : ∀ z ∈ locs, free z.base) (hc : cells ≤ mc) (hs : slots ≤ ms) :
    vx_W p l e R s m args below meth c H locs cells slots (vx_MQ below Qc XC args s mc ms free) (F0 m pc ls rest) q := by
  intro T hT X
  have hpl : e.platform.magicAccessors = ({} : Platform).magicAccessors := by rw [X.admits.platform]
  obtain ⟨vm', hW', X', st⟩ := X.outThrough hlocks q (g := F0 m pc ls rest) rfl rfl rfl (cell := ce) (by rw [hT]; exact hcell) (by rw [hv]; rfl)
    (by obtain ⟨k9, h9, -⟩ := Vm.findClass_spec hcl; exact ⟨k9, h9⟩) (fun z hz => by
      rcases hpass z hz with h | ⟨hz0, nm, hl1, hn1⟩
      · exact Or.inl h
      · obtain ⟨c6, hc6, hcl6⟩ := Cond.classLink_spec hown hl1 e.platform hpl
        obtain ⟨a8, b8, h1, h2, h3⟩ := hn1
        cases Option.some.inj (h1.symm.trans hcl)
        cases Option.some.inj (h2.symm.trans hc6)
        exact Or.inr ⟨hz0, _, hcl6, h3⟩)
  obtain ⟨g₀, hfr⟩ := X'.frames_eq
  have hcell9 : ((T.setVm vm').setFrames (.throwing q :: below)).heap[q]? = some ce := by
    show T.heap[q]? = some ce
    rw [hT]; exact hcell
  have hend : Ended ((T.setVm vm').setFrames (.throwing q :: below)) below (.threw q) := State.frames_setFrames _ (State.cur_lt_of_frames hfr)
  refine ⟨(T.setVm vm').setFrames (.throwing q :: below), ?_, .threw q, X'.here.running, hend, Or.inr ⟨q, rfl, E, ce, locs, hx _ hT (X'.ends _).1.alike, hcell9, hv, hcl, (X'.ends _).1, (X'.ends _).2.mono hc hs, hf⟩⟩
  rw [X.pushThrowing_eq]
  exact st
/-- a thing of a world lies in the heap -/
theorem vx_lt {D : va_G} {cl : List vw_C} {ws : va_W} {H1 : Heap} (h : va_P D cl ws H1) {k : Nat} {q : Nat × va_E} (hk : ws[k]? = some q) : q.1 < H1.size := (h k q hk).lt
end VXS
/-! ===== END ===== -/
/-! ===== BEGIN methods with a table of their own: called by a name, returning or throwing ===== -/
section VXH
/-! vx_backW, vx_callVX, vx_callSX, vx_callVW, vx_runVW, vx_runVX, vx_runSX, vx_ofWH follow the same proofs as their sisters above (Free/Laws.lean, Shelf42/LK1.lean); vx_outP calls Shelf42/NT130.lean (outThrough). -/
section
variable {l : Launch} {R : Room} {p : Program} {e : Env} {below : List Frame} {s : State} {sargs : Array Value} {y : MethodName} {len W9 : Nat}
theorem vx_backW {ws : List Cond} {rm : Room} {Pc : Array Value → State → Prop} {Qc : Array Value → State → Outcome → State → Prop} {XC : String → State → State → Prop} {mc ms : Nat} {free : Addr → Prop} {bytes : ByteArray} {maxL : Nat} {ret : Option FieldType} {hh : List (Nat × Nat × Nat × Nat)}
    (hM : vx_Met l y ws rm Pc Qc XC mc ms free) (hblind : FrameBlind Pc) (hrc : rm.cells = mc) (hrs : rm.slots = ms)
    (hframes : rm.frames + 1 ≤ R.frames) (hlocals : W9 + (maxL + 11) + rm.locals ≤ R.locals)
    (hws : ∀ w ∈ ws, ∀ a' U, s.WarmedH U.vm → w.before a' U = true) (hcode : Cond.codeWith y bytes maxL ret hh ∈ ws) (hinit : ∀ a' U, s.WarmedH U.vm → (Cond.initialized y.cls).before a' U = true) :
    vx_Back l R p e below s sargs y len W9 (PreOf R mc ms Pc) (PostOf Qc mc ms free) (vx_Post XC mc ms free) := by
  intro m meth c A g ig mk a X hg hsize hdg hW hn hp
  have h1 : (headSpec ws rm).pre.before a A.U = true := atoms_intro fun w hw => hws w hw _ _ X.warmed
  have h2 : (Cond.codeWith y bytes maxL ret hh).before a A.U = true := hws _ hcode _ _ X.warmed
  have h3 : (Cond.initialized y.cls).before a A.U = true := hinit _ _ X.warmed
  have h4 : A.cells + (headSpec ws rm).room.cells ≤ R.cells := by rw [show (headSpec ws rm).room.cells = mc from hrc]; exact hp.1
  have h5 : A.slots + (headSpec ws rm).room.slots ≤ R.slots := by rw [show (headSpec ws rm).room.slots = ms from hrs]; exact hp.2.1
  have hPc : Pc a (A.U.calling g mk a) := hblind _ _ _ _ hp.2.2
  obtain ⟨U, Ls, c0, s0⟩ := A
  dsimp only [Pt.U, Pt.locs, Pt.cells, Pt.slots] at h1 h2 h3 h4 h5 X hn hPc ⊢
  obtain ⟨m9, methY, cY, hn9, hmY, hcY, -, hlY, -⟩ := Cond.codeWith_spec h2
  cases Option.some.inj (hn9.symm.trans hn)
  obtain ⟨kY, hkY, -⟩ := className_of_methodNamed hn
  have hinitY : kY.init = .initialized := Cond.initialized_spec (findClass_of_methodNamed hn) hkY h3
  have h : At U g.method c below := by rw [hg]; exact X.here
  have hlocals9 : W9 + (maxL + 11) + (headSpec ws rm).room.locals ≤ R.locals := hlocals
  have happ : (headSpec ws rm).appliesLoose y e.platform (U.calling g mk a) = true :=
    Spec.appliesLoose_calling (g := g) h hdg hn hkY hinitY
      (X.room_calling (g := g) (R' := (headSpec ws rm).room) hsize hmY hcY hframes (by rw [hlY]; omega) h4 h5) h1
  obtain ⟨mid, hmid⟩ := h.above
  have hfr : (U.setTop g).frames = (.java g :: mid) ++ below := by rw [State.frames_setTop' g h.top, hmid]; rfl
  obtain ⟨o, s₂, hsteps, -, hend, hq⟩ := Steps.callFree hM p X.admits X.cas X.clock (acts := []) hfr happ hPc trivial
  have hq' : vx_Q Qc XC mc ms free a (U.calling g mk a) o s₂ := hq
  rw [State.frames_setTop' g h.top] at hend
  obtain ⟨g₀, hg0⟩ := Option.isSome_iff_exists.mp h.top
  obtain ⟨r, hr⟩ := State.topJava?_eq_some.mp hg0
  have hr' : (({ U with heap := s₂.heap, slotsUsed := s₂.slotsUsed } : State).setVm s₂.vm).frames = .java g₀ :: r := hr
  rcases hq' with ⟨hqc, L, hfe, hL⟩ | ⟨q, rfl, E, ce, L, hx, hce, hcv, hcl, hW₂, hsm, hL⟩
  · obtain ⟨⟨v, rfl⟩, hW₂, e2, q2, q3, q4, q5, q6⟩ := id hfe
    have e3 : s₂ = ({ (U.calling g mk a).setFrames s₂.frames with heap := s₂.heap, slotsUsed := s₂.slotsUsed } : State).setVm s₂.vm := by
      have : s₂ = ({ s₂ with vm := (U.calling g mk a).vm } : State).setVm s₂.vm := rfl
      rw [e2] at this
      exact this
    obtain ⟨c₂, i₂, len₂, hc₂, hd₂, hf₂⟩ := hend
    have hW' : U.WarmedH s₂.vm := hW₂
    have hcc : c₂ = c := by
      have h1 : s₂.code? g.method = U.code? g.method := by
        rw [State.code?_eq, State.code?_eq, hW'.alike.method?]
      exact Option.some.inj (hc₂.symm.trans (h1.trans h.code))
    subst hcc
    have hlen : len₂ = len := by rw [hdg] at hd₂; cases hd₂; rfl
    subst hlen
    have hs₂ : s₂ = (({ U with heap := s₂.heap, slotsUsed := s₂.slotsUsed } : State).setVm s₂.vm).setTop { g with pc := g.pc + len₂, stack := v.toList ++ g.stack } := by
      refine e3.trans ?_
      rw [hf₂, State.calling_eq h.top, State.setFrames_setFrames, State.setTop_of_frames _ hr', hr]
      rfl
    have hsame : U.sameButNew ({ U with heap := s₂.heap, slotsUsed := s₂.slotsUsed } : State) L mc ms := by
      refine ⟨?_, q2, q3, q4, q5, q6⟩
      obtain ⟨t, ht, -⟩ := State.frames_cons hr
      show ({ U with heap := s₂.heap, slotsUsed := s₂.slotsUsed } : State) = { U.setFrames U.frames with heap := s₂.heap, slotsUsed := s₂.slotsUsed }
      rw [State.setFrames_self ht]
    subst hg
    refine Or.inl ⟨v, ⟨(({ U with heap := s₂.heap, slotsUsed := s₂.slotsUsed } : State).setVm s₂.vm), Ls ++ L, c0 + mc, s0 + ms⟩,
      ⟨X.admits, X.cas, X.clock, X.frames, X.room, X.hears, X.method, X.code, (X.here.setHeapUsed s₂.heap s₂.slotsUsed).setVm hW'.alike, X.tail, State.WarmedH.trans X.warmed hW', X.limits, X.bytes, X.same.trans (hsame.setVm s.vm)⟩,
      ⟨g, mk, s₂, L, rfl, rfl, hqc, rfl, hL, rfl, rfl⟩, ?_⟩
    show Steps p.tables e below _ ((({ U with heap := s₂.heap, slotsUsed := s₂.slotsUsed } : State).setVm s₂.vm).setTop { g with pc := g.pc + len₂, stack := v.toList ++ g.stack })
    rw [← hs₂]
    exact hsteps
  · obtain ⟨e2, q2, q3, q4, q5, q6⟩ := id hsm
    have e3 : s₂ = ({ (U.calling g mk a).setFrames s₂.frames with heap := s₂.heap, slotsUsed := s₂.slotsUsed } : State).setVm s₂.vm := by
      have : s₂ = ({ s₂ with vm := (U.calling g mk a).vm } : State).setVm s₂.vm := rfl
      rw [e2] at this
      exact this
    have hf₂ : s₂.frames = .throwing q :: .java g :: U.frames.tail := hend
    have hW' : U.WarmedH s₂.vm := hW₂
    have hs₂ : s₂ = ((({ U with heap := s₂.heap, slotsUsed := s₂.slotsUsed } : State).setVm s₂.vm).setTop g).pushFrame (.throwing q) := by
      refine e3.trans ?_
      rw [hf₂, State.calling_eq h.top, State.setFrames_setFrames, State.pushFrame, State.frames_setTop _ hr', State.setTop_of_frames _ hr', State.setFrames_setFrames, hr]
      rfl
    have hsame : U.sameButNew ({ U with heap := s₂.heap, slotsUsed := s₂.slotsUsed } : State) L mc ms := by
      refine ⟨?_, q2, q3, q4, q5, q6⟩
      obtain ⟨t, ht, -⟩ := State.frames_cons hr
      show ({ U with heap := s₂.heap, slotsUsed := s₂.slotsUsed } : State) = { U.setFrames U.frames with heap := s₂.heap, slotsUsed := s₂.slotsUsed }
      rw [State.setFrames_self ht]
    subst hg
    refine Or.inr ⟨q, ⟨(({ U with heap := s₂.heap, slotsUsed := s₂.slotsUsed } : State).setVm s₂.vm), Ls ++ L, c0 + mc, s0 + ms⟩,
      ⟨X.admits, X.cas, X.clock, X.frames, X.room, X.hears, X.method, X.code, (X.here.setHeapUsed s₂.heap s₂.slotsUsed).setVm hW'.alike, X.tail, State.WarmedH.trans X.warmed hW', X.limits, X.bytes, X.same.trans (hsame.setVm s.vm)⟩,
      ⟨g, mk, s₂, L, E, ce, rfl, rfl, hx, hce, hcv, hcl, rfl, hL, rfl, rfl⟩, ?_⟩
    show Steps p.tables e below _ (((({ U with heap := s₂.heap, slotsUsed := s₂.slotsUsed } : State).setVm s₂.vm).setTop g).pushFrame (.throwing q))
    rw [← hs₂]
    exact hsteps
end
variable {p : Program} {l : Launch} {e : Env} {R : Room} {s : State} {m : MethodId} {args : Array Value} {below : List Frame} {meth : Method} {c : Code} {T : State} {H : Heap} {locs : List Loc} {cells slots : Nat}
theorem vx_callVX (X : Stand p l e R s m args below meth c T locs cells slots) (hexec : p.tables.exec = Jvm.exec) {own C : String} {index : Nat} {y : MethodName} {bytes : ByteArray} {maxL : Nat} {ret : Option FieldType} {hh : List (Nat × Nat × Nat × Nat)}
    (hown : s.vm.findClass own = some m.cls) (hlink : (Cond.methodLink own index y).before args s = true) (hinst : (Cond.instanceMethod y).before args s = true) (hsel : (Cond.selects C y y).before args s = true)
    (hcode : (Cond.codeWith y bytes maxL ret hh).before args s = true) (hy : y.cls ≠ "java/lang/invoke/MethodHandle" ∧ y.cls ≠ "java/lang/invoke/VarHandle")
    {W9 : Nat} {Pre : Pt → Array Value → Prop} {Post : Pt → Array Value → Option Value → Pt → Prop} {PostX : Pt → Array Value → Addr → Pt → Prop} (hK : vx_Back l R p e below s args y 3 W9 Pre Post PostX)
    {b : Addr} {cellB : Cell} (hcell : T.heap[b]? = some cellB) (hobj : cellB.vm.isStatics = false) (hcls : s.vm.findClass C = some cellB.cls)
    {g : JFrame} (hg : g.method = m) (hsize : g.locals.size = c.maxLocals) {argsL rest : List Value} (hlen : ∀ sig, parseMethodDescriptor y.desc = some sig → argsL.length = sig.parameters.length)
    (hstack : g.stack = argsL.reverse ++ .ref b :: rest) (hW : 2 * g.monitorRoom + (rest.map fun v => v.category).sum ≤ W9) (hdg : decode c.code g.pc = .ok (.invokevirtual index, 3))
    (hpre : ∀ vm₁, s.WarmedH vm₁ → Pre ⟨T.setVm vm₁, locs, cells, slots⟩ (Value.ref b :: argsL).toArray) :
    (∃ (v : Option Value) (vm₁ : Vm) (B : Pt), s.WarmedH vm₁ ∧ Stand p l e R s m args below meth c B.U B.locs B.cells B.slots ∧ Post ⟨T.setVm vm₁, locs, cells, slots⟩ (Value.ref b :: argsL).toArray v B ∧
      ∀ target, Steps p.tables e below (B.U.setTop { g with pc := g.pc + 3, stack := v.toList ++ rest }) target → Steps p.tables e below (T.setTop g) target) ∨
    (∃ (q : Addr) (vm₁ : Vm) (B : Pt), s.WarmedH vm₁ ∧ Stand p l e R s m args below meth c B.U B.locs B.cells B.slots ∧ PostX ⟨T.setVm vm₁, locs, cells, slots⟩ (Value.ref b :: argsL).toArray q B ∧
      Steps p.tables e below (T.setTop g) ((B.U.setTop { g with stack := rest }).pushFrame (.throwing q))) := by
  obtain ⟨mk, methM, hnamed, hmethM, hstM, habM⟩ := Cond.instanceMethod_spec hinst
  obtain ⟨m8, methM', cM, hn8, hmethM', -, -, -, -, -, -, hsigM⟩ := Cond.codeWith_spec hcode
  cases Option.some.inj (hn8.symm.trans hnamed)
  cases hmethM.symm.trans hmethM'
  obtain ⟨c2, r2, m2, q1, q2, q3, q4, kP, hkP, hkPi⟩ := Cond.selects_spec hsel
  cases hcls.symm.trans q1
  cases (State.methodFound?_of_named hnamed hy).symm.trans q2
  cases hnamed.symm.trans q3
  have hselP : selectMethod e.platform s.vm cellB.cls mk = .method mk := by rw [Launch.admits_selectMethod X.admits]; exact q4
  obtain ⟨vm₁, X₁, hstep₁⟩ := X.invokevirtual hexec hown hlink hnamed hmethM hstM hkP hkPi hy (a := b) (cell := cellB) hcell
    (fun z h => by rw [h] at hobj; cases hobj) hselP hmethM habM hkP hkPi (g := g) hg (argsL := argsL) (rest := rest) (hlen _ hsigM) hstack hdg
  rcases hK m meth c ⟨T.setVm vm₁, locs, cells, slots⟩ { g with stack := rest } (.invokevirtual index) mk (Value.ref b :: argsL).toArray X₁ hg hsize hdg hW (X₁.named hnamed) (hpre vm₁ X₁.warmed) with ⟨v, B, X', hpost, hsteps⟩ | ⟨q, B, X', hpost, hsteps⟩
  · exact Or.inl ⟨v, vm₁, B, X₁.warmed, X', hpost, fun target h => hstep₁ _ fun acts => by rw [doInvoke_state]; exact hsteps.trans h⟩
  · exact Or.inr ⟨q, vm₁, B, X₁.warmed, X', hpost, hstep₁ _ fun acts => by rw [doInvoke_state]; exact hsteps⟩
theorem vx_callSX (X : Stand p l e R s m args below meth c T locs cells slots) (hexec : p.tables.exec = Jvm.exec) {own : String} {index : Nat} {y : MethodName} {bytes : ByteArray} {maxL : Nat} {ret : Option FieldType} {hh : List (Nat × Nat × Nat × Nat)}
    (hown : s.vm.findClass own = some m.cls) (hlink : (Cond.methodLink own index y).before args s = true) (hstat : (Cond.static y).before args s = true) (hinit : (Cond.initialized y.cls).before args s = true)
    (hcode : (Cond.codeWith y bytes maxL ret hh).before args s = true) (hy : y.cls ≠ "java/lang/invoke/MethodHandle" ∧ y.cls ≠ "java/lang/invoke/VarHandle")
    {W9 : Nat} {Pre : Pt → Array Value → Prop} {Post : Pt → Array Value → Option Value → Pt → Prop} {PostX : Pt → Array Value → Addr → Pt → Prop} (hK : vx_Back l R p e below s args y 3 W9 Pre Post PostX)
    {g : JFrame} (hg : g.method = m) (hsize : g.locals.size = c.maxLocals) {argsL rest : List Value} (hlen : ∀ sig, parseMethodDescriptor y.desc = some sig → argsL.length = sig.parameters.length)
    (hstack : g.stack = argsL.reverse ++ rest) (hW : 2 * g.monitorRoom + (rest.map fun v => v.category).sum ≤ W9) (hdg : decode c.code g.pc = .ok (.invokestatic index, 3))
    (hpre : ∀ vm₁, s.WarmedH vm₁ → Pre ⟨T.setVm vm₁, locs, cells, slots⟩ argsL.toArray) :
    (∃ (v : Option Value) (vm₁ : Vm) (B : Pt), s.WarmedH vm₁ ∧ Stand p l e R s m args below meth c B.U B.locs B.cells B.slots ∧ Post ⟨T.setVm vm₁, locs, cells, slots⟩ argsL.toArray v B ∧
      ∀ target, Steps p.tables e below (B.U.setTop { g with pc := g.pc + 3, stack := v.toList ++ rest }) target → Steps p.tables e below (T.setTop g) target) ∨
    (∃ (q : Addr) (vm₁ : Vm) (B : Pt), s.WarmedH vm₁ ∧ Stand p l e R s m args below meth c B.U B.locs B.cells B.slots ∧ PostX ⟨T.setVm vm₁, locs, cells, slots⟩ argsL.toArray q B ∧
      Steps p.tables e below (T.setTop g) ((B.U.setTop { g with stack := rest }).pushFrame (.throwing q))) := by
  obtain ⟨mk, methM, cM, hnamed, hmethM, -, -, -, -, -, -, hsigM⟩ := Cond.codeWith_spec hcode
  have hstatic : methM.isStatic = true := Cond.static_spec hnamed hmethM hstat
  obtain ⟨kP, hkP, -⟩ := className_of_methodNamed hnamed
  have hinitP : kP.init = .initialized := Cond.initialized_spec (findClass_of_methodNamed hnamed) hkP hinit
  obtain ⟨vm₁, X₁, hstep₁⟩ := X.invokestatic hexec hown hlink hnamed hmethM hstatic hkP hinitP hy (g := g) hg (argsL := argsL) (rest := rest) (hlen _ hsigM) hstack hdg
  rcases hK m meth c ⟨T.setVm vm₁, locs, cells, slots⟩ { g with stack := rest } (.invokestatic index) mk argsL.toArray X₁ hg hsize hdg hW (X₁.named hnamed) (hpre vm₁ X₁.warmed) with ⟨v, B, X', hpost, hsteps⟩ | ⟨q, B, X', hpost, hsteps⟩
  · exact Or.inl ⟨v, vm₁, B, X₁.warmed, X', hpost, fun target h => hstep₁ _ fun acts => by rw [doInvoke_state]; exact hsteps.trans h⟩
  · exact Or.inr ⟨q, vm₁, B, X₁.warmed, X', hpost, hstep₁ _ fun acts => by rw [doInvoke_state]; exact hsteps⟩
theorem vx_callVW (X : Stand p l e R s m args below meth c T locs cells slots) (hexec : p.tables.exec = Jvm.exec) {own C : String} {index : Nat} {y : MethodName} {bytes : ByteArray} {maxL : Nat} {ret : Option FieldType} {hh : List (Nat × Nat × Nat × Nat)}
    (hown : s.vm.findClass own = some m.cls) (hlink : (Cond.methodLink own index y).before args s = true) (hinst : (Cond.instanceMethod y).before args s = true) (hsel : (Cond.selects C y y).before args s = true)
    (hcode : (Cond.codeWith y bytes maxL ret hh).before args s = true) (hy : y.cls ≠ "java/lang/invoke/MethodHandle" ∧ y.cls ≠ "java/lang/invoke/VarHandle")
    {W9 : Nat} {Pre : Pt → Array Value → Prop} {Post : Pt → Array Value → Option Value → Pt → Prop} (hK : Back l R p e below s args y 3 W9 Pre Post)
    {b : Addr} {cellB : Cell} (hcell : T.heap[b]? = some cellB) (hobj : cellB.vm.isStatics = false) (hcls : s.vm.findClass C = some cellB.cls)
    {g : JFrame} (hg : g.method = m) (hsize : g.locals.size = c.maxLocals) {argsL rest : List Value} (hlen : ∀ sig, parseMethodDescriptor y.desc = some sig → argsL.length = sig.parameters.length)
    (hstack : g.stack = argsL.reverse ++ .ref b :: rest) (hW : 2 * g.monitorRoom + (rest.map fun v => v.category).sum ≤ W9) (hdg : decode c.code g.pc = .ok (.invokevirtual index, 3))
    (hpre : ∀ vm₁, s.WarmedH vm₁ → Pre ⟨T.setVm vm₁, locs, cells, slots⟩ (Value.ref b :: argsL).toArray) :
    ∃ (v : Option Value) (vm₁ : Vm) (B : Pt), s.WarmedH vm₁ ∧ Stand p l e R s m args below meth c B.U B.locs B.cells B.slots ∧ Post ⟨T.setVm vm₁, locs, cells, slots⟩ (Value.ref b :: argsL).toArray v B ∧
      ∀ target, Steps p.tables e below (B.U.setTop { g with pc := g.pc + 3, stack := v.toList ++ rest }) target → Steps p.tables e below (T.setTop g) target := by
  obtain ⟨mk, methM, hnamed, hmethM, hstM, habM⟩ := Cond.instanceMethod_spec hinst
  obtain ⟨m8, methM', cM, hn8, hmethM', -, -, -, -, -, -, hsigM⟩ := Cond.codeWith_spec hcode
  cases Option.some.inj (hn8.symm.trans hnamed)
  cases hmethM.symm.trans hmethM'
  obtain ⟨c2, r2, m2, q1, q2, q3, q4, kP, hkP, hkPi⟩ := Cond.selects_spec hsel
  cases hcls.symm.trans q1
  cases (State.methodFound?_of_named hnamed hy).symm.trans q2
  cases hnamed.symm.trans q3
  have hselP : selectMethod e.platform s.vm cellB.cls mk = .method mk := by rw [Launch.admits_selectMethod X.admits]; exact q4
  obtain ⟨vm₁, X₁, hstep₁⟩ := X.invokevirtual hexec hown hlink hnamed hmethM hstM hkP hkPi hy (a := b) (cell := cellB) hcell
    (fun z h => by rw [h] at hobj; cases hobj) hselP hmethM habM hkP hkPi (g := g) hg (argsL := argsL) (rest := rest) (hlen _ hsigM) hstack hdg
  obtain ⟨v, B, X', hpost, hsteps⟩ := hK m meth c ⟨T.setVm vm₁, locs, cells, slots⟩ { g with stack := rest } (.invokevirtual index) mk (Value.ref b :: argsL).toArray X₁ hg hsize hdg hW (X₁.named hnamed) (hpre vm₁ X₁.warmed)
  exact ⟨v, vm₁, B, X₁.warmed, X', hpost, fun target h => hstep₁ _ fun acts => by rw [doInvoke_state]; exact hsteps.trans h⟩
abbrev vx_CVW (R : Room) (s : State) (args : Array Value) (own C : String) (index : Nat) (y : MethodName) (bytes : ByteArray) (maxL : Nat) (ret : Option FieldType) (hh : List (Nat × Nat × Nat × Nat)) (ws : List Cond) (rm : Room) (mc ms n : Nat) : Prop :=
  (rm.cells = mc ∧ rm.slots = ms ∧ rm.frames + 1 ≤ R.frames ∧ 8 + (maxL + 11) + rm.locals ≤ R.locals ∧ (∀ w ∈ ws, ∀ (a' : Array Value) (U : State), s.WarmedH U.vm → w.before a' U = true) ∧ Cond.codeWith y bytes maxL ret hh ∈ ws) ∧
  (Cond.codeWith y bytes maxL ret hh).before args s = true ∧ (Cond.initialized y.cls).before args s = true ∧ (y.cls ≠ "java/lang/invoke/MethodHandle" ∧ y.cls ≠ "java/lang/invoke/VarHandle") ∧
  (∀ sig, parseMethodDescriptor y.desc = some sig → n = sig.parameters.length) ∧ (Cond.methodLink own index y).before args s = true ∧ (Cond.instanceMethod y).before args s = true ∧ (Cond.selects C y y).before args s = true
theorem vx_cwVW {own C : String} {index maxL mc ms : Nat} {y : MethodName} {bytes : ByteArray} {ret : Option FieldType} {hh : List (Nat × Nat × Nat × Nat)} {Ts ws ws' : List Cond} {rm : Room} (n : Nat) (ht : ∀ w ∈ Ts, w.before args s = true) (hT : GoodIn Ts (wsV own index C y ws)) (hw : ws = Cond.codeWith y bytes maxL ret hh :: ws') (hrc : rm.cells = mc) (hrs : rm.slots = ms)
    (hd : y.cls = C ∧ y.cls ≠ "java/lang/invoke/MethodHandle" ∧ y.cls ≠ "java/lang/invoke/VarHandle" ∧ (parseMethodDescriptor y.desc).map (fun d => d.parameters.length) = some n) (hR : rm.frames + 1 ≤ R.frames ∧ 8 + (maxL + 11) + rm.locals ≤ R.locals) :
    vx_CVW R s args own C index y bytes maxL ret hh ws rm mc ms n := by
  obtain ⟨hC, hd⟩ := hd
  subst hC
  have ok : ∀ w ∈ wsV own index y.cls y ws, w.before args s = true := fun w h => ht w (hT w h).1
  have hG : GoodIn Ts ws := fun w h => hT w (by unfold wsV; exact List.mem_append_right _ h)
  have hc : Cond.codeWith y bytes maxL ret hh ∈ ws := by rw [hw]; exact List.mem_cons_self
  refine ⟨⟨hrc, hrs, hR.1, hR.2, pay_in ht hG, hc⟩, ht _ (hG _ hc).1, ok _ (by simp [wsV]), ⟨hd.1, hd.2.1⟩, fun sig h => ?_, ok _ (by simp [wsV]), ok _ (by simp [wsV]), ok _ (by simp [wsV])⟩
  have h2 := hd.2.2
  rw [h] at h2
  exact (Option.some.inj h2).symm
theorem vx_runVW {y : MethodName} {bytes cc : ByteArray} {maxL nL mc ms n index : Nat} {ret : Option FieldType} {hh : List (Nat × Nat × Nat × Nat)} {ws : List Cond} {rm : Room} {Pc : Array Value → State → Prop} {Qc : Array Value → State → Outcome → State → Prop} {free : Addr → Prop} {Ts : List Cond} {own C : String} {b : Addr} {As rest : List Value} {g : JFrame}
    (S : CallFix p m c cc nL s args Ts own) (hM : Met l y ws rm Pc Qc mc ms free) (cw : vx_CVW R s args own C index y bytes maxL ret hh ws rm mc ms n) (hp : PreV s H C b Pc As)
    (hg : g.method = m) (hn : As.length = n) (hsize : g.locals.size = nL) (hstack : g.stack = As.reverse ++ .ref b :: rest) (hW : 2 * g.monitorRoom + (rest.map fun v => v.category).sum ≤ 8) (hdg : decode cc g.pc = .ok (.invokevirtual index, 3)) (hf : cells + mc ≤ R.cells ∧ slots + ms ≤ R.slots) :
    va_Run p l e R s m args below meth c H locs cells slots mc ms g rest (Qc (Value.ref b :: As).toArray) free := by
  obtain ⟨⟨hrc, hrs, hfr, hlo, hws, hcw⟩, hcode, hini, hy, hlen, hl, hin, hse⟩ := cw
  have hK : Back l R p e below s args y 3 8 (PreOf R mc ms Pc) (PostOf Qc mc ms free) := va_backW (hh := hh) (bytes := bytes) (maxL := maxL) (ret := ret) hM hp.1 hrc hrs hfr hlo hws hcw (fun a' U hW => word_at hW (Or.inl (by first | rfl | simp [Cond.onTables, Cond.keeps, Cond.steady])) hini)
  obtain ⟨hx, hb, hml, ho, -⟩ := S
  obtain ⟨-, ⟨cellB, hcB, hoB, hclB⟩, hPc⟩ := hp
  intro T hT X
  obtain ⟨v, vm₁, ⟨U', l2, c2, s2⟩, hW₁, X', ⟨g', mk, t, L, e1, e2, hq, h1, hL, h2, h3⟩, st⟩ := vx_callVW X hx (C := C) (hh := hh) (bytes := bytes) (maxL := maxL) (ret := ret) ho hl hin hse hcode hy hK (by rw [hT]; exact hcB) hoB hclB hg (hsize.trans hml.symm) (argsL := As) (rest := rest) (fun sig h => hn.trans (hlen sig h)) hstack hW (by rw [hb]; exact hdg)
    (fun vm₁ hW₁ => ⟨hf.1, hf.2, hPc (T.setVm vm₁) hT hW₁⟩)
  dsimp only [Pt.U, Pt.locs, Pt.cells, Pt.slots] at X' e1 e2 h1 h2 h3 st
  subst h1; subst h2; subst h3
  exact ⟨v, (T.setVm vm₁).calling g' mk (Value.ref b :: As).toArray, t, U', L, hT, X', hL, e1, e2, hq, st⟩
section
variable {y : MethodName} {bytes cc : ByteArray} {maxL nL mc ms n index : Nat} {ret : Option FieldType} {ws : List Cond} {rm : Room} {Pc : Array Value → State → Prop} {Qc : Array Value → State → Outcome → State → Prop} {XC : String → State → State → Prop} {free : Addr → Prop} {Ts : List Cond} {own C : String} {b : Addr} {As rest : List Value} {g : JFrame}
theorem vx_runVX {hh : List (Nat × Nat × Nat × Nat)} (S : CallFix p m c cc nL s args Ts own) (hM : vx_Met l y ws rm Pc Qc XC mc ms free) (cw : vx_CVW R s args own C index y bytes maxL ret hh ws rm mc ms n) (hp : PreV s H C b Pc As)
    (hg : g.method = m) (hn : As.length = n) (hsize : g.locals.size = nL) (hstack : g.stack = As.reverse ++ .ref b :: rest) (hW : 2 * g.monitorRoom + (rest.map fun v => v.category).sum ≤ 8) (hdg : decode cc g.pc = .ok (.invokevirtual index, 3)) (hf : cells + mc ≤ R.cells ∧ slots + ms ≤ R.slots) :
    vx_Run p l e R s m args below meth c H locs cells slots mc ms g rest (Qc (Value.ref b :: As).toArray) XC free := by
  obtain ⟨⟨hrc, hrs, hfr, hlo, hws, hcw⟩, hcode, hini, hy, hlen, hl, hin, hse⟩ := cw
  have hK : vx_Back l R p e below s args y 3 8 (PreOf R mc ms Pc) (PostOf Qc mc ms free) (vx_Post XC mc ms free) := vx_backW (hh := hh) (bytes := bytes) (maxL := maxL) (ret := ret) hM hp.1 hrc hrs hfr hlo hws hcw (fun a' U hW => word_at hW (Or.inl (by first | rfl | simp [Cond.onTables, Cond.keeps, Cond.steady])) hini)
  obtain ⟨hx, hb, hml, ho, -⟩ := S
  obtain ⟨-, ⟨cellB, hcB, hoB, hclB⟩, hPc⟩ := hp
  intro T hT X
  rcases vx_callVX X hx (C := C) (hh := hh) (bytes := bytes) (maxL := maxL) (ret := ret) ho hl hin hse hcode hy hK (by rw [hT]; exact hcB) hoB hclB hg (hsize.trans hml.symm) (argsL := As) (rest := rest) (fun sig h => hn.trans (hlen sig h)) hstack hW (by rw [hb]; exact hdg)
    (fun vm₁ hW₁ => ⟨hf.1, hf.2, hPc (T.setVm vm₁) hT hW₁⟩) with ⟨v, vm₁, ⟨U', l2, c2, s2⟩, hW₁, X', ⟨g', mk, t, L, e1, e2, hq, h1, hL, h2, h3⟩, st⟩ | ⟨q, vm₁, ⟨U', l2, c2, s2⟩, hW₁, X', ⟨g', mk, t, L, E, ce, e1, e2, hq, hce, hcv, hcl, h1, hL, h2, h3⟩, st⟩
  · dsimp only [Pt.U, Pt.locs, Pt.cells, Pt.slots] at X' e1 e2 h1 h2 h3 st
    subst h1; subst h2; subst h3
    exact Or.inl ⟨v, (T.setVm vm₁).calling g' mk (Value.ref b :: As).toArray, t, U', L, hT, X', hL, e1, e2, hq, st⟩
  · dsimp only [Pt.U, Pt.locs, Pt.cells, Pt.slots] at X' e1 e2 h1 h2 h3 st hcl
    subst h1; subst h2; subst h3
    exact Or.inr ⟨q, (T.setVm vm₁).calling g' mk (Value.ref b :: As).toArray, t, U', L, E, ce, hT, X', hL, e1, e2, hq, hce, hcv, vx_cls hW₁ hcl, st⟩
theorem vx_runSX {hh : List (Nat × Nat × Nat × Nat)} (S : CallFix p m c cc nL s args Ts own) (hM : vx_Met l y ws rm Pc Qc XC mc ms free) (cw : vx_CSW R s args own index y bytes maxL ret hh ws rm mc ms n) (hp : PreS s H Pc As)
    (hg : g.method = m) (hn : As.length = n) (hsize : g.locals.size = nL) (hstack : g.stack = As.reverse ++ rest) (hW : 2 * g.monitorRoom + (rest.map fun v => v.category).sum ≤ 8) (hdg : decode cc g.pc = .ok (.invokestatic index, 3)) (hf : cells + mc ≤ R.cells ∧ slots + ms ≤ R.slots) :
    vx_Run p l e R s m args below meth c H locs cells slots mc ms g rest (Qc As.toArray) XC free := by
  obtain ⟨⟨hrc, hrs, hfr, hlo, hws, hcw⟩, hcode, hini, hy, hlen, hl, hstt⟩ := cw
  have hK : vx_Back l R p e below s args y 3 8 (PreOf R mc ms Pc) (PostOf Qc mc ms free) (vx_Post XC mc ms free) := vx_backW (hh := hh) (bytes := bytes) (maxL := maxL) (ret := ret) hM hp.1 hrc hrs hfr hlo hws hcw (fun a' U hW => word_at hW (Or.inl (by first | rfl | simp [Cond.onTables, Cond.keeps, Cond.steady])) hini)
  obtain ⟨hx, hb, hml, ho, -⟩ := S
  intro T hT X
  rcases vx_callSX X hx (hh := hh) (bytes := bytes) (maxL := maxL) (ret := ret) ho hl hstt hini hcode hy hK hg (hsize.trans hml.symm) (argsL := As) (rest := rest) (fun sig h => hn.trans (hlen sig h)) hstack hW (by rw [hb]; exact hdg)
    (fun vm₁ hW₁ => ⟨hf.1, hf.2, hp.2 (T.setVm vm₁) hT hW₁⟩) with ⟨v, vm₁, ⟨U', l2, c2, s2⟩, hW₁, X', ⟨g', mk, t, L, e1, e2, hq, h1, hL, h2, h3⟩, st⟩ | ⟨q, vm₁, ⟨U', l2, c2, s2⟩, hW₁, X', ⟨g', mk, t, L, E, ce, e1, e2, hq, hce, hcv, hcl, h1, hL, h2, h3⟩, st⟩
  · dsimp only [Pt.U, Pt.locs, Pt.cells, Pt.slots] at X' e1 e2 h1 h2 h3 st
    subst h1; subst h2; subst h3
    exact Or.inl ⟨v, (T.setVm vm₁).calling g' mk As.toArray, t, U', L, hT, X', hL, e1, e2, hq, st⟩
  · dsimp only [Pt.U, Pt.locs, Pt.cells, Pt.slots] at X' e1 e2 h1 h2 h3 st hcl
    subst h1; subst h2; subst h3
    exact Or.inr ⟨q, (T.setVm vm₁).calling g' mk As.toArray, t, U', L, E, ce, hT, X', hL, e1, e2, hq, hce, hcv, vx_cls hW₁ hcl, st⟩
end
end VXH
theorem vx_ofWH {l : Launch} {y : MethodName} {ws ws' : List Cond} {rm : Room} {Pc : Array Value → State → Prop} {Qc : Array Value → State → Outcome → State → Prop} {XC : String → State → State → Prop} {mc ms : Nat} {free : Addr → Prop} {cc : ByteArray} {maxL : Nat} {ret : Option FieldType} {hh : List (Nat × Nat × Nat × Nat)}
    (hy : plainName y.cls = true) (hw : ws = Cond.codeWith y cc maxL ret hh :: ws')
    (body : ∀ p e s m args below meth c s₁, BodyLoose p l y (headSpec ws rm) cc maxL ret e s m args below meth c s₁ → c.maxLocals = maxL → Pc args s →
      W p l e (headSpec ws rm).room s m args below meth c s.heap [] 0 0 (vx_MQ below Qc XC args s mc ms free) (entryFrame m args maxL)) : vx_Met l y ws rm Pc Qc XC mc ms free := by
  refine MetFree.of_bodyS (code := cc) (maxLocals := maxL) (ret := ret) hy ?_ ?_
  · intro args s m h hn
    obtain ⟨m9, meth, c, hn9, h1, h2, h3, h4, -, h5, h6, -⟩ := Cond.codeWith_spec (atoms_spec (ws := ws) h _ (by rw [hw]; exact List.mem_cons_self))
    cases hn.symm.trans hn9
    exact ⟨meth, c, h1, h2, h3, h4, h5, h6⟩
  · intro p e s m args below meth c s₁ B hml hP _
    have hh0 : s₁.heap = s.heap := by rw [B.state]; rfl
    obtain ⟨t, a1, o, b1, b2, b3⟩ := body p e s m args below meth c s₁ B hml hP s₁ hh0 (Stand.of_body B)
    exact ⟨t, o, a1, b1, b2, b3⟩
/-! ===== END ===== -/
end
section
/-! ===== BEGIN printed: names, fields, word lists, decode rows ===== -/
def RX0 : String := "TransactionalFlash$Device"
def TX0 : u_T := fun k => match k with
  | 0 => ("TransactionalFlash$Device", "flash", "LTransactionalFlash$Flash;", true)
  | 1 => ("TransactionalFlash$Device", "ledger", "LTransactionalFlash$Ledger;", true)
  | 2 => ("TransactionalFlash$Device", "table", "LTransactionalFlash$PageTable;", true)
  | 3 => ("TransactionalFlash$Device", "replay", "LTransactionalFlash$Replay;", true)
  | 4 => ("TransactionalFlash$Device", "liveIn", "[I", true)
  | 5 => ("TransactionalFlash$Device", "on", "Z", false)
  | 6 => ("TransactionalFlash$Device", "active", "I", false)
  | 7 => ("TransactionalFlash$Device", "every", "I", false)
  | 8 => ("TransactionalFlash$Device", "commitCount", "I", false)
  | 9 => ("TransactionalFlash$Device", "checkpointCount", "I", false)
  | 10 => ("TransactionalFlash$Device", "latest", "I", false)
  | 11 => ("TransactionalFlash$Device", "latestEnd", "I", false)
  | 12 => ("TransactionalFlash$Device", "inTheMaking", "I", false)
  | 13 => ("TransactionalFlash$Device", "writeCount", "I", false)
  | _ => ("TransactionalFlash$Device", "lossCount", "I", false)
def tyX0 : Nat → FieldType := fun k => match k with
  | 0 => .object "TransactionalFlash$Flash"
  | 1 => .object "TransactionalFlash$Ledger"
  | 2 => .object "TransactionalFlash$PageTable"
  | 3 => .object "TransactionalFlash$Replay"
  | 4 => .array .int
  | 5 => .boolean
  | 6 => .int
  | 7 => .int
  | 8 => .int
  | 9 => .int
  | 10 => .int
  | 11 => .int
  | 12 => .int
  | 13 => .int
  | _ => .int
abbrev wsX00 : List Cond := u_ws RX0 TX0 15
theorem nmX0 : ∀ a, a < 15 → ∀ b, b < 15 → a ≠ b → (TX0 a).2.1 ≠ (TX0 b).2.1 := by decide +kernel
theorem tyX0_ok : ∀ k, k < 15 → parseFieldDescriptor (TX0 k).2.2.1 = some (tyX0 k) := by decide +kernel
abbrev cX0_init : ByteArray := prog_2_method_1_code
def yX0_init : MethodName := ⟨RX0, "<init>", "()V"⟩
abbrev cX0_isFormatted : ByteArray := prog_2_method_2_code
def yX0_isFormatted : MethodName := ⟨RX0, "isFormatted", "()Z"⟩
abbrev cX0_beginAnew : ByteArray := prog_2_method_3_code
def yX0_beginAnew : MethodName := ⟨RX0, "beginAnew", "(IIII)V"⟩
abbrev cX0_losePower : ByteArray := prog_2_method_4_code
def yX0_losePower : MethodName := ⟨RX0, "losePower", "()V"⟩
abbrev cX0_isLive : ByteArray := prog_2_method_5_code
def yX0_isLive : MethodName := ⟨RX0, "isLive", "(I)Z"⟩
abbrev cX0_countLiveIn : ByteArray := prog_2_method_6_code
def yX0_countLiveIn : MethodName := ⟨RX0, "countLiveIn", "(I)I"⟩
abbrev cX0_countLive : ByteArray := prog_2_method_7_code
def yX0_countLive : MethodName := ⟨RX0, "countLive", "()I"⟩
abbrev cX0_hasRoomFor : ByteArray := prog_2_method_8_code
def yX0_hasRoomFor : MethodName := ⟨RX0, "hasRoomFor", "(I)Z"⟩
abbrev cX0_pagesOfNextCommit : ByteArray := prog_2_method_9_code
def yX0_pagesOfNextCommit : MethodName := ⟨RX0, "pagesOfNextCommit", "()I"⟩
abbrev cX0_valueOf : ByteArray := prog_2_method_10_code
def yX0_valueOf : MethodName := ⟨RX0, "valueOf", "(II)I"⟩
abbrev cX0_program : ByteArray := prog_2_method_11_code
def yX0_program : MethodName := ⟨RX0, "program", "(IIII)I"⟩
abbrev cX0_makeRoom : ByteArray := prog_2_method_12_code
def yX0_makeRoom : MethodName := ⟨RX0, "makeRoom", "()Z"⟩
abbrev cX0_chooseVictim : ByteArray := prog_2_method_13_code
def yX0_chooseVictim : MethodName := ⟨RX0, "chooseVictim", "(I)I"⟩
abbrev cX0_isBetterVictim : ByteArray := prog_2_method_14_code
def yX0_isBetterVictim : MethodName := ⟨RX0, "isBetterVictim", "(II)Z"⟩
abbrev cX0_collect : ByteArray := prog_2_method_15_code
def yX0_collect : MethodName := ⟨RX0, "collect", "(I)Z"⟩
abbrev cX0_nextVictim : ByteArray := prog_2_method_16_code
def yX0_nextVictim : MethodName := ⟨RX0, "nextVictim", "()I"⟩
abbrev cX0_writeInside : ByteArray := prog_2_method_17_code
def yX0_writeInside : MethodName := ⟨RX0, "writeInside", "(III)I"⟩
abbrev cX0_writeOutside : ByteArray := prog_2_method_18_code
def yX0_writeOutside : MethodName := ⟨RX0, "writeOutside", "(II)I"⟩
abbrev cX0_commitTransaction : ByteArray := prog_2_method_19_code
def yX0_commitTransaction : MethodName := ⟨RX0, "commitTransaction", "(II)Z"⟩
abbrev cX0_makeCheckpoint : ByteArray := prog_2_method_20_code
def yX0_makeCheckpoint : MethodName := ⟨RX0, "makeCheckpoint", "()Z"⟩
abbrev cX0_fillMapPage : ByteArray := prog_2_method_21_code
def yX0_fillMapPage : MethodName := ⟨RX0, "fillMapPage", "(II)V"⟩
abbrev cX0_restore : ByteArray := prog_2_method_22_code
def yX0_restore : MethodName := ⟨RX0, "restore", "()Z"⟩
abbrev cX0_readMap : ByteArray := prog_2_method_23_code
def yX0_readMap : MethodName := ⟨RX0, "readMap", "()V"⟩
abbrev cX0_eraseDeadBlocks : ByteArray := prog_2_method_24_code
def yX0_eraseDeadBlocks : MethodName := ⟨RX0, "eraseDeadBlocks", "()Z"⟩
def RX1 : String := "TransactionalFlash$Flash"
def TX1 : u_T := fun k => match k with
  | 0 => ("TransactionalFlash$Flash", "kind", "[I", true)
  | 1 => ("TransactionalFlash$Flash", "index", "[I", true)
  | 2 => ("TransactionalFlash$Flash", "group", "[I", true)
  | 3 => ("TransactionalFlash$Flash", "version", "[I", true)
  | 4 => ("TransactionalFlash$Flash", "sequence", "[I", true)
  | 5 => ("TransactionalFlash$Flash", "value", "[I", true)
  | 6 => ("TransactionalFlash$Flash", "mapped", "[I", true)
  | 7 => ("TransactionalFlash$Flash", "copied", "[Z", true)
  | 8 => ("TransactionalFlash$Flash", "used", "[I", true)
  | 9 => ("TransactionalFlash$Flash", "wear", "[I", true)
  | 10 => ("TransactionalFlash$Flash", "blockCount", "I", false)
  | 11 => ("TransactionalFlash$Flash", "blockSize", "I", false)
  | 12 => ("TransactionalFlash$Flash", "placeCount", "I", false)
  | 13 => ("TransactionalFlash$Flash", "lastSequence", "I", false)
  | 14 => ("TransactionalFlash$Flash", "programCount", "I", false)
  | 15 => ("TransactionalFlash$Flash", "eraseCount", "I", false)
  | 16 => ("TransactionalFlash$Flash", "copyCount", "I", false)
  | _ => ("TransactionalFlash$Flash", "armed", "I", false)
def tyX1 : Nat → FieldType := fun k => match k with
  | 0 => .array .int
  | 1 => .array .int
  | 2 => .array .int
  | 3 => .array .int
  | 4 => .array .int
  | 5 => .array .int
  | 6 => .array .int
  | 7 => .array .boolean
  | 8 => .array .int
  | 9 => .array .int
  | 10 => .int
  | 11 => .int
  | 12 => .int
  | 13 => .int
  | 14 => .int
  | 15 => .int
  | 16 => .int
  | _ => .int
abbrev wsX10 : List Cond := u_ws RX1 TX1 18
theorem nmX1 : ∀ a, a < 18 → ∀ b, b < 18 → a ≠ b → (TX1 a).2.1 ≠ (TX1 b).2.1 := by decide +kernel
theorem tyX1_ok : ∀ k, k < 18 → parseFieldDescriptor (TX1 k).2.2.1 = some (tyX1 k) := by decide +kernel
abbrev cX1_init : ByteArray := prog_3_method_1_code
def yX1_init : MethodName := ⟨RX1, "<init>", "()V"⟩
abbrev cX1_clearAll : ByteArray := prog_3_method_2_code
def yX1_clearAll : MethodName := ⟨RX1, "clearAll", "(II)V"⟩
abbrev cX1_clearPage : ByteArray := prog_3_method_3_code
def yX1_clearPage : MethodName := ⟨RX1, "clearPage", "(II)V"⟩
abbrev cX1_hasBlock : ByteArray := prog_3_method_4_code
def yX1_hasBlock : MethodName := ⟨RX1, "hasBlock", "(I)Z"⟩
abbrev cX1_hasPlace : ByteArray := prog_3_method_5_code
def yX1_hasPlace : MethodName := ⟨RX1, "hasPlace", "(I)Z"⟩
abbrev cX1_losesPower : ByteArray := prog_3_method_6_code
def yX1_losesPower : MethodName := ⟨RX1, "losesPower", "()Z"⟩
abbrev cX1_countFreePages : ByteArray := prog_3_method_7_code
def yX1_countFreePages : MethodName := ⟨RX1, "countFreePages", "(I)I"⟩
abbrev cX1_program : ByteArray := prog_3_method_8_code
def yX1_program : MethodName := ⟨RX1, "program", "(IIIII)I"⟩
abbrev cX1_makeCopy : ByteArray := prog_3_method_9_code
def yX1_makeCopy : MethodName := ⟨RX1, "makeCopy", "(II)V"⟩
abbrev cX1_erase : ByteArray := prog_3_method_10_code
def yX1_erase : MethodName := ⟨RX1, "erase", "(I)Z"⟩
abbrev cX1_countFreeBlocks : ByteArray := prog_3_method_11_code
def yX1_countFreeBlocks : MethodName := ⟨RX1, "countFreeBlocks", "(I)I"⟩
abbrev cX1_leastWornFreeBlock : ByteArray := prog_3_method_12_code
def yX1_leastWornFreeBlock : MethodName := ⟨RX1, "leastWornFreeBlock", "(I)I"⟩
abbrev cX1_countTornIn : ByteArray := prog_3_method_13_code
def yX1_countTornIn : MethodName := ⟨RX1, "countTornIn", "(I)I"⟩
abbrev cX1_wearDifference : ByteArray := prog_3_method_14_code
def yX1_wearDifference : MethodName := ⟨RX1, "wearDifference", "()I"⟩
abbrev cX1_findData : ByteArray := prog_3_method_15_code
def yX1_findData : MethodName := ⟨RX1, "findData", "(II)I"⟩
abbrev cX1_findLatestEnd : ByteArray := prog_3_method_16_code
def yX1_findLatestEnd : MethodName := ⟨RX1, "findLatestEnd", "()I"⟩
abbrev cX1_findNewestBlock : ByteArray := prog_3_method_17_code
def yX1_findNewestBlock : MethodName := ⟨RX1, "findNewestBlock", "()I"⟩
def RX2 : String := "TransactionalFlash$FormatText"
def TX2 : u_T := fun k => match k with
  | 0 => ("TransactionalFlash$FormatText", "bytes", "[I", true)
  | 1 => ("TransactionalFlash$FormatText", "values", "[I", true)
  | 2 => ("TransactionalFlash$FormatText", "length", "I", false)
  | 3 => ("TransactionalFlash$FormatText", "errorFound", "I", false)
  | 4 => ("TransactionalFlash$FormatText", "errorPlace", "I", false)
  | 5 => ("TransactionalFlash$FormatText", "blockCount", "I", false)
  | 6 => ("TransactionalFlash$FormatText", "blockSize", "I", false)
  | 7 => ("TransactionalFlash$FormatText", "logicalCount", "I", false)
  | 8 => ("TransactionalFlash$FormatText", "every", "I", false)
  | 9 => ("TransactionalFlash$FormatText", "valueCount", "I", false)
  | _ => ("TransactionalFlash$FormatText", "step", "I", false)
def tyX2 : Nat → FieldType := fun k => match k with
  | 0 => .array .int
  | 1 => .array .int
  | 2 => .int
  | 3 => .int
  | 4 => .int
  | 5 => .int
  | 6 => .int
  | 7 => .int
  | 8 => .int
  | 9 => .int
  | _ => .int
abbrev wsX20 : List Cond := u_ws RX2 TX2 11
theorem nmX2 : ∀ a, a < 11 → ∀ b, b < 11 → a ≠ b → (TX2 a).2.1 ≠ (TX2 b).2.1 := by decide +kernel
theorem tyX2_ok : ∀ k, k < 11 → parseFieldDescriptor (TX2 k).2.2.1 = some (tyX2 k) := by decide +kernel
abbrev cX2_init : ByteArray := prog_4_method_1_code
def yX2_init : MethodName := ⟨RX2, "<init>", "()V"⟩
abbrev cX2_append : ByteArray := prog_4_method_2_code
def yX2_append : MethodName := ⟨RX2, "append", "(I)V"⟩
abbrev cX2_parse : ByteArray := prog_4_method_3_code
def yX2_parse : MethodName := ⟨RX2, "parse", "(I)V"⟩
abbrev cX2_setError : ByteArray := prog_4_method_4_code
def yX2_setError : MethodName := ⟨RX2, "setError", "(II)V"⟩
abbrev cX2_isLetter : ByteArray := prog_4_method_5_code
def yX2_isLetter : MethodName := ⟨RX2, "isLetter", "(I)Z"⟩
abbrev cX2_isDigit : ByteArray := prog_4_method_6_code
def yX2_isDigit : MethodName := ⟨RX2, "isDigit", "(I)Z"⟩
abbrev cX2_endOfRun : ByteArray := prog_4_method_7_code
def yX2_endOfRun : MethodName := ⟨RX2, "endOfRun", "(IIZ)I"⟩
abbrev cX2_takeRun : ByteArray := prog_4_method_8_code
def yX2_takeRun : MethodName := ⟨RX2, "takeRun", "(IIZ)I"⟩
abbrev cX2_takeSemicolon : ByteArray := prog_4_method_9_code
def yX2_takeSemicolon : MethodName := ⟨RX2, "takeSemicolon", "()I"⟩
abbrev cX2_takeWord : ByteArray := prog_4_method_10_code
def yX2_takeWord : MethodName := ⟨RX2, "takeWord", "(II)I"⟩
abbrev cX2_wordDue : ByteArray := prog_4_method_11_code
def yX2_wordDue : MethodName := ⟨RX2, "wordDue", "()Ljava/lang/String;"⟩
abbrev cX2_takeNumber : ByteArray := prog_4_method_12_code
def yX2_takeNumber : MethodName := ⟨RX2, "takeNumber", "(II)I"⟩
abbrev cX2_stepOnIf : ByteArray := prog_4_method_13_code
def yX2_stepOnIf : MethodName := ⟨RX2, "stepOnIf", "(Z)I"⟩
abbrev cX2_hasSpaceFor : ByteArray := prog_4_method_14_code
def yX2_hasSpaceFor : MethodName := ⟨RX2, "hasSpaceFor", "(I)Z"⟩
abbrev cX2_takeValue : ByteArray := prog_4_method_15_code
def yX2_takeValue : MethodName := ⟨RX2, "takeValue", "(I)I"⟩
def RX3 : String := "TransactionalFlash$Ledger"
def TX3 : u_T := fun k => match k with
  | 0 => ("TransactionalFlash$Ledger", "states", "[I", true)
  | _ => ("TransactionalFlash$Ledger", "begun", "I", false)
def tyX3 : Nat → FieldType := fun k => match k with
  | 0 => .array .int
  | _ => .int
abbrev wsX30 : List Cond := u_ws RX3 TX3 2
theorem nmX3 : ∀ a, a < 2 → ∀ b, b < 2 → a ≠ b → (TX3 a).2.1 ≠ (TX3 b).2.1 := by decide +kernel
theorem tyX3_ok : ∀ k, k < 2 → parseFieldDescriptor (TX3 k).2.2.1 = some (tyX3 k) := by decide +kernel
abbrev cX3_init : ByteArray := prog_5_method_1_code
def yX3_init : MethodName := ⟨RX3, "<init>", "()V"⟩
abbrev cX3_knows : ByteArray := prog_5_method_2_code
def yX3_knows : MethodName := ⟨RX3, "knows", "(I)Z"⟩
abbrev cX3_stateOf : ByteArray := prog_5_method_3_code
def yX3_stateOf : MethodName := ⟨RX3, "stateOf", "(I)I"⟩
abbrev cX3_isOpen : ByteArray := prog_5_method_4_code
def yX3_isOpen : MethodName := ⟨RX3, "isOpen", "(I)Z"⟩
abbrev cX3_countOpen : ByteArray := prog_5_method_5_code
def yX3_countOpen : MethodName := ⟨RX3, "countOpen", "()I"⟩
abbrev cX3_open : ByteArray := prog_5_method_6_code
def yX3_open : MethodName := ⟨RX3, "open", "()I"⟩
abbrev cX3_close : ByteArray := prog_5_method_7_code
def yX3_close : MethodName := ⟨RX3, "close", "(II)V"⟩
abbrev cX3_loseOpen : ByteArray := prog_5_method_8_code
def yX3_loseOpen : MethodName := ⟨RX3, "loseOpen", "()V"⟩
def RX4 : String := "TransactionalFlash$PageTable"
def TX4 : u_T := fun k => match k with
  | 0 => ("TransactionalFlash$PageTable", "committed", "[I", true)
  | 1 => ("TransactionalFlash$PageTable", "shadows", "[I", true)
  | 2 => ("TransactionalFlash$PageTable", "owners", "[I", true)
  | 3 => ("TransactionalFlash$PageTable", "kept", "[I", true)
  | 4 => ("TransactionalFlash$PageTable", "pages", "I", false)
  | 5 => ("TransactionalFlash$PageTable", "parts", "I", false)
  | _ => ("TransactionalFlash$PageTable", "readerBits", "I", false)
def tyX4 : Nat → FieldType := fun k => match k with
  | 0 => .array .int
  | 1 => .array .int
  | 2 => .array .int
  | 3 => .array .int
  | 4 => .int
  | 5 => .int
  | _ => .int
abbrev wsX40 : List Cond := u_ws RX4 TX4 7
theorem nmX4 : ∀ a, a < 7 → ∀ b, b < 7 → a ≠ b → (TX4 a).2.1 ≠ (TX4 b).2.1 := by decide +kernel
theorem tyX4_ok : ∀ k, k < 7 → parseFieldDescriptor (TX4 k).2.2.1 = some (tyX4 k) := by decide +kernel
abbrev cX4_init : ByteArray := prog_6_method_1_code
def yX4_init : MethodName := ⟨RX4, "<init>", "()V"⟩
abbrev cX4_clearAll : ByteArray := prog_6_method_2_code
def yX4_clearAll : MethodName := ⟨RX4, "clearAll", "(I)V"⟩
abbrev cX4_forget : ByteArray := prog_6_method_3_code
def yX4_forget : MethodName := ⟨RX4, "forget", "()V"⟩
abbrev cX4_has : ByteArray := prog_6_method_4_code
def yX4_has : MethodName := ⟨RX4, "has", "(I)Z"⟩
abbrev cX4_versionSeenBy : ByteArray := prog_6_method_5_code
def yX4_versionSeenBy : MethodName := ⟨RX4, "versionSeenBy", "(II)I"⟩
abbrev cX4_setCommitted : ByteArray := prog_6_method_6_code
def yX4_setCommitted : MethodName := ⟨RX4, "setCommitted", "(II)V"⟩
abbrev cX4_countWritten : ByteArray := prog_6_method_7_code
def yX4_countWritten : MethodName := ⟨RX4, "countWritten", "()I"⟩
abbrev cX4_ownerOf : ByteArray := prog_6_method_8_code
def yX4_ownerOf : MethodName := ⟨RX4, "ownerOf", "(I)I"⟩
abbrev cX4_isLockedAgainst : ByteArray := prog_6_method_9_code
def yX4_isLockedAgainst : MethodName := ⟨RX4, "isLockedAgainst", "(II)Z"⟩
abbrev cX4_putInShadow : ByteArray := prog_6_method_10_code
def yX4_putInShadow : MethodName := ⟨RX4, "putInShadow", "(III)V"⟩
abbrev cX4_countLocked : ByteArray := prog_6_method_11_code
def yX4_countLocked : MethodName := ⟨RX4, "countLocked", "(I)I"⟩
abbrev cX4_release : ByteArray := prog_6_method_12_code
def yX4_release : MethodName := ⟨RX4, "release", "(I)V"⟩
abbrev cX4_commitShadows : ByteArray := prog_6_method_13_code
def yX4_commitShadows : MethodName := ⟨RX4, "commitShadows", "(I)V"⟩
abbrev cX4_hasReader : ByteArray := prog_6_method_14_code
def yX4_hasReader : MethodName := ⟨RX4, "hasReader", "(I)Z"⟩
abbrev cX4_addReader : ByteArray := prog_6_method_15_code
def yX4_addReader : MethodName := ⟨RX4, "addReader", "()I"⟩
abbrev cX4_removeReader : ByteArray := prog_6_method_16_code
def yX4_removeReader : MethodName := ⟨RX4, "removeReader", "(I)I"⟩
abbrev cX4_versionKeptBy : ByteArray := prog_6_method_17_code
def yX4_versionKeptBy : MethodName := ⟨RX4, "versionKeptBy", "(II)I"⟩
abbrev cX4_keeps : ByteArray := prog_6_method_18_code
def yX4_keeps : MethodName := ⟨RX4, "keeps", "(II)Z"⟩
def RX5 : String := "TransactionalFlash$Replay"
def TX5 : u_T := fun k => match k with
  | 0 => ("TransactionalFlash$Replay", "log", "[I", true)
  | 1 => ("TransactionalFlash$Replay", "newest", "[I", true)
  | _ => ("TransactionalFlash$Replay", "size", "I", false)
def tyX5 : Nat → FieldType := fun k => match k with
  | 0 => .array .int
  | 1 => .array .int
  | _ => .int
abbrev wsX50 : List Cond := u_ws RX5 TX5 3
theorem nmX5 : ∀ a, a < 3 → ∀ b, b < 3 → a ≠ b → (TX5 a).2.1 ≠ (TX5 b).2.1 := by decide +kernel
theorem tyX5_ok : ∀ k, k < 3 → parseFieldDescriptor (TX5 k).2.2.1 = some (tyX5 k) := by decide +kernel
abbrev cX5_init : ByteArray := prog_7_method_1_code
def yX5_init : MethodName := ⟨RX5, "<init>", "()V"⟩
abbrev cX5_apply : ByteArray := prog_7_method_2_code
def yX5_apply : MethodName := ⟨RX5, "apply", "(LTransactionalFlash$Flash;LTransactionalFlash$PageTable;I)I"⟩
abbrev cX5_gather : ByteArray := prog_7_method_3_code
def yX5_gather : MethodName := ⟨RX5, "gather", "(LTransactionalFlash$Flash;I)V"⟩
abbrev cX5_sortByVersion : ByteArray := prog_7_method_4_code
def yX5_sortByVersion : MethodName := ⟨RX5, "sortByVersion", "(LTransactionalFlash$Flash;)V"⟩
abbrev cX5_applyCommit : ByteArray := prog_7_method_5_code
def yX5_applyCommit : MethodName := ⟨RX5, "applyCommit", "(LTransactionalFlash$Flash;LTransactionalFlash$PageTable;I)V"⟩
def RX6 : String := "TransactionalFlash"
def TX6 : u_T := fun k => match k with
  | 0 => ("TransactionalFlash", "text", "LTransactionalFlash$FormatText;", true)
  | _ => ("TransactionalFlash", "device", "LTransactionalFlash$Device;", true)
def tyX6 : Nat → FieldType := fun k => match k with
  | 0 => .object "TransactionalFlash$FormatText"
  | _ => .object "TransactionalFlash$Device"
abbrev wsX60 : List Cond := u_ws RX6 TX6 2
theorem nmX6 : ∀ a, a < 2 → ∀ b, b < 2 → a ≠ b → (TX6 a).2.1 ≠ (TX6 b).2.1 := by decide +kernel
theorem tyX6_ok : ∀ k, k < 2 → parseFieldDescriptor (TX6 k).2.2.1 = some (tyX6 k) := by decide +kernel
abbrev cX6_init : ByteArray := prog_1_method_1_code
def yX6_init : MethodName := ⟨RX6, "<init>", "()V"⟩
abbrev cX6_feed : ByteArray := prog_1_method_2_code
def yX6_feed : MethodName := ⟨RX6, "feed", "(IIIII)I"⟩
abbrev cX6_format : ByteArray := prog_1_method_3_code
def yX6_format : MethodName := ⟨RX6, "format", "(I)I"⟩
abbrev cX6_errorCode : ByteArray := prog_1_method_4_code
def yX6_errorCode : MethodName := ⟨RX6, "errorCode", "()I"⟩
abbrev cX6_errorPosition : ByteArray := prog_1_method_5_code
def yX6_errorPosition : MethodName := ⟨RX6, "errorPosition", "()I"⟩
abbrev cX6_begin : ByteArray := prog_1_method_6_code
def yX6_begin : MethodName := ⟨RX6, "begin", "()I"⟩
abbrev cX6_write : ByteArray := prog_1_method_7_code
def yX6_write : MethodName := ⟨RX6, "write", "(III)I"⟩
abbrev cX6_read : ByteArray := prog_1_method_8_code
def yX6_read : MethodName := ⟨RX6, "read", "(II)I"⟩
abbrev cX6_commit : ByteArray := prog_1_method_9_code
def yX6_commit : MethodName := ⟨RX6, "commit", "(I)I"⟩
abbrev cX6_abort : ByteArray := prog_1_method_10_code
def yX6_abort : MethodName := ⟨RX6, "abort", "(I)I"⟩
abbrev cX6_openReader : ByteArray := prog_1_method_11_code
def yX6_openReader : MethodName := ⟨RX6, "openReader", "()I"⟩
abbrev cX6_readBy : ByteArray := prog_1_method_12_code
def yX6_readBy : MethodName := ⟨RX6, "readBy", "(II)I"⟩
abbrev cX6_closeReader : ByteArray := prog_1_method_13_code
def yX6_closeReader : MethodName := ⟨RX6, "closeReader", "(I)I"⟩
abbrev cX6_checkpoint : ByteArray := prog_1_method_14_code
def yX6_checkpoint : MethodName := ⟨RX6, "checkpoint", "()I"⟩
abbrev cX6_isOn : ByteArray := prog_1_method_15_code
def yX6_isOn : MethodName := ⟨RX6, "isOn", "()Z"⟩
abbrev cX6_arm : ByteArray := prog_1_method_16_code
def yX6_arm : MethodName := ⟨RX6, "arm", "(I)I"⟩
abbrev cX6_powerOff : ByteArray := prog_1_method_17_code
def yX6_powerOff : MethodName := ⟨RX6, "powerOff", "()I"⟩
abbrev cX6_recover : ByteArray := prog_1_method_18_code
def yX6_recover : MethodName := ⟨RX6, "recover", "()I"⟩
abbrev cX6_logicalPages : ByteArray := prog_1_method_19_code
def yX6_logicalPages : MethodName := ⟨RX6, "logicalPages", "()I"⟩
abbrev cX6_blocks : ByteArray := prog_1_method_20_code
def yX6_blocks : MethodName := ⟨RX6, "blocks", "()I"⟩
abbrev cX6_pagesPerBlock : ByteArray := prog_1_method_21_code
def yX6_pagesPerBlock : MethodName := ⟨RX6, "pagesPerBlock", "()I"⟩
abbrev cX6_version : ByteArray := prog_1_method_22_code
def yX6_version : MethodName := ⟨RX6, "version", "(I)I"⟩
abbrev cX6_place : ByteArray := prog_1_method_23_code
def yX6_place : MethodName := ⟨RX6, "place", "(I)I"⟩
abbrev cX6_lockedBy : ByteArray := prog_1_method_24_code
def yX6_lockedBy : MethodName := ⟨RX6, "lockedBy", "(I)I"⟩
abbrev cX6_transactions : ByteArray := prog_1_method_25_code
def yX6_transactions : MethodName := ⟨RX6, "transactions", "()I"⟩
abbrev cX6_state : ByteArray := prog_1_method_26_code
def yX6_state : MethodName := ⟨RX6, "state", "(I)I"⟩
abbrev cX6_locks : ByteArray := prog_1_method_27_code
def yX6_locks : MethodName := ⟨RX6, "locks", "(I)I"⟩
abbrev cX6_readers : ByteArray := prog_1_method_28_code
def yX6_readers : MethodName := ⟨RX6, "readers", "()I"⟩
abbrev cX6_activeBlock : ByteArray := prog_1_method_29_code
def yX6_activeBlock : MethodName := ⟨RX6, "activeBlock", "()I"⟩
abbrev cX6_freeBlocks : ByteArray := prog_1_method_30_code
def yX6_freeBlocks : MethodName := ⟨RX6, "freeBlocks", "()I"⟩
abbrev cX6_validPages : ByteArray := prog_1_method_31_code
def yX6_validPages : MethodName := ⟨RX6, "validPages", "()I"⟩
abbrev cX6_block : ByteArray := prog_1_method_32_code
def yX6_block : MethodName := ⟨RX6, "block", "(II)I"⟩
abbrev cX6_flashPage : ByteArray := prog_1_method_33_code
def yX6_flashPage : MethodName := ⟨RX6, "flashPage", "(II)I"⟩
abbrev cX6_isValid : ByteArray := prog_1_method_34_code
def yX6_isValid : MethodName := ⟨RX6, "isValid", "(I)Z"⟩
abbrev cX6_programs : ByteArray := prog_1_method_35_code
def yX6_programs : MethodName := ⟨RX6, "programs", "()I"⟩
abbrev cX6_erases : ByteArray := prog_1_method_36_code
def yX6_erases : MethodName := ⟨RX6, "erases", "()I"⟩
abbrev cX6_copies : ByteArray := prog_1_method_37_code
def yX6_copies : MethodName := ⟨RX6, "copies", "()I"⟩
abbrev cX6_writes : ByteArray := prog_1_method_38_code
def yX6_writes : MethodName := ⟨RX6, "writes", "()I"⟩
abbrev cX6_wearGap : ByteArray := prog_1_method_39_code
def yX6_wearGap : MethodName := ⟨RX6, "wearGap", "()I"⟩
abbrev cX6_lastCheckpoint : ByteArray := prog_1_method_40_code
def yX6_lastCheckpoint : MethodName := ⟨RX6, "lastCheckpoint", "()I"⟩
abbrev cX6_commits : ByteArray := prog_1_method_41_code
def yX6_commits : MethodName := ⟨RX6, "commits", "()I"⟩
abbrev cX6_losses : ByteArray := prog_1_method_42_code
def yX6_losses : MethodName := ⟨RX6, "losses", "()I"⟩
abbrev cX6_victim : ByteArray := prog_1_method_43_code
def yX6_victim : MethodName := ⟨RX6, "victim", "()I"⟩
abbrev cX6_isNoneOrKnown : ByteArray := prog_1_method_44_code
def yX6_isNoneOrKnown : MethodName := ⟨RX6, "isNoneOrKnown", "(I)Z"⟩
abbrev cX6_isNoneOrOpen : ByteArray := prog_1_method_45_code
def yX6_isNoneOrOpen : MethodName := ⟨RX6, "isNoneOrOpen", "(I)Z"⟩
def RX7 : String := "TransactionalFlashModel"
def TX7 : u_T := fun k => match k with
  | 0 => ("TransactionalFlashModel", "thrown", "I", false)
  | 1 => ("TransactionalFlashModel", "blocks", "I", false)
  | 2 => ("TransactionalFlashModel", "pages", "I", false)
  | 3 => ("TransactionalFlashModel", "logical", "I", false)
  | 4 => ("TransactionalFlashModel", "every", "I", false)
  | 5 => ("TransactionalFlashModel", "newBlocks", "I", false)
  | 6 => ("TransactionalFlashModel", "newPages", "I", false)
  | 7 => ("TransactionalFlashModel", "newLogical", "I", false)
  | 8 => ("TransactionalFlashModel", "newEvery", "I", false)
  | 9 => ("TransactionalFlashModel", "fill", "[I", true)
  | 10 => ("TransactionalFlashModel", "fillMany", "I", false)
  | 11 => ("TransactionalFlashModel", "kind", "[I", true)
  | 12 => ("TransactionalFlashModel", "index", "[I", true)
  | 13 => ("TransactionalFlashModel", "group", "[I", true)
  | 14 => ("TransactionalFlashModel", "version", "[I", true)
  | 15 => ("TransactionalFlashModel", "sequence", "[I", true)
  | 16 => ("TransactionalFlashModel", "value", "[I", true)
  | 17 => ("TransactionalFlashModel", "mapped", "[I", true)
  | 18 => ("TransactionalFlashModel", "eraseCount", "[I", true)
  | 19 => ("TransactionalFlashModel", "latestSequence", "I", false)
  | 20 => ("TransactionalFlashModel", "programs", "I", false)
  | 21 => ("TransactionalFlashModel", "erases", "I", false)
  | 22 => ("TransactionalFlashModel", "copies", "I", false)
  | 23 => ("TransactionalFlashModel", "writes", "I", false)
  | 24 => ("TransactionalFlashModel", "losses", "I", false)
  | 25 => ("TransactionalFlashModel", "armed", "I", false)
  | 26 => ("TransactionalFlashModel", "on", "Z", false)
  | 27 => ("TransactionalFlashModel", "committed", "[I", true)
  | 28 => ("TransactionalFlashModel", "locker", "[I", true)
  | 29 => ("TransactionalFlashModel", "shadow", "[I", true)
  | 30 => ("TransactionalFlashModel", "readerVersion", "[I", true)
  | 31 => ("TransactionalFlashModel", "isReader", "[Z", true)
  | 32 => ("TransactionalFlashModel", "active", "I", false)
  | 33 => ("TransactionalFlashModel", "latest", "I", false)
  | 34 => ("TransactionalFlashModel", "endVersion", "I", false)
  | 35 => ("TransactionalFlashModel", "making", "I", false)
  | 36 => ("TransactionalFlashModel", "commits", "I", false)
  | 37 => ("TransactionalFlashModel", "states", "[I", true)
  | 38 => ("TransactionalFlashModel", "begun", "I", false)
  | 39 => ("TransactionalFlashModel", "checkpoints", "I", false)
  | 40 => ("TransactionalFlashModel", "buffer", "[I", true)
  | 41 => ("TransactionalFlashModel", "buffered", "I", false)
  | 42 => ("TransactionalFlashModel", "position", "I", false)
  | 43 => ("TransactionalFlashModel", "end", "I", false)
  | 44 => ("TransactionalFlashModel", "lastEnd", "I", false)
  | 45 => ("TransactionalFlashModel", "tokenAt", "I", false)
  | 46 => ("TransactionalFlashModel", "number", "I", false)
  | 47 => ("TransactionalFlashModel", "code", "I", false)
  | 48 => ("TransactionalFlashModel", "codeAt", "I", false)
  | 49 => ("TransactionalFlashModel", "word", "J", false)
  | _ => ("TransactionalFlashModel", "greatest", "[I", true)
def tyX7 : Nat → FieldType := fun k => match k with
  | 0 => .int
  | 1 => .int
  | 2 => .int
  | 3 => .int
  | 4 => .int
  | 5 => .int
  | 6 => .int
  | 7 => .int
  | 8 => .int
  | 9 => .array .int
  | 10 => .int
  | 11 => .array .int
  | 12 => .array .int
  | 13 => .array .int
  | 14 => .array .int
  | 15 => .array .int
  | 16 => .array .int
  | 17 => .array .int
  | 18 => .array .int
  | 19 => .int
  | 20 => .int
  | 21 => .int
  | 22 => .int
  | 23 => .int
  | 24 => .int
  | 25 => .int
  | 26 => .boolean
  | 27 => .array .int
  | 28 => .array .int
  | 29 => .array .int
  | 30 => .array .int
  | 31 => .array .boolean
  | 32 => .int
  | 33 => .int
  | 34 => .int
  | 35 => .int
  | 36 => .int
  | 37 => .array .int
  | 38 => .int
  | 39 => .int
  | 40 => .array .int
  | 41 => .int
  | 42 => .int
  | 43 => .int
  | 44 => .int
  | 45 => .int
  | 46 => .int
  | 47 => .int
  | 48 => .int
  | 49 => .long
  | _ => .array .int
abbrev wsX70 : List Cond := u_ws RX7 TX7 51
theorem nmX7 : ∀ a, a < 51 → ∀ b, b < 51 → a ≠ b → (TX7 a).2.1 ≠ (TX7 b).2.1 := by decide +kernel
theorem tyX7_ok : ∀ k, k < 51 → parseFieldDescriptor (TX7 k).2.2.1 = some (tyX7 k) := by decide +kernel
abbrev cX7_init : ByteArray := prog_9_method_1_code
def yX7_init : MethodName := ⟨RX7, "<init>", "()V"⟩
abbrev cX7_thrown : ByteArray := prog_9_method_2_code
def yX7_thrown : MethodName := ⟨RX7, "thrown", "()I"⟩
abbrev cX7_refuse : ByteArray := prog_9_method_3_code
def yX7_refuse : MethodName := ⟨RX7, "refuse", "(I)I"⟩
abbrev cX7_told : ByteArray := prog_9_method_4_code
def yX7_told : MethodName := ⟨RX7, "told", "(I)I"⟩
abbrev cX7_in : ByteArray := prog_9_method_5_code
def yX7_in : MethodName := ⟨RX7, "in", "(III)Z"⟩
abbrev cX7_partsOf : ByteArray := prog_9_method_6_code
def yX7_partsOf : MethodName := ⟨RX7, "partsOf", "(I)I"⟩
abbrev cX7_parts : ByteArray := prog_9_method_7_code
def yX7_parts : MethodName := ⟨RX7, "parts", "()I"⟩
abbrev cX7_flashSize : ByteArray := prog_9_method_8_code
def yX7_flashSize : MethodName := ⟨RX7, "flashSize", "()I"⟩
abbrev cX7_isLogical : ByteArray := prog_9_method_9_code
def yX7_isLogical : MethodName := ⟨RX7, "isLogical", "(I)Z"⟩
abbrev cX7_isBlock : ByteArray := prog_9_method_10_code
def yX7_isBlock : MethodName := ⟨RX7, "isBlock", "(I)Z"⟩
abbrev cX7_forgets : ByteArray := prog_9_method_11_code
def yX7_forgets : MethodName := ⟨RX7, "forgets", "()V"⟩
abbrev cX7_losesPower : ByteArray := prog_9_method_12_code
def yX7_losesPower : MethodName := ⟨RX7, "losesPower", "()V"⟩
abbrev cX7_startAnew : ByteArray := prog_9_method_13_code
def yX7_startAnew : MethodName := ⟨RX7, "startAnew", "()V"⟩
abbrev cX7_feed : ByteArray := prog_9_method_14_code
def yX7_feed : MethodName := ⟨RX7, "feed", "(IIIII)I"⟩
abbrev cX7_append : ByteArray := prog_9_method_15_code
def yX7_append : MethodName := ⟨RX7, "append", "(I)V"⟩
abbrev cX7_errorCode : ByteArray := prog_9_method_16_code
def yX7_errorCode : MethodName := ⟨RX7, "errorCode", "()I"⟩
abbrev cX7_errorPosition : ByteArray := prog_9_method_17_code
def yX7_errorPosition : MethodName := ⟨RX7, "errorPosition", "()I"⟩
abbrev cX7_byteAt : ByteArray := prog_9_method_18_code
def yX7_byteAt : MethodName := ⟨RX7, "byteAt", "(I)I"⟩
abbrev cX7_isLetter : ByteArray := prog_9_method_19_code
def yX7_isLetter : MethodName := ⟨RX7, "isLetter", "(I)Z"⟩
abbrev cX7_isDigit : ByteArray := prog_9_method_20_code
def yX7_isDigit : MethodName := ⟨RX7, "isDigit", "(I)Z"⟩
abbrev cX7_peek : ByteArray := prog_9_method_21_code
def yX7_peek : MethodName := ⟨RX7, "peek", "()I"⟩
abbrev cX7_fails : ByteArray := prog_9_method_22_code
def yX7_fails : MethodName := ⟨RX7, "fails", "(II)Z"⟩
abbrev cX7_takesWord : ByteArray := prog_9_method_23_code
def yX7_takesWord : MethodName := ⟨RX7, "takesWord", "(J)Z"⟩
abbrev cX7_readNumber : ByteArray := prog_9_method_24_code
def yX7_readNumber : MethodName := ⟨RX7, "readNumber", "(II)Z"⟩
abbrev cX7_readSetting : ByteArray := prog_9_method_25_code
def yX7_readSetting : MethodName := ⟨RX7, "readSetting", "(JII)Z"⟩
abbrev cX7_readSemicolon : ByteArray := prog_9_method_26_code
def yX7_readSemicolon : MethodName := ⟨RX7, "readSemicolon", "()Z"⟩
abbrev cX7_readLogical : ByteArray := prog_9_method_27_code
def yX7_readLogical : MethodName := ⟨RX7, "readLogical", "()Z"⟩
abbrev cX7_readHead : ByteArray := prog_9_method_28_code
def yX7_readHead : MethodName := ⟨RX7, "readHead", "()Z"⟩
abbrev cX7_readValue : ByteArray := prog_9_method_29_code
def yX7_readValue : MethodName := ⟨RX7, "readValue", "()Z"⟩
abbrev cX7_readFill : ByteArray := prog_9_method_30_code
def yX7_readFill : MethodName := ⟨RX7, "readFill", "()Z"⟩
abbrev cX7_readFormat : ByteArray := prog_9_method_31_code
def yX7_readFormat : MethodName := ⟨RX7, "readFormat", "()Z"⟩
abbrev cX7_format : ByteArray := prog_9_method_32_code
def yX7_format : MethodName := ⟨RX7, "format", "(I)I"⟩
abbrev cX7_isProgrammed : ByteArray := prog_9_method_33_code
def yX7_isProgrammed : MethodName := ⟨RX7, "isProgrammed", "(I)Z"⟩
abbrev cX7_isReadBy : ByteArray := prog_9_method_34_code
def yX7_isReadBy : MethodName := ⟨RX7, "isReadBy", "(II)Z"⟩
abbrev cX7_isWantedData : ByteArray := prog_9_method_35_code
def yX7_isWantedData : MethodName := ⟨RX7, "isWantedData", "(I)Z"⟩
abbrev cX7_isWanted : ByteArray := prog_9_method_36_code
def yX7_isWanted : MethodName := ⟨RX7, "isWanted", "(I)Z"⟩
abbrev cX7_isCopyOf : ByteArray := prog_9_method_37_code
def yX7_isCopyOf : MethodName := ⟨RX7, "isCopyOf", "(II)Z"⟩
abbrev cX7_isNewest : ByteArray := prog_9_method_38_code
def yX7_isNewest : MethodName := ⟨RX7, "isNewest", "(I)Z"⟩
abbrev cX7_isGood : ByteArray := prog_9_method_39_code
def yX7_isGood : MethodName := ⟨RX7, "isGood", "(I)Z"⟩
abbrev cX7_validIn : ByteArray := prog_9_method_40_code
def yX7_validIn : MethodName := ⟨RX7, "validIn", "(I)I"⟩
abbrev cX7_validAll : ByteArray := prog_9_method_41_code
def yX7_validAll : MethodName := ⟨RX7, "validAll", "()I"⟩
abbrev cX7_kindMany : ByteArray := prog_9_method_42_code
def yX7_kindMany : MethodName := ⟨RX7, "kindMany", "(II)I"⟩
abbrev cX7_freeIn : ByteArray := prog_9_method_43_code
def yX7_freeIn : MethodName := ⟨RX7, "freeIn", "(I)I"⟩
abbrev cX7_isFree : ByteArray := prog_9_method_44_code
def yX7_isFree : MethodName := ⟨RX7, "isFree", "(I)Z"⟩
abbrev cX7_freeMany : ByteArray := prog_9_method_45_code
def yX7_freeMany : MethodName := ⟨RX7, "freeMany", "()I"⟩
abbrev cX7_operates : ByteArray := prog_9_method_46_code
def yX7_operates : MethodName := ⟨RX7, "operates", "()Z"⟩
abbrev cX7_erasesBlock : ByteArray := prog_9_method_47_code
def yX7_erasesBlock : MethodName := ⟨RX7, "erasesBlock", "(I)Z"⟩
abbrev cX7_lowestFree : ByteArray := prog_9_method_48_code
def yX7_lowestFree : MethodName := ⟨RX7, "lowestFree", "()I"⟩
abbrev cX7_programsAt : ByteArray := prog_9_method_49_code
def yX7_programsAt : MethodName := ⟨RX7, "programsAt", "(IIII)Z"⟩
abbrev cX7_copiesPage : ByteArray := prog_9_method_50_code
def yX7_copiesPage : MethodName := ⟨RX7, "copiesPage", "(I)Z"⟩
abbrev cX7_collects : ByteArray := prog_9_method_51_code
def yX7_collects : MethodName := ⟨RX7, "collects", "(I)Z"⟩
abbrev cX7_freeBlock : ByteArray := prog_9_method_52_code
def yX7_freeBlock : MethodName := ⟨RX7, "freeBlock", "()I"⟩
abbrev cX7_nextVictim : ByteArray := prog_9_method_53_code
def yX7_nextVictim : MethodName := ⟨RX7, "nextVictim", "()I"⟩
abbrev cX7_makesRoom : ByteArray := prog_9_method_54_code
def yX7_makesRoom : MethodName := ⟨RX7, "makesRoom", "()Z"⟩
abbrev cX7_programsPage : ByteArray := prog_9_method_55_code
def yX7_programsPage : MethodName := ⟨RX7, "programsPage", "(III)I"⟩
abbrev cX7_hasRoom : ByteArray := prog_9_method_56_code
def yX7_hasRoom : MethodName := ⟨RX7, "hasRoom", "(I)Z"⟩
abbrev cX7_programsMap : ByteArray := prog_9_method_57_code
def yX7_programsMap : MethodName := ⟨RX7, "programsMap", "(I)Z"⟩
abbrev cX7_makesCheckpoint : ByteArray := prog_9_method_58_code
def yX7_makesCheckpoint : MethodName := ⟨RX7, "makesCheckpoint", "()Z"⟩
abbrev cX7_pagesForCommit : ByteArray := prog_9_method_59_code
def yX7_pagesForCommit : MethodName := ⟨RX7, "pagesForCommit", "()I"⟩
abbrev cX7_countsCommit : ByteArray := prog_9_method_60_code
def yX7_countsCommit : MethodName := ⟨RX7, "countsCommit", "()Z"⟩
abbrev cX7_checkpoint : ByteArray := prog_9_method_61_code
def yX7_checkpoint : MethodName := ⟨RX7, "checkpoint", "()I"⟩
abbrev cX7_isTransaction : ByteArray := prog_9_method_62_code
def yX7_isTransaction : MethodName := ⟨RX7, "isTransaction", "(I)Z"⟩
abbrev cX7_openMany : ByteArray := prog_9_method_63_code
def yX7_openMany : MethodName := ⟨RX7, "openMany", "()I"⟩
abbrev cX7_locksOf : ByteArray := prog_9_method_64_code
def yX7_locksOf : MethodName := ⟨RX7, "locksOf", "(I)I"⟩
abbrev cX7_unlocks : ByteArray := prog_9_method_65_code
def yX7_unlocks : MethodName := ⟨RX7, "unlocks", "(I)V"⟩
abbrev cX7_begin : ByteArray := prog_9_method_66_code
def yX7_begin : MethodName := ⟨RX7, "begin", "()I"⟩
abbrev cX7_programsData : ByteArray := prog_9_method_67_code
def yX7_programsData : MethodName := ⟨RX7, "programsData", "(III)I"⟩
abbrev cX7_writesOutside : ByteArray := prog_9_method_68_code
def yX7_writesOutside : MethodName := ⟨RX7, "writesOutside", "(II)I"⟩
abbrev cX7_writesIn : ByteArray := prog_9_method_69_code
def yX7_writesIn : MethodName := ⟨RX7, "writesIn", "(III)I"⟩
abbrev cX7_canAct : ByteArray := prog_9_method_70_code
def yX7_canAct : MethodName := ⟨RX7, "canAct", "(I)Z"⟩
abbrev cX7_write : ByteArray := prog_9_method_71_code
def yX7_write : MethodName := ⟨RX7, "write", "(III)I"⟩
abbrev cX7_valueOf : ByteArray := prog_9_method_72_code
def yX7_valueOf : MethodName := ⟨RX7, "valueOf", "(II)I"⟩
abbrev cX7_read : ByteArray := prog_9_method_73_code
def yX7_read : MethodName := ⟨RX7, "read", "(II)I"⟩
abbrev cX7_commits0 : ByteArray := prog_9_method_74_code
def yX7_commits0 : MethodName := ⟨RX7, "commits0", "(II)Z"⟩
abbrev cX7_commit : ByteArray := prog_9_method_75_code
def yX7_commit : MethodName := ⟨RX7, "commit", "(I)I"⟩
abbrev cX7_abort : ByteArray := prog_9_method_76_code
def yX7_abort : MethodName := ⟨RX7, "abort", "(I)I"⟩
abbrev cX7_isOpenReader : ByteArray := prog_9_method_77_code
def yX7_isOpenReader : MethodName := ⟨RX7, "isOpenReader", "(I)Z"⟩
abbrev cX7_readerMany : ByteArray := prog_9_method_78_code
def yX7_readerMany : MethodName := ⟨RX7, "readerMany", "()I"⟩
abbrev cX7_openReader : ByteArray := prog_9_method_79_code
def yX7_openReader : MethodName := ⟨RX7, "openReader", "()I"⟩
abbrev cX7_readBy : ByteArray := prog_9_method_80_code
def yX7_readBy : MethodName := ⟨RX7, "readBy", "(II)I"⟩
abbrev cX7_closeReader : ByteArray := prog_9_method_81_code
def yX7_closeReader : MethodName := ⟨RX7, "closeReader", "(I)I"⟩
abbrev cX7_isOn : ByteArray := prog_9_method_82_code
def yX7_isOn : MethodName := ⟨RX7, "isOn", "()Z"⟩
abbrev cX7_arm : ByteArray := prog_9_method_83_code
def yX7_arm : MethodName := ⟨RX7, "arm", "(I)I"⟩
abbrev cX7_powerOff : ByteArray := prog_9_method_84_code
def yX7_powerOff : MethodName := ⟨RX7, "powerOff", "()I"⟩
abbrev cX7_latestEnd : ByteArray := prog_9_method_85_code
def yX7_latestEnd : MethodName := ⟨RX7, "latestEnd", "()I"⟩
abbrev cX7_readsMap : ByteArray := prog_9_method_86_code
def yX7_readsMap : MethodName := ⟨RX7, "readsMap", "(I)V"⟩
abbrev cX7_readsCheckpoint : ByteArray := prog_9_method_87_code
def yX7_readsCheckpoint : MethodName := ⟨RX7, "readsCheckpoint", "()V"⟩
abbrev cX7_isApplied : ByteArray := prog_9_method_88_code
def yX7_isApplied : MethodName := ⟨RX7, "isApplied", "(I)Z"⟩
abbrev cX7_nextApplied : ByteArray := prog_9_method_89_code
def yX7_nextApplied : MethodName := ⟨RX7, "nextApplied", "(I)I"⟩
abbrev cX7_appliesCommit : ByteArray := prog_9_method_90_code
def yX7_appliesCommit : MethodName := ⟨RX7, "appliesCommit", "(I)V"⟩
abbrev cX7_appliesAll : ByteArray := prog_9_method_91_code
def yX7_appliesAll : MethodName := ⟨RX7, "appliesAll", "()V"⟩
abbrev cX7_erasesUseless : ByteArray := prog_9_method_92_code
def yX7_erasesUseless : MethodName := ⟨RX7, "erasesUseless", "()Z"⟩
abbrev cX7_findsActive : ByteArray := prog_9_method_93_code
def yX7_findsActive : MethodName := ⟨RX7, "findsActive", "()V"⟩
abbrev cX7_recover : ByteArray := prog_9_method_94_code
def yX7_recover : MethodName := ⟨RX7, "recover", "()I"⟩
abbrev cX7_logicalPages : ByteArray := prog_9_method_95_code
def yX7_logicalPages : MethodName := ⟨RX7, "logicalPages", "()I"⟩
abbrev cX7_blocks : ByteArray := prog_9_method_96_code
def yX7_blocks : MethodName := ⟨RX7, "blocks", "()I"⟩
abbrev cX7_pagesPerBlock : ByteArray := prog_9_method_97_code
def yX7_pagesPerBlock : MethodName := ⟨RX7, "pagesPerBlock", "()I"⟩
abbrev cX7_version : ByteArray := prog_9_method_98_code
def yX7_version : MethodName := ⟨RX7, "version", "(I)I"⟩
abbrev cX7_place : ByteArray := prog_9_method_99_code
def yX7_place : MethodName := ⟨RX7, "place", "(I)I"⟩
abbrev cX7_lockedBy : ByteArray := prog_9_method_100_code
def yX7_lockedBy : MethodName := ⟨RX7, "lockedBy", "(I)I"⟩
abbrev cX7_transactions : ByteArray := prog_9_method_101_code
def yX7_transactions : MethodName := ⟨RX7, "transactions", "()I"⟩
abbrev cX7_state : ByteArray := prog_9_method_102_code
def yX7_state : MethodName := ⟨RX7, "state", "(I)I"⟩
abbrev cX7_locks : ByteArray := prog_9_method_103_code
def yX7_locks : MethodName := ⟨RX7, "locks", "(I)I"⟩
abbrev cX7_readers : ByteArray := prog_9_method_104_code
def yX7_readers : MethodName := ⟨RX7, "readers", "()I"⟩
abbrev cX7_activeBlock : ByteArray := prog_9_method_105_code
def yX7_activeBlock : MethodName := ⟨RX7, "activeBlock", "()I"⟩
abbrev cX7_freeBlocks : ByteArray := prog_9_method_106_code
def yX7_freeBlocks : MethodName := ⟨RX7, "freeBlocks", "()I"⟩
abbrev cX7_validPages : ByteArray := prog_9_method_107_code
def yX7_validPages : MethodName := ⟨RX7, "validPages", "()I"⟩
abbrev cX7_block : ByteArray := prog_9_method_108_code
def yX7_block : MethodName := ⟨RX7, "block", "(II)I"⟩
abbrev cX7_flashPage : ByteArray := prog_9_method_109_code
def yX7_flashPage : MethodName := ⟨RX7, "flashPage", "(II)I"⟩
abbrev cX7_isValid : ByteArray := prog_9_method_110_code
def yX7_isValid : MethodName := ⟨RX7, "isValid", "(I)Z"⟩
abbrev cX7_programs : ByteArray := prog_9_method_111_code
def yX7_programs : MethodName := ⟨RX7, "programs", "()I"⟩
abbrev cX7_erases : ByteArray := prog_9_method_112_code
def yX7_erases : MethodName := ⟨RX7, "erases", "()I"⟩
abbrev cX7_copies : ByteArray := prog_9_method_113_code
def yX7_copies : MethodName := ⟨RX7, "copies", "()I"⟩
abbrev cX7_writes : ByteArray := prog_9_method_114_code
def yX7_writes : MethodName := ⟨RX7, "writes", "()I"⟩
abbrev cX7_wearGap : ByteArray := prog_9_method_115_code
def yX7_wearGap : MethodName := ⟨RX7, "wearGap", "()I"⟩
abbrev cX7_lastCheckpoint : ByteArray := prog_9_method_116_code
def yX7_lastCheckpoint : MethodName := ⟨RX7, "lastCheckpoint", "()I"⟩
abbrev cX7_commits : ByteArray := prog_9_method_117_code
def yX7_commits : MethodName := ⟨RX7, "commits", "()I"⟩
abbrev cX7_losses : ByteArray := prog_9_method_118_code
def yX7_losses : MethodName := ⟨RX7, "losses", "()I"⟩
abbrev cX7_victim : ByteArray := prog_9_method_119_code
def yX7_victim : MethodName := ⟨RX7, "victim", "()I"⟩
def RJx145de : String := "java/io/Serializable"
def TJx145de : u_T := fun k => match k with
  | _ => ("", "", "", false)
def tyJx145de : Nat → FieldType := fun k => match k with
  | _ => .int
abbrev wsJx145de0 : List Cond := u_ws RJx145de TJx145de 0
theorem nmJx145de : ∀ a, a < 0 → ∀ b, b < 0 → a ≠ b → (TJx145de a).2.1 ≠ (TJx145de b).2.1 := by decide +kernel
theorem tyJx145de_ok : ∀ k, k < 0 → parseFieldDescriptor (TJx145de k).2.2.1 = some (tyJx145de k) := by decide +kernel
def RJx9f9b0 : String := "java/lang/CharSequence"
def TJx9f9b0 : u_T := fun k => match k with
  | _ => ("", "", "", false)
def tyJx9f9b0 : Nat → FieldType := fun k => match k with
  | _ => .int
abbrev wsJx9f9b00 : List Cond := u_ws RJx9f9b0 TJx9f9b0 0
theorem nmJx9f9b0 : ∀ a, a < 0 → ∀ b, b < 0 → a ≠ b → (TJx9f9b0 a).2.1 ≠ (TJx9f9b0 b).2.1 := by decide +kernel
theorem tyJx9f9b0_ok : ∀ k, k < 0 → parseFieldDescriptor (TJx9f9b0 k).2.2.1 = some (tyJx9f9b0 k) := by decide +kernel
def RJxb160c : String := "java/lang/Comparable"
def TJxb160c : u_T := fun k => match k with
  | _ => ("", "", "", false)
def tyJxb160c : Nat → FieldType := fun k => match k with
  | _ => .int
abbrev wsJxb160c0 : List Cond := u_ws RJxb160c TJxb160c 0
theorem nmJxb160c : ∀ a, a < 0 → ∀ b, b < 0 → a ≠ b → (TJxb160c a).2.1 ≠ (TJxb160c b).2.1 := by decide +kernel
theorem tyJxb160c_ok : ∀ k, k < 0 → parseFieldDescriptor (TJxb160c k).2.2.1 = some (tyJxb160c k) := by decide +kernel
def RJ6 : String := "java/lang/Integer"
def TJ6 : u_T := fun k => match k with
  | _ => ("", "", "", false)
def tyJ6 : Nat → FieldType := fun k => match k with
  | _ => .int
abbrev wsJ60 : List Cond := u_ws RJ6 TJ6 0
theorem nmJ6 : ∀ a, a < 0 → ∀ b, b < 0 → a ≠ b → (TJ6 a).2.1 ≠ (TJ6 b).2.1 := by decide +kernel
theorem tyJ6_ok : ∀ k, k < 0 → parseFieldDescriptor (TJ6 k).2.2.1 = some (tyJ6 k) := by decide +kernel
abbrev cJ6_bitCount_0f7a4 : ByteArray := prog_16_method_49_code
def yJ6_bitCount_0f7a4 : MethodName := ⟨RJ6, "bitCount", "(I)I"⟩
def RJ9 : String := "java/lang/Math"
def TJ9 : u_T := fun k => match k with
  | _ => ("", "", "", false)
def tyJ9 : Nat → FieldType := fun k => match k with
  | _ => .int
abbrev wsJ90 : List Cond := u_ws RJ9 TJ9 0
theorem nmJ9 : ∀ a, a < 0 → ∀ b, b < 0 → a ≠ b → (TJ9 a).2.1 ≠ (TJ9 b).2.1 := by decide +kernel
theorem tyJ9_ok : ∀ k, k < 0 → parseFieldDescriptor (TJ9 k).2.2.1 = some (tyJ9 k) := by decide +kernel
abbrev cJ9_max_7cf53 : ByteArray := prog_17_method_65_code
def yJ9_max_7cf53 : MethodName := ⟨RJ9, "max", "(II)I"⟩
abbrev cJ9_min_7cf53 : ByteArray := prog_17_method_69_code
def yJ9_min_7cf53 : MethodName := ⟨RJ9, "min", "(II)I"⟩
def RJ0 : String := "java/lang/String"
def TJ0 : u_T := fun k => match k with
  | _ => ("", "", "", false)
def tyJ0 : Nat → FieldType := fun k => match k with
  | _ => .int
abbrev wsJ00 : List Cond := u_ws RJ0 TJ0 0
theorem nmJ0 : ∀ a, a < 0 → ∀ b, b < 0 → a ≠ b → (TJ0 a).2.1 ≠ (TJ0 b).2.1 := by decide +kernel
theorem tyJ0_ok : ∀ k, k < 0 → parseFieldDescriptor (TJ0 k).2.2.1 = some (tyJ0 k) := by decide +kernel
abbrev cJ0_length_8abf5 : ByteArray := prog_19_method_54_code
def yJ0_length_8abf5 : MethodName := ⟨RJ0, "length", "()I"⟩
abbrev cJ0_charAt_5068e : ByteArray := prog_19_method_56_code
def yJ0_charAt_5068e : MethodName := ⟨RJ0, "charAt", "(I)C"⟩
abbrev cJ0_coder_7d493 : ByteArray := prog_19_method_152_code
def yJ0_coder_7d493 : MethodName := ⟨RJ0, "coder", "()B"⟩
abbrev cJ0_isLatin1_aae02 : ByteArray := prog_19_method_154_code
def yJ0_isLatin1_aae02 : MethodName := ⟨RJ0, "isLatin1", "()Z"⟩
abbrev cJ0_checkIndex_df160 : ByteArray := prog_19_method_155_code
def yJ0_checkIndex_df160 : MethodName := ⟨RJ0, "checkIndex", "(II)V"⟩
def RJ1 : String := "java/lang/StringLatin1"
def TJ1 : u_T := fun k => match k with
  | _ => ("", "", "", false)
def tyJ1 : Nat → FieldType := fun k => match k with
  | _ => .int
abbrev wsJ10 : List Cond := u_ws RJ1 TJ1 0
theorem nmJ1 : ∀ a, a < 0 → ∀ b, b < 0 → a ≠ b → (TJ1 a).2.1 ≠ (TJ1 b).2.1 := by decide +kernel
theorem tyJ1_ok : ∀ k, k < 0 → parseFieldDescriptor (TJ1 k).2.2.1 = some (tyJ1 k) := by decide +kernel
abbrev cJ1_charAt_3b067 : ByteArray := prog_20_method_2_code
def yJ1_charAt_3b067 : MethodName := ⟨RJ1, "charAt", "([BI)C"⟩
def RJ2 : String := "java/lang/StringUTF16"
def TJ2 : u_T := fun k => match k with
  | _ => ("", "", "", false)
def tyJ2 : Nat → FieldType := fun k => match k with
  | _ => .int
abbrev wsJ20 : List Cond := u_ws RJ2 TJ2 0
theorem nmJ2 : ∀ a, a < 0 → ∀ b, b < 0 → a ≠ b → (TJ2 a).2.1 ≠ (TJ2 b).2.1 := by decide +kernel
theorem tyJ2_ok : ∀ k, k < 0 → parseFieldDescriptor (TJ2 k).2.2.1 = some (tyJ2 k) := by decide +kernel
abbrev cJ2_getChar_3b067 : ByteArray := prog_21_method_5_code
def yJ2_getChar_3b067 : MethodName := ⟨RJ2, "getChar", "([BI)C"⟩
abbrev cJ2_length_9d52b : ByteArray := prog_21_method_6_code
def yJ2_length_9d52b : MethodName := ⟨RJ2, "length", "([B)I"⟩
abbrev cJ2_charAt_3b067 : ByteArray := prog_21_method_83_code
def yJ2_charAt_3b067 : MethodName := ⟨RJ2, "charAt", "([BI)C"⟩
abbrev cJ2_checkIndex_2214a : ByteArray := prog_21_method_91_code
def yJ2_checkIndex_2214a : MethodName := ⟨RJ2, "checkIndex", "(I[B)V"⟩
def RJxfd54e : String := "java/lang/constant/Constable"
def TJxfd54e : u_T := fun k => match k with
  | _ => ("", "", "", false)
def tyJxfd54e : Nat → FieldType := fun k => match k with
  | _ => .int
abbrev wsJxfd54e0 : List Cond := u_ws RJxfd54e TJxfd54e 0
theorem nmJxfd54e : ∀ a, a < 0 → ∀ b, b < 0 → a ≠ b → (TJxfd54e a).2.1 ≠ (TJxfd54e b).2.1 := by decide +kernel
theorem tyJxfd54e_ok : ∀ k, k < 0 → parseFieldDescriptor (TJxfd54e k).2.2.1 = some (tyJxfd54e k) := by decide +kernel
def RJx3cf43 : String := "java/lang/constant/ConstantDesc"
def TJx3cf43 : u_T := fun k => match k with
  | _ => ("", "", "", false)
def tyJx3cf43 : Nat → FieldType := fun k => match k with
  | _ => .int
abbrev wsJx3cf430 : List Cond := u_ws RJx3cf43 TJx3cf43 0
theorem nmJx3cf43 : ∀ a, a < 0 → ∀ b, b < 0 → a ≠ b → (TJx3cf43 a).2.1 ≠ (TJx3cf43 b).2.1 := by decide +kernel
theorem tyJx3cf43_ok : ∀ k, k < 0 → parseFieldDescriptor (TJx3cf43 k).2.2.1 = some (tyJx3cf43 k) := by decide +kernel
def RJ3 : String := "jdk/internal/util/Preconditions"
def TJ3 : u_T := fun k => match k with
  | _ => ("", "", "", false)
def tyJ3 : Nat → FieldType := fun k => match k with
  | _ => .int
abbrev wsJ30 : List Cond := u_ws RJ3 TJ3 0
theorem nmJ3 : ∀ a, a < 0 → ∀ b, b < 0 → a ≠ b → (TJ3 a).2.1 ≠ (TJ3 b).2.1 := by decide +kernel
theorem tyJ3_ok : ∀ k, k < 0 → parseFieldDescriptor (TJ3 k).2.2.1 = some (tyJ3 k) := by decide +kernel
abbrev cJ3_checkIndex_8e157 : ByteArray := prog_26_method_11_code
def yJ3_checkIndex_8e157 : MethodName := ⟨RJ3, "checkIndex", "(IILjava/util/function/BiFunction;)I"⟩
def RL : String := "TransactionalFlashLaw"
abbrev cL_feed : ByteArray := method_3_code
def yL_feed : MethodName := ⟨RL, "feed", "(LTransactionalFlash;IIIII[J)I"⟩
abbrev cL_format : ByteArray := method_4_code
def yL_format : MethodName := ⟨RL, "format", "(LTransactionalFlash;I[J)I"⟩
abbrev cL_begin : ByteArray := method_5_code
def yL_begin : MethodName := ⟨RL, "begin", "(LTransactionalFlash;[J)I"⟩
abbrev cL_write : ByteArray := method_6_code
def yL_write : MethodName := ⟨RL, "write", "(LTransactionalFlash;III[J)I"⟩
abbrev cL_read : ByteArray := method_7_code
def yL_read : MethodName := ⟨RL, "read", "(LTransactionalFlash;II[J)I"⟩
abbrev cL_commit : ByteArray := method_8_code
def yL_commit : MethodName := ⟨RL, "commit", "(LTransactionalFlash;I[J)I"⟩
abbrev cL_abort : ByteArray := method_9_code
def yL_abort : MethodName := ⟨RL, "abort", "(LTransactionalFlash;I[J)I"⟩
abbrev cL_openReader : ByteArray := method_10_code
def yL_openReader : MethodName := ⟨RL, "openReader", "(LTransactionalFlash;[J)I"⟩
abbrev cL_readBy : ByteArray := method_11_code
def yL_readBy : MethodName := ⟨RL, "readBy", "(LTransactionalFlash;II[J)I"⟩
abbrev cL_closeReader : ByteArray := method_12_code
def yL_closeReader : MethodName := ⟨RL, "closeReader", "(LTransactionalFlash;I[J)I"⟩
abbrev cL_checkpoint : ByteArray := method_13_code
def yL_checkpoint : MethodName := ⟨RL, "checkpoint", "(LTransactionalFlash;[J)I"⟩
abbrev cL_arm : ByteArray := method_14_code
def yL_arm : MethodName := ⟨RL, "arm", "(LTransactionalFlash;I[J)I"⟩
abbrev cL_powerOff : ByteArray := method_15_code
def yL_powerOff : MethodName := ⟨RL, "powerOff", "(LTransactionalFlash;[J)I"⟩
abbrev cL_recover : ByteArray := method_16_code
def yL_recover : MethodName := ⟨RL, "recover", "(LTransactionalFlash;[J)I"⟩
abbrev cL_version : ByteArray := method_17_code
def yL_version : MethodName := ⟨RL, "version", "(LTransactionalFlash;I[J)I"⟩
abbrev cL_place : ByteArray := method_18_code
def yL_place : MethodName := ⟨RL, "place", "(LTransactionalFlash;I[J)I"⟩
abbrev cL_lockedBy : ByteArray := method_19_code
def yL_lockedBy : MethodName := ⟨RL, "lockedBy", "(LTransactionalFlash;I[J)I"⟩
abbrev cL_state : ByteArray := method_20_code
def yL_state : MethodName := ⟨RL, "state", "(LTransactionalFlash;I[J)I"⟩
abbrev cL_locks : ByteArray := method_21_code
def yL_locks : MethodName := ⟨RL, "locks", "(LTransactionalFlash;I[J)I"⟩
abbrev cL_block : ByteArray := method_22_code
def yL_block : MethodName := ⟨RL, "block", "(LTransactionalFlash;II[J)I"⟩
abbrev cL_flashPage : ByteArray := method_23_code
def yL_flashPage : MethodName := ⟨RL, "flashPage", "(LTransactionalFlash;II[J)I"⟩
abbrev cL_isValid : ByteArray := method_24_code
def yL_isValid : MethodName := ⟨RL, "isValid", "(LTransactionalFlash;I[J)I"⟩
abbrev cL_law : ByteArray := code
def yL_law : MethodName := ⟨RL, "law", "([I)Z"⟩
abbrev vwCl : List vw_C := [(RX0, TX0, 15), (RX1, TX1, 18), (RX2, TX2, 11), (RX3, TX3, 2), (RX4, TX4, 7), (RX5, TX5, 3), (RX6, TX6, 2), (RX7, TX7, 51)]
end
section
/-! numbers: an int of the machine is iI z, z a whole number -/
def iI (z : Int) : Int32 := Int32.ofInt z
theorem zbmod {z : Int} (h1 : -2147483648 ≤ z) (h2 : z < 2147483648) : z.bmod (2 ^ 32) = z := by
  rw [Int.bmod_eq_of_le (by omega) (by omega)]
theorem iI_toInt {z : Int} (h1 : -2147483648 ≤ z) (h2 : z < 2147483648) : (iI z).toInt = z := by
  unfold iI
  rw [Int32.toInt_ofInt, zbmod h1 h2]
theorem iI_asI (x : Int32) : iI x.toInt = x := Int32.ofInt_toInt x
theorem zrng (x : Int32) : -2147483648 ≤ x.toInt ∧ x.toInt < 2147483648 := by
  have h1 := Int32.le_toInt x
  have h2 := Int32.toInt_lt x
  omega
theorem iI_of (x : Int32) : ∃ z : Int, x = iI z ∧ -2147483648 ≤ z ∧ z < 2147483648 := ⟨x.toInt, (iI_asI x).symm, (zrng x).1, (zrng x).2⟩
theorem iI_ti (z : Int) : (iI z).toInt = z.bmod (2 ^ 32) := by
  unfold iI
  rw [Int32.toInt_ofInt]
theorem iI_add (a b : Int) : iI a + iI b = iI (a + b) := by
  apply Int32.toInt_inj.mp
  rw [Int32.toInt_add, iI_ti, iI_ti, iI_ti, Int.bmod_add_bmod, Int.add_bmod_bmod]
theorem iI_sub (a b : Int) : iI a - iI b = iI (a - b) := by
  apply Int32.toInt_inj.mp
  rw [Int32.toInt_sub, iI_ti, iI_ti, iI_ti, Int.bmod_sub_bmod, Int.sub_bmod_bmod]
theorem iI_mul (a b : Int) : iI a * iI b = iI (a * b) := by
  apply Int32.toInt_inj.mp
  rw [Int32.toInt_mul, iI_ti, iI_ti, iI_ti, Int.bmod_mul_bmod, Int.mul_bmod_bmod]
theorem iI_lt {a b : Int} (h1 : -2147483648 ≤ a) (h2 : a < 2147483648) (h3 : -2147483648 ≤ b) (h4 : b < 2147483648) : iI a < iI b ↔ a < b := by
  rw [Int32.lt_iff_toInt_lt, iI_toInt h1 h2, iI_toInt h3 h4]
theorem iI_le {a b : Int} (h1 : -2147483648 ≤ a) (h2 : a < 2147483648) (h3 : -2147483648 ≤ b) (h4 : b < 2147483648) : iI a ≤ iI b ↔ a ≤ b := by
  rw [Int32.le_iff_toInt_le, iI_toInt h1 h2, iI_toInt h3 h4]
theorem iI_eq {a b : Int} (h1 : -2147483648 ≤ a) (h2 : a < 2147483648) (h3 : -2147483648 ≤ b) (h4 : b < 2147483648) : iI a = iI b ↔ a = b := by
  rw [← Int32.toInt_inj, iI_toInt h1 h2, iI_toInt h3 h4]
theorem iI_0 : iI 0 = 0 := by decide +kernel
/-- what an int keeps of a whole number -/
def wr (z : Int) : Int := z.bmod 4294967296
theorem wr_id {z : Int} (h1 : -2147483648 ≤ z) (h2 : z < 2147483648) : wr z = z := zbmod h1 h2
theorem wr_rng (z : Int) : -2147483648 ≤ wr z ∧ wr z < 2147483648 := by
  have h := zrng (iI z)
  rw [iI_ti] at h
  exact h
theorem iI_wr (z : Int) : iI (wr z) = iI z := by
  apply Int32.toInt_inj.mp
  rw [iI_toInt (wr_rng z).1 (wr_rng z).2, iI_ti]
  rfl
theorem zvp {i : Int} {n : Nat} (h0 : 0 ≤ i) (h1 : i < (n : Int)) (h2 : i < 2147483648) : vp_in (iI i) n := by
  rw [vp_in_iff, iI_toInt (by omega) h2]
  exact ⟨h0, h1⟩
theorem zclamp {i : Int} (h0 : 0 ≤ i) (h2 : i < 2147483648) : (iI i).toNatClampNeg = i.toNat := by
  unfold Int32.toNatClampNeg
  rw [iI_toInt (by omega) h2]
theorem iI_div {a b : Int} (h1 : 0 ≤ a) (h2 : a < 2147483648) (h3 : 0 < b) (h4 : b < 2147483648) : iI a / iI b = iI (a / b) := by
  apply Int32.toInt_inj.mp
  have q1 : 0 ≤ a / b := Int.ediv_nonneg h1 (by omega)
  have q2 : a / b ≤ a := Int.ediv_le_self _ h1
  rw [Int32.toInt_div, iI_toInt (by omega) h2, iI_toInt (by omega) h4, iI_toInt (by omega) (by omega), Int.tdiv_eq_ediv_of_nonneg h1]
  exact zbmod (by omega) (by omega)
/-! the state of one side: its numbers, and its arrays by their places -/
abbrev zH : Type := (Nat → Int) × (Nat → Int → Int)
def gs (h : zH) (k : Nat) : Int := h.1 k
def ga (h : zH) (a : Nat) (i : Int) : Int := h.2 a i
def ps (h : zH) (k : Nat) (v : Int) : zH := (fun j => if j = k then v else h.1 j, h.2)
def pa (h : zH) (a : Nat) (i : Int) (v : Int) : zH := (h.1, fun b j => if b = a ∧ j = i then v else h.2 b j)
theorem gs_ps (h : zH) (k j : Nat) (v : Int) : gs (ps h k v) j = if j = k then v else gs h j := rfl
theorem gs_pa (h : zH) (a j : Nat) (i v : Int) : gs (pa h a i v) j = gs h j := rfl
theorem ga_ps (h : zH) (k a : Nat) (i v : Int) : ga (ps h k v) a i = ga h a i := rfl
theorem ga_pa (h : zH) (a b : Nat) (i j v : Int) : ga (pa h a i v) b j = if b = a ∧ j = i then v else ga h b j := rfl
def zOk (h : zH) : Prop := (∀ k, k < 1000 → -2147483648 ≤ gs h k ∧ gs h k < 2147483648) ∧ ∀ a i, -2147483648 ≤ ga h a i ∧ ga h a i < 2147483648
theorem zOk_ps {h : zH} {k : Nat} {v : Int} (o : zOk h) (hv : -2147483648 ≤ v ∧ v < 2147483648) : zOk (ps h k v) := by
  refine ⟨fun j hj => ?_, fun a i => o.2 a i⟩
  rw [gs_ps]
  split
  · exact hv
  · exact o.1 j hj
theorem zOk_psL {h : zH} {k : Nat} {v : Int} (o : zOk h) (hk : 1000 ≤ k) : zOk (ps h k v) := by
  refine ⟨fun j hj => ?_, fun a i => o.2 a i⟩
  rw [gs_ps, if_neg (by omega)]
  exact o.1 j hj
theorem zOk_pa {h : zH} {a : Nat} {i v : Int} (o : zOk h) (hv : -2147483648 ≤ v ∧ v < 2147483648) : zOk (pa h a i v) := by
  refine ⟨fun j hj => o.1 j hj, fun b j => ?_⟩
  rw [ga_pa]
  split
  · exact hv
  · exact o.2 b j
/-! its cells, and where they lie -/
abbrev aC : Type := (Nat × List Value) ⊕ (Nat × Nat × (Nat → Int32))
def cvv (adr : Nat → Nat) (v : Value) : Value := match v with
  | .ref k => .ref (adr k)
  | w => w
theorem cvv_cat (adr : Nat → Nat) (v : Value) : (cvv adr v).category = v.category := by cases v <;> rfl
def zE (cA : Nat → ClassId) (adr : Nat → Nat) (c : aC) : va_E := match c with
  | .inl o => .inr (o.1, o.2.map (cvv adr))
  | .inr a => .inl (cA a.1, a.2.1, .inl a.2.2)
def zW (cA : Nat → ClassId) (adr : Nat → Nat) : Nat → List aC → va_W
  | _, [] => []
  | k, c :: r => (adr k, zE cA adr c) :: zW cA adr (k + 1) r
theorem zW_get (cA : Nat → ClassId) (adr : Nat → Nat) (l : List aC) : ∀ (k i : Nat), (zW cA adr k l)[i]? = (l[i]?).map (fun c => (adr (k + i), zE cA adr c)) := by
  induction l with
  | nil => intro k i; rfl
  | cons c r ih =>
    intro k i
    cases i with
    | zero => rfl
    | succ i =>
      show (zW cA adr (k + 1) r)[i]? = (r[i]?).map _
      rw [ih (k + 1) i, show k + 1 + i = k + (i + 1) by omega]
theorem zW_set (cA : Nat → ClassId) (adr : Nat → Nat) (l : List aC) (c : aC) : ∀ (k i : Nat), (zW cA adr k l).set i (adr (k + i), zE cA adr c) = zW cA adr k (l.set i c) := by
  induction l with
  | nil => intro k i; rfl
  | cons d r ih =>
    intro k i
    cases i with
    | zero => rfl
    | succ i =>
      show _ :: (zW cA adr (k + 1) r).set i _ = _ :: zW cA adr (k + 1) (r.set i c)
      rw [← ih (k + 1) i, show k + 1 + i = k + (i + 1) by omega]
theorem zW_obj {cA : Nat → ClassId} {adr : Nat → Nat} {l : List aC} {q ci : Nat} {fs : List Value} (h : l[q]? = some (.inl (ci, fs))) : (zW cA adr 0 l)[q]? = some (adr q, .inr (ci, fs.map (cvv adr))) := by
  rw [zW_get, h, Nat.zero_add]
  rfl
theorem zW_arr {cA : Nat → ClassId} {adr : Nat → Nat} {l : List aC} {q t n : Nat} {f : Nat → Int32} (h : l[q]? = some (.inr (t, n, f))) : (zW cA adr 0 l)[q]? = some (adr q, .inl (cA t, n, .inl f)) := by
  rw [zW_get, h, Nat.zero_add]
  rfl
abbrev zT (cA : Nat → ClassId) : List (ClassId × FieldType) := [(cA 0, .int), (cA 1, .boolean)]
/-- a number's field, a reference's field, an array: what they are in the cells -/
def zFld (cs : zH → List aC) (q ci k kk : Nat) : Prop := ∀ h : zH, ∃ fs : List Value, (cs h)[q]? = some (.inl (ci, fs)) ∧ fs[k]? = some (.int (iI (gs h kk))) ∧ k < fs.length ∧ ∀ v : Int, (cs h).set q (.inl (ci, fs.set k (.int (iI v)))) = cs (ps h kk v)
def zRef (cs : zH → List aC) (q ci k r : Nat) : Prop := ∀ h : zH, ∃ fs : List Value, (cs h)[q]? = some (.inl (ci, fs)) ∧ fs[k]? = some (.ref r)
def zArr (cs : zH → List aC) (q t n : Nat) : Prop := ∀ h : zH, (cs h)[q]? = some (.inr (t, n, fun j => iI (ga h q (j : Int)))) ∧ ∀ f : Nat → Int32, ∀ h' : zH, (∀ j : Nat, f j = iI (ga h' q (j : Int))) → (∀ b : Nat, b ≠ q → ∀ j : Nat, ga h' b (j : Int) = ga h b (j : Int)) → (∀ k, gs h' k = gs h k) → (cs h).set q (.inr (t, n, f)) = cs h'
def zL (adr : Nat → Nat) : Nat → List (Option Value) → List (Nat × Value)
  | _, [] => []
  | i, none :: r => zL adr (i + 1) r
  | i, some v :: r => (i, cvv adr v) :: zL adr (i + 1) r
theorem zL_in (adr : Nat → Nat) (l : List (Option Value)) : ∀ (k : Nat) (q : Nat × Value), q ∈ zL adr k l ↔ ∃ (i : Nat) (v : Value), l[i]? = some (some v) ∧ q = (k + i, cvv adr v) := by
  induction l with
  | nil => intro k q; simp [zL]
  | cons c r ih =>
    intro k q
    cases c with
    | none =>
      rw [zL, ih]
      constructor
      · rintro ⟨i, v, h1, h2⟩
        exact ⟨i + 1, v, by simpa using h1, by rw [h2]; congr 1; omega⟩
      · rintro ⟨i, v, h1, h2⟩
        cases i with
        | zero => simp at h1
        | succ i => exact ⟨i, v, by simpa using h1, by rw [h2]; congr 1; omega⟩
    | some w =>
      rw [zL, List.mem_cons, ih]
      constructor
      · rintro (h | ⟨i, v, h1, h2⟩)
        · exact ⟨0, w, by simp, h⟩
        · exact ⟨i + 1, v, by simpa using h1, by rw [h2]; congr 1; omega⟩
      · rintro ⟨i, v, h1, h2⟩
        cases i with
        | zero =>
          simp at h1
          subst h1
          exact Or.inl h2
        | succ i => exact Or.inr ⟨i, v, by simpa using h1, by rw [h2]; congr 1; omega⟩
theorem zL_at {adr : Nat → Nat} {ls : List (Option Value)} {lsa : Array Slot} {nL i : Nat} {v : Value} (hl : lv_has lsa nL (zL adr 0 ls)) (h : ls[i]? = some (some v)) : lsa[i]? = some (.val (cvv adr v)) :=
  hl.2.2 (i, cvv adr v) ((zL_in adr ls 0 _).mpr ⟨i, v, h, by rw [Nat.zero_add]⟩)
/-- no number of two places stands just before place i -/
def zNL (ls : List (Option Value)) : Nat → Bool
  | 0 => true
  | i + 1 => match ls[i]? with
    | some (some v) => v.category == 1
    | _ => true
theorem zL_put {adr : Nat → Nat} {ls : List (Option Value)} {lsa : Array Slot} {nL i : Nat} {x : Value} (hc : zNL ls i = true) (hl : lv_has lsa nL ((i, cvv adr x) :: (zL adr 0 ls).filter (fun q => !(q.1 == i) && !(q.1 + 1 == i && q.2.category == 2)))) : lv_has lsa nL (zL adr 0 (ls.set i (some x))) := by
  refine ⟨hl.1, hl.2.1, fun q hq => ?_⟩
  obtain ⟨j, v, h1, h2⟩ := (zL_in adr _ 0 q).mp hq
  rw [Nat.zero_add] at h2
  subst h2
  by_cases hj : j = i
  · subst hj
    rw [List.getElem?_set] at h1
    simp at h1
    have hv : x = v := h1.2
    subst hv
    exact hl.2.2 _ List.mem_cons_self
  · rw [List.getElem?_set, if_neg (fun e => hj e.symm)] at h1
    refine hl.2.2 _ (List.mem_cons_of_mem _ (List.mem_filter.mpr ⟨(zL_in adr ls 0 _).mpr ⟨j, v, h1, by rw [Nat.zero_add]⟩, ?_⟩))
    have e1 : (j == i) = false := by simp [hj]
    have e2 : (j + 1 == i && (cvv adr v).category == 2) = false := by
      by_cases hji : j + 1 = i
      · subst hji
        rw [zNL, h1] at hc
        simp only [beq_iff_eq] at hc
        rw [cvv_cat, hc]
        simp
      · simp [hji]
    simp only [e1, e2]
    rfl
/-! the words -/
def zU : List Cond := lw_tbl.filter goodWord
theorem zU_in {w : Cond} (h : w ∈ lw_tbl) (g : goodWord w = true) : w ∈ zU := List.mem_filter.mpr ⟨h, g⟩
theorem zU_gd {w : Cond} (h : w ∈ zU) : (w.onTables && w.keeps) = true ∨ ∃ ty, w = .arrayClass ty := good_of_word (List.mem_filter.mp h).2
def zTs (y : MethodName) (b : ByteArray) (nL : Nat) (ret : Option FieldType) : List Cond := .code y b nL ret :: zU
def zCal (C : String) (y : MethodName) (b : ByteArray) (nL : Nat) (ret : Option FieldType) : Prop := Cond.instanceMethod y ∈ zU ∧ Cond.selects C y y ∈ zU ∧ Cond.initialized C ∈ zU ∧ Cond.code y b nL ret ∈ zU ∧ (y.cls = C ∧ y.cls ≠ "java/lang/invoke/MethodHandle" ∧ y.cls ≠ "java/lang/invoke/VarHandle") ∧ plainName y.cls = true
def zSta (C : String) (y : MethodName) (b : ByteArray) (nL : Nat) (ret : Option FieldType) : Prop := Cond.static y ∈ zU ∧ Cond.initialized C ∈ zU ∧ Cond.code y b nL ret ∈ zU ∧ (y.cls = C ∧ y.cls ≠ "java/lang/invoke/MethodHandle" ∧ y.cls ≠ "java/lang/invoke/VarHandle") ∧ plainName y.cls = true
theorem zTs_good {y : MethodName} {b : ByteArray} {nL : Nat} {ret : Option FieldType} (h : Cond.code y b nL ret ∈ zU) : GoodIn zU (zTs y b nL ret) := by
  intro w hw
  rcases List.mem_cons.mp hw with rfl | hw
  · exact ⟨h, zU_gd h⟩
  · exact ⟨hw, zU_gd hw⟩
theorem zCal_good {own C : String} {idx : Nat} {y : MethodName} {b : ByteArray} {nL : Nat} {ret : Option FieldType} (hk : Cond.methodLink own idx y ∈ zU) (h : zCal C y b nL ret) : GoodIn zU (wsV own idx C y (zTs y b nL ret)) := by
  intro w hw
  rcases List.mem_append.mp hw with hw | hw
  · simp only [List.mem_cons, List.not_mem_nil, or_false] at hw
    rcases hw with rfl | rfl | rfl | rfl
    · exact ⟨hk, zU_gd hk⟩
    · exact ⟨h.1, zU_gd h.1⟩
    · exact ⟨h.2.1, zU_gd h.2.1⟩
    · exact ⟨h.2.2.1, zU_gd h.2.2.1⟩
  · exact zTs_good h.2.2.2.1 w hw
theorem zSta_good {own : String} {idx : Nat} {y : MethodName} {b : ByteArray} {nL : Nat} {ret : Option FieldType} (hk : Cond.methodLink own idx y ∈ zU) (h : zSta own y b nL ret) : GoodIn zU (wsS own idx y (zTs y b nL ret)) := by
  intro w hw
  rcases List.mem_append.mp hw with hw | hw
  · simp only [List.mem_cons, List.not_mem_nil, or_false] at hw
    rcases hw with rfl | rfl | rfl
    · exact ⟨hk, zU_gd hk⟩
    · exact ⟨h.1, zU_gd h.1⟩
    · exact ⟨h.2.1, zU_gd h.2.1⟩
  · exact zTs_good h.2.2.1 w hw
/-! the judgement: at pc, with these places and this stack, in this state, the method comes to the end E -/
abbrev zF : Type := List Frame → Array Value → State → (Nat → Prop) → va_G → (Nat → ClassId) → (Nat → Nat) → State → Prop
abbrev zGv : Type := Launch → State → Code → (Nat → Prop) → Prop
def zNo : zGv := fun _ _ _ _ => True
def zCx (p : Program) (s : State) (m : MethodId) (args : Array Value) (meth : Method) (c : Code) (own : String) (cc : ByteArray) (nL : Nat) (ret : Option FieldType) : Prop :=
  p.tables.exec = Jvm.exec ∧ c.code = cc ∧ meth.sig.returnType = ret ∧ c.maxLocals = nL ∧ s.vm.findClass own = some m.cls ∧ (∀ w ∈ zU, w.before args s = true) ∧ meth.locks = false
def zX (cs : zH → List aC) (G : zGv) (own : String) (cc : ByteArray) (nL : Nat) (ret : Option FieldType) (rm : Room) (pc : Nat) (ls : List (Option Value)) (st : List Value) (h : zH) (E : zF) : Prop :=
  ∀ (p : Program) (l : Launch) (e : Env) (s : State) (m : MethodId) (args : Array Value) (below : List Frame) (meth : Method) (c : Code) (D : va_G) (cA : Nat → ClassId) (adr : Nat → Nat) (A : Nat → Prop) (H : Heap) (locs : List Loc) (lsa : Array Slot),
    zCx p s m args meth c own cc nL ret → (∀ q : Nat, s.heap.size ≤ q → A q) → G l s c A → zOk h → va_K D vwCl (zT cA) s → va_P D vwCl (zW cA adr 0 (cs h)) H → va_D A (zW cA adr 0 (cs h)) → va_S A s.heap H locs → lv_has lsa nL (zL adr 0 ls) →
    W p l e rm s m args below meth c H locs 0 0 (E below args s A D cA adr) (F0 m pc lsa (st.map (cvv adr)))
/-- the world of a side, at a state -/
def zB (cs : zH → List aC) (D : va_G) (cA : Nat → ClassId) (adr : Nat → Nat) (h : zH) (A : Nat → Prop) (t : State) : Prop := zOk h ∧ va_P D vwCl (zW cA adr 0 (cs h)) t.heap ∧ va_K D vwCl (zT cA) t ∧ va_D A (zW cA adr 0 (cs h))
def zQi (cs : zH → List aC) (Q : Int → zH → Prop) (D : va_G) (cA : Nat → ClassId) (adr : Nat → Nat) (A : Nat → Prop) : Array Value → State → Outcome → State → Prop := va_Qi (fun (r : Int32) (h : zH) => ∃ z : Int, r = iI z ∧ (-2147483648 ≤ z ∧ z < 2147483648) ∧ Q z h) (fun (h : zH) t => zB cs D cA adr h A t) A
def zQv (cs : zH → List aC) (Q : zH → Prop) (D : va_G) (cA : Nat → ClassId) (adr : Nat → Nat) (A : Nat → Prop) : Array Value → State → Outcome → State → Prop := va_Qv (fun h : zH => Q h) (fun (h : zH) t => zB cs D cA adr h A t) A
def zEi (cs : zH → List aC) (Q : Int → zH → Prop) : zF := fun below args s A D cA adr => MQ below (zQi cs Q D cA adr A) args s 0 0 A
def zEv (cs : zH → List aC) (Q : zH → Prop) : zF := fun below args s A D cA adr => MQ below (zQv cs Q D cA adr A) args s 0 0 A
/-- contracts of methods that don't throw: of an int (or boolean) answer, and of none -/
def zMi (cs : zH → List aC) (y : MethodName) (b : ByteArray) (nL : Nat) (ret : FieldType) (rm : Room) (as : List Value) (h : zH) (Q : Int → zH → Prop) : Prop :=
  ∀ (l : Launch) (D : va_G) (cA : Nat → ClassId) (adr : Nat → Nat) (sz : Nat), Met l y (zTs y b nL (some ret)) rm (va_Pc (as.map (cvv adr)) (fun U => U.heap.size = sz ∧ zB cs D cA adr h (fun _ => True) U)) (zQi cs Q D cA adr (va_A (zW cA adr 0 (cs h)) sz)) 0 0 (va_A (zW cA adr 0 (cs h)) sz)
def zMv (cs : zH → List aC) (y : MethodName) (b : ByteArray) (nL : Nat) (rm : Room) (as : List Value) (h : zH) (Q : zH → Prop) : Prop :=
  ∀ (l : Launch) (D : va_G) (cA : Nat → ClassId) (adr : Nat → Nat) (sz : Nat), Met l y (zTs y b nL none) rm (va_Pc (as.map (cvv adr)) (fun U => U.heap.size = sz ∧ zB cs D cA adr h (fun _ => True) U)) (zQv cs Q D cA adr (va_A (zW cA adr 0 (cs h)) sz)) 0 0 (va_A (zW cA adr 0 (cs h)) sz)
theorem zMi_of {cs : zH → List aC} {y : MethodName} {b : ByteArray} {nL : Nat} {r : FieldType} {rm : Room} {as : List Value} {h : zH} {Q : Int → zH → Prop} (ls0 : List (Option Value)) (hy : plainName y.cls = true) (hln : ∀ adr : Nat → Nat, (lg_sl (as.map (cvv adr))).length ≤ nL) (hla : ∀ adr : Nat → Nat, lv_args 0 (as.map (cvv adr)) = zL adr 0 ls0)
    (k : zX cs zNo y.cls b nL (some r) rm 0 ls0 [] h (zEi cs Q)) : zMi cs y b nL r rm as h Q := by
  intro l D cA adr sz
  refine Met.ofW (cc := b) (maxL := nL) (ret := some r) hy rfl ?_
  intro p e s m args below meth c s₁ B hml hv
  obtain ⟨rfl, hsz, hO, hP, hK, hD0⟩ := hv
  have hts := atoms_spec (ws := zTs y b nL (some r)) B.pre
  subst hsz
  have hl := lv_entry (as.map (cvv adr)) (n := nL) (hln adr)
  rw [lg_entry_eq]
  rw [hla adr] at hl
  exact k p l e s m _ below meth c D cA adr _ s.heap [] _ ⟨B.exec, B.bytes, B.returns, hml, findClass_of_methodNamed B.named, fun w hw => hts w (List.mem_cons_of_mem _ hw), B.notSynchronized⟩ (fun q hq => Or.inr hq) trivial hO hK hP hD0.self va_S.rf hl
theorem zMv_of {cs : zH → List aC} {y : MethodName} {b : ByteArray} {nL : Nat} {rm : Room} {as : List Value} {h : zH} {Q : zH → Prop} (ls0 : List (Option Value)) (hy : plainName y.cls = true) (hln : ∀ adr : Nat → Nat, (lg_sl (as.map (cvv adr))).length ≤ nL) (hla : ∀ adr : Nat → Nat, lv_args 0 (as.map (cvv adr)) = zL adr 0 ls0)
    (k : zX cs zNo y.cls b nL none rm 0 ls0 [] h (zEv cs Q)) : zMv cs y b nL rm as h Q := by
  intro l D cA adr sz
  refine Met.ofW (cc := b) (maxL := nL) (ret := none) hy rfl ?_
  intro p e s m args below meth c s₁ B hml hv
  obtain ⟨rfl, hsz, hO, hP, hK, hD0⟩ := hv
  have hts := atoms_spec (ws := zTs y b nL none) B.pre
  subst hsz
  have hl := lv_entry (as.map (cvv adr)) (n := nL) (hln adr)
  rw [lg_entry_eq]
  rw [hla adr] at hl
  exact k p l e s m _ below meth c D cA adr _ s.heap [] _ ⟨B.exec, B.bytes, B.returns, hml, findClass_of_methodNamed B.named, fun w hw => hts w (List.mem_cons_of_mem _ hw), B.notSynchronized⟩ (fun q hq => Or.inr hq) trivial hO hK hP hD0.self va_S.rf hl
section ZX
variable {cs : zH → List aC} {G : zGv} {own : String} {cc : ByteArray} {nL : Nat} {ret : Option FieldType} {rm : Room} {pc : Nat} {ls : List (Option Value)} {st : List Value} {h : zH} {E : zF}

theorem zx_iconst {n : Int} (hd : decode cc pc = .ok (.iconst n, 1))
    (k : zX cs G own cc nL ret rm (pc + 1) ls (.int (iI n) :: st) h E) : zX cs G own cc nL ret rm pc ls st h E := by
  intro p l e s m args below meth c D cA adr A H locs lsa C hA hG hO hK hP hD hS hl
  exact lv_iconst C.1 C.2.1 hd rfl (k p l e s m args below meth c D cA adr A H locs lsa C hA hG hO hK hP hD hS hl)

theorem zx_bipush {n : Int} (hd : decode cc pc = .ok (.bipush n, 2)) (hv : (Int8.ofInt n).toInt32 = iI n)
    (k : zX cs G own cc nL ret rm (pc + 2) ls (.int (iI n) :: st) h E) : zX cs G own cc nL ret rm pc ls st h E := by
  intro p l e s m args below meth c D cA adr A H locs lsa C hA hG hO hK hP hD hS hl
  exact lv_bipush C.1 C.2.1 hd hv (k p l e s m args below meth c D cA adr A H locs lsa C hA hG hO hK hP hD hS hl)

theorem zx_sipush {n : Int} (hd : decode cc pc = .ok (.sipush n, 3)) (hv : (Int16.ofInt n).toInt32 = iI n)
    (k : zX cs G own cc nL ret rm (pc + 3) ls (.int (iI n) :: st) h E) : zX cs G own cc nL ret rm pc ls st h E := by
  intro p l e s m args below meth c D cA adr A H locs lsa C hA hG hO hK hP hD hS hl
  exact lv_sipush C.1 C.2.1 hd hv (k p l e s m args below meth c D cA adr A H locs lsa C hA hG hO hK hP hD hS hl)

theorem zx_ldc {n : Int} {idx : Nat} (hd : decode cc pc = .ok (.ldc idx, 2)) (hw : Cond.constant own idx (iI n) ∈ zU)
    (k : zX cs G own cc nL ret rm (pc + 2) ls (.int (iI n) :: st) h E) : zX cs G own cc nL ret rm pc ls st h E := by
  intro p l e s m args below meth c D cA adr A H locs lsa C hA hG hO hK hP hD hS hl
  exact lv_ldc C.1 C.2.1 C.2.2.2.2.1 (C.2.2.2.2.2.1 _ hw) hd (k p l e s m args below meth c D cA adr A H locs lsa C hA hG hO hK hP hD hS hl)

theorem zx_iload_n {j : Fin 4} {i : Nat} {x : Int32} (hd : decode cc pc = .ok (.iload_n j, 1)) (hi : (j : Nat) = i) (hv : ls[i]? = some (some (.int x)))
    (k : zX cs G own cc nL ret rm (pc + 1) ls (.int x :: st) h E) : zX cs G own cc nL ret rm pc ls st h E := by
  intro p l e s m args below meth c D cA adr A H locs lsa C hA hG hO hK hP hD hS hl
  exact lv_iload_n C.1 C.2.1 hd hi (zL_at hl hv) (k p l e s m args below meth c D cA adr A H locs lsa C hA hG hO hK hP hD hS hl)

theorem zx_iload {i : Nat} {x : Int32} (hd : decode cc pc = .ok (.iload i, 2)) (hv : ls[i]? = some (some (.int x)))
    (k : zX cs G own cc nL ret rm (pc + 2) ls (.int x :: st) h E) : zX cs G own cc nL ret rm pc ls st h E := by
  intro p l e s m args below meth c D cA adr A H locs lsa C hA hG hO hK hP hD hS hl
  exact lv_iload C.1 C.2.1 hd (zL_at hl hv) (k p l e s m args below meth c D cA adr A H locs lsa C hA hG hO hK hP hD hS hl)

theorem zx_aload_n {j : Fin 4} {i : Nat} {x : Nat} (hd : decode cc pc = .ok (.aload_n j, 1)) (hi : (j : Nat) = i) (hv : ls[i]? = some (some (.ref x)))
    (k : zX cs G own cc nL ret rm (pc + 1) ls (.ref x :: st) h E) : zX cs G own cc nL ret rm pc ls st h E := by
  intro p l e s m args below meth c D cA adr A H locs lsa C hA hG hO hK hP hD hS hl
  exact lv_aload_n C.1 C.2.1 hd hi (zL_at hl hv) (k p l e s m args below meth c D cA adr A H locs lsa C hA hG hO hK hP hD hS hl)

theorem zx_aload {i : Nat} {x : Nat} (hd : decode cc pc = .ok (.aload i, 2)) (hv : ls[i]? = some (some (.ref x)))
    (k : zX cs G own cc nL ret rm (pc + 2) ls (.ref x :: st) h E) : zX cs G own cc nL ret rm pc ls st h E := by
  intro p l e s m args below meth c D cA adr A H locs lsa C hA hG hO hK hP hD hS hl
  exact lv_aload C.1 C.2.1 hd (zL_at hl hv) (k p l e s m args below meth c D cA adr A H locs lsa C hA hG hO hK hP hD hS hl)

theorem zx_istore_n {j : Fin 4} {i : Nat} {x : Int32} (hd : decode cc pc = .ok (.istore_n j, 1)) (hi : (j : Nat) = i) (hn : i < nL) (hc : zNL ls i = true)
    (k : zX cs G own cc nL ret rm (pc + 1) (ls.set i (some (.int x))) st h E) : zX cs G own cc nL ret rm pc ls (.int x :: st) h E := by
  intro p l e s m args below meth c D cA adr A H locs lsa C hA hG hO hK hP hD hS hl
  exact lv_istore_n C.1 C.2.1 hd hi hl hn rfl (fun ls2 hl2 => k p l e s m args below meth c D cA adr A H locs ls2 C hA hG hO hK hP hD hS (zL_put hc hl2))
theorem zx_istore {i : Nat} {x : Int32} (hd : decode cc pc = .ok (.istore i, 2)) (hn : i < nL) (hc : zNL ls i = true)
    (k : zX cs G own cc nL ret rm (pc + 2) (ls.set i (some (.int x))) st h E) : zX cs G own cc nL ret rm pc ls (.int x :: st) h E := by
  intro p l e s m args below meth c D cA adr A H locs lsa C hA hG hO hK hP hD hS hl
  exact lv_istore C.1 C.2.1 hd hl hn rfl (fun ls2 hl2 => k p l e s m args below meth c D cA adr A H locs ls2 C hA hG hO hK hP hD hS (zL_put hc hl2))
theorem zx_iinc {i : Nat} {n : Int} {a : Int} (hd : decode cc pc = .ok (.iinc i n, 3)) (hn : i < nL) (hc : zNL ls i = true) (hv : ls[i]? = some (some (.int (iI a))))
    (k : zX cs G own cc nL ret rm (pc + 3) (ls.set i (some (.int (iI (a + n))))) st h E) : zX cs G own cc nL ret rm pc ls st h E := by
  intro p l e s m args below meth c D cA adr A H locs lsa C hA hG hO hK hP hD hS hl
  obtain ⟨j, hj⟩ := List.getElem?_of_mem ((zL_in adr ls 0 (i, Value.int (iI a))).mpr ⟨i, .int (iI a), hv, by rw [Nat.zero_add]; rfl⟩)
  exact lv_iinc (v := iI (a + n)) C.1 C.2.1 hd hl hj (iI_add a n) hn rfl (fun ls2 hl2 => k p l e s m args below meth c D cA adr A H locs ls2 C hA hG hO hK hP hD hS (zL_put hc hl2))
theorem zx_iadd {a b : Int} (hd : decode cc pc = .ok (.iadd, 1))
    (k : zX cs G own cc nL ret rm (pc + 1) ls (.int (iI (a + b)) :: st) h E) : zX cs G own cc nL ret rm pc ls (.int (iI b) :: .int (iI a) :: st) h E := by
  intro p l e s m args below meth c D cA adr A H locs lsa C hA hG hO hK hP hD hS hl
  refine lv_iadd C.1 C.2.1 hd ?_
  rw [iI_add]
  exact k p l e s m args below meth c D cA adr A H locs lsa C hA hG hO hK hP hD hS hl

theorem zx_isub {a b : Int} (hd : decode cc pc = .ok (.isub, 1))
    (k : zX cs G own cc nL ret rm (pc + 1) ls (.int (iI (a - b)) :: st) h E) : zX cs G own cc nL ret rm pc ls (.int (iI b) :: .int (iI a) :: st) h E := by
  intro p l e s m args below meth c D cA adr A H locs lsa C hA hG hO hK hP hD hS hl
  refine lv_isub C.1 C.2.1 hd ?_
  rw [iI_sub]
  exact k p l e s m args below meth c D cA adr A H locs lsa C hA hG hO hK hP hD hS hl

theorem zx_imul {a b : Int} (hd : decode cc pc = .ok (.imul, 1))
    (k : zX cs G own cc nL ret rm (pc + 1) ls (.int (iI (a * b)) :: st) h E) : zX cs G own cc nL ret rm pc ls (.int (iI b) :: .int (iI a) :: st) h E := by
  intro p l e s m args below meth c D cA adr A H locs lsa C hA hG hO hK hP hD hS hl
  refine lv_imul C.1 C.2.1 hd ?_
  rw [iI_mul]
  exact k p l e s m args below meth c D cA adr A H locs lsa C hA hG hO hK hP hD hS hl

theorem zx_idiv {a b : Int} (hd : decode cc pc = .ok (.idiv, 1)) (h1 : 0 ≤ a) (h2 : a < 2147483648) (h3 : 0 < b) (h4 : b < 2147483648)
    (k : zX cs G own cc nL ret rm (pc + 1) ls (.int (iI (a / b)) :: st) h E) : zX cs G own cc nL ret rm pc ls (.int (iI b) :: .int (iI a) :: st) h E := by
  intro p l e s m args below meth c D cA adr A H locs lsa C hA hG hO hK hP hD hS hl
  refine lv_idiv C.1 C.2.1 hd ?_ ?_
  · rw [← iI_0, iI_eq (by omega) h4 (by omega) (by omega)]
    omega
  rw [iI_div h1 h2 h3 h4]
  exact k p l e s m args below meth c D cA adr A H locs lsa C hA hG hO hK hP hD hS hl

theorem zx_ishl {x y v : Int32} (hd : decode cc pc = .ok (.ishl, 1)) (hv : (x <<< (y &&& 31)) = v)
    (k : zX cs G own cc nL ret rm (pc + 1) ls (.int v :: st) h E) : zX cs G own cc nL ret rm pc ls (.int y :: .int x :: st) h E := by
  intro p l e s m args below meth c D cA adr A H locs lsa C hA hG hO hK hP hD hS hl
  subst hv
  exact lv_ishl C.1 C.2.1 hd (k p l e s m args below meth c D cA adr A H locs lsa C hA hG hO hK hP hD hS hl)

theorem zx_ishr {x y v : Int32} (hd : decode cc pc = .ok (.ishr, 1)) (hv : (x >>> (y &&& 31)) = v)
    (k : zX cs G own cc nL ret rm (pc + 1) ls (.int v :: st) h E) : zX cs G own cc nL ret rm pc ls (.int y :: .int x :: st) h E := by
  intro p l e s m args below meth c D cA adr A H locs lsa C hA hG hO hK hP hD hS hl
  subst hv
  exact lv_ishr C.1 C.2.1 hd (k p l e s m args below meth c D cA adr A H locs lsa C hA hG hO hK hP hD hS hl)

theorem zx_iand {x y v : Int32} (hd : decode cc pc = .ok (.iand, 1)) (hv : (x &&& y) = v)
    (k : zX cs G own cc nL ret rm (pc + 1) ls (.int v :: st) h E) : zX cs G own cc nL ret rm pc ls (.int y :: .int x :: st) h E := by
  intro p l e s m args below meth c D cA adr A H locs lsa C hA hG hO hK hP hD hS hl
  subst hv
  exact lv_iand C.1 C.2.1 hd (k p l e s m args below meth c D cA adr A H locs lsa C hA hG hO hK hP hD hS hl)

theorem zx_ior {x y v : Int32} (hd : decode cc pc = .ok (.ior, 1)) (hv : (x ||| y) = v)
    (k : zX cs G own cc nL ret rm (pc + 1) ls (.int v :: st) h E) : zX cs G own cc nL ret rm pc ls (.int y :: .int x :: st) h E := by
  intro p l e s m args below meth c D cA adr A H locs lsa C hA hG hO hK hP hD hS hl
  subst hv
  exact lv_ior C.1 C.2.1 hd (k p l e s m args below meth c D cA adr A H locs lsa C hA hG hO hK hP hD hS hl)

theorem zx_ixor {x y v : Int32} (hd : decode cc pc = .ok (.ixor, 1)) (hv : (x ^^^ y) = v)
    (k : zX cs G own cc nL ret rm (pc + 1) ls (.int v :: st) h E) : zX cs G own cc nL ret rm pc ls (.int y :: .int x :: st) h E := by
  intro p l e s m args below meth c D cA adr A H locs lsa C hA hG hO hK hP hD hS hl
  subst hv
  exact lv_ixor C.1 C.2.1 hd (k p l e s m args below meth c D cA adr A H locs lsa C hA hG hO hK hP hD hS hl)

theorem zx_iushr {x y v : Int32} (hd : decode cc pc = .ok (.iushr, 1)) (hv : (x.toUInt32 >>> (y.toUInt32 &&& Int32.toUInt32 31)).toInt32 = v)
    (k : zX cs G own cc nL ret rm (pc + 1) ls (.int v :: st) h E) : zX cs G own cc nL ret rm pc ls (.int y :: .int x :: st) h E := by
  intro p l e s m args below meth c D cA adr A H locs lsa C hA hG hO hK hP hD hS hl
  exact lv_iushr C.1 C.2.1 hd hv (k p l e s m args below meth c D cA adr A H locs lsa C hA hG hO hK hP hD hS hl)

theorem zx_dup {v : Value} (hd : decode cc pc = .ok (.dup, 1)) (hv : v.category = 1)
    (k : zX cs G own cc nL ret rm (pc + 1) ls (v :: v :: st) h E) : zX cs G own cc nL ret rm pc ls (v :: st) h E := by
  intro p l e s m args below meth c D cA adr A H locs lsa C hA hG hO hK hP hD hS hl
  exact lv_dup C.1 C.2.1 hd (by rw [cvv_cat]; exact hv) (k p l e s m args below meth c D cA adr A H locs lsa C hA hG hO hK hP hD hS hl)

theorem zx_dup2 {u v : Value} (hd : decode cc pc = .ok (.dup2, 1)) (hu : u.category = 1) (hv : v.category = 1)
    (k : zX cs G own cc nL ret rm (pc + 1) ls (u :: v :: u :: v :: st) h E) : zX cs G own cc nL ret rm pc ls (u :: v :: st) h E := by
  intro p l e s m args below meth c D cA adr A H locs lsa C hA hG hO hK hP hD hS hl
  exact lv_dup2_11 C.1 C.2.1 hd (by rw [cvv_cat]; exact hu) (by rw [cvv_cat]; exact hv) (k p l e s m args below meth c D cA adr A H locs lsa C hA hG hO hK hP hD hS hl)

theorem zx_pop {v : Value} (hd : decode cc pc = .ok (.pop, 1)) (hv : v.category = 1)
    (k : zX cs G own cc nL ret rm (pc + 1) ls st h E) : zX cs G own cc nL ret rm pc ls (v :: st) h E := by
  intro p l e s m args below meth c D cA adr A H locs lsa C hA hG hO hK hP hD hS hl
  exact lv_pop C.1 C.2.1 hd (by rw [cvv_cat]; exact hv) (k p l e s m args below meth c D cA adr A H locs lsa C hA hG hO hK hP hD hS hl)

theorem zx_icmp_eq {a b : Int} {off : Int} {tgt : Nat} (hd : decode cc pc = .ok (.if_icmp .eq off, 3)) (ht : (pc : Int) + off = (tgt : Int)) (ra : zOk h → -2147483648 ≤ a ∧ a < 2147483648) (rb : zOk h → -2147483648 ≤ b ∧ b < 2147483648)
    (kt : a = b → zX cs G own cc nL ret rm tgt ls st h E) (kf : a ≠ b → zX cs G own cc nL ret rm (pc + 3) ls st h E) : zX cs G own cc nL ret rm pc ls (.int (iI b) :: .int (iI a) :: st) h E := by
  intro p l e s m args below meth c D cA adr A H locs lsa C hA hG hO hK hP hD hS hl
  have hq := iI_eq (ra hO).1 (ra hO).2 (rb hO).1 (rb hO).2
  refine lv_icmp_eq C.1 C.2.1 hd ht (fun q => kt ?_ p l e s m args below meth c D cA adr A H locs lsa C hA hG hO hK hP hD hS hl) (fun q => kf ?_ p l e s m args below meth c D cA adr A H locs lsa C hA hG hO hK hP hD hS hl)

  · rw [hq] at q; omega
  · rw [hq] at q; omega

theorem zx_icmp_ne {a b : Int} {off : Int} {tgt : Nat} (hd : decode cc pc = .ok (.if_icmp .ne off, 3)) (ht : (pc : Int) + off = (tgt : Int)) (ra : zOk h → -2147483648 ≤ a ∧ a < 2147483648) (rb : zOk h → -2147483648 ≤ b ∧ b < 2147483648)
    (kt : a ≠ b → zX cs G own cc nL ret rm tgt ls st h E) (kf : a = b → zX cs G own cc nL ret rm (pc + 3) ls st h E) : zX cs G own cc nL ret rm pc ls (.int (iI b) :: .int (iI a) :: st) h E := by
  intro p l e s m args below meth c D cA adr A H locs lsa C hA hG hO hK hP hD hS hl
  have hq := iI_eq (ra hO).1 (ra hO).2 (rb hO).1 (rb hO).2
  refine lv_icmp_ne C.1 C.2.1 hd ht (fun q => kt ?_ p l e s m args below meth c D cA adr A H locs lsa C hA hG hO hK hP hD hS hl) (fun q => kf ?_ p l e s m args below meth c D cA adr A H locs lsa C hA hG hO hK hP hD hS hl)

  · rw [hq] at q; omega
  · rw [hq] at q; omega

theorem zx_icmp_lt {a b : Int} {off : Int} {tgt : Nat} (hd : decode cc pc = .ok (.if_icmp .lt off, 3)) (ht : (pc : Int) + off = (tgt : Int)) (ra : zOk h → -2147483648 ≤ a ∧ a < 2147483648) (rb : zOk h → -2147483648 ≤ b ∧ b < 2147483648)
    (kt : a < b → zX cs G own cc nL ret rm tgt ls st h E) (kf : b ≤ a → zX cs G own cc nL ret rm (pc + 3) ls st h E) : zX cs G own cc nL ret rm pc ls (.int (iI b) :: .int (iI a) :: st) h E := by
  intro p l e s m args below meth c D cA adr A H locs lsa C hA hG hO hK hP hD hS hl
  have hq := iI_lt (ra hO).1 (ra hO).2 (rb hO).1 (rb hO).2
  refine lv_icmp_lt C.1 C.2.1 hd ht (fun q => kt ?_ p l e s m args below meth c D cA adr A H locs lsa C hA hG hO hK hP hD hS hl) (fun q => kf ?_ p l e s m args below meth c D cA adr A H locs lsa C hA hG hO hK hP hD hS hl)

  · rw [hq] at q; omega
  · rw [hq] at q; omega

theorem zx_icmp_ge {a b : Int} {off : Int} {tgt : Nat} (hd : decode cc pc = .ok (.if_icmp .ge off, 3)) (ht : (pc : Int) + off = (tgt : Int)) (ra : zOk h → -2147483648 ≤ a ∧ a < 2147483648) (rb : zOk h → -2147483648 ≤ b ∧ b < 2147483648)
    (kt : b ≤ a → zX cs G own cc nL ret rm tgt ls st h E) (kf : a < b → zX cs G own cc nL ret rm (pc + 3) ls st h E) : zX cs G own cc nL ret rm pc ls (.int (iI b) :: .int (iI a) :: st) h E := by
  intro p l e s m args below meth c D cA adr A H locs lsa C hA hG hO hK hP hD hS hl
  have hq := iI_le (rb hO).1 (rb hO).2 (ra hO).1 (ra hO).2
  refine lv_icmp_ge C.1 C.2.1 hd ht (fun q => kt ?_ p l e s m args below meth c D cA adr A H locs lsa C hA hG hO hK hP hD hS hl) (fun q => kf ?_ p l e s m args below meth c D cA adr A H locs lsa C hA hG hO hK hP hD hS hl)

  · rw [hq] at q; omega
  · rw [hq] at q; omega

theorem zx_icmp_gt {a b : Int} {off : Int} {tgt : Nat} (hd : decode cc pc = .ok (.if_icmp .gt off, 3)) (ht : (pc : Int) + off = (tgt : Int)) (ra : zOk h → -2147483648 ≤ a ∧ a < 2147483648) (rb : zOk h → -2147483648 ≤ b ∧ b < 2147483648)
    (kt : b < a → zX cs G own cc nL ret rm tgt ls st h E) (kf : a ≤ b → zX cs G own cc nL ret rm (pc + 3) ls st h E) : zX cs G own cc nL ret rm pc ls (.int (iI b) :: .int (iI a) :: st) h E := by
  intro p l e s m args below meth c D cA adr A H locs lsa C hA hG hO hK hP hD hS hl
  have hq := iI_lt (rb hO).1 (rb hO).2 (ra hO).1 (ra hO).2
  refine lv_icmp_gt C.1 C.2.1 hd ht (fun q => kt ?_ p l e s m args below meth c D cA adr A H locs lsa C hA hG hO hK hP hD hS hl) (fun q => kf ?_ p l e s m args below meth c D cA adr A H locs lsa C hA hG hO hK hP hD hS hl)

  · rw [hq] at q; omega
  · rw [hq] at q; omega

theorem zx_icmp_le {a b : Int} {off : Int} {tgt : Nat} (hd : decode cc pc = .ok (.if_icmp .le off, 3)) (ht : (pc : Int) + off = (tgt : Int)) (ra : zOk h → -2147483648 ≤ a ∧ a < 2147483648) (rb : zOk h → -2147483648 ≤ b ∧ b < 2147483648)
    (kt : a ≤ b → zX cs G own cc nL ret rm tgt ls st h E) (kf : b < a → zX cs G own cc nL ret rm (pc + 3) ls st h E) : zX cs G own cc nL ret rm pc ls (.int (iI b) :: .int (iI a) :: st) h E := by
  intro p l e s m args below meth c D cA adr A H locs lsa C hA hG hO hK hP hD hS hl
  have hq := iI_le (ra hO).1 (ra hO).2 (rb hO).1 (rb hO).2
  refine lv_icmp_le C.1 C.2.1 hd ht (fun q => kt ?_ p l e s m args below meth c D cA adr A H locs lsa C hA hG hO hK hP hD hS hl) (fun q => kf ?_ p l e s m args below meth c D cA adr A H locs lsa C hA hG hO hK hP hD hS hl)

  · rw [hq] at q; omega
  · rw [hq] at q; omega

theorem zx_if_eq {a : Int} {off : Int} {tgt : Nat} (hd : decode cc pc = .ok (.ifCond .eq off, 3)) (ht : (pc : Int) + off = (tgt : Int)) (ra : zOk h → -2147483648 ≤ a ∧ a < 2147483648)
    (kt : a = 0 → zX cs G own cc nL ret rm tgt ls st h E) (kf : a ≠ 0 → zX cs G own cc nL ret rm (pc + 3) ls st h E) : zX cs G own cc nL ret rm pc ls (.int (iI a) :: st) h E := by
  intro p l e s m args below meth c D cA adr A H locs lsa C hA hG hO hK hP hD hS hl
  have hq := iI_eq (b := 0) (ra hO).1 (ra hO).2 (by omega) (by omega)
  refine lv_if_eq C.1 C.2.1 hd ht (fun q => kt ?_ p l e s m args below meth c D cA adr A H locs lsa C hA hG hO hK hP hD hS hl) (fun q => kf ?_ p l e s m args below meth c D cA adr A H locs lsa C hA hG hO hK hP hD hS hl)

  · rw [← iI_0, hq] at q; omega
  · rw [← iI_0, hq] at q; omega

theorem zx_if_ne {a : Int} {off : Int} {tgt : Nat} (hd : decode cc pc = .ok (.ifCond .ne off, 3)) (ht : (pc : Int) + off = (tgt : Int)) (ra : zOk h → -2147483648 ≤ a ∧ a < 2147483648)
    (kt : a ≠ 0 → zX cs G own cc nL ret rm tgt ls st h E) (kf : a = 0 → zX cs G own cc nL ret rm (pc + 3) ls st h E) : zX cs G own cc nL ret rm pc ls (.int (iI a) :: st) h E := by
  intro p l e s m args below meth c D cA adr A H locs lsa C hA hG hO hK hP hD hS hl
  have hq := iI_eq (b := 0) (ra hO).1 (ra hO).2 (by omega) (by omega)
  refine lv_if_ne C.1 C.2.1 hd ht (fun q => kt ?_ p l e s m args below meth c D cA adr A H locs lsa C hA hG hO hK hP hD hS hl) (fun q => kf ?_ p l e s m args below meth c D cA adr A H locs lsa C hA hG hO hK hP hD hS hl)

  · rw [← iI_0, hq] at q; omega
  · rw [← iI_0, hq] at q; omega

theorem zx_if_lt {a : Int} {off : Int} {tgt : Nat} (hd : decode cc pc = .ok (.ifCond .lt off, 3)) (ht : (pc : Int) + off = (tgt : Int)) (ra : zOk h → -2147483648 ≤ a ∧ a < 2147483648)
    (kt : a < 0 → zX cs G own cc nL ret rm tgt ls st h E) (kf : 0 ≤ a → zX cs G own cc nL ret rm (pc + 3) ls st h E) : zX cs G own cc nL ret rm pc ls (.int (iI a) :: st) h E := by
  intro p l e s m args below meth c D cA adr A H locs lsa C hA hG hO hK hP hD hS hl
  have hq := iI_lt (b := 0) (ra hO).1 (ra hO).2 (by omega) (by omega)
  refine lv_if_lt C.1 C.2.1 hd ht (fun q => kt ?_ p l e s m args below meth c D cA adr A H locs lsa C hA hG hO hK hP hD hS hl) (fun q => kf ?_ p l e s m args below meth c D cA adr A H locs lsa C hA hG hO hK hP hD hS hl)

  · rw [← iI_0, hq] at q; omega
  · rw [← iI_0, hq] at q; omega

theorem zx_if_le {a : Int} {off : Int} {tgt : Nat} (hd : decode cc pc = .ok (.ifCond .le off, 3)) (ht : (pc : Int) + off = (tgt : Int)) (ra : zOk h → -2147483648 ≤ a ∧ a < 2147483648)
    (kt : a ≤ 0 → zX cs G own cc nL ret rm tgt ls st h E) (kf : 0 < a → zX cs G own cc nL ret rm (pc + 3) ls st h E) : zX cs G own cc nL ret rm pc ls (.int (iI a) :: st) h E := by
  intro p l e s m args below meth c D cA adr A H locs lsa C hA hG hO hK hP hD hS hl
  have hq := iI_le (b := 0) (ra hO).1 (ra hO).2 (by omega) (by omega)
  refine lv_if_le C.1 C.2.1 hd ht (fun q => kt ?_ p l e s m args below meth c D cA adr A H locs lsa C hA hG hO hK hP hD hS hl) (fun q => kf ?_ p l e s m args below meth c D cA adr A H locs lsa C hA hG hO hK hP hD hS hl)

  · rw [← iI_0, hq] at q; omega
  · rw [← iI_0, hq] at q; omega

theorem zx_if_gt {a : Int} {off : Int} {tgt : Nat} (hd : decode cc pc = .ok (.ifCond .gt off, 3)) (ht : (pc : Int) + off = (tgt : Int)) (ra : zOk h → -2147483648 ≤ a ∧ a < 2147483648)
    (kt : 0 < a → zX cs G own cc nL ret rm tgt ls st h E) (kf : a ≤ 0 → zX cs G own cc nL ret rm (pc + 3) ls st h E) : zX cs G own cc nL ret rm pc ls (.int (iI a) :: st) h E := by
  intro p l e s m args below meth c D cA adr A H locs lsa C hA hG hO hK hP hD hS hl
  have hq := iI_lt (a := 0) (b := a) (by omega) (by omega) (ra hO).1 (ra hO).2
  refine lv_if_gt C.1 C.2.1 hd ht (fun q => kt ?_ p l e s m args below meth c D cA adr A H locs lsa C hA hG hO hK hP hD hS hl) (fun q => kf ?_ p l e s m args below meth c D cA adr A H locs lsa C hA hG hO hK hP hD hS hl)

  · rw [← iI_0, hq] at q; omega
  · rw [← iI_0, hq] at q; omega

theorem zx_if_ge {a : Int} {off : Int} {tgt : Nat} (hd : decode cc pc = .ok (.ifCond .ge off, 3)) (ht : (pc : Int) + off = (tgt : Int)) (ra : zOk h → -2147483648 ≤ a ∧ a < 2147483648)
    (kt : 0 ≤ a → zX cs G own cc nL ret rm tgt ls st h E) (kf : a < 0 → zX cs G own cc nL ret rm (pc + 3) ls st h E) : zX cs G own cc nL ret rm pc ls (.int (iI a) :: st) h E := by
  intro p l e s m args below meth c D cA adr A H locs lsa C hA hG hO hK hP hD hS hl
  have hq := iI_le (a := 0) (b := a) (by omega) (by omega) (ra hO).1 (ra hO).2
  refine lv_if_ge C.1 C.2.1 hd ht (fun q => kt ?_ p l e s m args below meth c D cA adr A H locs lsa C hA hG hO hK hP hD hS hl) (fun q => kf ?_ p l e s m args below meth c D cA adr A H locs lsa C hA hG hO hK hP hD hS hl)

  · rw [← iI_0, hq] at q; omega
  · rw [← iI_0, hq] at q; omega

theorem zx_goto {off : Int} {tgt : Nat} (hd : decode cc pc = .ok (.goto off, 3)) (ht : (pc : Int) + off = (tgt : Int)) (k : zX cs G own cc nL ret rm tgt ls st h E) : zX cs G own cc nL ret rm pc ls st h E := by
  intro p l e s m args below meth c D cA adr A H locs lsa C hA hG hO hK hP hD hS hl
  exact lv_goto C.1 C.2.1 hd ht (k p l e s m args below meth c D cA adr A H locs lsa C hA hG hO hK hP hD hS hl)
theorem zx_swIn {dflt lo hi : Int} {offs : Array Int} {len : Nat} {a off : Int} {tgt : Nat} (hd : decode cc pc = .ok (.tableswitch dflt lo hi offs, len)) (ra : zOk h → -2147483648 ≤ a ∧ a < 2147483648) (h1 : lo ≤ a) (h2 : a ≤ hi) (ho : offs[(a - lo).toNat]? = some off) (ht : (pc : Int) + off = (tgt : Int)) (k : zX cs G own cc nL ret rm tgt ls st h E) : zX cs G own cc nL ret rm pc ls (.int (iI a) :: st) h E := by
  intro p l e s m args below meth c D cA adr A H locs lsa C hA hG hO hK hP hD hS hl
  have e9 := iI_toInt (ra hO).1 (ra hO).2
  exact lv_tableIn C.1 C.2.1 hd (by rw [e9]; omega) (by rw [e9]; omega) (by rw [e9]; exact ho) ht (k p l e s m args below meth c D cA adr A H locs lsa C hA hG hO hK hP hD hS hl)
theorem zx_swOut {dflt lo hi : Int} {offs : Array Int} {len : Nat} {a : Int} {tgt : Nat} (hd : decode cc pc = .ok (.tableswitch dflt lo hi offs, len)) (ra : zOk h → -2147483648 ≤ a ∧ a < 2147483648) (h1 : a < lo ∨ hi < a) (ht : (pc : Int) + dflt = (tgt : Int)) (k : zX cs G own cc nL ret rm tgt ls st h E) : zX cs G own cc nL ret rm pc ls (.int (iI a) :: st) h E := by
  intro p l e s m args below meth c D cA adr A H locs lsa C hA hG hO hK hP hD hS hl
  have e9 := iI_toInt (ra hO).1 (ra hO).2
  exact lv_tableOut C.1 C.2.1 hd (by rw [e9]; exact h1) ht (k p l e s m args below meth c D cA adr A H locs lsa C hA hG hO hK hP hD hS hl)

theorem zx_getS {q ci k0 idx N : Nat} {K : String} {T : u_T} {kk : Nat} (hf : zFld cs q ci k0 kk) (hcl : vwCl[ci]? = some (K, T, N)) (hk : k0 < N) (hin : ∀ w ∈ u_ws K T N, w ∈ zU) (hlk : Cond.fieldLink own idx (T k0).1 (T k0).2.1 (T k0).2.2.1 ∈ zU) (hd : decode cc pc = .ok (.getfield idx, 3)) (k : zX cs G own cc nL ret rm (pc + 3) ls (.int (iI (gs h kk)) :: st) h E) : zX cs G own cc nL ret rm pc ls (.ref q :: st) h E := by
  intro p l e s m args below meth c D cA adr A H locs lsa C hA hG hO hK hP hD hS hl
  obtain ⟨fs, f1, f2, f3, f4⟩ := hf h
  exact va_get (D := D) (ci := ci) (v := .int (iI (gs h kk))) (C := K) (T := T) (N := N) C.1 C.2.1 C.2.2.2.2.2.1 hin C.2.2.2.2.1 hK hP q (zW_obj f1) hcl k0 hk (C.2.2.2.2.2.1 _ hlk) (fun _ h9 => h9) (by rw [List.getElem?_map, f2]; rfl) hd (k p l e s m args below meth c D cA adr A H locs lsa C hA hG hO hK hP hD hS hl)
theorem zx_getR {q ci k0 idx N : Nat} {K : String} {T : u_T} {r : Nat} (hf : zRef cs q ci k0 r) (hcl : vwCl[ci]? = some (K, T, N)) (hk : k0 < N) (hin : ∀ w ∈ u_ws K T N, w ∈ zU) (hlk : Cond.fieldLink own idx (T k0).1 (T k0).2.1 (T k0).2.2.1 ∈ zU) (hd : decode cc pc = .ok (.getfield idx, 3)) (k : zX cs G own cc nL ret rm (pc + 3) ls (.ref r :: st) h E) : zX cs G own cc nL ret rm pc ls (.ref q :: st) h E := by
  intro p l e s m args below meth c D cA adr A H locs lsa C hA hG hO hK hP hD hS hl
  obtain ⟨fs, f1, f2⟩ := hf h
  exact va_get (D := D) (ci := ci) (v := .ref (adr r)) (C := K) (T := T) (N := N) C.1 C.2.1 C.2.2.2.2.2.1 hin C.2.2.2.2.1 hK hP q (zW_obj f1) hcl k0 hk (C.2.2.2.2.2.1 _ hlk) (fun _ h9 => h9) (by rw [List.getElem?_map, f2]; rfl) hd (k p l e s m args below meth c D cA adr A H locs lsa C hA hG hO hK hP hD hS hl)
theorem zx_put {q ci k0 idx N : Nat} {K : String} {T : u_T} {kk : Nat} {v : Int} {ty : FieldType} (hf : zFld cs q ci k0 kk) (hcl : vwCl[ci]? = some (K, T, N)) (hk : k0 < N) (hin : ∀ w ∈ u_ws K T N, w ∈ zU) (hlk : Cond.fieldLink own idx (T k0).1 (T k0).2.1 (T k0).2.2.1 ∈ zU) (ty0 : Nat → FieldType) (hty : ∀ k, k < N → parseFieldDescriptor (T k).2.2.1 = some (ty0 k)) (hnm : ∀ a, a < N → ∀ b, b < N → a ≠ b → (T a).2.1 ≠ (T b).2.1) (hfin : (T k0).2.2.2 = false) (hd9 : parseFieldDescriptor (T k0).2.2.1 = some ty) (hn : narrow ty (.int (iI v)) = .int (iI v)) (hfit : fits ty (.int (iI v)) = true)
    (hd : decode cc pc = .ok (.putfield idx, 3)) (rv : zOk h → -2147483648 ≤ v ∧ v < 2147483648) (k : zX cs G own cc nL ret rm (pc + 3) ls st (ps h kk v) E) : zX cs G own cc nL ret rm pc ls (.int (iI v) :: .ref q :: st) h E := by
  intro p l e_ s m args below meth c D cA adr A H locs lsa C hA hG hO hK hP hD hS hl
  obtain ⟨fs, f1, f2, f3, f4⟩ := hf h
  refine va_put (D := D) (ci := ci) (v := .int (iI v)) (ty := ty) (C := K) (T := T) (N := N) C.1 C.2.1 C.2.2.2.2.2.1 hin ty0 hty hnm C.2.2.2.2.1 hK hP hD hS q (zW_obj f1) hcl k0 hk (C.2.2.2.2.2.1 _ hlk) (fun _ h9 => h9) hfin hd9 hn hfit (by rw [List.length_map]; exact f3) hd (fun H1 locs1 hP1 hD1 hS1 => ?_)
  have e : (zW cA adr 0 (cs h)).set q (adr q, .inr (ci, (fs.map (cvv adr)).set k0 (.int (iI v)))) = zW cA adr 0 (cs (ps h kk v)) := by
    have e8 : zE cA adr (.inl (ci, fs.set k0 (.int (iI v)))) = .inr (ci, (fs.map (cvv adr)).set k0 (.int (iI v))) := by
      show Sum.inr (ci, (fs.set k0 (Value.int (iI v))).map (cvv adr)) = _
      rw [List.map_set]
      rfl
    rw [← f4 v, ← zW_set, Nat.zero_add, e8]
  rw [e] at hP1 hD1
  exact k p l e_ s m args below meth c D cA adr A H1 locs1 lsa C hA hG (zOk_ps hO (rv hO)) hK hP1 hD1 hS1 hl

theorem zx_iaload {q n : Nat} {i : Int} (hf : zArr cs q 0 n) (hd : decode cc pc = .ok (.iaload, 1)) (h0 : 0 ≤ i) (h1 : i < (n : Int)) (h2 : i < 2147483648) (k : zX cs G own cc nL ret rm (pc + 1) ls (.int (iI (ga h q i)) :: st) h E) : zX cs G own cc nL ret rm pc ls (.int (iI i) :: .ref q :: st) h E := by
  intro p l e s m args below meth c D cA adr A H locs lsa C hA hG hO hK hP hD hS hl
  refine va_iald (D := D) C.1 C.2.1 hK hP q 0 (zW_arr (hf h).1) rfl (zvp h0 h1 h2) hd ?_
  rw [zclamp h0 h2, Int.toNat_of_nonneg h0]
  exact k p l e s m args below meth c D cA adr A H locs lsa C hA hG hO hK hP hD hS hl

theorem zx_iastore {q n : Nat} {i v : Int} (hf : zArr cs q 0 n) (hd : decode cc pc = .ok (.iastore, 1)) (h0 : 0 ≤ i) (h1 : i < (n : Int)) (h2 : i < 2147483648) (rv : zOk h → -2147483648 ≤ v ∧ v < 2147483648) (k : zX cs G own cc nL ret rm (pc + 1) ls st (pa h q i v) E) : zX cs G own cc nL ret rm pc ls (.int (iI v) :: .int (iI i) :: .ref q :: st) h E := by
  intro p l e s m args below meth c D cA adr A H locs lsa C hA hG hO hK hP hD hS hl
  refine va_iast (D := D) C.1 C.2.1 hK hP hD hS q 0 (zW_arr (hf h).1) rfl (zvp h0 h1 h2) hd (fun H1 locs1 hP1 hD1 hS1 => ?_)
  have e9 : (zW cA adr 0 (cs h)).set q (adr q, .inl (cA 0, n, .inl (upd (fun j => iI (ga h q (j : Int))) (iI i).toNatClampNeg (iI v)))) = zW cA adr 0 (cs (pa h q i v)) := by
    rw [← (hf h).2 (upd (fun j => iI (ga h q (j : Int))) (iI i).toNatClampNeg (iI v)) (pa h q i v) (fun j => ?_) (fun b hb9 j => ?_) (fun _ => rfl), ← zW_set, Nat.zero_add]
    · rfl
    · rw [zclamp h0 h2, ga_pa]
      unfold upd
      by_cases hj : j = i.toNat
      · rw [if_pos hj, if_pos ⟨rfl, by omega⟩]
      · rw [if_neg hj, if_neg (fun z => hj (by omega))]
    · rw [ga_pa, if_neg (fun z => hb9 z.1)]
  rw [e9] at hP1 hD1
  exact k p l e s m args below meth c D cA adr A H1 locs1 lsa C hA hG (zOk_pa hO (rv hO)) hK hP1 hD1 hS1 hl

theorem zx_baload {q n : Nat} {i : Int} (hf : zArr cs q 1 n) (hd : decode cc pc = .ok (.baload, 1)) (h0 : 0 ≤ i) (h1 : i < (n : Int)) (h2 : i < 2147483648) (k : zX cs G own cc nL ret rm (pc + 1) ls (.int (iI (ga h q i)) :: st) h E) : zX cs G own cc nL ret rm pc ls (.int (iI i) :: .ref q :: st) h E := by
  intro p l e s m args below meth c D cA adr A H locs lsa C hA hG hO hK hP hD hS hl
  refine va_zald (D := D) C.1 C.2.1 hK hP q 1 (zW_arr (hf h).1) rfl (zvp h0 h1 h2) hd ?_
  rw [zclamp h0 h2, Int.toNat_of_nonneg h0]
  exact k p l e s m args below meth c D cA adr A H locs lsa C hA hG hO hK hP hD hS hl

theorem zx_bastore {q n : Nat} {i v : Int} (hf : zArr cs q 1 n) (hd : decode cc pc = .ok (.bastore, 1)) (hb : v = 0 ∨ v = 1) (h0 : 0 ≤ i) (h1 : i < (n : Int)) (h2 : i < 2147483648) (rv : zOk h → -2147483648 ≤ v ∧ v < 2147483648) (k : zX cs G own cc nL ret rm (pc + 1) ls st (pa h q i v) E) : zX cs G own cc nL ret rm pc ls (.int (iI v) :: .int (iI i) :: .ref q :: st) h E := by
  intro p l e s m args below meth c D cA adr A H locs lsa C hA hG hO hK hP hD hS hl
  refine va_zast (D := D) C.1 C.2.1 hK hP hD hS q 1 (zW_arr (hf h).1) rfl (zvp h0 h1 h2) hd (fun H1 locs1 hP1 hD1 hS1 => ?_)
  have hz : vp_nar .boolean (iI v) = iI v := by rcases hb with rfl | rfl <;> decide +kernel
  rw [hz] at hP1 hD1
  have e9 : (zW cA adr 0 (cs h)).set q (adr q, .inl (cA 1, n, .inl (upd (fun j => iI (ga h q (j : Int))) (iI i).toNatClampNeg (iI v)))) = zW cA adr 0 (cs (pa h q i v)) := by
    rw [← (hf h).2 (upd (fun j => iI (ga h q (j : Int))) (iI i).toNatClampNeg (iI v)) (pa h q i v) (fun j => ?_) (fun b hb9 j => ?_) (fun _ => rfl), ← zW_set, Nat.zero_add]
    · rfl
    · rw [zclamp h0 h2, ga_pa]
      unfold upd
      by_cases hj : j = i.toNat
      · rw [if_pos hj, if_pos ⟨rfl, by omega⟩]
      · rw [if_neg hj, if_neg (fun z => hj (by omega))]
    · rw [ga_pa, if_neg (fun z => hb9 z.1)]
  rw [e9] at hP1 hD1
  exact k p l e s m args below meth c D cA adr A H1 locs1 lsa C hA hG (zOk_pa hO (rv hO)) hK hP1 hD1 hS1 hl

end ZX
section ZR
variable {cs : zH → List aC} {G : zGv} {own : String} {cc : ByteArray} {nL : Nat} {rm : Room} {pc : Nat} {ls : List (Option Value)} {st : List Value} {h : zH} {E : zF}

theorem zx_iret {z : Int} {Q : Int → zH → Prop} (hd : decode cc pc = .ok (.ireturn, 1)) (rz : zOk h → -2147483648 ≤ z ∧ z < 2147483648) (hq : Q z h) : zX cs G own cc nL (some .int) rm pc ls [.int (iI z)] h (zEi cs Q) := by
  intro p l e s m args below meth c D cA adr A H locs lsa C hA hG hO hK hP hD hS hl
  have hlocks : meth.locks = false := C.2.2.2.2.2.2
  exact W.iret (v := iI z) C.1 C.2.1 C.2.2.1 (fun t ht hW => ⟨⟨iI z, h, rfl, ⟨z, rfl, rz hO, hq⟩, ⟨hO, by rw [ht]; exact hP, va_K.moved hW.alike hK, hD⟩⟩, hS.F ht⟩) hS.2.2 hd
theorem zx_zret {z : Int} {Q : Int → zH → Prop} (hd : decode cc pc = .ok (.ireturn, 1)) (hz : z = 0 ∨ z = 1) (hq : Q z h) : zX cs G own cc nL (some .boolean) rm pc ls [.int (iI z)] h (zEi cs Q) := by
  intro p l e s m args below meth c D cA adr A H locs lsa C hA hG hO hK hP hD hS hl
  have hlocks : meth.locks = false := C.2.2.2.2.2.2
  exact W.zret (v := iI z) C.1 C.2.1 C.2.2.1 (by rcases hz with rfl | rfl <;> decide +kernel) (fun t ht hW => ⟨⟨iI z, h, rfl, ⟨z, rfl, by omega, hq⟩, ⟨hO, by rw [ht]; exact hP, va_K.moved hW.alike hK, hD⟩⟩, hS.F ht⟩) hS.2.2 hd
theorem zx_vret {Q : zH → Prop} (hd : decode cc pc = .ok (.return_, 1)) (hq : Q h) : zX cs G own cc nL none rm pc ls [] h (zEv cs Q) := by
  intro p l e s m args below meth c D cA adr A H locs lsa C hA hG hO hK hP hD hS hl
  have hlocks : meth.locks = false := C.2.2.2.2.2.2
  exact W.vret C.1 C.2.1 C.2.2.1 (fun t ht hW => ⟨⟨h, rfl, hq, ⟨hO, by rw [ht]; exact hP, va_K.moved hW.alike hK, hD⟩⟩, hS.F ht⟩) hS.2.2 hd

theorem zFree {A : Nat → Prop} {ws : va_W} {s : State} {H : Heap} {locs : List Loc} (hD : va_D A ws) (hS : va_S A s.heap H locs) (hA : ∀ q : Nat, s.heap.size ≤ q → A q) : ∀ q, va_A ws H.size q → A q := by
  intro q hq
  rcases hq with ⟨k, e, hk⟩ | hq
  · exact hD.2 k (q, e) hk
  · exact hA q (Nat.le_trans hS.1 hq)
theorem zBlind {cs : zH → List aC} {D : va_G} {cA : Nat → ClassId} {adr : Nat → Nat} {h : zH} {sz : Nat} {av : List Value} : FrameBlind (va_Pc av (fun U => U.heap.size = sz ∧ zB cs D cA adr h (fun _ => True) U)) := fun a U g mk q => by
  obtain ⟨q0, q1, qO, qP, qK, qD⟩ := q
  exact ⟨q0, q1, qO, qP, va_K.moved (u := U) (U := U.calling g mk a) (Vm.Alike.refl U.vm) qK, qD⟩
theorem zCats (adr : Nat → Nat) (st : List Value) : ((st.map (cvv adr)).map fun v => v.category).sum = (st.map fun v => v.category).sum := by
  induction st with
  | nil => rfl
  | cons v r ih => simp only [List.map_cons, List.sum_cons, ih, cvv_cat]
end ZR
section ZC
variable {cs : zH → List aC} {G : zGv} {own : String} {cc : ByteArray} {nL : Nat} {ret : Option FieldType} {rm : Room} {pc : Nat} {ls : List (Option Value)} {st st0 : List Value} {h : zH} {E : zF}

theorem zx_invVi {y : MethodName} {b : ByteArray} {nL2 idx n : Nat} {rm2 : Room} {as : List Value} {r2 : FieldType} {Q : Int → zH → Prop} {q ci : Nat} {K : String} {T : u_T} {N : Nat} (hd : decode cc pc = .ok (.invokevirtual idx, 3)) (hlk : Cond.methodLink own idx y ∈ zU) (hcal : zCal K y b nL2 (some r2)) (hcl : vwCl[ci]? = some (K, T, N)) (hob : ∃ fs, (cs h)[q]? = some (.inl (ci, fs))) (hlen : as.length = n ∧ (parseMethodDescriptor y.desc).map (fun d => d.parameters.length) = some n) (hrc : rm2.cells = 0 ∧ rm2.slots = 0) (hR : rm2.frames + 1 ≤ rm.frames ∧ 8 + (nL2 + 11) + rm2.locals ≤ rm.locals) (hM : zMi cs y b nL2 r2 rm2 (.ref q :: as) h Q) (hst : st0 = as.reverse ++ .ref q :: st) (hcat : (st.map fun v => v.category).sum ≤ 8)
    (k : ∀ (z : Int) (h2 : zH), -2147483648 ≤ z → z < 2147483648 → Q z h2 → zX cs G own cc nL ret rm (pc + 3) ls (.int (iI z) :: st) h2 E) : zX cs G own cc nL ret rm pc ls st0 h E := by
  intro p l e s m args below meth c D cA adr A H locs lsa C hA hG hO hK hP hD hS hl
  subst hst

  obtain ⟨fs, hob⟩ := hob

  have hF := zFree hD hS hA

  refine va_calli (va_runV (As := as.map (cvv adr)) (rest := st.map (cvv adr)) (n := n) ⟨C.1, C.2.1, C.2.2.2.1, C.2.2.2.2.1, C.2.2.2.2.2.1⟩ (hM l D cA adr H.size) (cwV n C.2.2.2.2.2.1 (zCal_good hlk hcal) rfl hrc.1 hrc.2 ⟨hcal.2.2.2.2.1.1, hcal.2.2.2.2.1.2.1, hcal.2.2.2.2.1.2.2, hlen.2⟩ hR) ⟨zBlind, va_recv hK hP hcl (zW_obj hob), fun U hU hW => ⟨rfl, by rw [hU], hO, by rw [hU]; exact hP, va_K.moved hW.alike hK, hD.weaken (fun _ _ _ _ => trivial)⟩⟩ rfl (by rw [List.length_map]; exact hlen.1) hl.1 (by rw [List.map_append, List.map_reverse]; rfl) (lv_room (by rw [zCats]; exact hcat)) hd ⟨Nat.zero_le _, Nat.zero_le _⟩) hS (fun q9 _ h9 => hF q9 h9) hF (fun r u t H1 locs1 ht hvm hw hB hz1 hk1 hS1 => ?_)

  obtain ⟨z, rfl, rz, hw⟩ := hw
  obtain ⟨hO1, hP1, hK1, hD1⟩ := hB
  exact k z u rz.1 rz.2 hw p l e s m args below meth c D cA adr A H1 locs1 lsa C hA hG hO1 hK (by rw [← ht]; exact hP1) (hD1.weaken (fun k9 q9 _ h9 => hF q9.1 h9)) hS1 hl

theorem zx_invVv {y : MethodName} {b : ByteArray} {nL2 idx n : Nat} {rm2 : Room} {as : List Value} {Q : zH → Prop} {q ci : Nat} {K : String} {T : u_T} {N : Nat} (hd : decode cc pc = .ok (.invokevirtual idx, 3)) (hlk : Cond.methodLink own idx y ∈ zU) (hcal : zCal K y b nL2 none) (hcl : vwCl[ci]? = some (K, T, N)) (hob : ∃ fs, (cs h)[q]? = some (.inl (ci, fs))) (hlen : as.length = n ∧ (parseMethodDescriptor y.desc).map (fun d => d.parameters.length) = some n) (hrc : rm2.cells = 0 ∧ rm2.slots = 0) (hR : rm2.frames + 1 ≤ rm.frames ∧ 8 + (nL2 + 11) + rm2.locals ≤ rm.locals) (hM : zMv cs y b nL2 rm2 (.ref q :: as) h Q) (hst : st0 = as.reverse ++ .ref q :: st) (hcat : (st.map fun v => v.category).sum ≤ 8)
    (k : ∀ h2 : zH, Q h2 → zX cs G own cc nL ret rm (pc + 3) ls st h2 E) : zX cs G own cc nL ret rm pc ls st0 h E := by
  intro p l e s m args below meth c D cA adr A H locs lsa C hA hG hO hK hP hD hS hl
  subst hst

  obtain ⟨fs, hob⟩ := hob

  have hF := zFree hD hS hA

  refine va_callv (va_runV (As := as.map (cvv adr)) (rest := st.map (cvv adr)) (n := n) ⟨C.1, C.2.1, C.2.2.2.1, C.2.2.2.2.1, C.2.2.2.2.2.1⟩ (hM l D cA adr H.size) (cwV n C.2.2.2.2.2.1 (zCal_good hlk hcal) rfl hrc.1 hrc.2 ⟨hcal.2.2.2.2.1.1, hcal.2.2.2.2.1.2.1, hcal.2.2.2.2.1.2.2, hlen.2⟩ hR) ⟨zBlind, va_recv hK hP hcl (zW_obj hob), fun U hU hW => ⟨rfl, by rw [hU], hO, by rw [hU]; exact hP, va_K.moved hW.alike hK, hD.weaken (fun _ _ _ _ => trivial)⟩⟩ rfl (by rw [List.length_map]; exact hlen.1) hl.1 (by rw [List.map_append, List.map_reverse]; rfl) (lv_room (by rw [zCats]; exact hcat)) hd ⟨Nat.zero_le _, Nat.zero_le _⟩) hS (fun q9 _ h9 => hF q9 h9) hF (fun u t H1 locs1 ht hvm hw hB hz1 hk1 hS1 => ?_)

  obtain ⟨hO1, hP1, hK1, hD1⟩ := hB
  exact k u hw p l e s m args below meth c D cA adr A H1 locs1 lsa C hA hG hO1 hK (by rw [← ht]; exact hP1) (hD1.weaken (fun k9 q9 _ h9 => hF q9.1 h9)) hS1 hl

theorem zx_invSi {y : MethodName} {b : ByteArray} {nL2 idx n : Nat} {rm2 : Room} {as : List Value} {r2 : FieldType} {Q : Int → zH → Prop} (hd : decode cc pc = .ok (.invokestatic idx, 3)) (hlk : Cond.methodLink own idx y ∈ zU) (hcal : zSta own y b nL2 (some r2)) (hlen : as.length = n ∧ (parseMethodDescriptor y.desc).map (fun d => d.parameters.length) = some n) (hrc : rm2.cells = 0 ∧ rm2.slots = 0) (hR : rm2.frames + 1 ≤ rm.frames ∧ 8 + (nL2 + 11) + rm2.locals ≤ rm.locals) (hM : zMi cs y b nL2 r2 rm2 as h Q) (hst : st0 = as.reverse ++ st) (hcat : (st.map fun v => v.category).sum ≤ 8)
    (k : ∀ (z : Int) (h2 : zH), -2147483648 ≤ z → z < 2147483648 → Q z h2 → zX cs G own cc nL ret rm (pc + 3) ls (.int (iI z) :: st) h2 E) : zX cs G own cc nL ret rm pc ls st0 h E := by
  intro p l e s m args below meth c D cA adr A H locs lsa C hA hG hO hK hP hD hS hl
  subst hst

  have hF := zFree hD hS hA

  refine va_calli (va_runS (As := as.map (cvv adr)) (rest := st.map (cvv adr)) (n := n) ⟨C.1, C.2.1, C.2.2.2.1, C.2.2.2.2.1, C.2.2.2.2.2.1⟩ (hM l D cA adr H.size) (cwS n C.2.2.2.2.2.1 (zSta_good hlk hcal) rfl hrc.1 hrc.2 ⟨hcal.2.2.2.1.1, hcal.2.2.2.1.2.1, hcal.2.2.2.1.2.2, hlen.2⟩ hR) ⟨zBlind, fun U hU hW => ⟨rfl, by rw [hU], hO, by rw [hU]; exact hP, va_K.moved hW.alike hK, hD.weaken (fun _ _ _ _ => trivial)⟩⟩ rfl (by rw [List.length_map]; exact hlen.1) hl.1 (by rw [List.map_append, List.map_reverse]) (lv_room (by rw [zCats]; exact hcat)) hd ⟨Nat.zero_le _, Nat.zero_le _⟩) hS (fun q9 _ h9 => hF q9 h9) hF (fun r u t H1 locs1 ht hvm hw hB hz1 hk1 hS1 => ?_)

  obtain ⟨z, rfl, rz, hw⟩ := hw
  obtain ⟨hO1, hP1, hK1, hD1⟩ := hB
  exact k z u rz.1 rz.2 hw p l e s m args below meth c D cA adr A H1 locs1 lsa C hA hG hO1 hK (by rw [← ht]; exact hP1) (hD1.weaken (fun k9 q9 _ h9 => hF q9.1 h9)) hS1 hl

theorem zx_invSv {y : MethodName} {b : ByteArray} {nL2 idx n : Nat} {rm2 : Room} {as : List Value} {Q : zH → Prop} (hd : decode cc pc = .ok (.invokestatic idx, 3)) (hlk : Cond.methodLink own idx y ∈ zU) (hcal : zSta own y b nL2 none) (hlen : as.length = n ∧ (parseMethodDescriptor y.desc).map (fun d => d.parameters.length) = some n) (hrc : rm2.cells = 0 ∧ rm2.slots = 0) (hR : rm2.frames + 1 ≤ rm.frames ∧ 8 + (nL2 + 11) + rm2.locals ≤ rm.locals) (hM : zMv cs y b nL2 rm2 as h Q) (hst : st0 = as.reverse ++ st) (hcat : (st.map fun v => v.category).sum ≤ 8)
    (k : ∀ h2 : zH, Q h2 → zX cs G own cc nL ret rm (pc + 3) ls st h2 E) : zX cs G own cc nL ret rm pc ls st0 h E := by
  intro p l e s m args below meth c D cA adr A H locs lsa C hA hG hO hK hP hD hS hl
  subst hst

  have hF := zFree hD hS hA

  refine va_callv (va_runS (As := as.map (cvv adr)) (rest := st.map (cvv adr)) (n := n) ⟨C.1, C.2.1, C.2.2.2.1, C.2.2.2.2.1, C.2.2.2.2.2.1⟩ (hM l D cA adr H.size) (cwS n C.2.2.2.2.2.1 (zSta_good hlk hcal) rfl hrc.1 hrc.2 ⟨hcal.2.2.2.1.1, hcal.2.2.2.1.2.1, hcal.2.2.2.1.2.2, hlen.2⟩ hR) ⟨zBlind, fun U hU hW => ⟨rfl, by rw [hU], hO, by rw [hU]; exact hP, va_K.moved hW.alike hK, hD.weaken (fun _ _ _ _ => trivial)⟩⟩ rfl (by rw [List.length_map]; exact hlen.1) hl.1 (by rw [List.map_append, List.map_reverse]) (lv_room (by rw [zCats]; exact hcat)) hd ⟨Nat.zero_le _, Nat.zero_le _⟩) hS (fun q9 _ h9 => hF q9 h9) hF (fun u t H1 locs1 ht hvm hw hB hz1 hk1 hS1 => ?_)

  obtain ⟨hO1, hP1, hK1, hD1⟩ := hB
  exact k u hw p l e s m args below meth c D cA adr A H1 locs1 lsa C hA hG hO1 hK (by rw [← ht]; exact hP1) (hD1.weaken (fun k9 q9 _ h9 => hF q9.1 h9)) hS1 hl

end ZC
end
section
theorem zz_end : True := trivial
end
