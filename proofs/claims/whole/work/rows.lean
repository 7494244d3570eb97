section
-- ===== PART A: goes FIRST, ahead of the names: the tables' words, and 'selects' of the private methods out of them =====
/-- a private method of a class that the tables say can be made, by its rows of tables_1 -/
def lw_okq (q : MethodName × Nat) : Prop := (q.1.cls ≠ "java/lang/invoke/MethodHandle" ∧ q.1.cls ≠ "java/lang/invoke/VarHandle") ∧ Cond.instantiable q.1.cls q.2 ∈ tables_1 ∧ Cond.privateMethod q.1 ∈ tables_1 ∧ Cond.instanceMethod q.1 ∈ tables_1
theorem lw_p0 : lw_okq (⟨"MusicBoxEditor", "takeSetup", "()V"⟩, 11) := ⟨⟨by decide +kernel, by decide +kernel⟩, List.mem_of_getElem? (i := 30) (by decide +kernel), List.mem_of_getElem? (i := 337) (by decide +kernel), List.mem_of_getElem? (i := 338) (by decide +kernel)⟩
theorem lw_p1 : lw_okq (⟨"MusicBoxEditor$ScriptReader", "readCommands", "(I)Z"⟩, 2) := ⟨⟨by decide +kernel, by decide +kernel⟩, List.mem_of_getElem? (i := 251) (by decide +kernel), List.mem_of_getElem? (i := 538) (by decide +kernel), List.mem_of_getElem? (i := 539) (by decide +kernel)⟩
theorem lw_p2 : lw_okq (⟨"MusicBoxEditor$ScriptReader", "readRepeat", "(II)Z"⟩, 2) := ⟨⟨by decide +kernel, by decide +kernel⟩, List.mem_of_getElem? (i := 251) (by decide +kernel), List.mem_of_getElem? (i := 567) (by decide +kernel), List.mem_of_getElem? (i := 568) (by decide +kernel)⟩
theorem lw_p3 : lw_okq (⟨"MusicBoxEditor$Script", "runPart", "(LMusicBoxEditor$Box;III)V"⟩, 7) := ⟨⟨by decide +kernel, by decide +kernel⟩, List.mem_of_getElem? (i := 93) (by decide +kernel), List.mem_of_getElem? (i := 603) (by decide +kernel), List.mem_of_getElem? (i := 604) (by decide +kernel)⟩
theorem lw_p4 : lw_okq (⟨"java/lang/Throwable", "fillInStackTrace", "(I)Ljava/lang/Throwable;"⟩, 6) := ⟨⟨by decide +kernel, by decide +kernel⟩, List.mem_of_getElem? (i := 890) (by decide +kernel), List.mem_of_getElem? (i := 888) (by decide +kernel), List.mem_of_getElem? (i := 889) (by decide +kernel)⟩
theorem lw_p5 : lw_okq (⟨"MusicBoxEditor", "putBytes", "(I)V"⟩, 11) := ⟨⟨by decide +kernel, by decide +kernel⟩, List.mem_of_getElem? (i := 30) (by decide +kernel), List.mem_of_getElem? (i := 919) (by decide +kernel), List.mem_of_getElem? (i := 920) (by decide +kernel)⟩
theorem lw_p6 : lw_okq (⟨"MusicBoxEditorModel", "takesText", "(Ljava/lang/String;)V"⟩, 28) := ⟨⟨by decide +kernel, by decide +kernel⟩, List.mem_of_getElem? (i := 1317) (by decide +kernel), List.mem_of_getElem? (i := 1324) (by decide +kernel), List.mem_of_getElem? (i := 1325) (by decide +kernel)⟩
theorem lw_p7 : lw_okq (⟨"MusicBoxEditorModel", "starts", "()V"⟩, 28) := ⟨⟨by decide +kernel, by decide +kernel⟩, List.mem_of_getElem? (i := 1317) (by decide +kernel), List.mem_of_getElem? (i := 1330) (by decide +kernel), List.mem_of_getElem? (i := 1331) (by decide +kernel)⟩
theorem lw_p8 : lw_okq (⟨"MusicBoxEditorModel", "reads", "()V"⟩, 28) := ⟨⟨by decide +kernel, by decide +kernel⟩, List.mem_of_getElem? (i := 1317) (by decide +kernel), List.mem_of_getElem? (i := 1334) (by decide +kernel), List.mem_of_getElem? (i := 1335) (by decide +kernel)⟩
theorem lw_p9 : lw_okq (⟨"MusicBoxEditorModel", "seen", "(I)I"⟩, 28) := ⟨⟨by decide +kernel, by decide +kernel⟩, List.mem_of_getElem? (i := 1317) (by decide +kernel), List.mem_of_getElem? (i := 1338) (by decide +kernel), List.mem_of_getElem? (i := 1339) (by decide +kernel)⟩
theorem lw_p10 : lw_okq (⟨"MusicBoxEditorModel", "readsSetup", "()V"⟩, 28) := ⟨⟨by decide +kernel, by decide +kernel⟩, List.mem_of_getElem? (i := 1317) (by decide +kernel), List.mem_of_getElem? (i := 1346) (by decide +kernel), List.mem_of_getElem? (i := 1347) (by decide +kernel)⟩
theorem lw_p11 : lw_okq (⟨"MusicBoxEditorModel", "isWord", "(Ljava/lang/String;)Z"⟩, 28) := ⟨⟨by decide +kernel, by decide +kernel⟩, List.mem_of_getElem? (i := 1317) (by decide +kernel), List.mem_of_getElem? (i := 1351) (by decide +kernel), List.mem_of_getElem? (i := 1352) (by decide +kernel)⟩
theorem lw_p12 : lw_okq (⟨"MusicBoxEditorModel", "must", "(ZI)Z"⟩, 28) := ⟨⟨by decide +kernel, by decide +kernel⟩, List.mem_of_getElem? (i := 1317) (by decide +kernel), List.mem_of_getElem? (i := 1355) (by decide +kernel), List.mem_of_getElem? (i := 1356) (by decide +kernel)⟩
theorem lw_p13 : lw_okq (⟨"MusicBoxEditorModel", "goesOn", "()V"⟩, 28) := ⟨⟨by decide +kernel, by decide +kernel⟩, List.mem_of_getElem? (i := 1317) (by decide +kernel), List.mem_of_getElem? (i := 1359) (by decide +kernel), List.mem_of_getElem? (i := 1360) (by decide +kernel)⟩
theorem lw_p14 : lw_okq (⟨"MusicBoxEditorModel", "number", "(II)I"⟩, 28) := ⟨⟨by decide +kernel, by decide +kernel⟩, List.mem_of_getElem? (i := 1317) (by decide +kernel), List.mem_of_getElem? (i := 1363) (by decide +kernel), List.mem_of_getElem? (i := 1364) (by decide +kernel)⟩
theorem lw_p15 : lw_okq (⟨"MusicBoxEditorModel", "looksAt", "(II)Z"⟩, 28) := ⟨⟨by decide +kernel, by decide +kernel⟩, List.mem_of_getElem? (i := 1317) (by decide +kernel), List.mem_of_getElem? (i := 1367) (by decide +kernel), List.mem_of_getElem? (i := 1368) (by decide +kernel)⟩
def lw_privs_1 : List (MethodName × Nat) := [(⟨"MusicBoxEditor", "takeSetup", "()V"⟩, 11), (⟨"MusicBoxEditor$ScriptReader", "readCommands", "(I)Z"⟩, 2), (⟨"MusicBoxEditor$ScriptReader", "readRepeat", "(II)Z"⟩, 2), (⟨"MusicBoxEditor$Script", "runPart", "(LMusicBoxEditor$Box;III)V"⟩, 7), (⟨"java/lang/Throwable", "fillInStackTrace", "(I)Ljava/lang/Throwable;"⟩, 6), (⟨"MusicBoxEditor", "putBytes", "(I)V"⟩, 11), (⟨"MusicBoxEditorModel", "takesText", "(Ljava/lang/String;)V"⟩, 28), (⟨"MusicBoxEditorModel", "starts", "()V"⟩, 28), (⟨"MusicBoxEditorModel", "reads", "()V"⟩, 28), (⟨"MusicBoxEditorModel", "seen", "(I)I"⟩, 28), (⟨"MusicBoxEditorModel", "readsSetup", "()V"⟩, 28), (⟨"MusicBoxEditorModel", "isWord", "(Ljava/lang/String;)Z"⟩, 28), (⟨"MusicBoxEditorModel", "must", "(ZI)Z"⟩, 28), (⟨"MusicBoxEditorModel", "goesOn", "()V"⟩, 28), (⟨"MusicBoxEditorModel", "number", "(II)I"⟩, 28), (⟨"MusicBoxEditorModel", "looksAt", "(II)Z"⟩, 28)]
theorem lw_r1 : ∀ q ∈ lw_privs_1, lw_okq q := List.forall_mem_cons.mpr ⟨lw_p0, List.forall_mem_cons.mpr ⟨lw_p1, List.forall_mem_cons.mpr ⟨lw_p2, List.forall_mem_cons.mpr ⟨lw_p3, List.forall_mem_cons.mpr ⟨lw_p4, List.forall_mem_cons.mpr ⟨lw_p5, List.forall_mem_cons.mpr ⟨lw_p6, List.forall_mem_cons.mpr ⟨lw_p7, List.forall_mem_cons.mpr ⟨lw_p8, List.forall_mem_cons.mpr ⟨lw_p9, List.forall_mem_cons.mpr ⟨lw_p10, List.forall_mem_cons.mpr ⟨lw_p11, List.forall_mem_cons.mpr ⟨lw_p12, List.forall_mem_cons.mpr ⟨lw_p13, List.forall_mem_cons.mpr ⟨lw_p14, List.forall_mem_cons.mpr ⟨lw_p15, fun _ h => absurd h List.not_mem_nil⟩⟩⟩⟩⟩⟩⟩⟩⟩⟩⟩⟩⟩⟩⟩⟩
theorem lw_p16 : lw_okq (⟨"MusicBoxEditorModel", "takesSign", "(I)V"⟩, 28) := ⟨⟨by decide +kernel, by decide +kernel⟩, List.mem_of_getElem? (i := 1317) (by decide +kernel), List.mem_of_getElem? (i := 1371) (by decide +kernel), List.mem_of_getElem? (i := 1372) (by decide +kernel)⟩
theorem lw_p17 : lw_okq (⟨"MusicBoxEditorModel", "isSign", "(I)Z"⟩, 28) := ⟨⟨by decide +kernel, by decide +kernel⟩, List.mem_of_getElem? (i := 1317) (by decide +kernel), List.mem_of_getElem? (i := 1375) (by decide +kernel), List.mem_of_getElem? (i := 1376) (by decide +kernel)⟩
theorem lw_p18 : lw_okq (⟨"MusicBoxEditorModel", "readsTooth", "()V"⟩, 28) := ⟨⟨by decide +kernel, by decide +kernel⟩, List.mem_of_getElem? (i := 1317) (by decide +kernel), List.mem_of_getElem? (i := 1379) (by decide +kernel), List.mem_of_getElem? (i := 1380) (by decide +kernel)⟩
theorem lw_p19 : lw_okq (⟨"MusicBoxEditorModel", "puts", "(III)V"⟩, 28) := ⟨⟨by decide +kernel, by decide +kernel⟩, List.mem_of_getElem? (i := 1317) (by decide +kernel), List.mem_of_getElem? (i := 1384) (by decide +kernel), List.mem_of_getElem? (i := 1385) (by decide +kernel)⟩
theorem lw_p20 : lw_okq (⟨"MusicBoxEditorModel", "readsPin", "()V"⟩, 28) := ⟨⟨by decide +kernel, by decide +kernel⟩, List.mem_of_getElem? (i := 1317) (by decide +kernel), List.mem_of_getElem? (i := 1388) (by decide +kernel), List.mem_of_getElem? (i := 1389) (by decide +kernel)⟩
theorem lw_p21 : lw_okq (⟨"MusicBoxEditorModel", "has", "(III)Z"⟩, 28) := ⟨⟨by decide +kernel, by decide +kernel⟩, List.mem_of_getElem? (i := 1317) (by decide +kernel), List.mem_of_getElem? (i := 1393) (by decide +kernel), List.mem_of_getElem? (i := 1394) (by decide +kernel)⟩
theorem lw_p22 : lw_okq (⟨"MusicBoxEditorModel", "set", "(II)I"⟩, 28) := ⟨⟨by decide +kernel, by decide +kernel⟩, List.mem_of_getElem? (i := 1317) (by decide +kernel), List.mem_of_getElem? (i := 1397) (by decide +kernel), List.mem_of_getElem? (i := 1398) (by decide +kernel)⟩
theorem lw_p23 : lw_okq (⟨"MusicBoxEditorModel", "putSet", "(III)V"⟩, 28) := ⟨⟨by decide +kernel, by decide +kernel⟩, List.mem_of_getElem? (i := 1317) (by decide +kernel), List.mem_of_getElem? (i := 1401) (by decide +kernel), List.mem_of_getElem? (i := 1402) (by decide +kernel)⟩
theorem lw_p24 : lw_okq (⟨"MusicBoxEditorModel", "feeds", "(I)V"⟩, 28) := ⟨⟨by decide +kernel, by decide +kernel⟩, List.mem_of_getElem? (i := 1317) (by decide +kernel), List.mem_of_getElem? (i := 1498) (by decide +kernel), List.mem_of_getElem? (i := 1499) (by decide +kernel)⟩
theorem lw_p25 : lw_okq (⟨"MusicBoxEditorModel", "right", "(ZI)Z"⟩, 28) := ⟨⟨by decide +kernel, by decide +kernel⟩, List.mem_of_getElem? (i := 1317) (by decide +kernel), List.mem_of_getElem? (i := 1502) (by decide +kernel), List.mem_of_getElem? (i := 1503) (by decide +kernel)⟩
theorem lw_p26 : lw_okq (⟨"MusicBoxEditorModel", "isWhole", "()Z"⟩, 28) := ⟨⟨by decide +kernel, by decide +kernel⟩, List.mem_of_getElem? (i := 1317) (by decide +kernel), List.mem_of_getElem? (i := 1522) (by decide +kernel), List.mem_of_getElem? (i := 1523) (by decide +kernel)⟩
theorem lw_p27 : lw_okq (⟨"MusicBoxEditorModel", "readsCommands", "(I)V"⟩, 28) := ⟨⟨by decide +kernel, by decide +kernel⟩, List.mem_of_getElem? (i := 1317) (by decide +kernel), List.mem_of_getElem? (i := 1530) (by decide +kernel), List.mem_of_getElem? (i := 1531) (by decide +kernel)⟩
theorem lw_p28 : lw_okq (⟨"MusicBoxEditorModel", "readsCommand", "(I)V"⟩, 28) := ⟨⟨by decide +kernel, by decide +kernel⟩, List.mem_of_getElem? (i := 1317) (by decide +kernel), List.mem_of_getElem? (i := 1534) (by decide +kernel), List.mem_of_getElem? (i := 1535) (by decide +kernel)⟩
theorem lw_p29 : lw_okq (⟨"MusicBoxEditorModel", "commandHere", "()I"⟩, 28) := ⟨⟨by decide +kernel, by decide +kernel⟩, List.mem_of_getElem? (i := 1317) (by decide +kernel), List.mem_of_getElem? (i := 1538) (by decide +kernel), List.mem_of_getElem? (i := 1539) (by decide +kernel)⟩
theorem lw_p30 : lw_okq (⟨"MusicBoxEditorModel", "readsRepeat", "(II)V"⟩, 28) := ⟨⟨by decide +kernel, by decide +kernel⟩, List.mem_of_getElem? (i := 1317) (by decide +kernel), List.mem_of_getElem? (i := 1551) (by decide +kernel), List.mem_of_getElem? (i := 1552) (by decide +kernel)⟩
theorem lw_p31 : lw_okq (⟨"MusicBoxEditorModel", "readsSingle", "(I)V"⟩, 28) := ⟨⟨by decide +kernel, by decide +kernel⟩, List.mem_of_getElem? (i := 1317) (by decide +kernel), List.mem_of_getElem? (i := 1555) (by decide +kernel), List.mem_of_getElem? (i := 1556) (by decide +kernel)⟩
def lw_privs_2 : List (MethodName × Nat) := [(⟨"MusicBoxEditorModel", "takesSign", "(I)V"⟩, 28), (⟨"MusicBoxEditorModel", "isSign", "(I)Z"⟩, 28), (⟨"MusicBoxEditorModel", "readsTooth", "()V"⟩, 28), (⟨"MusicBoxEditorModel", "puts", "(III)V"⟩, 28), (⟨"MusicBoxEditorModel", "readsPin", "()V"⟩, 28), (⟨"MusicBoxEditorModel", "has", "(III)Z"⟩, 28), (⟨"MusicBoxEditorModel", "set", "(II)I"⟩, 28), (⟨"MusicBoxEditorModel", "putSet", "(III)V"⟩, 28), (⟨"MusicBoxEditorModel", "feeds", "(I)V"⟩, 28), (⟨"MusicBoxEditorModel", "right", "(ZI)Z"⟩, 28), (⟨"MusicBoxEditorModel", "isWhole", "()Z"⟩, 28), (⟨"MusicBoxEditorModel", "readsCommands", "(I)V"⟩, 28), (⟨"MusicBoxEditorModel", "readsCommand", "(I)V"⟩, 28), (⟨"MusicBoxEditorModel", "commandHere", "()I"⟩, 28), (⟨"MusicBoxEditorModel", "readsRepeat", "(II)V"⟩, 28), (⟨"MusicBoxEditorModel", "readsSingle", "(I)V"⟩, 28)]
theorem lw_r2 : ∀ q ∈ lw_privs_2, lw_okq q := List.forall_mem_cons.mpr ⟨lw_p16, List.forall_mem_cons.mpr ⟨lw_p17, List.forall_mem_cons.mpr ⟨lw_p18, List.forall_mem_cons.mpr ⟨lw_p19, List.forall_mem_cons.mpr ⟨lw_p20, List.forall_mem_cons.mpr ⟨lw_p21, List.forall_mem_cons.mpr ⟨lw_p22, List.forall_mem_cons.mpr ⟨lw_p23, List.forall_mem_cons.mpr ⟨lw_p24, List.forall_mem_cons.mpr ⟨lw_p25, List.forall_mem_cons.mpr ⟨lw_p26, List.forall_mem_cons.mpr ⟨lw_p27, List.forall_mem_cons.mpr ⟨lw_p28, List.forall_mem_cons.mpr ⟨lw_p29, List.forall_mem_cons.mpr ⟨lw_p30, List.forall_mem_cons.mpr ⟨lw_p31, fun _ h => absurd h List.not_mem_nil⟩⟩⟩⟩⟩⟩⟩⟩⟩⟩⟩⟩⟩⟩⟩⟩
theorem lw_p32 : lw_okq (⟨"MusicBoxEditorModel", "takesDirection", "()I"⟩, 28) := ⟨⟨by decide +kernel, by decide +kernel⟩, List.mem_of_getElem? (i := 1317) (by decide +kernel), List.mem_of_getElem? (i := 1559) (by decide +kernel), List.mem_of_getElem? (i := 1560) (by decide +kernel)⟩
theorem lw_p33 : lw_okq (⟨"MusicBoxEditorModel", "keeps", "()V"⟩, 28) := ⟨⟨by decide +kernel, by decide +kernel⟩, List.mem_of_getElem? (i := 1317) (by decide +kernel), List.mem_of_getElem? (i := 1565) (by decide +kernel), List.mem_of_getElem? (i := 1566) (by decide +kernel)⟩
theorem lw_p34 : lw_okq (⟨"MusicBoxEditorModel", "doesAll", "(II)Z"⟩, 28) := ⟨⟨by decide +kernel, by decide +kernel⟩, List.mem_of_getElem? (i := 1317) (by decide +kernel), List.mem_of_getElem? (i := 1569) (by decide +kernel), List.mem_of_getElem? (i := 1570) (by decide +kernel)⟩
theorem lw_p35 : lw_okq (⟨"MusicBoxEditorModel", "does", "(I)I"⟩, 28) := ⟨⟨by decide +kernel, by decide +kernel⟩, List.mem_of_getElem? (i := 1317) (by decide +kernel), List.mem_of_getElem? (i := 1573) (by decide +kernel), List.mem_of_getElem? (i := 1574) (by decide +kernel)⟩
theorem lw_p36 : lw_okq (⟨"MusicBoxEditorModel", "pinning", "(IIIZ)I"⟩, 28) := ⟨⟨by decide +kernel, by decide +kernel⟩, List.mem_of_getElem? (i := 1317) (by decide +kernel), List.mem_of_getElem? (i := 1577) (by decide +kernel), List.mem_of_getElem? (i := 1578) (by decide +kernel)⟩
theorem lw_p37 : lw_okq (⟨"MusicBoxEditorModel", "isTune", "(I)Z"⟩, 28) := ⟨⟨by decide +kernel, by decide +kernel⟩, List.mem_of_getElem? (i := 1317) (by decide +kernel), List.mem_of_getElem? (i := 1581) (by decide +kernel), List.mem_of_getElem? (i := 1582) (by decide +kernel)⟩
theorem lw_p38 : lw_okq (⟨"MusicBoxEditorModel", "isTooth", "(I)Z"⟩, 28) := ⟨⟨by decide +kernel, by decide +kernel⟩, List.mem_of_getElem? (i := 1317) (by decide +kernel), List.mem_of_getElem? (i := 1585) (by decide +kernel), List.mem_of_getElem? (i := 1586) (by decide +kernel)⟩
theorem lw_p39 : lw_okq (⟨"MusicBoxEditorModel", "isStep", "(I)Z"⟩, 28) := ⟨⟨by decide +kernel, by decide +kernel⟩, List.mem_of_getElem? (i := 1317) (by decide +kernel), List.mem_of_getElem? (i := 1589) (by decide +kernel), List.mem_of_getElem? (i := 1590) (by decide +kernel)⟩
theorem lw_p40 : lw_okq (⟨"MusicBoxEditorModel", "changes", "()V"⟩, 28) := ⟨⟨by decide +kernel, by decide +kernel⟩, List.mem_of_getElem? (i := 1317) (by decide +kernel), List.mem_of_getElem? (i := 1593) (by decide +kernel), List.mem_of_getElem? (i := 1594) (by decide +kernel)⟩
theorem lw_p41 : lw_okq (⟨"MusicBoxEditorModel", "pins", "(I)I"⟩, 28) := ⟨⟨by decide +kernel, by decide +kernel⟩, List.mem_of_getElem? (i := 1317) (by decide +kernel), List.mem_of_getElem? (i := 1597) (by decide +kernel), List.mem_of_getElem? (i := 1598) (by decide +kernel)⟩
theorem lw_p42 : lw_okq (⟨"MusicBoxEditorModel", "gapping", "(II)I"⟩, 28) := ⟨⟨by decide +kernel, by decide +kernel⟩, List.mem_of_getElem? (i := 1317) (by decide +kernel), List.mem_of_getElem? (i := 1601) (by decide +kernel), List.mem_of_getElem? (i := 1602) (by decide +kernel)⟩
theorem lw_p43 : lw_okq (⟨"MusicBoxEditorModel", "of", "(II)I"⟩, 28) := ⟨⟨by decide +kernel, by decide +kernel⟩, List.mem_of_getElem? (i := 1317) (by decide +kernel), List.mem_of_getElem? (i := 1605) (by decide +kernel), List.mem_of_getElem? (i := 1606) (by decide +kernel)⟩
theorem lw_p44 : lw_okq (⟨"MusicBoxEditorModel", "bending", "(II)I"⟩, 28) := ⟨⟨by decide +kernel, by decide +kernel⟩, List.mem_of_getElem? (i := 1317) (by decide +kernel), List.mem_of_getElem? (i := 1609) (by decide +kernel), List.mem_of_getElem? (i := 1610) (by decide +kernel)⟩
theorem lw_p45 : lw_okq (⟨"MusicBoxEditorModel", "isBad", "(I)Z"⟩, 28) := ⟨⟨by decide +kernel, by decide +kernel⟩, List.mem_of_getElem? (i := 1317) (by decide +kernel), List.mem_of_getElem? (i := 1613) (by decide +kernel), List.mem_of_getElem? (i := 1614) (by decide +kernel)⟩
theorem lw_p46 : lw_okq (⟨"MusicBoxEditorModel", "replacing", "(I)I"⟩, 28) := ⟨⟨by decide +kernel, by decide +kernel⟩, List.mem_of_getElem? (i := 1317) (by decide +kernel), List.mem_of_getElem? (i := 1617) (by decide +kernel), List.mem_of_getElem? (i := 1618) (by decide +kernel)⟩
theorem lw_p47 : lw_okq (⟨"MusicBoxEditorModel", "vaning", "(I)I"⟩, 28) := ⟨⟨by decide +kernel, by decide +kernel⟩, List.mem_of_getElem? (i := 1317) (by decide +kernel), List.mem_of_getElem? (i := 1621) (by decide +kernel), List.mem_of_getElem? (i := 1622) (by decide +kernel)⟩
def lw_privs_3 : List (MethodName × Nat) := [(⟨"MusicBoxEditorModel", "takesDirection", "()I"⟩, 28), (⟨"MusicBoxEditorModel", "keeps", "()V"⟩, 28), (⟨"MusicBoxEditorModel", "doesAll", "(II)Z"⟩, 28), (⟨"MusicBoxEditorModel", "does", "(I)I"⟩, 28), (⟨"MusicBoxEditorModel", "pinning", "(IIIZ)I"⟩, 28), (⟨"MusicBoxEditorModel", "isTune", "(I)Z"⟩, 28), (⟨"MusicBoxEditorModel", "isTooth", "(I)Z"⟩, 28), (⟨"MusicBoxEditorModel", "isStep", "(I)Z"⟩, 28), (⟨"MusicBoxEditorModel", "changes", "()V"⟩, 28), (⟨"MusicBoxEditorModel", "pins", "(I)I"⟩, 28), (⟨"MusicBoxEditorModel", "gapping", "(II)I"⟩, 28), (⟨"MusicBoxEditorModel", "of", "(II)I"⟩, 28), (⟨"MusicBoxEditorModel", "bending", "(II)I"⟩, 28), (⟨"MusicBoxEditorModel", "isBad", "(I)Z"⟩, 28), (⟨"MusicBoxEditorModel", "replacing", "(I)I"⟩, 28), (⟨"MusicBoxEditorModel", "vaning", "(I)I"⟩, 28)]
theorem lw_r3 : ∀ q ∈ lw_privs_3, lw_okq q := List.forall_mem_cons.mpr ⟨lw_p32, List.forall_mem_cons.mpr ⟨lw_p33, List.forall_mem_cons.mpr ⟨lw_p34, List.forall_mem_cons.mpr ⟨lw_p35, List.forall_mem_cons.mpr ⟨lw_p36, List.forall_mem_cons.mpr ⟨lw_p37, List.forall_mem_cons.mpr ⟨lw_p38, List.forall_mem_cons.mpr ⟨lw_p39, List.forall_mem_cons.mpr ⟨lw_p40, List.forall_mem_cons.mpr ⟨lw_p41, List.forall_mem_cons.mpr ⟨lw_p42, List.forall_mem_cons.mpr ⟨lw_p43, List.forall_mem_cons.mpr ⟨lw_p44, List.forall_mem_cons.mpr ⟨lw_p45, List.forall_mem_cons.mpr ⟨lw_p46, List.forall_mem_cons.mpr ⟨lw_p47, fun _ h => absurd h List.not_mem_nil⟩⟩⟩⟩⟩⟩⟩⟩⟩⟩⟩⟩⟩⟩⟩⟩
theorem lw_p48 : lw_okq (⟨"MusicBoxEditorModel", "winding", "(I)I"⟩, 28) := ⟨⟨by decide +kernel, by decide +kernel⟩, List.mem_of_getElem? (i := 1317) (by decide +kernel), List.mem_of_getElem? (i := 1625) (by decide +kernel), List.mem_of_getElem? (i := 1626) (by decide +kernel)⟩
theorem lw_p49 : lw_okq (⟨"MusicBoxEditorModel", "selecting", "(I)I"⟩, 28) := ⟨⟨by decide +kernel, by decide +kernel⟩, List.mem_of_getElem? (i := 1317) (by decide +kernel), List.mem_of_getElem? (i := 1629) (by decide +kernel), List.mem_of_getElem? (i := 1630) (by decide +kernel)⟩
theorem lw_p50 : lw_okq (⟨"MusicBoxEditorModel", "playing", "(I)I"⟩, 28) := ⟨⟨by decide +kernel, by decide +kernel⟩, List.mem_of_getElem? (i := 1317) (by decide +kernel), List.mem_of_getElem? (i := 1633) (by decide +kernel), List.mem_of_getElem? (i := 1634) (by decide +kernel)⟩
theorem lw_p51 : lw_okq (⟨"MusicBoxEditorModel", "steps", "(I)I"⟩, 28) := ⟨⟨by decide +kernel, by decide +kernel⟩, List.mem_of_getElem? (i := 1317) (by decide +kernel), List.mem_of_getElem? (i := 1637) (by decide +kernel), List.mem_of_getElem? (i := 1638) (by decide +kernel)⟩
theorem lw_p52 : lw_okq (⟨"MusicBoxEditorModel", "step", "()V"⟩, 28) := ⟨⟨by decide +kernel, by decide +kernel⟩, List.mem_of_getElem? (i := 1317) (by decide +kernel), List.mem_of_getElem? (i := 1641) (by decide +kernel), List.mem_of_getElem? (i := 1642) (by decide +kernel)⟩
theorem lw_p53 : lw_okq (⟨"MusicBoxEditorModel", "plucks", "(I)V"⟩, 28) := ⟨⟨by decide +kernel, by decide +kernel⟩, List.mem_of_getElem? (i := 1317) (by decide +kernel), List.mem_of_getElem? (i := 1645) (by decide +kernel), List.mem_of_getElem? (i := 1646) (by decide +kernel)⟩
theorem lw_p54 : lw_okq (⟨"MusicBoxEditorModel", "sound", "(I)I"⟩, 28) := ⟨⟨by decide +kernel, by decide +kernel⟩, List.mem_of_getElem? (i := 1317) (by decide +kernel), List.mem_of_getElem? (i := 1649) (by decide +kernel), List.mem_of_getElem? (i := 1650) (by decide +kernel)⟩
theorem lw_p55 : lw_okq (⟨"MusicBoxEditorModel", "tells", "(I)I"⟩, 28) := ⟨⟨by decide +kernel, by decide +kernel⟩, List.mem_of_getElem? (i := 1317) (by decide +kernel), List.mem_of_getElem? (i := 1657) (by decide +kernel), List.mem_of_getElem? (i := 1658) (by decide +kernel)⟩
theorem lw_p56 : lw_okq (⟨"MusicBoxEditorModel", "isThere", "(III)Z"⟩, 28) := ⟨⟨by decide +kernel, by decide +kernel⟩, List.mem_of_getElem? (i := 1317) (by decide +kernel), List.mem_of_getElem? (i := 1673) (by decide +kernel), List.mem_of_getElem? (i := 1674) (by decide +kernel)⟩
theorem lw_p57 : lw_okq (⟨"MusicBoxEditorModel", "findsTune", "(I)Z"⟩, 28) := ⟨⟨by decide +kernel, by decide +kernel⟩, List.mem_of_getElem? (i := 1317) (by decide +kernel), List.mem_of_getElem? (i := 1681) (by decide +kernel), List.mem_of_getElem? (i := 1682) (by decide +kernel)⟩
theorem lw_p58 : lw_okq (⟨"MusicBoxEditorModel", "far", "(III)I"⟩, 28) := ⟨⟨by decide +kernel, by decide +kernel⟩, List.mem_of_getElem? (i := 1317) (by decide +kernel), List.mem_of_getElem? (i := 1693) (by decide +kernel), List.mem_of_getElem? (i := 1694) (by decide +kernel)⟩
theorem lw_p59 : lw_okq (⟨"MusicBoxEditorModel", "isClose", "(III)Z"⟩, 28) := ⟨⟨by decide +kernel, by decide +kernel⟩, List.mem_of_getElem? (i := 1317) (by decide +kernel), List.mem_of_getElem? (i := 1701) (by decide +kernel), List.mem_of_getElem? (i := 1702) (by decide +kernel)⟩
theorem lw_p60 : lw_okq (⟨"MusicBoxEditorModel", "findsTooth", "(I)Z"⟩, 28) := ⟨⟨by decide +kernel, by decide +kernel⟩, List.mem_of_getElem? (i := 1317) (by decide +kernel), List.mem_of_getElem? (i := 1718) (by decide +kernel), List.mem_of_getElem? (i := 1719) (by decide +kernel)⟩
theorem lw_p61 : lw_okq (⟨"MusicBoxEditorModel", "speed", "()I"⟩, 28) := ⟨⟨by decide +kernel, by decide +kernel⟩, List.mem_of_getElem? (i := 1317) (by decide +kernel), List.mem_of_getElem? (i := 1758) (by decide +kernel), List.mem_of_getElem? (i := 1759) (by decide +kernel)⟩
theorem lw_p62 : lw_okq (⟨"MusicBoxEditorModel", "tries", "()V"⟩, 28) := ⟨⟨by decide +kernel, by decide +kernel⟩, List.mem_of_getElem? (i := 1317) (by decide +kernel), List.mem_of_getElem? (i := 1818) (by decide +kernel), List.mem_of_getElem? (i := 1819) (by decide +kernel)⟩
theorem lw_p63 : lw_okq (⟨"MusicBoxEditorModel", "back", "(I)I"⟩, 28) := ⟨⟨by decide +kernel, by decide +kernel⟩, List.mem_of_getElem? (i := 1317) (by decide +kernel), List.mem_of_getElem? (i := 1822) (by decide +kernel), List.mem_of_getElem? (i := 1823) (by decide +kernel)⟩
def lw_privs_4 : List (MethodName × Nat) := [(⟨"MusicBoxEditorModel", "winding", "(I)I"⟩, 28), (⟨"MusicBoxEditorModel", "selecting", "(I)I"⟩, 28), (⟨"MusicBoxEditorModel", "playing", "(I)I"⟩, 28), (⟨"MusicBoxEditorModel", "steps", "(I)I"⟩, 28), (⟨"MusicBoxEditorModel", "step", "()V"⟩, 28), (⟨"MusicBoxEditorModel", "plucks", "(I)V"⟩, 28), (⟨"MusicBoxEditorModel", "sound", "(I)I"⟩, 28), (⟨"MusicBoxEditorModel", "tells", "(I)I"⟩, 28), (⟨"MusicBoxEditorModel", "isThere", "(III)Z"⟩, 28), (⟨"MusicBoxEditorModel", "findsTune", "(I)Z"⟩, 28), (⟨"MusicBoxEditorModel", "far", "(III)I"⟩, 28), (⟨"MusicBoxEditorModel", "isClose", "(III)Z"⟩, 28), (⟨"MusicBoxEditorModel", "findsTooth", "(I)Z"⟩, 28), (⟨"MusicBoxEditorModel", "speed", "()I"⟩, 28), (⟨"MusicBoxEditorModel", "tries", "()V"⟩, 28), (⟨"MusicBoxEditorModel", "back", "(I)I"⟩, 28)]
theorem lw_r4 : ∀ q ∈ lw_privs_4, lw_okq q := List.forall_mem_cons.mpr ⟨lw_p48, List.forall_mem_cons.mpr ⟨lw_p49, List.forall_mem_cons.mpr ⟨lw_p50, List.forall_mem_cons.mpr ⟨lw_p51, List.forall_mem_cons.mpr ⟨lw_p52, List.forall_mem_cons.mpr ⟨lw_p53, List.forall_mem_cons.mpr ⟨lw_p54, List.forall_mem_cons.mpr ⟨lw_p55, List.forall_mem_cons.mpr ⟨lw_p56, List.forall_mem_cons.mpr ⟨lw_p57, List.forall_mem_cons.mpr ⟨lw_p58, List.forall_mem_cons.mpr ⟨lw_p59, List.forall_mem_cons.mpr ⟨lw_p60, List.forall_mem_cons.mpr ⟨lw_p61, List.forall_mem_cons.mpr ⟨lw_p62, List.forall_mem_cons.mpr ⟨lw_p63, fun _ h => absurd h List.not_mem_nil⟩⟩⟩⟩⟩⟩⟩⟩⟩⟩⟩⟩⟩⟩⟩⟩
theorem lw_p64 : lw_okq (⟨"MusicBoxEditorModel", "after", "(II)I"⟩, 28) := ⟨⟨by decide +kernel, by decide +kernel⟩, List.mem_of_getElem? (i := 1317) (by decide +kernel), List.mem_of_getElem? (i := 1830) (by decide +kernel), List.mem_of_getElem? (i := 1831) (by decide +kernel)⟩
theorem lw_p65 : lw_okq (⟨"MusicBoxEditorModel", "fits", "(II)Z"⟩, 28) := ⟨⟨by decide +kernel, by decide +kernel⟩, List.mem_of_getElem? (i := 1317) (by decide +kernel), List.mem_of_getElem? (i := 1854) (by decide +kernel), List.mem_of_getElem? (i := 1855) (by decide +kernel)⟩
theorem lw_p66 : lw_okq (⟨"MusicBoxEditorModel", "writes", "(I)V"⟩, 28) := ⟨⟨by decide +kernel, by decide +kernel⟩, List.mem_of_getElem? (i := 1317) (by decide +kernel), List.mem_of_getElem? (i := 1894) (by decide +kernel), List.mem_of_getElem? (i := 1895) (by decide +kernel)⟩
theorem lw_p67 : lw_okq (⟨"MusicBoxEditorModel", "writesNumber", "(I)V"⟩, 28) := ⟨⟨by decide +kernel, by decide +kernel⟩, List.mem_of_getElem? (i := 1317) (by decide +kernel), List.mem_of_getElem? (i := 1902) (by decide +kernel), List.mem_of_getElem? (i := 1903) (by decide +kernel)⟩
def lw_privs_5 : List (MethodName × Nat) := [(⟨"MusicBoxEditorModel", "after", "(II)I"⟩, 28), (⟨"MusicBoxEditorModel", "fits", "(II)Z"⟩, 28), (⟨"MusicBoxEditorModel", "writes", "(I)V"⟩, 28), (⟨"MusicBoxEditorModel", "writesNumber", "(I)V"⟩, 28)]
theorem lw_r5 : ∀ q ∈ lw_privs_5, lw_okq q := List.forall_mem_cons.mpr ⟨lw_p64, List.forall_mem_cons.mpr ⟨lw_p65, List.forall_mem_cons.mpr ⟨lw_p66, List.forall_mem_cons.mpr ⟨lw_p67, fun _ h => absurd h List.not_mem_nil⟩⟩⟩⟩
def lw_privs : List (MethodName × Nat) := lw_privs_1 ++ (lw_privs_2 ++ (lw_privs_3 ++ (lw_privs_4 ++ (lw_privs_5))))
def lw_tbl : List Cond := k2_sels lw_privs ++ tables_1
theorem lw_privs_ok : ∀ q ∈ lw_privs, lw_okq q := by
  show ∀ q ∈ lw_privs_1 ++ (lw_privs_2 ++ (lw_privs_3 ++ (lw_privs_4 ++ (lw_privs_5)))), lw_okq q
  exact List.forall_mem_append.mpr ⟨lw_r1, List.forall_mem_append.mpr ⟨lw_r2, List.forall_mem_append.mpr ⟨lw_r3, List.forall_mem_append.mpr ⟨lw_r4, lw_r5⟩⟩⟩⟩
/-- the streams that the claim lets the run draw from -/
abbrev lw_cs : List Choice := [Jvm.Choice.named "NaN.bits"]
theorem lw_bits : nanBits ∈ lw_cs := by first | decide | exact List.mem_cons_self | simp [lw_cs, nanBits]

/-! ===== BEGIN words of one list among another's, by their places ===== -/
theorem goodIn_r {big : List Cond} (ws : List Cond) (ps : List Nat) (hp : ws = ps.filterMap (fun i => big[i]?)) (h : ws.all goodWord = true) : GoodIn big ws := by
  intro w hw
  have h1 := List.all_eq_true.mp h w hw
  rw [hp] at hw
  obtain ⟨i, -, hi⟩ := List.mem_filterMap.mp hw
  have hm : w ∈ big := by first | exact List.mem_of_getElem? hi | exact List.getElem?_mem hi
  exact ⟨hm, good_of_word h1⟩
theorem goodIn_app {big a b : List Cond} (ha : GoodIn big a) (hb : GoodIn big b) : GoodIn big (a ++ b) := fun w h => (List.mem_append.mp h).elim (ha w) (hb w)
theorem goodIn_ca {big a b : List Cond} {c : Cond} (ha : GoodIn big (c :: a)) (hb : GoodIn big b) : GoodIn big (c :: (a ++ b)) := fun w h => (List.mem_cons.mp h).elim (fun e => ha w (List.mem_cons.mpr (Or.inl e))) (fun h => (List.mem_append.mp h).elim (fun h => ha w (List.mem_cons.mpr (Or.inr h))) (hb w))
theorem goodIn_sub {big ws : List Cond} (hm : ∀ w ∈ ws, w ∈ big) (h : ws.all goodWord = true) : GoodIn big ws := fun w hw => ⟨hm w hw, good_of_word (List.all_eq_true.mp h w hw)⟩
/-! ===== END ===== -/

/-! ===== BEGIN exceptions that leave a method, and their catching by the caller (launches without stack traces) ===== -/
section VXA
/-! The laws vx_back, vx_callV, vx_callS, vx_callSW, vx_throw0, vx_throwS follow proofs of the library, with one case more: JvmDerived/Free/Laws.lean (Back.of_free), Shelf42/LK1.lean (callV, callS), Shelf/KitTraced.lean (throwNew0V, throwNewS). -/
/-- where a method has thrown q: the class by its name, the cell, what was written, the world -/
def vx_T (XC : String → State → State → Prop) (st : State) (q : Addr) (t : State) (mc ms : Nat) (free : Addr → Prop) : Prop :=
  ∃ (E : String) (ce : Cell) (L : List Loc), XC E st t ∧ t.heap[q]? = some ce ∧ ce.vm = .none ∧ st.vm.findClass E = some ce.cls ∧ st.WarmedH t.vm ∧ st.sameButNew ({ t with vm := st.vm } : State) L mc ms ∧ ∀ z ∈ L, free z.base
def vx_Q (Qc : Array Value → State → Outcome → State → Prop) (XC : String → State → State → Prop) (mc ms : Nat) (free : Addr → Prop) : Array Value → State → Outcome → State → Prop := fun a st o t =>
  (Qc a st o t ∧ ∃ L, FrameEnd st o t L mc ms ∧ ∀ q ∈ L, free q.base) ∨ ∃ q, o = .threw q ∧ vx_T XC st q t mc ms free
/-- a callee that returns or throws -/
def vx_Met (l : Launch) (y : MethodName) (ws : List Cond) (rm : Room) (Pc : Array Value → State → Prop) (Qc : Array Value → State → Outcome → State → Prop) (XC : String → State → State → Prop) (mc ms : Nat) (free : Addr → Prop) : Prop :=
  MetFree l y (headSpec ws rm) Pc (fun _ _ _ _ _ => True) (vx_Q Qc XC mc ms free)
def vx_Post (XC : String → State → State → Prop) (mc ms : Nat) (free : Addr → Prop) : Pt → Array Value → Addr → Pt → Prop := fun A a q B =>
  ∃ (g : JFrame) (mk : MethodId) (t : State) (L : List Loc) (E : String) (ce : Cell), B.U.heap = t.heap ∧ B.U.vm = t.vm ∧ XC E (A.U.calling g mk a) t ∧ t.heap[q]? = some ce ∧ ce.vm = .none ∧ A.U.vm.findClass E = some ce.cls ∧ B.locs = A.locs ++ L ∧ (∀ z ∈ L, free z.base) ∧ B.cells = A.cells + mc ∧ B.slots = A.slots + ms
def vx_Back (l : Launch) (R : Room) (p : Program) (e : Env) (below : List Frame) (s : State) (sargs : Array Value) (y : MethodName) (len W9 : Nat)
    (Pre : Pt → Array Value → Prop) (Post : Pt → Array Value → Option Value → Pt → Prop) (PostX : Pt → Array Value → Addr → Pt → Prop) : Prop :=
  ∀ (m : MethodId) (meth : Method) (c : Code) (A : Pt) (g : JFrame) (ig : Instr) (mk : MethodId) (a : Array Value),
    Stand p l e R s m sargs below meth c A.U A.locs A.cells A.slots → g.method = m → g.locals.size = c.maxLocals → decode c.code g.pc = .ok (ig, len) →
    2 * g.monitorRoom + (g.stack.map fun v => v.category).sum ≤ W9 → A.U.methodNamed? y = some mk → Pre A a →
    (∃ (v : Option Value) (B : Pt), Stand p l e R s m sargs below meth c B.U B.locs B.cells B.slots ∧ Post A a v B ∧
      Steps p.tables e below (doInvoke e (A.U.setTop g) [] mk a).1 (B.U.setTop { g with pc := g.pc + len, stack := v.toList ++ g.stack })) ∨
    (∃ (q : Addr) (B : Pt), Stand p l e R s m sargs below meth c B.U B.locs B.cells B.slots ∧ PostX A a q B ∧
      Steps p.tables e below (doInvoke e (A.U.setTop g) [] mk a).1 ((B.U.setTop g).pushFrame (.throwing q)))
section Payer
variable {l : Launch} {R : Room} {p : Program} {e : Env} {below : List Frame} {s : State} {sargs : Array Value} {y : MethodName} {len W9 : Nat}
theorem vx_back {ws : List Cond} {rm : Room} {Pc : Array Value → State → Prop} {Qc : Array Value → State → Outcome → State → Prop} {XC : String → State → State → Prop} {mc ms : Nat} {free : Addr → Prop} {bytes : ByteArray} {maxL : Nat} {ret : Option FieldType}
    (hM : vx_Met l y ws rm Pc Qc XC mc ms free) (hblind : FrameBlind Pc) (hrc : rm.cells = mc) (hrs : rm.slots = ms)
    (hframes : rm.frames + 1 ≤ R.frames) (hlocals : W9 + (maxL + 11) + rm.locals ≤ R.locals)
    (hws : ∀ w ∈ ws, ∀ a' U, s.WarmedH U.vm → w.before a' U = true) (hcode : Cond.code y bytes maxL ret ∈ ws) (hinit : ∀ a' U, s.WarmedH U.vm → (Cond.initialized y.cls).before a' U = true) :
    vx_Back l R p e below s sargs y len W9 (PreOf R mc ms Pc) (PostOf Qc mc ms free) (vx_Post XC mc ms free) := by
  intro m meth c A g ig mk a X hg hsize hdg hW hn hp
  have h1 : (headSpec ws rm).pre.before a A.U = true := atoms_intro fun w hw => hws w hw _ _ X.warmed
  have h2 : (Cond.code y bytes maxL ret).before a A.U = true := hws _ hcode _ _ X.warmed
  have h3 : (Cond.initialized y.cls).before a A.U = true := hinit _ _ X.warmed
  have h4 : A.cells + (headSpec ws rm).room.cells ≤ R.cells := by rw [show (headSpec ws rm).room.cells = mc from hrc]; exact hp.1
  have h5 : A.slots + (headSpec ws rm).room.slots ≤ R.slots := by rw [show (headSpec ws rm).room.slots = ms from hrs]; exact hp.2.1
  have hPc : Pc a (A.U.calling g mk a) := hblind _ _ _ _ hp.2.2
  obtain ⟨U, Ls, c0, s0⟩ := A
  dsimp only [Pt.U, Pt.locs, Pt.cells, Pt.slots] at h1 h2 h3 h4 h5 X hn hPc ⊢
  obtain ⟨methY, cY, hmY, hcY, -, hlY, -, -, -, -⟩ := Cond.code_spec hn h2
  obtain ⟨kY, hkY, -⟩ := className_of_methodNamed hn
  have hinitY : kY.init = .initialized := Cond.initialized_spec (findClass_of_methodNamed hn) hkY h3
  have h : At U g.method c below := by rw [hg]; exact X.here
  have hlocals9 : W9 + (maxL + 11) + (headSpec ws rm).room.locals ≤ R.locals := hlocals
  have happ : (headSpec ws rm).appliesLoose y e.platform (U.calling g mk a) = true :=
    Spec.appliesLoose_calling (g := g) h hdg hn hkY hinitY
      (X.room_calling (g := g) (R' := (headSpec ws rm).room) hsize hmY hcY hframes (by rw [hlY]; omega) h4 h5) h1
  obtain ⟨mid, hmid⟩ := h.above
  have hfr : (U.setTop g).frames = (.java g :: mid) ++ below := by rw [State.frames_setTop' g h.top, hmid]; rfl
  obtain ⟨o, s₂, hsteps, -, hend, hq⟩ := Steps.callFree hM p X.admits X.cas X.clock (acts := []) hfr happ hPc trivial
  have hq' : vx_Q Qc XC mc ms free a (U.calling g mk a) o s₂ := hq
  rw [State.frames_setTop' g h.top] at hend
  obtain ⟨g₀, hg0⟩ := Option.isSome_iff_exists.mp h.top
  obtain ⟨r, hr⟩ := State.topJava?_eq_some.mp hg0
  have hr' : (({ U with heap := s₂.heap, slotsUsed := s₂.slotsUsed } : State).setVm s₂.vm).frames = .java g₀ :: r := hr
  rcases hq' with ⟨hqc, L, hfe, hL⟩ | ⟨q, rfl, E, ce, L, hx, hce, hcv, hcl, hW₂, hsm, hL⟩
  · obtain ⟨⟨v, rfl⟩, hW₂, e2, q2, q3, q4, q5, q6⟩ := id hfe
    have e3 : s₂ = ({ (U.calling g mk a).setFrames s₂.frames with heap := s₂.heap, slotsUsed := s₂.slotsUsed } : State).setVm s₂.vm := by
      have : s₂ = ({ s₂ with vm := (U.calling g mk a).vm } : State).setVm s₂.vm := rfl
      rw [e2] at this
      exact this
    obtain ⟨c₂, i₂, len₂, hc₂, hd₂, hf₂⟩ := hend
    have hW' : U.WarmedH s₂.vm := hW₂
    have hcc : c₂ = c := by
      have h1 : s₂.code? g.method = U.code? g.method := by
        rw [State.code?_eq, State.code?_eq, hW'.alike.method?]
      exact Option.some.inj (hc₂.symm.trans (h1.trans h.code))
    subst hcc
    have hlen : len₂ = len := by rw [hdg] at hd₂; cases hd₂; rfl
    subst hlen
    have hs₂ : s₂ = (({ U with heap := s₂.heap, slotsUsed := s₂.slotsUsed } : State).setVm s₂.vm).setTop { g with pc := g.pc + len₂, stack := v.toList ++ g.stack } := by
      refine e3.trans ?_
      rw [hf₂, State.calling_eq h.top, State.setFrames_setFrames, State.setTop_of_frames _ hr', hr]
      rfl
    have hsame : U.sameButNew ({ U with heap := s₂.heap, slotsUsed := s₂.slotsUsed } : State) L mc ms := by
      refine ⟨?_, q2, q3, q4, q5, q6⟩
      obtain ⟨t, ht, -⟩ := State.frames_cons hr
      show ({ U with heap := s₂.heap, slotsUsed := s₂.slotsUsed } : State) = { U.setFrames U.frames with heap := s₂.heap, slotsUsed := s₂.slotsUsed }
      rw [State.setFrames_self ht]
    subst hg
    refine Or.inl ⟨v, ⟨(({ U with heap := s₂.heap, slotsUsed := s₂.slotsUsed } : State).setVm s₂.vm), Ls ++ L, c0 + mc, s0 + ms⟩,
      ⟨X.admits, X.cas, X.clock, X.frames, X.room, X.hears, X.method, X.code, (X.here.setHeapUsed s₂.heap s₂.slotsUsed).setVm hW'.alike, X.tail, State.WarmedH.trans X.warmed hW', X.limits, X.bytes, X.same.trans (hsame.setVm s.vm)⟩,
      ⟨g, mk, s₂, L, rfl, rfl, hqc, rfl, hL, rfl, rfl⟩, ?_⟩
    show Steps p.tables e below _ ((({ U with heap := s₂.heap, slotsUsed := s₂.slotsUsed } : State).setVm s₂.vm).setTop { g with pc := g.pc + len₂, stack := v.toList ++ g.stack })
    rw [← hs₂]
    exact hsteps
  · obtain ⟨e2, q2, q3, q4, q5, q6⟩ := id hsm
    have e3 : s₂ = ({ (U.calling g mk a).setFrames s₂.frames with heap := s₂.heap, slotsUsed := s₂.slotsUsed } : State).setVm s₂.vm := by
      have : s₂ = ({ s₂ with vm := (U.calling g mk a).vm } : State).setVm s₂.vm := rfl
      rw [e2] at this
      exact this
    have hf₂ : s₂.frames = .throwing q :: .java g :: U.frames.tail := hend
    have hW' : U.WarmedH s₂.vm := hW₂
    have hs₂ : s₂ = ((({ U with heap := s₂.heap, slotsUsed := s₂.slotsUsed } : State).setVm s₂.vm).setTop g).pushFrame (.throwing q) := by
      refine e3.trans ?_
      rw [hf₂, State.calling_eq h.top, State.setFrames_setFrames, State.pushFrame, State.frames_setTop _ hr', State.setTop_of_frames _ hr', State.setFrames_setFrames, hr]
      rfl
    have hsame : U.sameButNew ({ U with heap := s₂.heap, slotsUsed := s₂.slotsUsed } : State) L mc ms := by
      refine ⟨?_, q2, q3, q4, q5, q6⟩
      obtain ⟨t, ht, -⟩ := State.frames_cons hr
      show ({ U with heap := s₂.heap, slotsUsed := s₂.slotsUsed } : State) = { U.setFrames U.frames with heap := s₂.heap, slotsUsed := s₂.slotsUsed }
      rw [State.setFrames_self ht]
    subst hg
    refine Or.inr ⟨q, ⟨(({ U with heap := s₂.heap, slotsUsed := s₂.slotsUsed } : State).setVm s₂.vm), Ls ++ L, c0 + mc, s0 + ms⟩,
      ⟨X.admits, X.cas, X.clock, X.frames, X.room, X.hears, X.method, X.code, (X.here.setHeapUsed s₂.heap s₂.slotsUsed).setVm hW'.alike, X.tail, State.WarmedH.trans X.warmed hW', X.limits, X.bytes, X.same.trans (hsame.setVm s.vm)⟩,
      ⟨g, mk, s₂, L, E, ce, rfl, rfl, hx, hce, hcv, hcl, rfl, hL, rfl, rfl⟩, ?_⟩
    show Steps p.tables e below _ (((({ U with heap := s₂.heap, slotsUsed := s₂.slotsUsed } : State).setVm s₂.vm).setTop g).pushFrame (.throwing q))
    rw [← hs₂]
    exact hsteps
end Payer
section Calls
variable {p : Program} {l : Launch} {e : Env} {R : Room} {s : State} {m : MethodId} {args : Array Value} {below : List Frame} {meth : Method} {c : Code} {T : State} {locs : List Loc} {cells slots : Nat}
theorem vx_callV (X : Stand p l e R s m args below meth c T locs cells slots) (hexec : p.tables.exec = Jvm.exec) {own C : String} {index : Nat} {y : MethodName} {bytes : ByteArray} {maxL : Nat} {ret : Option FieldType}
    (hown : s.vm.findClass own = some m.cls) (hlink : (Cond.methodLink own index y).before args s = true) (hinst : (Cond.instanceMethod y).before args s = true) (hsel : (Cond.selects C y y).before args s = true)
    (hcode : (Cond.code y bytes maxL ret).before args s = true) (hy : y.cls ≠ "java/lang/invoke/MethodHandle" ∧ y.cls ≠ "java/lang/invoke/VarHandle")
    {W9 : Nat} {Pre : Pt → Array Value → Prop} {Post : Pt → Array Value → Option Value → Pt → Prop} {PostX : Pt → Array Value → Addr → Pt → Prop} (hK : vx_Back l R p e below s args y 3 W9 Pre Post PostX)
    {b : Addr} {cellB : Cell} (hcell : T.heap[b]? = some cellB) (hobj : cellB.vm.isStatics = false) (hcls : s.vm.findClass C = some cellB.cls)
    {g : JFrame} (hg : g.method = m) (hsize : g.locals.size = c.maxLocals) {argsL rest : List Value} (hlen : ∀ sig, parseMethodDescriptor y.desc = some sig → argsL.length = sig.parameters.length)
    (hstack : g.stack = argsL.reverse ++ .ref b :: rest) (hW : 2 * g.monitorRoom + (rest.map fun v => v.category).sum ≤ W9) (hdg : decode c.code g.pc = .ok (.invokevirtual index, 3))
    (hpre : ∀ vm₁, s.WarmedH vm₁ → Pre ⟨T.setVm vm₁, locs, cells, slots⟩ (Value.ref b :: argsL).toArray) :
    (∃ (v : Option Value) (vm₁ : Vm) (B : Pt), s.WarmedH vm₁ ∧ Stand p l e R s m args below meth c B.U B.locs B.cells B.slots ∧ Post ⟨T.setVm vm₁, locs, cells, slots⟩ (Value.ref b :: argsL).toArray v B ∧
      ∀ target, Steps p.tables e below (B.U.setTop { g with pc := g.pc + 3, stack := v.toList ++ rest }) target → Steps p.tables e below (T.setTop g) target) ∨
    (∃ (q : Addr) (vm₁ : Vm) (B : Pt), s.WarmedH vm₁ ∧ Stand p l e R s m args below meth c B.U B.locs B.cells B.slots ∧ PostX ⟨T.setVm vm₁, locs, cells, slots⟩ (Value.ref b :: argsL).toArray q B ∧
      Steps p.tables e below (T.setTop g) ((B.U.setTop { g with stack := rest }).pushFrame (.throwing q))) := by
  obtain ⟨mk, methM, hnamed, hmethM, hstM, habM⟩ := Cond.instanceMethod_spec hinst
  obtain ⟨methM', cM, hmethM', -, -, -, -, -, -, hsigM⟩ := Cond.code_spec hnamed hcode
  cases hmethM.symm.trans hmethM'
  obtain ⟨c2, r2, m2, q1, q2, q3, q4, kP, hkP, hkPi⟩ := Cond.selects_spec hsel
  cases hcls.symm.trans q1
  cases (State.methodFound?_of_named hnamed hy).symm.trans q2
  cases hnamed.symm.trans q3
  have hselP : selectMethod e.platform s.vm cellB.cls mk = .method mk := by rw [Launch.admits_selectMethod X.admits]; exact q4
  obtain ⟨vm₁, X₁, hstep₁⟩ := X.invokevirtual hexec hown hlink hnamed hmethM hstM hkP hkPi hy (a := b) (cell := cellB) hcell
    (fun z h => by rw [h] at hobj; cases hobj) hselP hmethM habM hkP hkPi (g := g) hg (argsL := argsL) (rest := rest) (hlen _ hsigM) hstack hdg
  rcases hK m meth c ⟨T.setVm vm₁, locs, cells, slots⟩ { g with stack := rest } (.invokevirtual index) mk (Value.ref b :: argsL).toArray X₁ hg hsize hdg hW (X₁.named hnamed) (hpre vm₁ X₁.warmed) with ⟨v, B, X', hpost, hsteps⟩ | ⟨q, B, X', hpost, hsteps⟩
  · exact Or.inl ⟨v, vm₁, B, X₁.warmed, X', hpost, fun target h => hstep₁ _ fun acts => by rw [doInvoke_state]; exact hsteps.trans h⟩
  · exact Or.inr ⟨q, vm₁, B, X₁.warmed, X', hpost, hstep₁ _ fun acts => by rw [doInvoke_state]; exact hsteps⟩
theorem vx_callS (X : Stand p l e R s m args below meth c T locs cells slots) (hexec : p.tables.exec = Jvm.exec) {own : String} {index : Nat} {y : MethodName} {bytes : ByteArray} {maxL : Nat} {ret : Option FieldType}
    (hown : s.vm.findClass own = some m.cls) (hlink : (Cond.methodLink own index y).before args s = true) (hstat : (Cond.static y).before args s = true) (hinit : (Cond.initialized y.cls).before args s = true)
    (hcode : (Cond.code y bytes maxL ret).before args s = true) (hy : y.cls ≠ "java/lang/invoke/MethodHandle" ∧ y.cls ≠ "java/lang/invoke/VarHandle")
    {W9 : Nat} {Pre : Pt → Array Value → Prop} {Post : Pt → Array Value → Option Value → Pt → Prop} {PostX : Pt → Array Value → Addr → Pt → Prop} (hK : vx_Back l R p e below s args y 3 W9 Pre Post PostX)
    {g : JFrame} (hg : g.method = m) (hsize : g.locals.size = c.maxLocals) {argsL rest : List Value} (hlen : ∀ sig, parseMethodDescriptor y.desc = some sig → argsL.length = sig.parameters.length)
    (hstack : g.stack = argsL.reverse ++ rest) (hW : 2 * g.monitorRoom + (rest.map fun v => v.category).sum ≤ W9) (hdg : decode c.code g.pc = .ok (.invokestatic index, 3))
    (hpre : ∀ vm₁, s.WarmedH vm₁ → Pre ⟨T.setVm vm₁, locs, cells, slots⟩ argsL.toArray) :
    (∃ (v : Option Value) (vm₁ : Vm) (B : Pt), s.WarmedH vm₁ ∧ Stand p l e R s m args below meth c B.U B.locs B.cells B.slots ∧ Post ⟨T.setVm vm₁, locs, cells, slots⟩ argsL.toArray v B ∧
      ∀ target, Steps p.tables e below (B.U.setTop { g with pc := g.pc + 3, stack := v.toList ++ rest }) target → Steps p.tables e below (T.setTop g) target) ∨
    (∃ (q : Addr) (vm₁ : Vm) (B : Pt), s.WarmedH vm₁ ∧ Stand p l e R s m args below meth c B.U B.locs B.cells B.slots ∧ PostX ⟨T.setVm vm₁, locs, cells, slots⟩ argsL.toArray q B ∧
      Steps p.tables e below (T.setTop g) ((B.U.setTop { g with stack := rest }).pushFrame (.throwing q))) := by
  obtain ⟨mk, hnamed⟩ := Cond.code_named hcode
  obtain ⟨methM, cM, hmethM, -, -, -, -, -, -, hsigM⟩ := Cond.code_spec hnamed hcode
  have hstatic : methM.isStatic = true := Cond.static_spec hnamed hmethM hstat
  obtain ⟨kP, hkP, -⟩ := className_of_methodNamed hnamed
  have hinitP : kP.init = .initialized := Cond.initialized_spec (findClass_of_methodNamed hnamed) hkP hinit
  obtain ⟨vm₁, X₁, hstep₁⟩ := X.invokestatic hexec hown hlink hnamed hmethM hstatic hkP hinitP hy (g := g) hg (argsL := argsL) (rest := rest) (hlen _ hsigM) hstack hdg
  rcases hK m meth c ⟨T.setVm vm₁, locs, cells, slots⟩ { g with stack := rest } (.invokestatic index) mk argsL.toArray X₁ hg hsize hdg hW (X₁.named hnamed) (hpre vm₁ X₁.warmed) with ⟨v, B, X', hpost, hsteps⟩ | ⟨q, B, X', hpost, hsteps⟩
  · exact Or.inl ⟨v, vm₁, B, X₁.warmed, X', hpost, fun target h => hstep₁ _ fun acts => by rw [doInvoke_state]; exact hsteps.trans h⟩
  · exact Or.inr ⟨q, vm₁, B, X₁.warmed, X', hpost, hstep₁ _ fun acts => by rw [doInvoke_state]; exact hsteps⟩
end Calls
theorem vx_cls {s : State} {T : State} {vm₁ : Vm} {E : String} {k : ClassId} (hW : s.WarmedH vm₁) (h : (T.setVm vm₁).vm.findClass E = some k) : s.vm.findClass E = some k := by
  have h1 : vm₁.findClass E = some k := h
  rw [hW.alike.findClass] at h1
  exact h1
/-- the method's frame g, with q thrown over it -/
def vx_W (p : Program) (l : Launch) (e : Env) (R : Room) (s : State) (m : MethodId) (args : Array Value) (below : List Frame) (meth : Method) (c : Code) (H : Heap) (locs : List Loc) (cells slots : Nat) (Q : State → Prop) (g : JFrame) (q : Addr) : Prop :=
  ∀ T : State, T.heap = H → Stand p l e R s m args below meth c T locs cells slots → ∃ t, Steps p.tables e below ((T.setTop g).pushFrame (.throwing q)) t ∧ Q t
def vx_Run (p : Program) (l : Launch) (e : Env) (R : Room) (s : State) (m : MethodId) (args : Array Value) (below : List Frame) (meth : Method) (c : Code) (H : Heap) (locs : List Loc) (cells slots mc ms : Nat) (g : JFrame) (rest : List Value) (Qa : State → Outcome → State → Prop) (XC : String → State → State → Prop) (free : Addr → Prop) : Prop :=
  ∀ T : State, T.heap = H → Stand p l e R s m args below meth c T locs cells slots →
    (∃ (v : Option Value) (st₀ t T' : State) (L : List Loc), st₀.heap = H ∧ Stand p l e R s m args below meth c T' (locs ++ L) (cells + mc) (slots + ms) ∧ (∀ q ∈ L, free q.base) ∧ T'.heap = t.heap ∧ T'.vm = t.vm ∧ Qa st₀ (.returned v) t ∧
      Goes p e below T g T' { g with pc := g.pc + 3, stack := v.toList ++ rest }) ∨
    (∃ (q : Addr) (st₀ t T' : State) (L : List Loc) (E : String) (ce : Cell), st₀.heap = H ∧ Stand p l e R s m args below meth c T' (locs ++ L) (cells + mc) (slots + ms) ∧ (∀ z ∈ L, free z.base) ∧ T'.heap = t.heap ∧ T'.vm = t.vm ∧ XC E st₀ t ∧ t.heap[q]? = some ce ∧ ce.vm = .none ∧ s.vm.findClass E = some ce.cls ∧
      Steps p.tables e below (T.setTop g) ((T'.setTop { g with stack := rest }).pushFrame (.throwing q)))
def vx_X {S : Type} (px : S → Prop) (B : String → S → State → Prop) (A : Nat → Prop) : String → State → State → Prop := fun E st t => ∃ u : S, px u ∧ B E u t ∧ va_F A st t
section Runs
variable {p : Program} {l : Launch} {e : Env} {R : Room} {s : State} {m : MethodId} {args : Array Value} {below : List Frame} {meth : Method} {c : Code} {H : Heap} {locs : List Loc} {cells slots : Nat}
variable {y : MethodName} {bytes cc : ByteArray} {maxL nL mc ms n index : Nat} {ret : Option FieldType} {ws : List Cond} {rm : Room} {Pc : Array Value → State → Prop} {Qc : Array Value → State → Outcome → State → Prop} {XC : String → State → State → Prop} {free : Addr → Prop} {Ts : List Cond} {own C : String} {b : Addr} {As rest : List Value} {g : JFrame}
theorem vx_callBack (cb : CallB R s args own index y bytes maxL ret ws rm mc ms n) (hM : vx_Met l y ws rm Pc Qc XC mc ms free) (hbl : FrameBlind Pc) : vx_Back l R p e below s args y 3 8 (PreOf R mc ms Pc) (PostOf Qc mc ms free) (vx_Post XC mc ms free) := by
  obtain ⟨hrc, hrs, hfr, hlo, hws, hcw, -, hini, -⟩ := cb
  exact vx_back (bytes := bytes) (maxL := maxL) (ret := ret) hM hbl hrc hrs hfr hlo hws hcw (fun a' U hW => word_at hW (Or.inl (by first | rfl | simp [Cond.onTables, Cond.keeps, Cond.steady])) hini)
theorem vx_runV (S : CallFix p m c cc nL s args Ts own) (hM : vx_Met l y ws rm Pc Qc XC mc ms free) (cw : CallW R s args own C index y bytes maxL ret ws rm mc ms n) (hp : PreV s H C b Pc As)
    (hg : g.method = m) (hn : As.length = n) (hsize : g.locals.size = nL) (hstack : g.stack = As.reverse ++ .ref b :: rest) (hW : 2 * g.monitorRoom + (rest.map fun v => v.category).sum ≤ 8) (hdg : decode cc g.pc = .ok (.invokevirtual index, 3)) (hf : cells + mc ≤ R.cells ∧ slots + ms ≤ R.slots) :
    vx_Run p l e R s m args below meth c H locs cells slots mc ms g rest (Qc (Value.ref b :: As).toArray) XC free := by
  have hK : vx_Back l R p e below s args y 3 8 (PreOf R mc ms Pc) (PostOf Qc mc ms free) (vx_Post XC mc ms free) := vx_callBack cw.1 hM hp.1
  obtain ⟨⟨-, -, -, -, -, -, hcode, -, hy, hlen, hl⟩, hin, hse⟩ := cw
  obtain ⟨hx, hb, hml, ho, -⟩ := S
  obtain ⟨-, ⟨cellB, hcB, hoB, hclB⟩, hPc⟩ := hp
  intro T hT X
  rcases vx_callV X hx (C := C) (bytes := bytes) (maxL := maxL) (ret := ret) ho hl hin hse hcode hy hK (by rw [hT]; exact hcB) hoB hclB hg (hsize.trans hml.symm) (argsL := As) (rest := rest) (fun sig h => hn.trans (hlen sig h)) hstack hW (by rw [hb]; exact hdg)
    (fun vm₁ hW₁ => ⟨hf.1, hf.2, hPc (T.setVm vm₁) hT hW₁⟩) with ⟨v, vm₁, ⟨U', l2, c2, s2⟩, hW₁, X', ⟨g', mk, t, L, e1, e2, hq, h1, hL, h2, h3⟩, st⟩ | ⟨q, vm₁, ⟨U', l2, c2, s2⟩, hW₁, X', ⟨g', mk, t, L, E, ce, e1, e2, hq, hce, hcv, hcl, h1, hL, h2, h3⟩, st⟩
  · dsimp only [Pt.U, Pt.locs, Pt.cells, Pt.slots] at X' e1 e2 h1 h2 h3 st
    subst h1; subst h2; subst h3
    exact Or.inl ⟨v, (T.setVm vm₁).calling g' mk (Value.ref b :: As).toArray, t, U', L, hT, X', hL, e1, e2, hq, st⟩
  · dsimp only [Pt.U, Pt.locs, Pt.cells, Pt.slots] at X' e1 e2 h1 h2 h3 st hcl
    subst h1; subst h2; subst h3
    exact Or.inr ⟨q, (T.setVm vm₁).calling g' mk (Value.ref b :: As).toArray, t, U', L, E, ce, hT, X', hL, e1, e2, hq, hce, hcv, vx_cls hW₁ hcl, st⟩
theorem vx_runS (S : CallFix p m c cc nL s args Ts own) (hM : vx_Met l y ws rm Pc Qc XC mc ms free) (cw : CallB R s args own index y bytes maxL ret ws rm mc ms n ∧ (Cond.static y).before args s = true) (hp : PreS s H Pc As)
    (hg : g.method = m) (hn : As.length = n) (hsize : g.locals.size = nL) (hstack : g.stack = As.reverse ++ rest) (hW : 2 * g.monitorRoom + (rest.map fun v => v.category).sum ≤ 8) (hdg : decode cc g.pc = .ok (.invokestatic index, 3)) (hf : cells + mc ≤ R.cells ∧ slots + ms ≤ R.slots) :
    vx_Run p l e R s m args below meth c H locs cells slots mc ms g rest (Qc As.toArray) XC free := by
  have hK : vx_Back l R p e below s args y 3 8 (PreOf R mc ms Pc) (PostOf Qc mc ms free) (vx_Post XC mc ms free) := vx_callBack cw.1 hM hp.1
  obtain ⟨⟨-, -, -, -, -, -, hcode, hini, hy, hlen, hl⟩, hstt⟩ := cw
  obtain ⟨hx, hb, hml, ho, -⟩ := S
  intro T hT X
  rcases vx_callS X hx (bytes := bytes) (maxL := maxL) (ret := ret) ho hl hstt hini hcode hy hK hg (hsize.trans hml.symm) (argsL := As) (rest := rest) (fun sig h => hn.trans (hlen sig h)) hstack hW (by rw [hb]; exact hdg)
    (fun vm₁ hW₁ => ⟨hf.1, hf.2, hp.2 (T.setVm vm₁) hT hW₁⟩) with ⟨v, vm₁, ⟨U', l2, c2, s2⟩, hW₁, X', ⟨g', mk, t, L, e1, e2, hq, h1, hL, h2, h3⟩, st⟩ | ⟨q, vm₁, ⟨U', l2, c2, s2⟩, hW₁, X', ⟨g', mk, t, L, E, ce, e1, e2, hq, hce, hcv, hcl, h1, hL, h2, h3⟩, st⟩
  · dsimp only [Pt.U, Pt.locs, Pt.cells, Pt.slots] at X' e1 e2 h1 h2 h3 st
    subst h1; subst h2; subst h3
    exact Or.inl ⟨v, (T.setVm vm₁).calling g' mk As.toArray, t, U', L, hT, X', hL, e1, e2, hq, st⟩
  · dsimp only [Pt.U, Pt.locs, Pt.cells, Pt.slots] at X' e1 e2 h1 h2 h3 st hcl
    subst h1; subst h2; subst h3
    exact Or.inr ⟨q, (T.setVm vm₁).calling g' mk As.toArray, t, U', L, E, ce, hT, X', hL, e1, e2, hq, hce, hcv, vx_cls hW₁ hcl, st⟩
end Runs
section Rows
variable {p : Program} {l : Launch} {e : Env} {R : Room} {s : State} {m : MethodId} {args : Array Value} {below : List Frame} {meth : Method} {c : Code} {H : Heap} {locs : List Loc} {cells slots : Nat} {Q : State → Prop}
variable {mc ms : Nat} {free : Addr → Prop} {A0 A1 : Nat → Prop} {H0 : Heap} {a : Array Value} {pc : Nat} {ls : Array Slot} {st0 rest : List Value}
theorem vx_keep {st₀ t T' : State} {L : List Loc} (h0 : st₀.heap = H) (e1 : T'.heap = t.heap) (hS : va_S A0 H0 H locs) (hA : ∀ q, q < H.size → A1 q → A0 q) (hf : ∀ q, free q → A0 q) (hL : ∀ q ∈ L, free q.base) (hF : va_F A1 st₀ t) :
    H.size ≤ T'.heap.size ∧ (∀ q : Nat, q < H.size → ¬ A1 q → T'.heap[q]? = H[q]?) ∧ va_S A0 H0 T'.heap (locs ++ L) := by
  obtain ⟨hz, hk⟩ := hF
  rw [h0] at hz hk
  exact ⟨by rw [e1]; exact hz, fun q h1 h2 => by rw [e1]; exact hk q h1 h2,
    ⟨Nat.le_trans hS.1 (by rw [e1]; exact hz), fun q h1 h2 => by rw [e1, hk q (Nat.lt_of_lt_of_le h1 hS.1) (fun z => h2 (hA q (Nat.lt_of_lt_of_le h1 hS.1) z))]; exact hS.2.1 q h1 h2, fun q hq => by
      rcases List.mem_append.mp hq with h | h
      · exact hS.2.2 q h
      · exact hf _ (hL q h)⟩⟩
theorem vx_calli {S SX : Type} {post : Int32 → S → Prop} {px : SX → Prop} {B : S → State → Prop} {BX : String → SX → State → Prop} {AX : Nat → Prop} (hr : vx_Run p l e R s m args below meth c H locs cells slots mc ms (F0 m pc ls st0) rest (va_Qi post B A1 a) (vx_X px BX AX) free) (hS : va_S A0 H0 H locs) (hA : ∀ q, q < H.size → A1 q → A0 q) (hf : ∀ q, free q → A0 q) (hAX : ∀ q, q < H.size → AX q → A0 q)
    (kx : ∀ (E : String) (ce : Cell) (q9 : Addr) (u : SX) (t : State) (H1 : Heap) (locs1 : List Loc), t.heap = H1 → s.vm.Alike t.vm → px u → BX E u t → H.size ≤ H1.size → (∀ q : Nat, q < H.size → ¬ AX q → H1[q]? = H[q]?) → va_S A0 H0 H1 locs1 → H1[q9]? = some ce → ce.vm = .none → s.vm.findClass E = some ce.cls → vx_W p l e R s m args below meth c H1 locs1 (cells + mc) (slots + ms) Q (F0 m pc ls rest) q9)
    (kk : ∀ (r : Int32) (u : S) (t : State) (H1 : Heap) (locs1 : List Loc), t.heap = H1 → s.vm.Alike t.vm → post r u → B u t → H.size ≤ H1.size → (∀ q : Nat, q < H.size → ¬ A1 q → H1[q]? = H[q]?) → va_S A0 H0 H1 locs1 → W p l e R s m args below meth c H1 locs1 (cells + mc) (slots + ms) Q (F0 m (pc + 3) ls (.int r :: rest))) : W p l e R s m args below meth c H locs cells slots Q (F0 m pc ls st0) := by
  intro T hT X
  rcases hr T hT X with ⟨v, st₀, t, T', L, h0, X', hL, e1, e2, ⟨⟨r, u, hv, hp, hb⟩, hF⟩, st⟩ | ⟨q, st₀, t, T', L, E, ce, h0, X', hL, e1, e2, ⟨u, hp, hb, hF⟩, hce, hcv, hcl, st⟩
  · cases hv
    obtain ⟨k1, k2, k3⟩ := vx_keep h0 e1 hS hA hf hL hF
    obtain ⟨t2, a1, b1⟩ := kk r u t T'.heap (locs ++ L) e1.symm (by rw [← e2]; exact X'.warmed.alike) hp hb k1 k2 k3 T' rfl X'
    exact ⟨t2, st t2 a1, b1⟩
  · obtain ⟨k1, k2, k3⟩ := vx_keep h0 e1 hS hAX hf hL hF
    obtain ⟨t2, a1, b1⟩ := kx E ce q u t T'.heap (locs ++ L) e1.symm (by rw [← e2]; exact X'.warmed.alike) hp hb k1 k2 k3 (by rw [e1]; exact hce) hcv hcl T' rfl X'
    exact ⟨t2, st.trans a1, b1⟩
theorem vx_calll {S SX : Type} {post : Int64 → S → Prop} {px : SX → Prop} {B : S → State → Prop} {BX : String → SX → State → Prop} {AX : Nat → Prop} (hr : vx_Run p l e R s m args below meth c H locs cells slots mc ms (F0 m pc ls st0) rest (va_Ql post B A1 a) (vx_X px BX AX) free) (hS : va_S A0 H0 H locs) (hA : ∀ q, q < H.size → A1 q → A0 q) (hf : ∀ q, free q → A0 q) (hAX : ∀ q, q < H.size → AX q → A0 q)
    (kx : ∀ (E : String) (ce : Cell) (q9 : Addr) (u : SX) (t : State) (H1 : Heap) (locs1 : List Loc), t.heap = H1 → s.vm.Alike t.vm → px u → BX E u t → H.size ≤ H1.size → (∀ q : Nat, q < H.size → ¬ AX q → H1[q]? = H[q]?) → va_S A0 H0 H1 locs1 → H1[q9]? = some ce → ce.vm = .none → s.vm.findClass E = some ce.cls → vx_W p l e R s m args below meth c H1 locs1 (cells + mc) (slots + ms) Q (F0 m pc ls rest) q9)
    (kk : ∀ (r : Int64) (u : S) (t : State) (H1 : Heap) (locs1 : List Loc), t.heap = H1 → s.vm.Alike t.vm → post r u → B u t → H.size ≤ H1.size → (∀ q : Nat, q < H.size → ¬ A1 q → H1[q]? = H[q]?) → va_S A0 H0 H1 locs1 → W p l e R s m args below meth c H1 locs1 (cells + mc) (slots + ms) Q (F0 m (pc + 3) ls (.long r :: rest))) : W p l e R s m args below meth c H locs cells slots Q (F0 m pc ls st0) := by
  intro T hT X
  rcases hr T hT X with ⟨v, st₀, t, T', L, h0, X', hL, e1, e2, ⟨⟨r, u, hv, hp, hb⟩, hF⟩, st⟩ | ⟨q, st₀, t, T', L, E, ce, h0, X', hL, e1, e2, ⟨u, hp, hb, hF⟩, hce, hcv, hcl, st⟩
  · cases hv
    obtain ⟨k1, k2, k3⟩ := vx_keep h0 e1 hS hA hf hL hF
    obtain ⟨t2, a1, b1⟩ := kk r u t T'.heap (locs ++ L) e1.symm (by rw [← e2]; exact X'.warmed.alike) hp hb k1 k2 k3 T' rfl X'
    exact ⟨t2, st t2 a1, b1⟩
  · obtain ⟨k1, k2, k3⟩ := vx_keep h0 e1 hS hAX hf hL hF
    obtain ⟨t2, a1, b1⟩ := kx E ce q u t T'.heap (locs ++ L) e1.symm (by rw [← e2]; exact X'.warmed.alike) hp hb k1 k2 k3 (by rw [e1]; exact hce) hcv hcl T' rfl X'
    exact ⟨t2, st.trans a1, b1⟩
theorem vx_callf {S SX : Type} {post : UInt32 → S → Prop} {px : SX → Prop} {B : S → State → Prop} {BX : String → SX → State → Prop} {AX : Nat → Prop} (hr : vx_Run p l e R s m args below meth c H locs cells slots mc ms (F0 m pc ls st0) rest (va_Qf post B A1 a) (vx_X px BX AX) free) (hS : va_S A0 H0 H locs) (hA : ∀ q, q < H.size → A1 q → A0 q) (hf : ∀ q, free q → A0 q) (hAX : ∀ q, q < H.size → AX q → A0 q)
    (kx : ∀ (E : String) (ce : Cell) (q9 : Addr) (u : SX) (t : State) (H1 : Heap) (locs1 : List Loc), t.heap = H1 → s.vm.Alike t.vm → px u → BX E u t → H.size ≤ H1.size → (∀ q : Nat, q < H.size → ¬ AX q → H1[q]? = H[q]?) → va_S A0 H0 H1 locs1 → H1[q9]? = some ce → ce.vm = .none → s.vm.findClass E = some ce.cls → vx_W p l e R s m args below meth c H1 locs1 (cells + mc) (slots + ms) Q (F0 m pc ls rest) q9)
    (kk : ∀ (r : UInt32) (u : S) (t : State) (H1 : Heap) (locs1 : List Loc), t.heap = H1 → s.vm.Alike t.vm → post r u → B u t → H.size ≤ H1.size → (∀ q : Nat, q < H.size → ¬ A1 q → H1[q]? = H[q]?) → va_S A0 H0 H1 locs1 → W p l e R s m args below meth c H1 locs1 (cells + mc) (slots + ms) Q (F0 m (pc + 3) ls (.float r :: rest))) : W p l e R s m args below meth c H locs cells slots Q (F0 m pc ls st0) := by
  intro T hT X
  rcases hr T hT X with ⟨v, st₀, t, T', L, h0, X', hL, e1, e2, ⟨⟨r, u, hv, hp, hb⟩, hF⟩, st⟩ | ⟨q, st₀, t, T', L, E, ce, h0, X', hL, e1, e2, ⟨u, hp, hb, hF⟩, hce, hcv, hcl, st⟩
  · cases hv
    obtain ⟨k1, k2, k3⟩ := vx_keep h0 e1 hS hA hf hL hF
    obtain ⟨t2, a1, b1⟩ := kk r u t T'.heap (locs ++ L) e1.symm (by rw [← e2]; exact X'.warmed.alike) hp hb k1 k2 k3 T' rfl X'
    exact ⟨t2, st t2 a1, b1⟩
  · obtain ⟨k1, k2, k3⟩ := vx_keep h0 e1 hS hAX hf hL hF
    obtain ⟨t2, a1, b1⟩ := kx E ce q u t T'.heap (locs ++ L) e1.symm (by rw [← e2]; exact X'.warmed.alike) hp hb k1 k2 k3 (by rw [e1]; exact hce) hcv hcl T' rfl X'
    exact ⟨t2, st.trans a1, b1⟩
theorem vx_calld {S SX : Type} {post : UInt64 → S → Prop} {px : SX → Prop} {B : S → State → Prop} {BX : String → SX → State → Prop} {AX : Nat → Prop} (hr : vx_Run p l e R s m args below meth c H locs cells slots mc ms (F0 m pc ls st0) rest (va_Qd post B A1 a) (vx_X px BX AX) free) (hS : va_S A0 H0 H locs) (hA : ∀ q, q < H.size → A1 q → A0 q) (hf : ∀ q, free q → A0 q) (hAX : ∀ q, q < H.size → AX q → A0 q)
    (kx : ∀ (E : String) (ce : Cell) (q9 : Addr) (u : SX) (t : State) (H1 : Heap) (locs1 : List Loc), t.heap = H1 → s.vm.Alike t.vm → px u → BX E u t → H.size ≤ H1.size → (∀ q : Nat, q < H.size → ¬ AX q → H1[q]? = H[q]?) → va_S A0 H0 H1 locs1 → H1[q9]? = some ce → ce.vm = .none → s.vm.findClass E = some ce.cls → vx_W p l e R s m args below meth c H1 locs1 (cells + mc) (slots + ms) Q (F0 m pc ls rest) q9)
    (kk : ∀ (r : UInt64) (u : S) (t : State) (H1 : Heap) (locs1 : List Loc), t.heap = H1 → s.vm.Alike t.vm → post r u → B u t → H.size ≤ H1.size → (∀ q : Nat, q < H.size → ¬ A1 q → H1[q]? = H[q]?) → va_S A0 H0 H1 locs1 → W p l e R s m args below meth c H1 locs1 (cells + mc) (slots + ms) Q (F0 m (pc + 3) ls (.double r :: rest))) : W p l e R s m args below meth c H locs cells slots Q (F0 m pc ls st0) := by
  intro T hT X
  rcases hr T hT X with ⟨v, st₀, t, T', L, h0, X', hL, e1, e2, ⟨⟨r, u, hv, hp, hb⟩, hF⟩, st⟩ | ⟨q, st₀, t, T', L, E, ce, h0, X', hL, e1, e2, ⟨u, hp, hb, hF⟩, hce, hcv, hcl, st⟩
  · cases hv
    obtain ⟨k1, k2, k3⟩ := vx_keep h0 e1 hS hA hf hL hF
    obtain ⟨t2, a1, b1⟩ := kk r u t T'.heap (locs ++ L) e1.symm (by rw [← e2]; exact X'.warmed.alike) hp hb k1 k2 k3 T' rfl X'
    exact ⟨t2, st t2 a1, b1⟩
  · obtain ⟨k1, k2, k3⟩ := vx_keep h0 e1 hS hAX hf hL hF
    obtain ⟨t2, a1, b1⟩ := kx E ce q u t T'.heap (locs ++ L) e1.symm (by rw [← e2]; exact X'.warmed.alike) hp hb k1 k2 k3 (by rw [e1]; exact hce) hcv hcl T' rfl X'
    exact ⟨t2, st.trans a1, b1⟩
theorem vx_callv {S SX : Type} {post : S → Prop} {px : SX → Prop} {B : S → State → Prop} {BX : String → SX → State → Prop} {AX : Nat → Prop} (hr : vx_Run p l e R s m args below meth c H locs cells slots mc ms (F0 m pc ls st0) rest (va_Qv post B A1 a) (vx_X px BX AX) free) (hS : va_S A0 H0 H locs) (hA : ∀ q, q < H.size → A1 q → A0 q) (hf : ∀ q, free q → A0 q) (hAX : ∀ q, q < H.size → AX q → A0 q)
    (kx : ∀ (E : String) (ce : Cell) (q9 : Addr) (u : SX) (t : State) (H1 : Heap) (locs1 : List Loc), t.heap = H1 → s.vm.Alike t.vm → px u → BX E u t → H.size ≤ H1.size → (∀ q : Nat, q < H.size → ¬ AX q → H1[q]? = H[q]?) → va_S A0 H0 H1 locs1 → H1[q9]? = some ce → ce.vm = .none → s.vm.findClass E = some ce.cls → vx_W p l e R s m args below meth c H1 locs1 (cells + mc) (slots + ms) Q (F0 m pc ls rest) q9)
    (kk : ∀ (u : S) (t : State) (H1 : Heap) (locs1 : List Loc), t.heap = H1 → s.vm.Alike t.vm → post u → B u t → H.size ≤ H1.size → (∀ q : Nat, q < H.size → ¬ A1 q → H1[q]? = H[q]?) → va_S A0 H0 H1 locs1 → W p l e R s m args below meth c H1 locs1 (cells + mc) (slots + ms) Q (F0 m (pc + 3) ls (rest))) : W p l e R s m args below meth c H locs cells slots Q (F0 m pc ls st0) := by
  intro T hT X
  rcases hr T hT X with ⟨v, st₀, t, T', L, h0, X', hL, e1, e2, ⟨⟨u, hv, hp, hb⟩, hF⟩, st⟩ | ⟨q, st₀, t, T', L, E, ce, h0, X', hL, e1, e2, ⟨u, hp, hb, hF⟩, hce, hcv, hcl, st⟩
  · cases hv
    obtain ⟨k1, k2, k3⟩ := vx_keep h0 e1 hS hA hf hL hF
    obtain ⟨t2, a1, b1⟩ := kk u t T'.heap (locs ++ L) e1.symm (by rw [← e2]; exact X'.warmed.alike) hp hb k1 k2 k3 T' rfl X'
    exact ⟨t2, st t2 a1, b1⟩
  · obtain ⟨k1, k2, k3⟩ := vx_keep h0 e1 hS hAX hf hL hF
    obtain ⟨t2, a1, b1⟩ := kx E ce q u t T'.heap (locs ++ L) e1.symm (by rw [← e2]; exact X'.warmed.alike) hp hb k1 k2 k3 (by rw [e1]; exact hce) hcv hcl T' rfl X'
    exact ⟨t2, st.trans a1, b1⟩
/-- caught by the row x of this method's table; the rows ahead don't take it -/
theorem vx_catch {own name : String} {E : String} {ce : Cell} {q : Addr} (hown : s.vm.findClass own = some m.cls) (pre : List ExceptionTableEntry) (x : ExceptionTableEntry) (suf : List ExceptionTableEntry) (hsplit : c.exceptionTable.toList = pre ++ x :: suf)
    (hpass : ∀ z ∈ pre, covers z pc = false ∨ (z.catchType ≠ 0 ∧ ∃ nm : String, (Cond.classLink own z.catchType nm).before args s = true ∧ va_Nc E nm s)) (hx : covers x pc = true) (h0 : x.catchType ≠ 0)
    (hlink : (Cond.classLink own x.catchType name).before args s = true) (hcast : (Cond.castable E name).before args s = true) (hcell : H[q]? = some ce) (hv : ce.vm = .none) (hcl : s.vm.findClass E = some ce.cls)
    (kk : W p l e R s m args below meth c H locs cells slots Q (F0 m x.handlerPc ls [.ref q])) : vx_W p l e R s m args below meth c H locs cells slots Q (F0 m pc ls rest) q := by
  intro T hT X
  have hpl : e.platform.magicAccessors = ({} : Platform).magicAccessors := by rw [X.admits.platform]
  obtain ⟨c3, c4, hc3, hc4, hasg⟩ := Cond.castable_spec hcast
  cases Option.some.inj (hc3.symm.trans hcl)
  obtain ⟨c5, hc5, hcl5⟩ := Cond.classLink_spec hown hlink e.platform hpl
  cases Option.some.inj (hc4.symm.trans hc5)
  obtain ⟨vm', X', st⟩ := X.thenCaughtThrough q (g := F0 m pc ls rest) rfl (Steps.refl _) (by rw [hT]; exact hcell) (by rw [hv]; rfl) (by obtain ⟨k9, h9, -⟩ := Vm.findClass_spec hcl; exact ⟨k9, h9⟩) pre x suf hsplit
    (fun z hz => by
      rcases hpass z hz with h | ⟨hz0, nm, hl1, hn1⟩
      · exact Or.inl h
      · obtain ⟨c6, hc6, hcl6⟩ := Cond.classLink_spec hown hl1 e.platform hpl
        obtain ⟨a8, b8, h1, h2, h3⟩ := hn1
        cases Option.some.inj (h1.symm.trans hcl)
        cases Option.some.inj (h2.symm.trans hc6)
        exact Or.inr ⟨hz0, _, hcl6, h3⟩) hx (Or.inr ⟨h0, c4, hcl5, hasg⟩)
  obtain ⟨t, a1, b1⟩ := kk (T.setVm vm') hT X'
  exact ⟨t, st.trans a1, b1⟩
end Rows
section Ends
variable {p : Program} {l : Launch} {e : Env} {R : Room} {s : State} {m : MethodId} {args : Array Value} {below : List Frame} {meth : Method} {c : Code} {H : Heap} {locs : List Loc} {cells slots : Nat} {Q : State → Prop}
variable {mc ms : Nat} {free : Addr → Prop} {A0 A1 : Nat → Prop} {H0 : Heap} {a : Array Value} {ls : Array Slot} {st0 rest : List Value}
variable {Qc : Array Value → State → Outcome → State → Prop} {XC : String → State → State → Prop}
/-- what a body that may throw owes at its end -/
def vx_MQ (below : List Frame) (Qc : Array Value → State → Outcome → State → Prop) (XC : String → State → State → Prop) (a : Array Value) (s : State) (mc ms : Nat) (free : Addr → Prop) : State → Prop := fun t =>
  ∃ o, t.status = .running ∧ Ended t below o ∧ vx_Q Qc XC mc ms free a s o t
theorem vx_ret {g : JFrame} {mc ms : Nat} (k : W p l e R s m args below meth c H locs cells slots (MQ below Qc args s mc ms free) g) : W p l e R s m args below meth c H locs cells slots (vx_MQ below Qc XC args s mc ms free) g := by
  intro T hT X
  obtain ⟨t, a1, o, b1, b2, b3, b4⟩ := k T hT X
  exact ⟨t, a1, o, b1, b2, Or.inl ⟨b3, b4⟩⟩
/-- not caught here: it goes on to the caller -/
theorem vx_widen {g : JFrame} {q : Addr} {k n : Nat} (h1 : cells ≤ k) (h2 : slots ≤ n) (kk : vx_W p l e R s m args below meth c H locs k n Q g q) : vx_W p l e R s m args below meth c H locs cells slots Q g q := fun T hT X => kk T hT (stand_widen X h1 h2)
theorem vx_out {pc : Nat} {E : String} {ce : Cell} {q : Addr} {mc ms : Nat} (hout : ∀ x ∈ c.exceptionTable.toList, covers x pc = false) (hlocks : meth.locks = false) (hcell : H[q]? = some ce) (hv : ce.vm = .none) (hcl : s.vm.findClass E = some ce.cls)
    (hx : ∀ t : State, t.heap = H → s.vm.Alike t.vm → XC E s t) (hf : ∀ z ∈ locs, free z.base) (hc : cells ≤ mc) (hs : slots ≤ ms) :
    vx_W p l e R s m args below meth c H locs cells slots (vx_MQ below Qc XC args s mc ms free) (F0 m pc ls rest) q := by
  intro T hT X
  obtain ⟨st1, hrun, hend, hW, hsm⟩ := X.leaveThrown q (g := F0 m pc ls rest) rfl rfl rfl hout hlocks
  have hcell9 : (T.setFrames (.throwing q :: below)).heap[q]? = some ce := by
    show T.heap[q]? = some ce
    rw [hT]; exact hcell
  exact ⟨_, st1, .threw q, hrun, hend, Or.inr ⟨q, rfl, E, ce, locs, hx _ hT hW.alike, hcell9, hv, hcl, hW, hsm.mono hc hs, hf⟩⟩
theorem vx_frame {U : State} {k n : Nat} (h : s.sameButNew ({ U with vm := s.vm } : State) locs k n) : s.heap.size ≤ U.heap.size ∧ ∀ q : Nat, q < s.heap.size → (∀ z ∈ locs, z.base ≠ q) → U.heap[q]? = s.heap[q]? := by
  obtain ⟨-, h2, -, -, -, h6⟩ := h
  refine ⟨h2, fun q hq hz => ?_⟩
  obtain ⟨c9, e1, e2, e3, e4⟩ := h6 q _ (Array.getElem?_eq_getElem hq)
  have hs : c9.slots = (s.heap[q]).slots := Array.ext_getElem? fun i => e4 i fun hm => hz _ hm rfl
  have h9 : c9 = s.heap[q] := by
    rw [hs] at e2
    exact e2
  have e5 : U.heap[q]? = some c9 := e1
  rw [e5, h9, Array.getElem?_eq_getElem hq]
/-- the words of a throw but the four that speak of the heap -/
def vx_no (w : Cond) : Bool := decide (w ≠ .isRef (.static Bundle.tN "UNASSIGNED_STACK" Bundle.steD)) && decide (w ≠ .isRef (.static Bundle.tN "SUPPRESSED_SENTINEL" Bundle.listD)) && decide (w ≠ .laysStatic Bundle.tN "UNASSIGNED_STACK" Bundle.steD) && decide (w ≠ .laysStatic Bundle.tN "SUPPRESSED_SENTINEL" Bundle.listD)
def vx_at0 (own : String) (ic : Nat) (X : String) (names : List String) : List Cond := (Bundle.ownAtoms0 own ic X names).filter vx_no
def vx_atS (own : String) (ic : Nat) (X : String) (names : List String) : List Cond := (Bundle.ownAtoms own ic X names).filter vx_no
/-- a word that the tables alone decide, or a good one -/
def vx_ot (w : Cond) : Bool := w.onTables || goodWord w
theorem vx_ot_at {args a' : Array Value} {s U : State} {w : Cond} (hW : s.WarmedH U.vm) (hvm : s.vm = U.vm) (hg : vx_ot w = true) (h : w.before args s = true) : w.before a' U = true := by
  simp only [vx_ot, Bool.or_eq_true] at hg
  rcases hg with hg | hg
  · exact va_tabs hg hvm h
  · exact word_at hW (good_of_word hg) h
/-- a list's words: the good ones out of the method's own list, the others by premises of their own -/
theorem vx_hat {args : Array Value} {s : State} {L B : List Cond} (h1 : ∀ w ∈ L.filter goodWord, w.before args s = true) (h2 : ∀ w ∈ L.filter (fun w => !goodWord w), w ∈ B) (h3 : ∀ w ∈ B, w.before args s = true) : ∀ w ∈ L, w.before args s = true := by
  intro w hw
  by_cases g : goodWord w = true
  · exact h1 w (List.mem_filter.mpr ⟨hw, g⟩)
  · refine h3 w (h2 w (List.mem_filter.mpr ⟨hw, ?_⟩))
    show (!goodWord w) = true
    cases hgw : goodWord w
    · rfl
    · exact absurd hgw g
theorem vx_c {args : Array Value} {s : State} {w : Cond} {B : List Cond} (h : w.before args s = true) (t : ∀ w ∈ B, w.before args s = true) : ∀ w' ∈ w :: B, w'.before args s = true := fun w' h' => (List.mem_cons.mp h').elim (fun e => by rw [e]; exact h) (t w')
theorem vx_n {args : Array Value} {s : State} : ∀ w ∈ ([] : List Cond), w.before args s = true := fun _ h => nomatch h
theorem vx_own {args : Array Value} {s : State} {L : List Cond} (h1 : ∀ w ∈ L.filter vx_no, w.before args s = true)
    (hU : (Cond.isRef (.static Bundle.tN "UNASSIGNED_STACK" Bundle.steD)).before args s = true) (hN : (Cond.isRef (.static Bundle.tN "SUPPRESSED_SENTINEL" Bundle.listD)).before args s = true)
    (lU : (Cond.laysStatic Bundle.tN "UNASSIGNED_STACK" Bundle.steD).before args s = true) (lN : (Cond.laysStatic Bundle.tN "SUPPRESSED_SENTINEL" Bundle.listD).before args s = true) : ∀ w ∈ L, w.before args s = true := by
  intro w hw
  by_cases e1 : w = .isRef (.static Bundle.tN "UNASSIGNED_STACK" Bundle.steD)
  · rw [e1]; exact hU
  · by_cases e2 : w = .isRef (.static Bundle.tN "SUPPRESSED_SENTINEL" Bundle.listD)
    · rw [e2]; exact hN
    · by_cases e3 : w = .laysStatic Bundle.tN "UNASSIGNED_STACK" Bundle.steD
      · rw [e3]; exact lU
      · by_cases e4 : w = .laysStatic Bundle.tN "SUPPRESSED_SENTINEL" Bundle.listD
        · rw [e4]; exact lN
        · exact h1 w (List.mem_filter.mpr ⟨hw, by unfold vx_no; rw [decide_eq_true e1, decide_eq_true e2, decide_eq_true e3, decide_eq_true e4]; rfl⟩)
/-- where a static field lies, its class's statics cell in H -/
def vx_L (C n d : String) (A : Nat → Prop) (U : State) (H : Heap) : Prop := ∃ (c : ClassId) (k : Class) (i : Nat) (f : Field) (a : Nat) (cell : Cell), U.vm.findClass C = some c ∧ U.fieldFound? C n d = some (c, k, i, f) ∧ f.isStatic = true ∧ k.statics = some a ∧ H[a]? = some cell ∧ cell.vm.isStatics = true ∧ cell.cls = c ∧ f.slot < cell.slots.size ∧ k.staticTypes[f.slot]? = some f.type ∧ ¬ A a
theorem vx_L.moved {C n d : String} {A : Nat → Prop} {u U : State} {H : Heap} (hvm : u.vm.Alike U.vm) (h : vx_L C n d A u H) : vx_L C n d A U H := by
  obtain ⟨c, k, i, f, a, cell, h1, h2, h3, h4, h5, h6, h7, h8, h9, h10⟩ := h
  obtain ⟨k', hi', he⟩ := State.fieldFound?_setVm hvm h2
  exact ⟨c, k', i, f, a, cell, by rw [hvm.findClass]; exact h1, hi', h3, by rw [he]; exact h4, h5, h6, h7, h8, by rw [he]; exact h9, h10⟩
theorem vx_L.kept {C n d : String} {A : Nat → Prop} {U : State} {H H1 : Heap} (h : vx_L C n d A U H) (hq : ∀ a : Nat, a < H.size → ¬ A a → H1[a]? = H[a]?) : vx_L C n d A U H1 := by
  obtain ⟨c, k, i, f, a, cell, h1, h2, h3, h4, h5, h6, h7, h8, h9, h10⟩ := h
  exact ⟨c, k, i, f, a, cell, h1, h2, h3, h4, by rw [hq a (Array.getElem?_eq_some_iff.mp h5).1 h10]; exact h5, h6, h7, h8, h9, h10⟩
theorem vx_L.narrow {C n d : String} {A B : Nat → Prop} {U : State} {H : Heap} (h : vx_L C n d A U H) (hAB : ∀ q, B q → A q) : vx_L C n d B U H := by
  obtain ⟨c, k, i, f, a, cell, h1, h2, h3, h4, h5, h6, h7, h8, h9, h10⟩ := h
  exact ⟨c, k, i, f, a, cell, h1, h2, h3, h4, h5, h6, h7, h8, h9, fun z => h10 (hAB _ z)⟩
theorem vx_L.word {C n d : String} {A : Nat → Prop} {s : State} {args : Array Value} (h : vx_L C n d A s s.heap) : (Cond.laysStatic C n d).before args s = true := by
  obtain ⟨c, k, i, f, a, cell, h1, h2, h3, h4, h5, h6, h7, h8, h9, -⟩ := h
  show (Cond.laysStatic C n d).holds args s none s [] = true
  exact Cond.laysStatic_of h1 h2 h3 h4 h5 h6 h7 h8 h9
/-- .. and what it holds: null or some reference -/
def vx_Zq (C n d : String) (A : Nat → Prop) (U : State) (H : Heap) : Prop := va_Zq C n d A U H ∧ vx_L C n d A U H
theorem vx_Zq.moved {C n d : String} {A : Nat → Prop} {u U : State} {H : Heap} (hvm : u.vm.Alike U.vm) (h : vx_Zq C n d A u H) : vx_Zq C n d A U H := ⟨va_Zq.moved hvm h.1, vx_L.moved hvm h.2⟩
theorem vx_Zq.kept {C n d : String} {A : Nat → Prop} {U : State} {H H1 : Heap} (h : vx_Zq C n d A U H) (hq : ∀ a : Nat, a < H.size → ¬ A a → H1[a]? = H[a]?) : vx_Zq C n d A U H1 := ⟨va_Zq.kept h.1 hq, vx_L.kept h.2 hq⟩
theorem vx_Zq.narrow {C n d : String} {A B : Nat → Prop} {U : State} {H : Heap} (h : vx_Zq C n d A U H) (hAB : ∀ q, B q → A q) : vx_Zq C n d B U H := ⟨va_Zq.narrow h.1 hAB, vx_L.narrow h.2 hAB⟩
theorem vx_Zqof {args : Array Value} {s : State} {C n d : String} {A : Nat → Prop} (hl : (Cond.laysStatic C n d).before args s = true) (hini : (Cond.initialized C).before args s = true) (h : (Cond.isRef (.static C n d)).before args s = true) (hA : ∀ a : Nat, a < s.heap.size → ¬ A a) : vx_Zq C n d A s s.heap := by
  refine ⟨va_Zqof hl hini h hA, ?_⟩
  obtain ⟨c, k, i, f, a, cell, h1, h2, h3, h4, h5, h6, h7, h8, h9⟩ := Cond.laysStatic_spec hl
  exact ⟨c, k, i, f, a, cell, h1, h2, h3, h4, h5, h6, h7, h8, h9, hA a (Array.getElem?_eq_some_iff.mp h5).1⟩
theorem vx_isRef {C n d : String} {v : Value} {A : Nat → Prop} {s : State} {args : Array Value} (h : va_Z C n d v A s s.heap) (hv : v.isRef = true) : (Cond.isRef (.static C n d)).before args s = true := by
  obtain ⟨cf, kf, fi, f, a, cell, h1, h2, h3, h4, h5, h6, h7, -⟩ := h
  have he : (Term.static C n d).eval args s none [] s = some v := by
    simp [Term.eval, State.fieldNamed?, h1, h2, h4, h5, h6, h7]
  simp only [Cond.before, Cond.holds, Cond.value, he]
  cases v <;> simp_all [Value.isRef]
theorem vx_isRefq {C n d : String} {A : Nat → Prop} {s : State} {args : Array Value} (h : va_Zq C n d A s s.heap) : (Cond.isRef (.static C n d)).before args s = true := by
  rcases h with h | ⟨t, h⟩
  · exact vx_isRef h rfl
  · exact vx_isRef h rfl
/-- the same frame, seen from here: as if the method were called anew in this heap -/
theorem vx_rebase {T : State} (X : Stand p l e R s m args below meth c T locs cells slots) {R' : Room} (hf : R'.frames ≤ R.frames) (hl : R'.locals ≤ R.locals) (hc : cells + R'.cells ≤ R.cells) (hs : slots + R'.slots ≤ R.slots) :
    Stand p l e R' ((T.setVm s.vm).setFrames (.invoking m args :: below)) m args below meth c T [] 0 0 := by
  have htop : (T.setVm s.vm).topJava?.isSome := X.here.top
  have hF : ((T.setVm s.vm).setFrames (.invoking m args :: below)).frames = .invoking m args :: below := State.frames_setFrames _ (State.cur_lt_of_top htop)
  obtain ⟨g₀, hg0⟩ := Option.isSome_iff_exists.mp htop
  obtain ⟨r, hr⟩ := State.topJava?_eq_some.mp hg0
  have hl9 : e.platform.stackLimits (T.setVm s.vm).me = e.platform.stackLimits s.me := X.limits
  have hb9 : (T.setVm s.vm).me.stackBytes = s.me.stackBytes := X.bytes
  refine ⟨X.admits, X.cas, X.clock, hF, ?_, X.hears, X.method, X.code, X.here, X.tail, X.warmed, ?_, ?_, ?_⟩
  · have h := X.room
    have hU : ((T.setVm s.vm).setFrames (.invoking m args :: below)).localsInUse = s.localsInUse := by
      rw [State.localsInUse_invoking hF (meth := meth) (c := c) X.method X.code, State.localsInUse_invoking X.frames X.method X.code]
    simp only [State.hasRoom, Bool.and_eq_true, decide_eq_true_eq] at h ⊢
    obtain ⟨⟨⟨⟨h1, h2, h3, h4, h5, h6⟩, h7⟩, h8⟩, h9⟩ := h
    rw [X.frames, List.length_cons] at h2 h3
    have q1 := X.heapSize
    have q2 := X.used
    simp only [hF, hU, List.length_cons, State.stackLimits_setFrames, State.stackBytes_setFrames, hl9, hb9]
    refine ⟨⟨⟨⟨by omega, by omega, by omega, by omega, by omega, h6⟩, ?_⟩, ?_⟩, X.book⟩
    · show T.heap.size + R'.cells ≤ e.platform.maxCells
      omega
    · show T.slotsUsed + R'.slots ≤ e.platform.maxSlots
      omega
  · rw [State.stackLimits_setFrames]; rfl
  · rw [State.stackBytes_setFrames]; rfl
  · refine ⟨?_, Nat.le_refl _, Nat.le_refl _, ?_, ?_, fun a c9 h9 => ⟨c9, h9, rfl, rfl, fun _ _ => rfl⟩⟩
    · obtain ⟨t, ht, -⟩ := State.frames_cons hr
      show T.setVm s.vm = { ((T.setVm s.vm).setFrames (.invoking m args :: below)).setFrames (T.setVm s.vm).frames with heap := T.heap, slotsUsed := T.slotsUsed }
      rw [State.setFrames_setFrames, State.setFrames_self ht]
      rfl
    · show T.slotsUsed = T.slotsUsed + ((T.heap.toList.drop T.heap.size).map (·.slots.size)).sum
      rw [List.drop_eq_nil_of_le (Nat.le_of_eq Array.length_toList)]
      rfl
    · show ((T.heap.toList.drop T.heap.size).map (·.slots.size)).sum ≤ 0
      rw [List.drop_eq_nil_of_le (Nat.le_of_eq Array.length_toList)]
      exact Nat.le_refl _
/-- 'throw new E()': new; dup; invokespecial; athrow -/
theorem vx_throw0 {cc : ByteArray} {pc : Nat} (hexec : p.tables.exec = Jvm.exec) (hb : c.code = cc) (hl : l.stackTraces = false) {own cls : String} {names : List String} {ik ic mc ms : Nat} {A : Nat → Prop}
    (hown : s.vm.findClass own = some m.cls) (hcls : Bundle.fit cls = true) (hnames : ∀ n ∈ names, Bundle.fit n = true)
    (hk : (Cond.classLink own ik cls).before args s = true) (hini : (Cond.initialized cls).before args s = true) (hat : ∀ w ∈ vx_at0 own ic cls names, w.before args s = true)
    (hgood : ∀ w ∈ Cond.classLink own ik cls :: Cond.initialized cls :: vx_at0 own ic cls names, vx_ot w = true)
    (hU : vx_Zq Bundle.tN "UNASSIGNED_STACK" Bundle.steD A s s.heap) (hN : vx_Zq Bundle.tN "SUPPRESSED_SENTINEL" Bundle.listD A s s.heap) (hS : va_S A s.heap H locs) (hsize : ls.size = c.maxLocals)
    (d0 : decode cc pc = .ok (.new ik, 3)) (d3 : decode cc (pc + 3) = .ok (.dup, 1)) (d4 : decode cc (pc + 4) = .ok (.invokespecial ic, 3)) (d7 : decode cc (pc + 7) = .ok (.athrow, 1))
    (hout : ∀ x ∈ c.exceptionTable.toList, covers x (pc + 7) = false)
    (hRframes : names.length + 3 < R.frames) (hRlocals : (rest.map fun v => v.category).sum + (13 * (names.length + 1) + 42) ≤ R.locals) (hRcells : cells + 1 ≤ R.cells) (hRslots : slots + 6 ≤ R.slots) (hlocks : meth.locks = false)
    (hx : ∀ t : State, s.vm.Alike t.vm → H.size ≤ t.heap.size → (∀ q : Nat, q < H.size → t.heap[q]? = H[q]?) → XC cls s t)
    (hf : ∀ z ∈ locs, free z.base) (hc : cells + 1 ≤ mc) (hs : slots + 6 ≤ ms) :
    W p l e R s m args below meth c H locs cells slots (vx_MQ below Qc XC args s mc ms free) (F0 m pc ls rest) := by
  intro T hT X
  have htr : e.platform.stackTraces = false := (show e.platform.stackTraces = l.stackTraces by rw [X.admits.platform]).trans hl
  have Y := vx_rebase X (R' := { frames := R.frames, locals := R.locals, cells := 1, slots := 6 }) (Nat.le_refl _) (Nat.le_refl _) hRcells hRslots
  obtain ⟨s', hA⟩ : ∃ z, z = (T.setVm s.vm).setFrames (.invoking m args :: below) := ⟨_, rfl⟩
  rw [← hA] at Y
  have hvm : s'.vm = s.vm := by rw [hA]; rfl
  have hhp : s'.heap = H := by rw [hA]; exact hT
  have hW0 : s.WarmedH s'.vm := by rw [hvm]; exact State.WarmedH.refl s
  have hat' : ∀ w ∈ vx_at0 own ic cls names, w.before args s' = true := fun w hw => vx_ot_at hW0 hvm.symm (hgood w (List.mem_cons_of_mem _ (List.mem_cons_of_mem _ hw))) (hat w hw)
  have hk' : (Cond.classLink own ik cls).before args s' = true := vx_ot_at hW0 hvm.symm (hgood _ List.mem_cons_self) hk
  have hini' : (Cond.initialized cls).before args s' = true := vx_ot_at hW0 hvm.symm (hgood _ (List.mem_cons_of_mem _ List.mem_cons_self)) hini
  have hU' : vx_Zq Bundle.tN "UNASSIGNED_STACK" Bundle.steD A s' s'.heap := by rw [hhp]; exact vx_Zq.moved hW0.alike (hU.kept hS.2.1)
  have hN' : vx_Zq Bundle.tN "SUPPRESSED_SENTINEL" Bundle.listD A s' s'.heap := by rw [hhp]; exact vx_Zq.moved hW0.alike (hN.kept hS.2.1)
  have h : ∀ w ∈ Bundle.ownAtoms0 own ic cls names, w.before args s' = true := vx_own hat' (vx_isRefq hU'.1) (vx_isRefq hN'.1) hU'.2.word hN'.2.word
  have hown' : s'.vm.findClass own = some m.cls := by rw [hvm]; exact hown
  have hins : (Cond.instantiable cls 6).before args s' = true := h _ (by simp [Bundle.ownAtoms0])
  obtain ⟨vm₁, cX, kX, hfX, hkX, -, -, X₁, st1⟩ := Y.newCold hexec (own := own) (C := cls) (index := ik) (n := 6) hown' hk' hins hini'
    (g := F0 m pc ls rest) rfl (by rw [hb]; exact d0) (Nat.le_refl _) (Nat.le_refl _)
  generalize hT1 : (T.setVm vm₁).pushCell { cls := cX, slots := kX.instanceTypes.map defaultValue, vm := .none } = T1 at X₁ st1
  have hcat : (Value.ref T.heap.size).category = 1 := rfl
  have hcellA : T1.heap[T.heap.size]? = some (freshCell cX kX) := by rw [← hT1]; exact State.heap_pushCell_size _ _
  have d3' : decode c.code (pc + 3) = .ok (.dup, 1) := by rw [hb]; exact d3
  obtain ⟨U, hsteps, hrun, hend, hW, hsame, ce, hce, hO⟩ := X₁.ctorThrow0 hexec htr (own := own) (cls := cls) (names := names) (ic := ic) hown' hcls hnames h (fun x hx => nomatch hx) hfX hkX hcellA (by rw [hhp, hT]; exact Nat.le_refl _)
    (g := { method := m, pc := pc + 4, locals := ls, stack := .ref T.heap.size :: .ref T.heap.size :: rest, locked := none }) rfl hsize rfl rfl (rest := rest) rfl
    (by rw [hb]; exact d4) (by rw [hb]; exact d7) hout hRframes (by simp only [List.map_cons, List.sum_cons, hcat]; omega) hlocks
  obtain ⟨f1, f2⟩ := vx_frame hsame
  rw [hhp] at f1 f2
  have hWs : s.WarmedH U.vm := State.WarmedH.trans hW0 hW
  have hcl : s.vm.findClass cls = some ce.cls := by
    have h9 := hO.cls
    rw [hvm] at h9
    exact h9
  have hall : s.sameButNew ({ U with vm := s.vm } : State) locs mc ms := by
    subst hA
    obtain ⟨e1, e2⟩ := hsame
    rw [State.setFrames_setFrames] at e1
    have h2 : (T.setVm s.vm).sameButNew ({ U with vm := s.vm } : State) [] (0 + 1) (0 + 6) := ⟨e1, e2⟩
    have h3 := X.same.trans h2
    rw [List.append_nil] at h3
    exact h3.mono hc hs
  refine ⟨U, ?_, .threw T.heap.size, hrun, hend, Or.inr ⟨T.heap.size, rfl, cls, ce, locs, hx U hWs.alike f1 (fun q hq => f2 q hq (fun z hz => nomatch hz)), hce, hO.vm, hcl, hWs, hall, hf⟩⟩
  refine st1 _ ?_
  show Steps p.tables e below (T1.setTop { method := m, pc := pc + 3, locals := ls, stack := .ref T.heap.size :: rest, locked := none }) _
  jvm_step X₁.here [X₁.here.top, hexec, d3', Value.category]
  exact hsteps
/-- 'throw new E("text")': new; dup; ldc; invokespecial; athrow -/
theorem vx_throwS {cc : ByteArray} {pc : Nat} (hexec : p.tables.exec = Jvm.exec) (hb : c.code = cc) (hl : l.stackTraces = false) {own cls text : String} {names : List String} {ik is ic mc ms sa : Nat} {A : Nat → Prop}
    (hown : s.vm.findClass own = some m.cls) (hcls : Bundle.fit cls = true) (hnames : ∀ n ∈ names, Bundle.fit n = true)
    (hk : (Cond.classLink own ik cls).before args s = true) (hini : (Cond.initialized cls).before args s = true) (hstr : vk_R own is text sa s) (hat : ∀ w ∈ vx_atS own ic cls names, w.before args s = true)
    (hgood : ∀ w ∈ Cond.classLink own ik cls :: Cond.initialized cls :: vx_atS own ic cls names, vx_ot w = true)
    (hU : vx_Zq Bundle.tN "UNASSIGNED_STACK" Bundle.steD A s s.heap) (hN : vx_Zq Bundle.tN "SUPPRESSED_SENTINEL" Bundle.listD A s s.heap) (hS : va_S A s.heap H locs) (hsize : ls.size = c.maxLocals)
    (d0 : decode cc pc = .ok (.new ik, 3)) (d3 : decode cc (pc + 3) = .ok (.dup, 1)) (d4 : decode cc (pc + 4) = .ok (.ldc is, 2)) (d6 : decode cc (pc + 6) = .ok (.invokespecial ic, 3)) (d9 : decode cc (pc + 9) = .ok (.athrow, 1))
    (hout : ∀ x ∈ c.exceptionTable.toList, covers x (pc + 9) = false)
    (hRframes : names.length + 3 < R.frames) (hRlocals : (rest.map fun v => v.category).sum + (13 * (names.length + 1) + 43) ≤ R.locals) (hRcells : cells + 1 ≤ R.cells) (hRslots : slots + 6 ≤ R.slots) (hlocks : meth.locks = false)
    (hx : ∀ t : State, s.vm.Alike t.vm → H.size ≤ t.heap.size → (∀ q : Nat, q < H.size → t.heap[q]? = H[q]?) → XC cls s t)
    (hf : ∀ z ∈ locs, free z.base) (hc : cells + 1 ≤ mc) (hs : slots + 6 ≤ ms) :
    W p l e R s m args below meth c H locs cells slots (vx_MQ below Qc XC args s mc ms free) (F0 m pc ls rest) := by
  intro T hT X
  have htr : e.platform.stackTraces = false := (show e.platform.stackTraces = l.stackTraces by rw [X.admits.platform]).trans hl
  have Y := vx_rebase X (R' := { frames := R.frames, locals := R.locals, cells := 1, slots := 6 }) (Nat.le_refl _) (Nat.le_refl _) hRcells hRslots
  obtain ⟨s', hA⟩ : ∃ z, z = (T.setVm s.vm).setFrames (.invoking m args :: below) := ⟨_, rfl⟩
  rw [← hA] at Y
  have hvm : s'.vm = s.vm := by rw [hA]; rfl
  have hhp : s'.heap = H := by rw [hA]; exact hT
  have hW0 : s.WarmedH s'.vm := by rw [hvm]; exact State.WarmedH.refl s
  have hat' : ∀ w ∈ vx_atS own ic cls names, w.before args s' = true := fun w hw => vx_ot_at hW0 hvm.symm (hgood w (List.mem_cons_of_mem _ (List.mem_cons_of_mem _ hw))) (hat w hw)
  have hk' : (Cond.classLink own ik cls).before args s' = true := vx_ot_at hW0 hvm.symm (hgood _ List.mem_cons_self) hk
  have hini' : (Cond.initialized cls).before args s' = true := vx_ot_at hW0 hvm.symm (hgood _ (List.mem_cons_of_mem _ List.mem_cons_self)) hini
  have hU' : vx_Zq Bundle.tN "UNASSIGNED_STACK" Bundle.steD A s' s'.heap := by rw [hhp]; exact vx_Zq.moved hW0.alike (hU.kept hS.2.1)
  have hN' : vx_Zq Bundle.tN "SUPPRESSED_SENTINEL" Bundle.listD A s' s'.heap := by rw [hhp]; exact vx_Zq.moved hW0.alike (hN.kept hS.2.1)
  have h : ∀ w ∈ Bundle.ownAtoms own ic cls names, w.before args s' = true := vx_own hat' (vx_isRefq hU'.1) (vx_isRefq hN'.1) hU'.2.word hN'.2.word
  have hown' : s'.vm.findClass own = some m.cls := by rw [hvm]; exact hown
  have hins : (Cond.instantiable cls 6).before args s' = true := h _ (by simp [Bundle.ownAtoms])
  obtain ⟨vm₁, cX, kX, hfX, hkX, -, -, X₁, st1⟩ := Y.newCold hexec (own := own) (C := cls) (index := ik) (n := 6) hown' hk' hins hini'
    (g := F0 m pc ls rest) rfl (by rw [hb]; exact d0) (Nat.le_refl _) (Nat.le_refl _)
  generalize hT1 : (T.setVm vm₁).pushCell { cls := cX, slots := kX.instanceTypes.map defaultValue, vm := .none } = T1 at X₁ st1
  have hcat : (Value.ref T.heap.size).category = 1 := rfl
  have hcellA : T1.heap[T.heap.size]? = some (freshCell cX kX) := by rw [← hT1]; exact State.heap_pushCell_size _ _
  have d3' : decode c.code (pc + 3) = .ok (.dup, 1) := by rw [hb]; exact d3
  have d4' : decode c.code (pc + 4) = .ok (.ldc is, 2) := by rw [hb]; exact d4
  have hstr' : vk_R own is text sa s' := vk_R.warm hW0 hstr
  obtain ⟨U, hsteps, hrun, hend, hW, hsame, ce, hce, hO⟩ := X₁.ctorThrowS hexec htr (own := own) (cls := cls) (names := names) (ic := ic) hown' hcls hnames h (fun x hx => nomatch hx) hfX hkX hcellA (by rw [hhp, hT]; exact Nat.le_refl _) (msg := .ref sa) rfl
    (g := { method := m, pc := pc + 6, locals := ls, stack := .ref sa :: .ref T.heap.size :: .ref T.heap.size :: rest, locked := none }) rfl hsize rfl rfl (rest := rest) rfl
    (by rw [hb]; exact d6) (by rw [hb]; exact d9) hout hRframes (by simp only [List.map_cons, List.sum_cons, hcat]; omega) hlocks
  obtain ⟨f1, f2⟩ := vx_frame hsame
  rw [hhp] at f1 f2
  have hWs : s.WarmedH U.vm := State.WarmedH.trans hW0 hW
  have hcl : s.vm.findClass cls = some ce.cls := by
    have h9 := hO.cls
    rw [hvm] at h9
    exact h9
  have hall : s.sameButNew ({ U with vm := s.vm } : State) locs mc ms := by
    subst hA
    obtain ⟨e1, e2⟩ := hsame
    rw [State.setFrames_setFrames] at e1
    have h2 : (T.setVm s.vm).sameButNew ({ U with vm := s.vm } : State) [] (0 + 1) (0 + 6) := ⟨e1, e2⟩
    have h3 := X.same.trans h2
    rw [List.append_nil] at h3
    exact h3.mono hc hs
  refine ⟨U, ?_, .threw T.heap.size, hrun, hend, Or.inr ⟨T.heap.size, rfl, cls, ce, locs, hx U hWs.alike f1 (fun q hq => f2 q hq (fun z hz => nomatch hz)), hce, hO.vm, hcl, hWs, hall, hf⟩⟩
  refine st1 _ ?_
  show Steps p.tables e below (T1.setTop { method := m, pc := pc + 3, locals := ls, stack := .ref T.heap.size :: rest, locked := none }) _
  jvm_step X₁.here [X₁.here.top, hexec, d3', Value.category]
  exact X₁.ldcString hexec (own := own) (text := text) (index := is) (a := sa) hown' hstr'.1 hstr'.2
    (g := { method := m, pc := pc + 4, locals := ls, stack := .ref T.heap.size :: .ref T.heap.size :: rest, locked := none }) rfl d4' _ hsteps
/-- 'throw new E("text")', the text by a wide index -/
theorem vx_throwSW {cc : ByteArray} {pc : Nat} (hexec : p.tables.exec = Jvm.exec) (hb : c.code = cc) (hl : l.stackTraces = false) {own cls text : String} {names : List String} {ik is ic mc ms sa : Nat} {A : Nat → Prop}
    (hown : s.vm.findClass own = some m.cls) (hcls : Bundle.fit cls = true) (hnames : ∀ n ∈ names, Bundle.fit n = true)
    (hk : (Cond.classLink own ik cls).before args s = true) (hini : (Cond.initialized cls).before args s = true) (hstr : vk_R own is text sa s) (hat : ∀ w ∈ vx_atS own ic cls names, w.before args s = true)
    (hgood : ∀ w ∈ Cond.classLink own ik cls :: Cond.initialized cls :: vx_atS own ic cls names, vx_ot w = true)
    (hU : vx_Zq Bundle.tN "UNASSIGNED_STACK" Bundle.steD A s s.heap) (hN : vx_Zq Bundle.tN "SUPPRESSED_SENTINEL" Bundle.listD A s s.heap) (hS : va_S A s.heap H locs) (hsize : ls.size = c.maxLocals)
    (d0 : decode cc pc = .ok (.new ik, 3)) (d3 : decode cc (pc + 3) = .ok (.dup, 1)) (d4 : decode cc (pc + 4) = .ok (.ldc_w is, 3)) (d7 : decode cc (pc + 7) = .ok (.invokespecial ic, 3)) (d10 : decode cc (pc + 10) = .ok (.athrow, 1))
    (hout : ∀ x ∈ c.exceptionTable.toList, covers x (pc + 10) = false)
    (hRframes : names.length + 3 < R.frames) (hRlocals : (rest.map fun v => v.category).sum + (13 * (names.length + 1) + 43) ≤ R.locals) (hRcells : cells + 1 ≤ R.cells) (hRslots : slots + 6 ≤ R.slots) (hlocks : meth.locks = false)
    (hx : ∀ t : State, s.vm.Alike t.vm → H.size ≤ t.heap.size → (∀ q : Nat, q < H.size → t.heap[q]? = H[q]?) → XC cls s t)
    (hf : ∀ z ∈ locs, free z.base) (hc : cells + 1 ≤ mc) (hs : slots + 6 ≤ ms) :
    W p l e R s m args below meth c H locs cells slots (vx_MQ below Qc XC args s mc ms free) (F0 m pc ls rest) := by
  intro T hT X
  have htr : e.platform.stackTraces = false := (show e.platform.stackTraces = l.stackTraces by rw [X.admits.platform]).trans hl
  have Y := vx_rebase X (R' := { frames := R.frames, locals := R.locals, cells := 1, slots := 6 }) (Nat.le_refl _) (Nat.le_refl _) hRcells hRslots
  obtain ⟨s', hA⟩ : ∃ z, z = (T.setVm s.vm).setFrames (.invoking m args :: below) := ⟨_, rfl⟩
  rw [← hA] at Y
  have hvm : s'.vm = s.vm := by rw [hA]; rfl
  have hhp : s'.heap = H := by rw [hA]; exact hT
  have hW0 : s.WarmedH s'.vm := by rw [hvm]; exact State.WarmedH.refl s
  have hat' : ∀ w ∈ vx_atS own ic cls names, w.before args s' = true := fun w hw => vx_ot_at hW0 hvm.symm (hgood w (List.mem_cons_of_mem _ (List.mem_cons_of_mem _ hw))) (hat w hw)
  have hk' : (Cond.classLink own ik cls).before args s' = true := vx_ot_at hW0 hvm.symm (hgood _ List.mem_cons_self) hk
  have hini' : (Cond.initialized cls).before args s' = true := vx_ot_at hW0 hvm.symm (hgood _ (List.mem_cons_of_mem _ List.mem_cons_self)) hini
  have hU' : vx_Zq Bundle.tN "UNASSIGNED_STACK" Bundle.steD A s' s'.heap := by rw [hhp]; exact vx_Zq.moved hW0.alike (hU.kept hS.2.1)
  have hN' : vx_Zq Bundle.tN "SUPPRESSED_SENTINEL" Bundle.listD A s' s'.heap := by rw [hhp]; exact vx_Zq.moved hW0.alike (hN.kept hS.2.1)
  have h : ∀ w ∈ Bundle.ownAtoms own ic cls names, w.before args s' = true := vx_own hat' (vx_isRefq hU'.1) (vx_isRefq hN'.1) hU'.2.word hN'.2.word
  have hown' : s'.vm.findClass own = some m.cls := by rw [hvm]; exact hown
  have hins : (Cond.instantiable cls 6).before args s' = true := h _ (by simp [Bundle.ownAtoms])
  obtain ⟨vm₁, cX, kX, hfX, hkX, -, -, X₁, st1⟩ := Y.newCold hexec (own := own) (C := cls) (index := ik) (n := 6) hown' hk' hins hini'
    (g := F0 m pc ls rest) rfl (by rw [hb]; exact d0) (Nat.le_refl _) (Nat.le_refl _)
  generalize hT1 : (T.setVm vm₁).pushCell { cls := cX, slots := kX.instanceTypes.map defaultValue, vm := .none } = T1 at X₁ st1
  have hcat : (Value.ref T.heap.size).category = 1 := rfl
  have hcellA : T1.heap[T.heap.size]? = some (freshCell cX kX) := by rw [← hT1]; exact State.heap_pushCell_size _ _
  have d3' : decode c.code (pc + 3) = .ok (.dup, 1) := by rw [hb]; exact d3
  have d4' : decode c.code (pc + 4) = .ok (.ldc_w is, 3) := by rw [hb]; exact d4
  have hstr' : vk_R own is text sa s' := vk_R.warm hW0 hstr
  obtain ⟨U, hsteps, hrun, hend, hW, hsame, ce, hce, hO⟩ := X₁.ctorThrowS hexec htr (own := own) (cls := cls) (names := names) (ic := ic) hown' hcls hnames h (fun x hx => nomatch hx) hfX hkX hcellA (by rw [hhp, hT]; exact Nat.le_refl _) (msg := .ref sa) rfl
    (g := { method := m, pc := pc + 7, locals := ls, stack := .ref sa :: .ref T.heap.size :: .ref T.heap.size :: rest, locked := none }) rfl hsize rfl rfl (rest := rest) rfl
    (by rw [hb]; exact d7) (by rw [hb]; exact d10) hout hRframes (by simp only [List.map_cons, List.sum_cons, hcat]; omega) hlocks
  obtain ⟨f1, f2⟩ := vx_frame hsame
  rw [hhp] at f1 f2
  have hWs : s.WarmedH U.vm := State.WarmedH.trans hW0 hW
  have hcl : s.vm.findClass cls = some ce.cls := by
    have h9 := hO.cls
    rw [hvm] at h9
    exact h9
  have hall : s.sameButNew ({ U with vm := s.vm } : State) locs mc ms := by
    subst hA
    obtain ⟨e1, e2⟩ := hsame
    rw [State.setFrames_setFrames] at e1
    have h2 : (T.setVm s.vm).sameButNew ({ U with vm := s.vm } : State) [] (0 + 1) (0 + 6) := ⟨e1, e2⟩
    have h3 := X.same.trans h2
    rw [List.append_nil] at h3
    exact h3.mono hc hs
  refine ⟨U, ?_, .threw T.heap.size, hrun, hend, Or.inr ⟨T.heap.size, rfl, cls, ce, locs, hx U hWs.alike f1 (fun q hq => f2 q hq (fun z hz => nomatch hz)), hce, hO.vm, hcl, hWs, hall, hf⟩⟩
  refine st1 _ ?_
  show Steps p.tables e below (T1.setTop { method := m, pc := pc + 3, locals := ls, stack := .ref T.heap.size :: rest, locked := none }) _
  jvm_step X₁.here [X₁.here.top, hexec, d3', Value.category]
  exact X₁.ldcStringW hexec (own := own) (text := text) (index := is) (a := sa) hown' hstr'.1 hstr'.2
    (g := { method := m, pc := pc + 4, locals := ls, stack := .ref T.heap.size :: .ref T.heap.size :: rest, locked := none }) rfl d4' _ hsteps
end Ends
section Bodies
variable {l : Launch}
theorem vx_ofW {y : MethodName} {ws ws' : List Cond} {rm : Room} {Pc : Array Value → State → Prop} {Qc : Array Value → State → Outcome → State → Prop} {XC : String → State → State → Prop} {mc ms : Nat} {free : Addr → Prop} {cc : ByteArray} {maxL : Nat} {ret : Option FieldType}
    (hy : plainName y.cls = true) (hw : ws = Cond.code y cc maxL ret :: ws')
    (body : ∀ p e s m args below meth c s₁, BodyLoose p l y (headSpec ws rm) cc maxL ret e s m args below meth c s₁ → c.maxLocals = maxL → (∀ x ∈ c.exceptionTable.toList, False) → Pc args s →
      W p l e (headSpec ws rm).room s m args below meth c s.heap [] 0 0 (vx_MQ below Qc XC args s mc ms free) (entryFrame m args maxL)) : vx_Met l y ws rm Pc Qc XC mc ms free := by
  refine MetFree.of_bodyS (code := cc) (maxLocals := maxL) (ret := ret) hy ?_ ?_
  · intro args s m h hn
    obtain ⟨meth, c, h1, h2, h3, h4, h5, h6, -, -⟩ := Cond.code_spec hn (atoms_spec (ws := ws) h _ (by rw [hw]; exact List.mem_cons_self))
    exact ⟨meth, c, h1, h2, h3, h4, h5, h6⟩
  · intro p e s m args below meth c s₁ B hml hP _
    have hh0 : s₁.heap = s.heap := by rw [B.state]; rfl
    have ht : ∀ x ∈ c.exceptionTable.toList, False := by
      obtain ⟨meth9, c9, h1, h2, -, -, -, -, h7, -⟩ := Cond.code_spec B.named (atoms_spec (ws := ws) B.pre _ (by rw [hw]; exact List.mem_cons_self))
      cases Option.some.inj (h1.symm.trans B.method)
      cases Option.some.inj (h2.symm.trans (Stand.of_body B).code)
      intro x hx
      rw [Array.isEmpty_iff.mp h7] at hx
      cases hx
    obtain ⟨t, a1, o, b1, b2, b3⟩ := body p e s m args below meth c s₁ B hml ht hP s₁ hh0 (Stand.of_body B)
    exact ⟨t, o, a1, b1, b2, b3⟩
/-- the table of a body with handlers -/
theorem vx_table {p : Program} {x y : MethodName} {S : Spec} {cc bytes : ByteArray} {maxL maxL' : Nat} {ret ret' : Option FieldType} {e : Env} {s s₁ : State} {m : MethodId} {args : Array Value} {below : List Frame} {meth : Method} {c : Code} {hh : List (Nat × Nat × Nat × Nat)}
    (B : BodyLoose p l y S cc maxL ret e s m args below meth c s₁) (h : (Cond.codeWith y bytes maxL' ret' hh).before args s = true) : c.exceptionTable.toList = tableOf hh := by
  obtain ⟨m9, meth9, c9, hn9, h1, h2, -, -, h6, -⟩ := Cond.codeWith_spec h
  cases Option.some.inj (hn9.symm.trans B.named)
  cases Option.some.inj (h1.symm.trans B.method)
  cases Option.some.inj (h2.symm.trans (Stand.of_body B).code)
  rw [← h6, table_eq]
end Bodies
end VXA
/-! ===== END ===== -/
/-! ===== BEGIN a static call of a method with an exception table ===== -/
section VXS
variable {p : Program} {l : Launch} {e : Env} {R : Room} {s : State} {m : MethodId} {args : Array Value} {below : List Frame} {meth : Method} {c : Code} {T : State} {H : Heap} {locs : List Loc} {cells slots : Nat}
abbrev vx_CSW (R : Room) (s : State) (args : Array Value) (own : String) (index : Nat) (y : MethodName) (bytes : ByteArray) (maxL : Nat) (ret : Option FieldType) (hh : List (Nat × Nat × Nat × Nat)) (ws : List Cond) (rm : Room) (mc ms n : Nat) : Prop :=
  (rm.cells = mc ∧ rm.slots = ms ∧ rm.frames + 1 ≤ R.frames ∧ 8 + (maxL + 11) + rm.locals ≤ R.locals ∧ (∀ w ∈ ws, ∀ (a' : Array Value) (U : State), s.WarmedH U.vm → w.before a' U = true) ∧ Cond.codeWith y bytes maxL ret hh ∈ ws) ∧
  (Cond.codeWith y bytes maxL ret hh).before args s = true ∧ (Cond.initialized y.cls).before args s = true ∧ (y.cls ≠ "java/lang/invoke/MethodHandle" ∧ y.cls ≠ "java/lang/invoke/VarHandle") ∧
  (∀ sig, parseMethodDescriptor y.desc = some sig → n = sig.parameters.length) ∧ (Cond.methodLink own index y).before args s = true ∧ (Cond.static y).before args s = true
theorem vx_cwSW {own : String} {index maxL mc ms : Nat} {y : MethodName} {bytes : ByteArray} {ret : Option FieldType} {hh : List (Nat × Nat × Nat × Nat)} {Ts ws ws' : List Cond} {rm : Room} (n : Nat) (ht : ∀ w ∈ Ts, w.before args s = true) (hT : GoodIn Ts (va_wsS own index y ws)) (hw : ws = Cond.codeWith y bytes maxL ret hh :: ws') (hrc : rm.cells = mc) (hrs : rm.slots = ms)
    (hd : y.cls ≠ "java/lang/invoke/MethodHandle" ∧ y.cls ≠ "java/lang/invoke/VarHandle" ∧ (parseMethodDescriptor y.desc).map (fun d => d.parameters.length) = some n) (hR : rm.frames + 1 ≤ R.frames ∧ 8 + (maxL + 11) + rm.locals ≤ R.locals) :
    vx_CSW R s args own index y bytes maxL ret hh ws rm mc ms n := by
  have ok : ∀ w ∈ va_wsS own index y ws, w.before args s = true := fun w h => ht w (hT w h).1
  have hG : GoodIn Ts ws := fun w h => hT w (by unfold va_wsS; exact List.mem_append_right _ h)
  have hc : Cond.codeWith y bytes maxL ret hh ∈ ws := by rw [hw]; exact List.mem_cons_self
  refine ⟨⟨hrc, hrs, hR.1, hR.2, pay_in ht hG, hc⟩, ht _ (hG _ hc).1, ok _ (by simp [va_wsS]), ⟨hd.1, hd.2.1⟩, fun sig h => ?_, ok _ (by simp [va_wsS]), ok _ (by simp [va_wsS])⟩
  have h2 := hd.2.2
  rw [h] at h2
  exact (Option.some.inj h2).symm
theorem vx_callSW (X : Stand p l e R s m args below meth c T locs cells slots) (hexec : p.tables.exec = Jvm.exec) {own : String} {index : Nat} {y : MethodName} {bytes : ByteArray} {maxL : Nat} {ret : Option FieldType} {hh : List (Nat × Nat × Nat × Nat)}
    (hown : s.vm.findClass own = some m.cls) (hlink : (Cond.methodLink own index y).before args s = true) (hstat : (Cond.static y).before args s = true) (hinit : (Cond.initialized y.cls).before args s = true)
    (hcode : (Cond.codeWith y bytes maxL ret hh).before args s = true) (hy : y.cls ≠ "java/lang/invoke/MethodHandle" ∧ y.cls ≠ "java/lang/invoke/VarHandle")
    {W9 : Nat} {Pre : Pt → Array Value → Prop} {Post : Pt → Array Value → Option Value → Pt → Prop} (hK : Back l R p e below s args y 3 W9 Pre Post)
    {g : JFrame} (hg : g.method = m) (hsize : g.locals.size = c.maxLocals) {argsL rest : List Value} (hlen : ∀ sig, parseMethodDescriptor y.desc = some sig → argsL.length = sig.parameters.length)
    (hstack : g.stack = argsL.reverse ++ rest) (hW : 2 * g.monitorRoom + (rest.map fun v => v.category).sum ≤ W9) (hdg : decode c.code g.pc = .ok (.invokestatic index, 3))
    (hpre : ∀ vm₁, s.WarmedH vm₁ → Pre ⟨T.setVm vm₁, locs, cells, slots⟩ argsL.toArray) :
    ∃ (v : Option Value) (vm₁ : Vm) (B : Pt), s.WarmedH vm₁ ∧ Stand p l e R s m args below meth c B.U B.locs B.cells B.slots ∧ Post ⟨T.setVm vm₁, locs, cells, slots⟩ argsL.toArray v B ∧
      ∀ target, Steps p.tables e below (B.U.setTop { g with pc := g.pc + 3, stack := v.toList ++ rest }) target → Steps p.tables e below (T.setTop g) target := by
  obtain ⟨mk, methM, cM, hnamed, hmethM, -, -, -, -, -, -, hsigM⟩ := Cond.codeWith_spec hcode
  have hstatic : methM.isStatic = true := Cond.static_spec hnamed hmethM hstat
  obtain ⟨kP, hkP, -⟩ := className_of_methodNamed hnamed
  have hinitP : kP.init = .initialized := Cond.initialized_spec (findClass_of_methodNamed hnamed) hkP hinit
  obtain ⟨vm₁, X₁, hstep₁⟩ := X.invokestatic hexec hown hlink hnamed hmethM hstatic hkP hinitP hy (g := g) hg (argsL := argsL) (rest := rest) (hlen _ hsigM) hstack hdg
  obtain ⟨v, B, X', hpost, hsteps⟩ := hK m meth c ⟨T.setVm vm₁, locs, cells, slots⟩ { g with stack := rest } (.invokestatic index) mk argsL.toArray X₁ hg hsize hdg hW (X₁.named hnamed) (hpre vm₁ X₁.warmed)
  exact ⟨v, vm₁, B, X₁.warmed, X', hpost, fun target h => hstep₁ _ fun acts => by rw [doInvoke_state]; exact hsteps.trans h⟩
theorem vx_runSW {y : MethodName} {bytes cc : ByteArray} {maxL nL mc ms n index : Nat} {ret : Option FieldType} {hh : List (Nat × Nat × Nat × Nat)} {ws : List Cond} {rm : Room} {Pc : Array Value → State → Prop} {Qc : Array Value → State → Outcome → State → Prop} {free : Addr → Prop} {Ts : List Cond} {own : String} {As rest : List Value} {g : JFrame}
    (S : CallFix p m c cc nL s args Ts own) (hM : Met l y ws rm Pc Qc mc ms free) (cw : vx_CSW R s args own index y bytes maxL ret hh ws rm mc ms n) (hp : PreS s H Pc As)
    (hg : g.method = m) (hn : As.length = n) (hsize : g.locals.size = nL) (hstack : g.stack = As.reverse ++ rest) (hW : 2 * g.monitorRoom + (rest.map fun v => v.category).sum ≤ 8) (hdg : decode cc g.pc = .ok (.invokestatic index, 3)) (hf : cells + mc ≤ R.cells ∧ slots + ms ≤ R.slots) :
    va_Run p l e R s m args below meth c H locs cells slots mc ms g rest (Qc As.toArray) (free) := by
  obtain ⟨⟨hrc, hrs, hfr, hlo, hws, hcw⟩, hcode, hini, hy, hlen, hl, hstt⟩ := cw
  have hK : Back l R p e below s args y 3 8 (PreOf R mc ms Pc) (PostOf Qc mc ms free) := va_backW (hh := hh) (bytes := bytes) (maxL := maxL) (ret := ret) hM hp.1 hrc hrs hfr hlo hws hcw (fun a' U hW => word_at hW (Or.inl (by first | rfl | simp [Cond.onTables, Cond.keeps, Cond.steady])) hini)
  obtain ⟨hx, hb, hml, ho, -⟩ := S
  intro T hT X
  obtain ⟨v, vm₁, ⟨U', l2, c2, s2⟩, hW₁, X', ⟨g', mk, t, L, e1, e2, hq, h1, hL, h2, h3⟩, st⟩ := vx_callSW X hx (hh := hh) (bytes := bytes) (maxL := maxL) (ret := ret) ho hl hstt hini hcode hy hK hg (hsize.trans hml.symm) (argsL := As) (rest := rest) (fun sig h => hn.trans (hlen sig h)) hstack hW (by rw [hb]; exact hdg)
    (fun vm₁ hW₁ => ⟨hf.1, hf.2, hp.2 (T.setVm vm₁) hT hW₁⟩)
  dsimp only [Pt.U, Pt.locs, Pt.cells, Pt.slots] at X' e1 e2 h1 h2 h3 st
  subst h1; subst h2; subst h3
  exact ⟨v, (T.setVm vm₁).calling g' mk As.toArray, t, U', L, hT, X', hL, e1, e2, hq, st⟩
/-- not caught here, past rows that name other classes: it goes on to the caller -/
theorem vx_outP {p : Program} {l : Launch} {e : Env} {R : Room} {s : State} {m : MethodId} {args : Array Value} {below : List Frame} {meth : Method} {c : Code} {H : Heap} {locs : List Loc} {cells slots : Nat} {free : Addr → Prop} {ls : Array Slot} {rest : List Value} {Qc : Array Value → State → Outcome → State → Prop} {XC : String → State → State → Prop}
    {pc : Nat} {own E : String} {ce : Cell} {q : Addr} {mc ms : Nat} (hown : s.vm.findClass own = some m.cls) (hlocks : meth.locks = false)
    (hpass : ∀ z ∈ c.exceptionTable.toList, covers z pc = false ∨ (z.catchType ≠ 0 ∧ ∃ nm : String, (Cond.classLink own z.catchType nm).before args s = true ∧ va_Nc E nm s)) (hcell : H[q]? = some ce) (hv : ce.vm = .none) (hcl : s.vm.findClass E = some ce.cls)
    (hx : ∀ t : State, t.heap = H → s.vm.Alike t.vm → XC E s t) (hf : ∀ z ∈ locs, free z.base) (hc : cells ≤ mc) (hs : slots ≤ ms) :
    vx_W p l e R s m args below meth c H locs cells slots (vx_MQ below Qc XC args s mc ms free) (F0 m pc ls rest) q := by
  intro T hT X
  have hpl : e.platform.magicAccessors = ({} : Platform).magicAccessors := by rw [X.admits.platform]
  obtain ⟨vm', hW', X', st⟩ := X.outThrough hlocks q (g := F0 m pc ls rest) rfl rfl rfl (cell := ce) (by rw [hT]; exact hcell) (by rw [hv]; rfl)
    (by obtain ⟨k9, h9, -⟩ := Vm.findClass_spec hcl; exact ⟨k9, h9⟩) (fun z hz => by
      rcases hpass z hz with h | ⟨hz0, nm, hl1, hn1⟩
      · exact Or.inl h
      · obtain ⟨c6, hc6, hcl6⟩ := Cond.classLink_spec hown hl1 e.platform hpl
        obtain ⟨a8, b8, h1, h2, h3⟩ := hn1
        cases Option.some.inj (h1.symm.trans hcl)
        cases Option.some.inj (h2.symm.trans hc6)
        exact Or.inr ⟨hz0, _, hcl6, h3⟩)
  obtain ⟨g₀, hfr⟩ := X'.frames_eq
  have hcell9 : ((T.setVm vm').setFrames (.throwing q :: below)).heap[q]? = some ce := by
    show T.heap[q]? = some ce
    rw [hT]; exact hcell
  have hend : Ended ((T.setVm vm').setFrames (.throwing q :: below)) below (.threw q) := State.frames_setFrames _ (State.cur_lt_of_frames hfr)
  refine ⟨(T.setVm vm').setFrames (.throwing q :: below), ?_, .threw q, X'.here.running, hend, Or.inr ⟨q, rfl, E, ce, locs, hx _ hT (X'.ends _).1.alike, hcell9, hv, hcl, (X'.ends _).1, (X'.ends _).2.mono hc hs, hf⟩⟩
  rw [X.pushThrowing_eq]
  exact st
/-- a thing of a world lies in the heap -/
theorem vx_lt {D : va_G} {cl : List vw_C} {ws : va_W} {H1 : Heap} (h : va_P D cl ws H1) {k : Nat} {q : Nat × va_E} (hk : ws[k]? = some q) : q.1 < H1.size := (h k q hk).lt
end VXS
/-! ===== END ===== -/
/-! ===== BEGIN methods with a table of their own: called by a name, returning or throwing ===== -/
section VXH
/-! vx_backW, vx_callVX, vx_callSX, vx_callVW, vx_runVW, vx_runVX, vx_runSX, vx_ofWH follow the same proofs as their sisters above (Free/Laws.lean, Shelf42/LK1.lean); vx_outP calls Shelf42/NT130.lean (outThrough). -/
section
variable {l : Launch} {R : Room} {p : Program} {e : Env} {below : List Frame} {s : State} {sargs : Array Value} {y : MethodName} {len W9 : Nat}
theorem vx_backW {ws : List Cond} {rm : Room} {Pc : Array Value → State → Prop} {Qc : Array Value → State → Outcome → State → Prop} {XC : String → State → State → Prop} {mc ms : Nat} {free : Addr → Prop} {bytes : ByteArray} {maxL : Nat} {ret : Option FieldType} {hh : List (Nat × Nat × Nat × Nat)}
    (hM : vx_Met l y ws rm Pc Qc XC mc ms free) (hblind : FrameBlind Pc) (hrc : rm.cells = mc) (hrs : rm.slots = ms)
    (hframes : rm.frames + 1 ≤ R.frames) (hlocals : W9 + (maxL + 11) + rm.locals ≤ R.locals)
    (hws : ∀ w ∈ ws, ∀ a' U, s.WarmedH U.vm → w.before a' U = true) (hcode : Cond.codeWith y bytes maxL ret hh ∈ ws) (hinit : ∀ a' U, s.WarmedH U.vm → (Cond.initialized y.cls).before a' U = true) :
    vx_Back l R p e below s sargs y len W9 (PreOf R mc ms Pc) (PostOf Qc mc ms free) (vx_Post XC mc ms free) := by
  intro m meth c A g ig mk a X hg hsize hdg hW hn hp
  have h1 : (headSpec ws rm).pre.before a A.U = true := atoms_intro fun w hw => hws w hw _ _ X.warmed
  have h2 : (Cond.codeWith y bytes maxL ret hh).before a A.U = true := hws _ hcode _ _ X.warmed
  have h3 : (Cond.initialized y.cls).before a A.U = true := hinit _ _ X.warmed
  have h4 : A.cells + (headSpec ws rm).room.cells ≤ R.cells := by rw [show (headSpec ws rm).room.cells = mc from hrc]; exact hp.1
  have h5 : A.slots + (headSpec ws rm).room.slots ≤ R.slots := by rw [show (headSpec ws rm).room.slots = ms from hrs]; exact hp.2.1
  have hPc : Pc a (A.U.calling g mk a) := hblind _ _ _ _ hp.2.2
  obtain ⟨U, Ls, c0, s0⟩ := A
  dsimp only [Pt.U, Pt.locs, Pt.cells, Pt.slots] at h1 h2 h3 h4 h5 X hn hPc ⊢
  obtain ⟨m9, methY, cY, hn9, hmY, hcY, -, hlY, -⟩ := Cond.codeWith_spec h2
  cases Option.some.inj (hn9.symm.trans hn)
  obtain ⟨kY, hkY, -⟩ := className_of_methodNamed hn
  have hinitY : kY.init = .initialized := Cond.initialized_spec (findClass_of_methodNamed hn) hkY h3
  have h : At U g.method c below := by rw [hg]; exact X.here
  have hlocals9 : W9 + (maxL + 11) + (headSpec ws rm).room.locals ≤ R.locals := hlocals
  have happ : (headSpec ws rm).appliesLoose y e.platform (U.calling g mk a) = true :=
    Spec.appliesLoose_calling (g := g) h hdg hn hkY hinitY
      (X.room_calling (g := g) (R' := (headSpec ws rm).room) hsize hmY hcY hframes (by rw [hlY]; omega) h4 h5) h1
  obtain ⟨mid, hmid⟩ := h.above
  have hfr : (U.setTop g).frames = (.java g :: mid) ++ below := by rw [State.frames_setTop' g h.top, hmid]; rfl
  obtain ⟨o, s₂, hsteps, -, hend, hq⟩ := Steps.callFree hM p X.admits X.cas X.clock (acts := []) hfr happ hPc trivial
  have hq' : vx_Q Qc XC mc ms free a (U.calling g mk a) o s₂ := hq
  rw [State.frames_setTop' g h.top] at hend
  obtain ⟨g₀, hg0⟩ := Option.isSome_iff_exists.mp h.top
  obtain ⟨r, hr⟩ := State.topJava?_eq_some.mp hg0
  have hr' : (({ U with heap := s₂.heap, slotsUsed := s₂.slotsUsed } : State).setVm s₂.vm).frames = .java g₀ :: r := hr
  rcases hq' with ⟨hqc, L, hfe, hL⟩ | ⟨q, rfl, E, ce, L, hx, hce, hcv, hcl, hW₂, hsm, hL⟩
  · obtain ⟨⟨v, rfl⟩, hW₂, e2, q2, q3, q4, q5, q6⟩ := id hfe
    have e3 : s₂ = ({ (U.calling g mk a).setFrames s₂.frames with heap := s₂.heap, slotsUsed := s₂.slotsUsed } : State).setVm s₂.vm := by
      have : s₂ = ({ s₂ with vm := (U.calling g mk a).vm } : State).setVm s₂.vm := rfl
      rw [e2] at this
      exact this
    obtain ⟨c₂, i₂, len₂, hc₂, hd₂, hf₂⟩ := hend
    have hW' : U.WarmedH s₂.vm := hW₂
    have hcc : c₂ = c := by
      have h1 : s₂.code? g.method = U.code? g.method := by
        rw [State.code?_eq, State.code?_eq, hW'.alike.method?]
      exact Option.some.inj (hc₂.symm.trans (h1.trans h.code))
    subst hcc
    have hlen : len₂ = len := by rw [hdg] at hd₂; cases hd₂; rfl
    subst hlen
    have hs₂ : s₂ = (({ U with heap := s₂.heap, slotsUsed := s₂.slotsUsed } : State).setVm s₂.vm).setTop { g with pc := g.pc + len₂, stack := v.toList ++ g.stack } := by
      refine e3.trans ?_
      rw [hf₂, State.calling_eq h.top, State.setFrames_setFrames, State.setTop_of_frames _ hr', hr]
      rfl
    have hsame : U.sameButNew ({ U with heap := s₂.heap, slotsUsed := s₂.slotsUsed } : State) L mc ms := by
      refine ⟨?_, q2, q3, q4, q5, q6⟩
      obtain ⟨t, ht, -⟩ := State.frames_cons hr
      show ({ U with heap := s₂.heap, slotsUsed := s₂.slotsUsed } : State) = { U.setFrames U.frames with heap := s₂.heap, slotsUsed := s₂.slotsUsed }
      rw [State.setFrames_self ht]
    subst hg
    refine Or.inl ⟨v, ⟨(({ U with heap := s₂.heap, slotsUsed := s₂.slotsUsed } : State).setVm s₂.vm), Ls ++ L, c0 + mc, s0 + ms⟩,
      ⟨X.admits, X.cas, X.clock, X.frames, X.room, X.hears, X.method, X.code, (X.here.setHeapUsed s₂.heap s₂.slotsUsed).setVm hW'.alike, X.tail, State.WarmedH.trans X.warmed hW', X.limits, X.bytes, X.same.trans (hsame.setVm s.vm)⟩,
      ⟨g, mk, s₂, L, rfl, rfl, hqc, rfl, hL, rfl, rfl⟩, ?_⟩
    show Steps p.tables e below _ ((({ U with heap := s₂.heap, slotsUsed := s₂.slotsUsed } : State).setVm s₂.vm).setTop { g with pc := g.pc + len₂, stack := v.toList ++ g.stack })
    rw [← hs₂]
    exact hsteps
  · obtain ⟨e2, q2, q3, q4, q5, q6⟩ := id hsm
    have e3 : s₂ = ({ (U.calling g mk a).setFrames s₂.frames with heap := s₂.heap, slotsUsed := s₂.slotsUsed } : State).setVm s₂.vm := by
      have : s₂ = ({ s₂ with vm := (U.calling g mk a).vm } : State).setVm s₂.vm := rfl
      rw [e2] at this
      exact this
    have hf₂ : s₂.frames = .throwing q :: .java g :: U.frames.tail := hend
    have hW' : U.WarmedH s₂.vm := hW₂
    have hs₂ : s₂ = ((({ U with heap := s₂.heap, slotsUsed := s₂.slotsUsed } : State).setVm s₂.vm).setTop g).pushFrame (.throwing q) := by
      refine e3.trans ?_
      rw [hf₂, State.calling_eq h.top, State.setFrames_setFrames, State.pushFrame, State.frames_setTop _ hr', State.setTop_of_frames _ hr', State.setFrames_setFrames, hr]
      rfl
    have hsame : U.sameButNew ({ U with heap := s₂.heap, slotsUsed := s₂.slotsUsed } : State) L mc ms := by
      refine ⟨?_, q2, q3, q4, q5, q6⟩
      obtain ⟨t, ht, -⟩ := State.frames_cons hr
      show ({ U with heap := s₂.heap, slotsUsed := s₂.slotsUsed } : State) = { U.setFrames U.frames with heap := s₂.heap, slotsUsed := s₂.slotsUsed }
      rw [State.setFrames_self ht]
    subst hg
    refine Or.inr ⟨q, ⟨(({ U with heap := s₂.heap, slotsUsed := s₂.slotsUsed } : State).setVm s₂.vm), Ls ++ L, c0 + mc, s0 + ms⟩,
      ⟨X.admits, X.cas, X.clock, X.frames, X.room, X.hears, X.method, X.code, (X.here.setHeapUsed s₂.heap s₂.slotsUsed).setVm hW'.alike, X.tail, State.WarmedH.trans X.warmed hW', X.limits, X.bytes, X.same.trans (hsame.setVm s.vm)⟩,
      ⟨g, mk, s₂, L, E, ce, rfl, rfl, hx, hce, hcv, hcl, rfl, hL, rfl, rfl⟩, ?_⟩
    show Steps p.tables e below _ (((({ U with heap := s₂.heap, slotsUsed := s₂.slotsUsed } : State).setVm s₂.vm).setTop g).pushFrame (.throwing q))
    rw [← hs₂]
    exact hsteps
end
variable {p : Program} {l : Launch} {e : Env} {R : Room} {s : State} {m : MethodId} {args : Array Value} {below : List Frame} {meth : Method} {c : Code} {T : State} {H : Heap} {locs : List Loc} {cells slots : Nat}
theorem vx_callVX (X : Stand p l e R s m args below meth c T locs cells slots) (hexec : p.tables.exec = Jvm.exec) {own C : String} {index : Nat} {y : MethodName} {bytes : ByteArray} {maxL : Nat} {ret : Option FieldType} {hh : List (Nat × Nat × Nat × Nat)}
    (hown : s.vm.findClass own = some m.cls) (hlink : (Cond.methodLink own index y).before args s = true) (hinst : (Cond.instanceMethod y).before args s = true) (hsel : (Cond.selects C y y).before args s = true)
    (hcode : (Cond.codeWith y bytes maxL ret hh).before args s = true) (hy : y.cls ≠ "java/lang/invoke/MethodHandle" ∧ y.cls ≠ "java/lang/invoke/VarHandle")
    {W9 : Nat} {Pre : Pt → Array Value → Prop} {Post : Pt → Array Value → Option Value → Pt → Prop} {PostX : Pt → Array Value → Addr → Pt → Prop} (hK : vx_Back l R p e below s args y 3 W9 Pre Post PostX)
    {b : Addr} {cellB : Cell} (hcell : T.heap[b]? = some cellB) (hobj : cellB.vm.isStatics = false) (hcls : s.vm.findClass C = some cellB.cls)
    {g : JFrame} (hg : g.method = m) (hsize : g.locals.size = c.maxLocals) {argsL rest : List Value} (hlen : ∀ sig, parseMethodDescriptor y.desc = some sig → argsL.length = sig.parameters.length)
    (hstack : g.stack = argsL.reverse ++ .ref b :: rest) (hW : 2 * g.monitorRoom + (rest.map fun v => v.category).sum ≤ W9) (hdg : decode c.code g.pc = .ok (.invokevirtual index, 3))
    (hpre : ∀ vm₁, s.WarmedH vm₁ → Pre ⟨T.setVm vm₁, locs, cells, slots⟩ (Value.ref b :: argsL).toArray) :
    (∃ (v : Option Value) (vm₁ : Vm) (B : Pt), s.WarmedH vm₁ ∧ Stand p l e R s m args below meth c B.U B.locs B.cells B.slots ∧ Post ⟨T.setVm vm₁, locs, cells, slots⟩ (Value.ref b :: argsL).toArray v B ∧
      ∀ target, Steps p.tables e below (B.U.setTop { g with pc := g.pc + 3, stack := v.toList ++ rest }) target → Steps p.tables e below (T.setTop g) target) ∨
    (∃ (q : Addr) (vm₁ : Vm) (B : Pt), s.WarmedH vm₁ ∧ Stand p l e R s m args below meth c B.U B.locs B.cells B.slots ∧ PostX ⟨T.setVm vm₁, locs, cells, slots⟩ (Value.ref b :: argsL).toArray q B ∧
      Steps p.tables e below (T.setTop g) ((B.U.setTop { g with stack := rest }).pushFrame (.throwing q))) := by
  obtain ⟨mk, methM, hnamed, hmethM, hstM, habM⟩ := Cond.instanceMethod_spec hinst
  obtain ⟨m8, methM', cM, hn8, hmethM', -, -, -, -, -, -, hsigM⟩ := Cond.codeWith_spec hcode
  cases Option.some.inj (hn8.symm.trans hnamed)
  cases hmethM.symm.trans hmethM'
  obtain ⟨c2, r2, m2, q1, q2, q3, q4, kP, hkP, hkPi⟩ := Cond.selects_spec hsel
  cases hcls.symm.trans q1
  cases (State.methodFound?_of_named hnamed hy).symm.trans q2
  cases hnamed.symm.trans q3
  have hselP : selectMethod e.platform s.vm cellB.cls mk = .method mk := by rw [Launch.admits_selectMethod X.admits]; exact q4
  obtain ⟨vm₁, X₁, hstep₁⟩ := X.invokevirtual hexec hown hlink hnamed hmethM hstM hkP hkPi hy (a := b) (cell := cellB) hcell
    (fun z h => by rw [h] at hobj; cases hobj) hselP hmethM habM hkP hkPi (g := g) hg (argsL := argsL) (rest := rest) (hlen _ hsigM) hstack hdg
  rcases hK m meth c ⟨T.setVm vm₁, locs, cells, slots⟩ { g with stack := rest } (.invokevirtual index) mk (Value.ref b :: argsL).toArray X₁ hg hsize hdg hW (X₁.named hnamed) (hpre vm₁ X₁.warmed) with ⟨v, B, X', hpost, hsteps⟩ | ⟨q, B, X', hpost, hsteps⟩
  · exact Or.inl ⟨v, vm₁, B, X₁.warmed, X', hpost, fun target h => hstep₁ _ fun acts => by rw [doInvoke_state]; exact hsteps.trans h⟩
  · exact Or.inr ⟨q, vm₁, B, X₁.warmed, X', hpost, hstep₁ _ fun acts => by rw [doInvoke_state]; exact hsteps⟩
theorem vx_callSX (X : Stand p l e R s m args below meth c T locs cells slots) (hexec : p.tables.exec = Jvm.exec) {own : String} {index : Nat} {y : MethodName} {bytes : ByteArray} {maxL : Nat} {ret : Option FieldType} {hh : List (Nat × Nat × Nat × Nat)}
    (hown : s.vm.findClass own = some m.cls) (hlink : (Cond.methodLink own index y).before args s = true) (hstat : (Cond.static y).before args s = true) (hinit : (Cond.initialized y.cls).before args s = true)
    (hcode : (Cond.codeWith y bytes maxL ret hh).before args s = true) (hy : y.cls ≠ "java/lang/invoke/MethodHandle" ∧ y.cls ≠ "java/lang/invoke/VarHandle")
    {W9 : Nat} {Pre : Pt → Array Value → Prop} {Post : Pt → Array Value → Option Value → Pt → Prop} {PostX : Pt → Array Value → Addr → Pt → Prop} (hK : vx_Back l R p e below s args y 3 W9 Pre Post PostX)
    {g : JFrame} (hg : g.method = m) (hsize : g.locals.size = c.maxLocals) {argsL rest : List Value} (hlen : ∀ sig, parseMethodDescriptor y.desc = some sig → argsL.length = sig.parameters.length)
    (hstack : g.stack = argsL.reverse ++ rest) (hW : 2 * g.monitorRoom + (rest.map fun v => v.category).sum ≤ W9) (hdg : decode c.code g.pc = .ok (.invokestatic index, 3))
    (hpre : ∀ vm₁, s.WarmedH vm₁ → Pre ⟨T.setVm vm₁, locs, cells, slots⟩ argsL.toArray) :
    (∃ (v : Option Value) (vm₁ : Vm) (B : Pt), s.WarmedH vm₁ ∧ Stand p l e R s m args below meth c B.U B.locs B.cells B.slots ∧ Post ⟨T.setVm vm₁, locs, cells, slots⟩ argsL.toArray v B ∧
      ∀ target, Steps p.tables e below (B.U.setTop { g with pc := g.pc + 3, stack := v.toList ++ rest }) target → Steps p.tables e below (T.setTop g) target) ∨
    (∃ (q : Addr) (vm₁ : Vm) (B : Pt), s.WarmedH vm₁ ∧ Stand p l e R s m args below meth c B.U B.locs B.cells B.slots ∧ PostX ⟨T.setVm vm₁, locs, cells, slots⟩ argsL.toArray q B ∧
      Steps p.tables e below (T.setTop g) ((B.U.setTop { g with stack := rest }).pushFrame (.throwing q))) := by
  obtain ⟨mk, methM, cM, hnamed, hmethM, -, -, -, -, -, -, hsigM⟩ := Cond.codeWith_spec hcode
  have hstatic : methM.isStatic = true := Cond.static_spec hnamed hmethM hstat
  obtain ⟨kP, hkP, -⟩ := className_of_methodNamed hnamed
  have hinitP : kP.init = .initialized := Cond.initialized_spec (findClass_of_methodNamed hnamed) hkP hinit
  obtain ⟨vm₁, X₁, hstep₁⟩ := X.invokestatic hexec hown hlink hnamed hmethM hstatic hkP hinitP hy (g := g) hg (argsL := argsL) (rest := rest) (hlen _ hsigM) hstack hdg
  rcases hK m meth c ⟨T.setVm vm₁, locs, cells, slots⟩ { g with stack := rest } (.invokestatic index) mk argsL.toArray X₁ hg hsize hdg hW (X₁.named hnamed) (hpre vm₁ X₁.warmed) with ⟨v, B, X', hpost, hsteps⟩ | ⟨q, B, X', hpost, hsteps⟩
  · exact Or.inl ⟨v, vm₁, B, X₁.warmed, X', hpost, fun target h => hstep₁ _ fun acts => by rw [doInvoke_state]; exact hsteps.trans h⟩
  · exact Or.inr ⟨q, vm₁, B, X₁.warmed, X', hpost, hstep₁ _ fun acts => by rw [doInvoke_state]; exact hsteps⟩
theorem vx_callVW (X : Stand p l e R s m args below meth c T locs cells slots) (hexec : p.tables.exec = Jvm.exec) {own C : String} {index : Nat} {y : MethodName} {bytes : ByteArray} {maxL : Nat} {ret : Option FieldType} {hh : List (Nat × Nat × Nat × Nat)}
    (hown : s.vm.findClass own = some m.cls) (hlink : (Cond.methodLink own index y).before args s = true) (hinst : (Cond.instanceMethod y).before args s = true) (hsel : (Cond.selects C y y).before args s = true)
    (hcode : (Cond.codeWith y bytes maxL ret hh).before args s = true) (hy : y.cls ≠ "java/lang/invoke/MethodHandle" ∧ y.cls ≠ "java/lang/invoke/VarHandle")
    {W9 : Nat} {Pre : Pt → Array Value → Prop} {Post : Pt → Array Value → Option Value → Pt → Prop} (hK : Back l R p e below s args y 3 W9 Pre Post)
    {b : Addr} {cellB : Cell} (hcell : T.heap[b]? = some cellB) (hobj : cellB.vm.isStatics = false) (hcls : s.vm.findClass C = some cellB.cls)
    {g : JFrame} (hg : g.method = m) (hsize : g.locals.size = c.maxLocals) {argsL rest : List Value} (hlen : ∀ sig, parseMethodDescriptor y.desc = some sig → argsL.length = sig.parameters.length)
    (hstack : g.stack = argsL.reverse ++ .ref b :: rest) (hW : 2 * g.monitorRoom + (rest.map fun v => v.category).sum ≤ W9) (hdg : decode c.code g.pc = .ok (.invokevirtual index, 3))
    (hpre : ∀ vm₁, s.WarmedH vm₁ → Pre ⟨T.setVm vm₁, locs, cells, slots⟩ (Value.ref b :: argsL).toArray) :
    ∃ (v : Option Value) (vm₁ : Vm) (B : Pt), s.WarmedH vm₁ ∧ Stand p l e R s m args below meth c B.U B.locs B.cells B.slots ∧ Post ⟨T.setVm vm₁, locs, cells, slots⟩ (Value.ref b :: argsL).toArray v B ∧
      ∀ target, Steps p.tables e below (B.U.setTop { g with pc := g.pc + 3, stack := v.toList ++ rest }) target → Steps p.tables e below (T.setTop g) target := by
  obtain ⟨mk, methM, hnamed, hmethM, hstM, habM⟩ := Cond.instanceMethod_spec hinst
  obtain ⟨m8, methM', cM, hn8, hmethM', -, -, -, -, -, -, hsigM⟩ := Cond.codeWith_spec hcode
  cases Option.some.inj (hn8.symm.trans hnamed)
  cases hmethM.symm.trans hmethM'
  obtain ⟨c2, r2, m2, q1, q2, q3, q4, kP, hkP, hkPi⟩ := Cond.selects_spec hsel
  cases hcls.symm.trans q1
  cases (State.methodFound?_of_named hnamed hy).symm.trans q2
  cases hnamed.symm.trans q3
  have hselP : selectMethod e.platform s.vm cellB.cls mk = .method mk := by rw [Launch.admits_selectMethod X.admits]; exact q4
  obtain ⟨vm₁, X₁, hstep₁⟩ := X.invokevirtual hexec hown hlink hnamed hmethM hstM hkP hkPi hy (a := b) (cell := cellB) hcell
    (fun z h => by rw [h] at hobj; cases hobj) hselP hmethM habM hkP hkPi (g := g) hg (argsL := argsL) (rest := rest) (hlen _ hsigM) hstack hdg
  obtain ⟨v, B, X', hpost, hsteps⟩ := hK m meth c ⟨T.setVm vm₁, locs, cells, slots⟩ { g with stack := rest } (.invokevirtual index) mk (Value.ref b :: argsL).toArray X₁ hg hsize hdg hW (X₁.named hnamed) (hpre vm₁ X₁.warmed)
  exact ⟨v, vm₁, B, X₁.warmed, X', hpost, fun target h => hstep₁ _ fun acts => by rw [doInvoke_state]; exact hsteps.trans h⟩
abbrev vx_CVW (R : Room) (s : State) (args : Array Value) (own C : String) (index : Nat) (y : MethodName) (bytes : ByteArray) (maxL : Nat) (ret : Option FieldType) (hh : List (Nat × Nat × Nat × Nat)) (ws : List Cond) (rm : Room) (mc ms n : Nat) : Prop :=
  (rm.cells = mc ∧ rm.slots = ms ∧ rm.frames + 1 ≤ R.frames ∧ 8 + (maxL + 11) + rm.locals ≤ R.locals ∧ (∀ w ∈ ws, ∀ (a' : Array Value) (U : State), s.WarmedH U.vm → w.before a' U = true) ∧ Cond.codeWith y bytes maxL ret hh ∈ ws) ∧
  (Cond.codeWith y bytes maxL ret hh).before args s = true ∧ (Cond.initialized y.cls).before args s = true ∧ (y.cls ≠ "java/lang/invoke/MethodHandle" ∧ y.cls ≠ "java/lang/invoke/VarHandle") ∧
  (∀ sig, parseMethodDescriptor y.desc = some sig → n = sig.parameters.length) ∧ (Cond.methodLink own index y).before args s = true ∧ (Cond.instanceMethod y).before args s = true ∧ (Cond.selects C y y).before args s = true
theorem vx_cwVW {own C : String} {index maxL mc ms : Nat} {y : MethodName} {bytes : ByteArray} {ret : Option FieldType} {hh : List (Nat × Nat × Nat × Nat)} {Ts ws ws' : List Cond} {rm : Room} (n : Nat) (ht : ∀ w ∈ Ts, w.before args s = true) (hT : GoodIn Ts (wsV own index C y ws)) (hw : ws = Cond.codeWith y bytes maxL ret hh :: ws') (hrc : rm.cells = mc) (hrs : rm.slots = ms)
    (hd : y.cls = C ∧ y.cls ≠ "java/lang/invoke/MethodHandle" ∧ y.cls ≠ "java/lang/invoke/VarHandle" ∧ (parseMethodDescriptor y.desc).map (fun d => d.parameters.length) = some n) (hR : rm.frames + 1 ≤ R.frames ∧ 8 + (maxL + 11) + rm.locals ≤ R.locals) :
    vx_CVW R s args own C index y bytes maxL ret hh ws rm mc ms n := by
  obtain ⟨hC, hd⟩ := hd
  subst hC
  have ok : ∀ w ∈ wsV own index y.cls y ws, w.before args s = true := fun w h => ht w (hT w h).1
  have hG : GoodIn Ts ws := fun w h => hT w (by unfold wsV; exact List.mem_append_right _ h)
  have hc : Cond.codeWith y bytes maxL ret hh ∈ ws := by rw [hw]; exact List.mem_cons_self
  refine ⟨⟨hrc, hrs, hR.1, hR.2, pay_in ht hG, hc⟩, ht _ (hG _ hc).1, ok _ (by simp [wsV]), ⟨hd.1, hd.2.1⟩, fun sig h => ?_, ok _ (by simp [wsV]), ok _ (by simp [wsV]), ok _ (by simp [wsV])⟩
  have h2 := hd.2.2
  rw [h] at h2
  exact (Option.some.inj h2).symm
theorem vx_runVW {y : MethodName} {bytes cc : ByteArray} {maxL nL mc ms n index : Nat} {ret : Option FieldType} {hh : List (Nat × Nat × Nat × Nat)} {ws : List Cond} {rm : Room} {Pc : Array Value → State → Prop} {Qc : Array Value → State → Outcome → State → Prop} {free : Addr → Prop} {Ts : List Cond} {own C : String} {b : Addr} {As rest : List Value} {g : JFrame}
    (S : CallFix p m c cc nL s args Ts own) (hM : Met l y ws rm Pc Qc mc ms free) (cw : vx_CVW R s args own C index y bytes maxL ret hh ws rm mc ms n) (hp : PreV s H C b Pc As)
    (hg : g.method = m) (hn : As.length = n) (hsize : g.locals.size = nL) (hstack : g.stack = As.reverse ++ .ref b :: rest) (hW : 2 * g.monitorRoom + (rest.map fun v => v.category).sum ≤ 8) (hdg : decode cc g.pc = .ok (.invokevirtual index, 3)) (hf : cells + mc ≤ R.cells ∧ slots + ms ≤ R.slots) :
    va_Run p l e R s m args below meth c H locs cells slots mc ms g rest (Qc (Value.ref b :: As).toArray) free := by
  obtain ⟨⟨hrc, hrs, hfr, hlo, hws, hcw⟩, hcode, hini, hy, hlen, hl, hin, hse⟩ := cw
  have hK : Back l R p e below s args y 3 8 (PreOf R mc ms Pc) (PostOf Qc mc ms free) := va_backW (hh := hh) (bytes := bytes) (maxL := maxL) (ret := ret) hM hp.1 hrc hrs hfr hlo hws hcw (fun a' U hW => word_at hW (Or.inl (by first | rfl | simp [Cond.onTables, Cond.keeps, Cond.steady])) hini)
  obtain ⟨hx, hb, hml, ho, -⟩ := S
  obtain ⟨-, ⟨cellB, hcB, hoB, hclB⟩, hPc⟩ := hp
  intro T hT X
  obtain ⟨v, vm₁, ⟨U', l2, c2, s2⟩, hW₁, X', ⟨g', mk, t, L, e1, e2, hq, h1, hL, h2, h3⟩, st⟩ := vx_callVW X hx (C := C) (hh := hh) (bytes := bytes) (maxL := maxL) (ret := ret) ho hl hin hse hcode hy hK (by rw [hT]; exact hcB) hoB hclB hg (hsize.trans hml.symm) (argsL := As) (rest := rest) (fun sig h => hn.trans (hlen sig h)) hstack hW (by rw [hb]; exact hdg)
    (fun vm₁ hW₁ => ⟨hf.1, hf.2, hPc (T.setVm vm₁) hT hW₁⟩)
  dsimp only [Pt.U, Pt.locs, Pt.cells, Pt.slots] at X' e1 e2 h1 h2 h3 st
  subst h1; subst h2; subst h3
  exact ⟨v, (T.setVm vm₁).calling g' mk (Value.ref b :: As).toArray, t, U', L, hT, X', hL, e1, e2, hq, st⟩
section
variable {y : MethodName} {bytes cc : ByteArray} {maxL nL mc ms n index : Nat} {ret : Option FieldType} {ws : List Cond} {rm : Room} {Pc : Array Value → State → Prop} {Qc : Array Value → State → Outcome → State → Prop} {XC : String → State → State → Prop} {free : Addr → Prop} {Ts : List Cond} {own C : String} {b : Addr} {As rest : List Value} {g : JFrame}
theorem vx_runVX {hh : List (Nat × Nat × Nat × Nat)} (S : CallFix p m c cc nL s args Ts own) (hM : vx_Met l y ws rm Pc Qc XC mc ms free) (cw : vx_CVW R s args own C index y bytes maxL ret hh ws rm mc ms n) (hp : PreV s H C b Pc As)
    (hg : g.method = m) (hn : As.length = n) (hsize : g.locals.size = nL) (hstack : g.stack = As.reverse ++ .ref b :: rest) (hW : 2 * g.monitorRoom + (rest.map fun v => v.category).sum ≤ 8) (hdg : decode cc g.pc = .ok (.invokevirtual index, 3)) (hf : cells + mc ≤ R.cells ∧ slots + ms ≤ R.slots) :
    vx_Run p l e R s m args below meth c H locs cells slots mc ms g rest (Qc (Value.ref b :: As).toArray) XC free := by
  obtain ⟨⟨hrc, hrs, hfr, hlo, hws, hcw⟩, hcode, hini, hy, hlen, hl, hin, hse⟩ := cw
  have hK : vx_Back l R p e below s args y 3 8 (PreOf R mc ms Pc) (PostOf Qc mc ms free) (vx_Post XC mc ms free) := vx_backW (hh := hh) (bytes := bytes) (maxL := maxL) (ret := ret) hM hp.1 hrc hrs hfr hlo hws hcw (fun a' U hW => word_at hW (Or.inl (by first | rfl | simp [Cond.onTables, Cond.keeps, Cond.steady])) hini)
  obtain ⟨hx, hb, hml, ho, -⟩ := S
  obtain ⟨-, ⟨cellB, hcB, hoB, hclB⟩, hPc⟩ := hp
  intro T hT X
  rcases vx_callVX X hx (C := C) (hh := hh) (bytes := bytes) (maxL := maxL) (ret := ret) ho hl hin hse hcode hy hK (by rw [hT]; exact hcB) hoB hclB hg (hsize.trans hml.symm) (argsL := As) (rest := rest) (fun sig h => hn.trans (hlen sig h)) hstack hW (by rw [hb]; exact hdg)
    (fun vm₁ hW₁ => ⟨hf.1, hf.2, hPc (T.setVm vm₁) hT hW₁⟩) with ⟨v, vm₁, ⟨U', l2, c2, s2⟩, hW₁, X', ⟨g', mk, t, L, e1, e2, hq, h1, hL, h2, h3⟩, st⟩ | ⟨q, vm₁, ⟨U', l2, c2, s2⟩, hW₁, X', ⟨g', mk, t, L, E, ce, e1, e2, hq, hce, hcv, hcl, h1, hL, h2, h3⟩, st⟩
  · dsimp only [Pt.U, Pt.locs, Pt.cells, Pt.slots] at X' e1 e2 h1 h2 h3 st
    subst h1; subst h2; subst h3
    exact Or.inl ⟨v, (T.setVm vm₁).calling g' mk (Value.ref b :: As).toArray, t, U', L, hT, X', hL, e1, e2, hq, st⟩
  · dsimp only [Pt.U, Pt.locs, Pt.cells, Pt.slots] at X' e1 e2 h1 h2 h3 st hcl
    subst h1; subst h2; subst h3
    exact Or.inr ⟨q, (T.setVm vm₁).calling g' mk (Value.ref b :: As).toArray, t, U', L, E, ce, hT, X', hL, e1, e2, hq, hce, hcv, vx_cls hW₁ hcl, st⟩
theorem vx_runSX {hh : List (Nat × Nat × Nat × Nat)} (S : CallFix p m c cc nL s args Ts own) (hM : vx_Met l y ws rm Pc Qc XC mc ms free) (cw : vx_CSW R s args own index y bytes maxL ret hh ws rm mc ms n) (hp : PreS s H Pc As)
    (hg : g.method = m) (hn : As.length = n) (hsize : g.locals.size = nL) (hstack : g.stack = As.reverse ++ rest) (hW : 2 * g.monitorRoom + (rest.map fun v => v.category).sum ≤ 8) (hdg : decode cc g.pc = .ok (.invokestatic index, 3)) (hf : cells + mc ≤ R.cells ∧ slots + ms ≤ R.slots) :
    vx_Run p l e R s m args below meth c H locs cells slots mc ms g rest (Qc As.toArray) XC free := by
  obtain ⟨⟨hrc, hrs, hfr, hlo, hws, hcw⟩, hcode, hini, hy, hlen, hl, hstt⟩ := cw
  have hK : vx_Back l R p e below s args y 3 8 (PreOf R mc ms Pc) (PostOf Qc mc ms free) (vx_Post XC mc ms free) := vx_backW (hh := hh) (bytes := bytes) (maxL := maxL) (ret := ret) hM hp.1 hrc hrs hfr hlo hws hcw (fun a' U hW => word_at hW (Or.inl (by first | rfl | simp [Cond.onTables, Cond.keeps, Cond.steady])) hini)
  obtain ⟨hx, hb, hml, ho, -⟩ := S
  intro T hT X
  rcases vx_callSX X hx (hh := hh) (bytes := bytes) (maxL := maxL) (ret := ret) ho hl hstt hini hcode hy hK hg (hsize.trans hml.symm) (argsL := As) (rest := rest) (fun sig h => hn.trans (hlen sig h)) hstack hW (by rw [hb]; exact hdg)
    (fun vm₁ hW₁ => ⟨hf.1, hf.2, hp.2 (T.setVm vm₁) hT hW₁⟩) with ⟨v, vm₁, ⟨U', l2, c2, s2⟩, hW₁, X', ⟨g', mk, t, L, e1, e2, hq, h1, hL, h2, h3⟩, st⟩ | ⟨q, vm₁, ⟨U', l2, c2, s2⟩, hW₁, X', ⟨g', mk, t, L, E, ce, e1, e2, hq, hce, hcv, hcl, h1, hL, h2, h3⟩, st⟩
  · dsimp only [Pt.U, Pt.locs, Pt.cells, Pt.slots] at X' e1 e2 h1 h2 h3 st
    subst h1; subst h2; subst h3
    exact Or.inl ⟨v, (T.setVm vm₁).calling g' mk As.toArray, t, U', L, hT, X', hL, e1, e2, hq, st⟩
  · dsimp only [Pt.U, Pt.locs, Pt.cells, Pt.slots] at X' e1 e2 h1 h2 h3 st hcl
    subst h1; subst h2; subst h3
    exact Or.inr ⟨q, (T.setVm vm₁).calling g' mk As.toArray, t, U', L, E, ce, hT, X', hL, e1, e2, hq, hce, hcv, vx_cls hW₁ hcl, st⟩
end
end VXH
theorem vx_ofWH {l : Launch} {y : MethodName} {ws ws' : List Cond} {rm : Room} {Pc : Array Value → State → Prop} {Qc : Array Value → State → Outcome → State → Prop} {XC : String → State → State → Prop} {mc ms : Nat} {free : Addr → Prop} {cc : ByteArray} {maxL : Nat} {ret : Option FieldType} {hh : List (Nat × Nat × Nat × Nat)}
    (hy : plainName y.cls = true) (hw : ws = Cond.codeWith y cc maxL ret hh :: ws')
    (body : ∀ p e s m args below meth c s₁, BodyLoose p l y (headSpec ws rm) cc maxL ret e s m args below meth c s₁ → c.maxLocals = maxL → Pc args s →
      W p l e (headSpec ws rm).room s m args below meth c s.heap [] 0 0 (vx_MQ below Qc XC args s mc ms free) (entryFrame m args maxL)) : vx_Met l y ws rm Pc Qc XC mc ms free := by
  refine MetFree.of_bodyS (code := cc) (maxLocals := maxL) (ret := ret) hy ?_ ?_
  · intro args s m h hn
    obtain ⟨m9, meth, c, hn9, h1, h2, h3, h4, -, h5, h6, -⟩ := Cond.codeWith_spec (atoms_spec (ws := ws) h _ (by rw [hw]; exact List.mem_cons_self))
    cases hn.symm.trans hn9
    exact ⟨meth, c, h1, h2, h3, h4, h5, h6⟩
  · intro p e s m args below meth c s₁ B hml hP _
    have hh0 : s₁.heap = s.heap := by rw [B.state]; rfl
    obtain ⟨t, a1, o, b1, b2, b3⟩ := body p e s m args below meth c s₁ B hml hP s₁ hh0 (Stand.of_body B)
    exact ⟨t, o, a1, b1, b2, b3⟩
/-! ===== END ===== -/

def RX0 : String := "MusicBoxEditor$Box"
def TX0 : u_T := fun k => match k with
  | 0 => ("MusicBoxEditor$Box", "roll", "LMusicBoxEditor$Roll;", true)
  | 1 => ("MusicBoxEditor$Box", "teeth", "[LMusicBoxEditor$Tooth;", true)
  | 2 => ("MusicBoxEditor$Box", "toothCount", "I", false)
  | 3 => ("MusicBoxEditor$Box", "turns", "I", false)
  | 4 => ("MusicBoxEditor$Box", "angle", "I", false)
  | 5 => ("MusicBoxEditor$Box", "notes", "I", false)
  | 6 => ("MusicBoxEditor$Box", "squeaks", "I", false)
  | 7 => ("MusicBoxEditor$Box", "played", "I", false)
  | 8 => ("MusicBoxEditor$Box", "bends", "I", false)
  | _ => ("MusicBoxEditor$Box", "replacedWear", "I", false)
def tyX0 : Nat → FieldType := fun k => match k with
  | 0 => .object "MusicBoxEditor$Roll"
  | 1 => .array (.object "MusicBoxEditor$Tooth")
  | 2 => .int
  | 3 => .int
  | 4 => .int
  | 5 => .int
  | 6 => .int
  | 7 => .int
  | 8 => .int
  | _ => .int
abbrev wsX00 : List Cond := u_ws RX0 TX0 10
theorem nmX0 : ∀ a, a < 10 → ∀ b, b < 10 → a ≠ b → (TX0 a).2.1 ≠ (TX0 b).2.1 := by decide +kernel
theorem tyX0_ok : ∀ k, k < 10 → parseFieldDescriptor (TX0 k).2.2.1 = some (tyX0 k) := by decide +kernel
abbrev cX0_init : ByteArray := prog_2_method_1_code
def yX0_init : MethodName := ⟨RX0, "<init>", "()V"⟩
abbrev cX0_begin : ByteArray := prog_2_method_2_code
def yX0_begin : MethodName := ⟨RX0, "begin", "(III)V"⟩
abbrev cX0_putTooth : ByteArray := prog_2_method_3_code
def yX0_putTooth : MethodName := ⟨RX0, "putTooth", "(III)V"⟩
abbrev cX0_copyFrom : ByteArray := prog_2_method_4_code
def yX0_copyFrom : MethodName := ⟨RX0, "copyFrom", "(LMusicBoxEditor$Box;)V"⟩
abbrev cX0_tuneFault : ByteArray := prog_2_method_5_code
def yX0_tuneFault : MethodName := ⟨RX0, "tuneFault", "(I)I"⟩
abbrev cX0_toothFault : ByteArray := prog_2_method_6_code
def yX0_toothFault : MethodName := ⟨RX0, "toothFault", "(I)I"⟩
abbrev cX0_stepFault : ByteArray := prog_2_method_7_code
def yX0_stepFault : MethodName := ⟨RX0, "stepFault", "(I)I"⟩
abbrev cX0_placeFault : ByteArray := prog_2_method_8_code
def yX0_placeFault : MethodName := ⟨RX0, "placeFault", "(III)I"⟩
abbrev cX0_putPinFault : ByteArray := prog_2_method_9_code
def yX0_putPinFault : MethodName := ⟨RX0, "putPinFault", "(III)I"⟩
abbrev cX0_takePinFault : ByteArray := prog_2_method_10_code
def yX0_takePinFault : MethodName := ⟨RX0, "takePinFault", "(III)I"⟩
abbrev cX0_movePinsFault : ByteArray := prog_2_method_11_code
def yX0_movePinsFault : MethodName := ⟨RX0, "movePinsFault", "(II)I"⟩
abbrev cX0_gapFault : ByteArray := prog_2_method_12_code
def yX0_gapFault : MethodName := ⟨RX0, "gapFault", "(II)I"⟩
abbrev cX0_bendFault : ByteArray := prog_2_method_13_code
def yX0_bendFault : MethodName := ⟨RX0, "bendFault", "(II)I"⟩
abbrev cX0_windFault : ByteArray := prog_2_method_14_code
def yX0_windFault : MethodName := ⟨RX0, "windFault", "(I)I"⟩
abbrev cX0_playFault : ByteArray := prog_2_method_15_code
def yX0_playFault : MethodName := ⟨RX0, "playFault", "(I)I"⟩
abbrev cX0_bendTooth : ByteArray := prog_2_method_16_code
def yX0_bendTooth : MethodName := ⟨RX0, "bendTooth", "(II)V"⟩
abbrev cX0_mendTooth : ByteArray := prog_2_method_17_code
def yX0_mendTooth : MethodName := ⟨RX0, "mendTooth", "(I)V"⟩
abbrev cX0_playSteps : ByteArray := prog_2_method_18_code
def yX0_playSteps : MethodName := ⟨RX0, "playSteps", "(I)I"⟩
abbrev cX0_playStep : ByteArray := prog_2_method_19_code
def yX0_playStep : MethodName := ⟨RX0, "playStep", "()V"⟩
abbrev cX0_soundOf : ByteArray := prog_2_method_20_code
def yX0_soundOf : MethodName := ⟨RX0, "soundOf", "(I)I"⟩
abbrev cX0_playableSteps : ByteArray := prog_2_method_21_code
def yX0_playableSteps : MethodName := ⟨RX0, "playableSteps", "()I"⟩
abbrev cX0_stepsPerMinute : ByteArray := prog_2_method_22_code
def yX0_stepsPerMinute : MethodName := ⟨RX0, "stepsPerMinute", "()I"⟩
abbrev cX0_closePinAt : ByteArray := prog_2_method_23_code
def yX0_closePinAt : MethodName := ⟨RX0, "closePinAt", "(III)Z"⟩
abbrev cX0_closePinsOf : ByteArray := prog_2_method_24_code
def yX0_closePinsOf : MethodName := ⟨RX0, "closePinsOf", "(I)I"⟩
abbrev cX0_brokenCount : ByteArray := prog_2_method_25_code
def yX0_brokenCount : MethodName := ⟨RX0, "brokenCount", "()I"⟩
abbrev cX0_pitchSum : ByteArray := prog_2_method_26_code
def yX0_pitchSum : MethodName := ⟨RX0, "pitchSum", "(I)I"⟩
abbrev cX0_unexplainedWear : ByteArray := prog_2_method_27_code
def yX0_unexplainedWear : MethodName := ⟨RX0, "unexplainedWear", "()I"⟩
abbrev cX0_brokenTooEarly : ByteArray := prog_2_method_28_code
def yX0_brokenTooEarly : MethodName := ⟨RX0, "brokenTooEarly", "()I"⟩
def RX1 : String := "MusicBoxEditor$Bytes"
def TX1 : u_T := fun k => match k with
  | 0 => ("MusicBoxEditor$Bytes", "values", "[I", true)
  | _ => ("MusicBoxEditor$Bytes", "length", "I", false)
def tyX1 : Nat → FieldType := fun k => match k with
  | 0 => .array .int
  | _ => .int
abbrev wsX10 : List Cond := u_ws RX1 TX1 2
theorem nmX1 : ∀ a, a < 2 → ∀ b, b < 2 → a ≠ b → (TX1 a).2.1 ≠ (TX1 b).2.1 := by decide +kernel
theorem tyX1_ok : ∀ k, k < 2 → parseFieldDescriptor (TX1 k).2.2.1 = some (tyX1 k) := by decide +kernel
abbrev cX1_init : ByteArray := prog_3_method_1_code
def yX1_init : MethodName := ⟨RX1, "<init>", "(I)V"⟩
abbrev cX1_put : ByteArray := prog_3_method_2_code
def yX1_put : MethodName := ⟨RX1, "put", "(I)V"⟩
abbrev cX1_putNumber : ByteArray := prog_3_method_3_code
def yX1_putNumber : MethodName := ⟨RX1, "putNumber", "(I)V"⟩
abbrev cX1_at : ByteArray := prog_3_method_4_code
def yX1_at : MethodName := ⟨RX1, "at", "(I)I"⟩
def RX2 : String := "MusicBoxEditor$History"
def TX2 : u_T := fun k => match k with
  | 0 => ("MusicBoxEditor$History", "kept", "[LMusicBoxEditor$Box;", true)
  | 1 => ("MusicBoxEditor$History", "count", "I", false)
  | _ => ("MusicBoxEditor$History", "next", "I", false)
def tyX2 : Nat → FieldType := fun k => match k with
  | 0 => .array (.object "MusicBoxEditor$Box")
  | 1 => .int
  | _ => .int
abbrev wsX20 : List Cond := u_ws RX2 TX2 3
theorem nmX2 : ∀ a, a < 3 → ∀ b, b < 3 → a ≠ b → (TX2 a).2.1 ≠ (TX2 b).2.1 := by decide +kernel
theorem tyX2_ok : ∀ k, k < 3 → parseFieldDescriptor (TX2 k).2.2.1 = some (tyX2 k) := by decide +kernel
abbrev cX2_init : ByteArray := prog_4_method_1_code
def yX2_init : MethodName := ⟨RX2, "<init>", "()V"⟩
abbrev cX2_forgetAll : ByteArray := prog_4_method_2_code
def yX2_forgetAll : MethodName := ⟨RX2, "forgetAll", "()V"⟩
abbrev cX2_remember : ByteArray := prog_4_method_3_code
def yX2_remember : MethodName := ⟨RX2, "remember", "(LMusicBoxEditor$Box;)V"⟩
abbrev cX2_takeBack : ByteArray := prog_4_method_4_code
def yX2_takeBack : MethodName := ⟨RX2, "takeBack", "(LMusicBoxEditor$Box;)V"⟩
def RX3 : String := "MusicBoxEditor$Roll"
def TX3 : u_T := fun k => match k with
  | 0 => ("MusicBoxEditor$Roll", "rows", "[J", true)
  | 1 => ("MusicBoxEditor$Roll", "steps", "I", false)
  | 2 => ("MusicBoxEditor$Roll", "position", "I", false)
  | _ => ("MusicBoxEditor$Roll", "selected", "I", false)
def tyX3 : Nat → FieldType := fun k => match k with
  | 0 => .array .long
  | 1 => .int
  | 2 => .int
  | _ => .int
abbrev wsX30 : List Cond := u_ws RX3 TX3 4
theorem nmX3 : ∀ a, a < 4 → ∀ b, b < 4 → a ≠ b → (TX3 a).2.1 ≠ (TX3 b).2.1 := by decide +kernel
theorem tyX3_ok : ∀ k, k < 4 → parseFieldDescriptor (TX3 k).2.2.1 = some (tyX3 k) := by decide +kernel
abbrev cX3_init : ByteArray := prog_5_method_1_code
def yX3_init : MethodName := ⟨RX3, "<init>", "()V"⟩
abbrev cX3_begin : ByteArray := prog_5_method_2_code
def yX3_begin : MethodName := ⟨RX3, "begin", "(I)V"⟩
abbrev cX3_copyFrom : ByteArray := prog_5_method_3_code
def yX3_copyFrom : MethodName := ⟨RX3, "copyFrom", "(LMusicBoxEditor$Roll;)V"⟩
abbrev cX3_holds : ByteArray := prog_5_method_4_code
def yX3_holds : MethodName := ⟨RX3, "holds", "(II)Z"⟩
abbrev cX3_row : ByteArray := prog_5_method_5_code
def yX3_row : MethodName := ⟨RX3, "row", "(II)J"⟩
abbrev cX3_setRow : ByteArray := prog_5_method_6_code
def yX3_setRow : MethodName := ⟨RX3, "setRow", "(IIJ)V"⟩
abbrev cX3_hasPin : ByteArray := prog_5_method_7_code
def yX3_hasPin : MethodName := ⟨RX3, "hasPin", "(III)Z"⟩
abbrev cX3_putPin : ByteArray := prog_5_method_8_code
def yX3_putPin : MethodName := ⟨RX3, "putPin", "(III)V"⟩
abbrev cX3_takePin : ByteArray := prog_5_method_9_code
def yX3_takePin : MethodName := ⟨RX3, "takePin", "(III)V"⟩
abbrev cX3_pinsOf : ByteArray := prog_5_method_10_code
def yX3_pinsOf : MethodName := ⟨RX3, "pinsOf", "(I)I"⟩
abbrev cX3_teethAt : ByteArray := prog_5_method_11_code
def yX3_teethAt : MethodName := ⟨RX3, "teethAt", "(II)I"⟩
abbrev cX3_stepsBack : ByteArray := prog_5_method_12_code
def yX3_stepsBack : MethodName := ⟨RX3, "stepsBack", "(III)I"⟩
abbrev cX3_longestRestOf : ByteArray := prog_5_method_13_code
def yX3_longestRestOf : MethodName := ⟨RX3, "longestRestOf", "(I)I"⟩
abbrev cX3_turnPins : ByteArray := prog_5_method_14_code
def yX3_turnPins : MethodName := ⟨RX3, "turnPins", "(II)V"⟩
abbrev cX3_turnedRow : ByteArray := prog_5_method_15_code
def yX3_turnedRow : MethodName := ⟨RX3, "turnedRow", "(JI)J"⟩
abbrev cX3_movePins : ByteArray := prog_5_method_16_code
def yX3_movePins : MethodName := ⟨RX3, "movePins", "(II)V"⟩
abbrev cX3_copyPins : ByteArray := prog_5_method_17_code
def yX3_copyPins : MethodName := ⟨RX3, "copyPins", "(II)V"⟩
abbrev cX3_goOn : ByteArray := prog_5_method_18_code
def yX3_goOn : MethodName := ⟨RX3, "goOn", "()Z"⟩
def RX4 : String := "MusicBoxEditor$Script"
def TX4 : u_T := fun k => match k with
  | 0 => ("MusicBoxEditor$Script", "kinds", "[I", true)
  | 1 => ("MusicBoxEditor$Script", "levels", "[I", true)
  | 2 => ("MusicBoxEditor$Script", "partEnds", "[I", true)
  | 3 => ("MusicBoxEditor$Script", "arguments", "[I", true)
  | 4 => ("MusicBoxEditor$Script", "commands", "I", false)
  | 5 => ("MusicBoxEditor$Script", "executed", "I", false)
  | _ => ("MusicBoxEditor$Script", "ended", "Z", false)
def tyX4 : Nat → FieldType := fun k => match k with
  | 0 => .array .int
  | 1 => .array .int
  | 2 => .array .int
  | 3 => .array .int
  | 4 => .int
  | 5 => .int
  | _ => .boolean
abbrev wsX40 : List Cond := u_ws RX4 TX4 7
theorem nmX4 : ∀ a, a < 7 → ∀ b, b < 7 → a ≠ b → (TX4 a).2.1 ≠ (TX4 b).2.1 := by decide +kernel
theorem tyX4_ok : ∀ k, k < 7 → parseFieldDescriptor (TX4 k).2.2.1 = some (tyX4 k) := by decide +kernel
abbrev cX4_init : ByteArray := prog_6_method_1_code
def yX4_init : MethodName := ⟨RX4, "<init>", "()V"⟩
abbrev cX4_begin : ByteArray := prog_6_method_2_code
def yX4_begin : MethodName := ⟨RX4, "begin", "()V"⟩
abbrev cX4_putCommand : ByteArray := prog_6_method_3_code
def yX4_putCommand : MethodName := ⟨RX4, "putCommand", "(II)I"⟩
abbrev cX4_putArgument : ByteArray := prog_6_method_4_code
def yX4_putArgument : MethodName := ⟨RX4, "putArgument", "(III)V"⟩
abbrev cX4_argument : ByteArray := prog_6_method_5_code
def yX4_argument : MethodName := ⟨RX4, "argument", "(II)I"⟩
abbrev cX4_closeRepeat : ByteArray := prog_6_method_6_code
def yX4_closeRepeat : MethodName := ⟨RX4, "closeRepeat", "(I)V"⟩
abbrev cX4_runPart : ByteArray := prog_6_method_7_code
def yX4_runPart : MethodName := ⟨RX4, "runPart", "(LMusicBoxEditor$Box;III)V"⟩
abbrev cX4_faultOf : ByteArray := prog_6_method_8_code
def yX4_faultOf : MethodName := ⟨RX4, "faultOf", "(LMusicBoxEditor$Box;I)I"⟩
abbrev cX4_execute : ByteArray := prog_6_method_9_code
def yX4_execute : MethodName := ⟨RX4, "execute", "(LMusicBoxEditor$Box;I)V"⟩
def RX5 : String := "MusicBoxEditor$ScriptReader"
def TX5 : u_T := fun k => match k with
  | 0 => ("MusicBoxEditor$ScriptReader", "tokens", "LMusicBoxEditor$Tokens;", true)
  | _ => ("MusicBoxEditor$ScriptReader", "target", "LMusicBoxEditor$Script;", true)
def tyX5 : Nat → FieldType := fun k => match k with
  | 0 => .object "MusicBoxEditor$Tokens"
  | _ => .object "MusicBoxEditor$Script"
abbrev wsX50 : List Cond := u_ws RX5 TX5 2
theorem nmX5 : ∀ a, a < 2 → ∀ b, b < 2 → a ≠ b → (TX5 a).2.1 ≠ (TX5 b).2.1 := by decide +kernel
theorem tyX5_ok : ∀ k, k < 2 → parseFieldDescriptor (TX5 k).2.2.1 = some (tyX5 k) := by decide +kernel
abbrev cX5_init : ByteArray := prog_7_method_1_code
def yX5_init : MethodName := ⟨RX5, "<init>", "(LMusicBoxEditor$Tokens;LMusicBoxEditor$Script;)V"⟩
abbrev cX5_readScript : ByteArray := prog_7_method_2_code
def yX5_readScript : MethodName := ⟨RX5, "readScript", "()Z"⟩
abbrev cX5_readCommands : ByteArray := prog_7_method_3_code
def yX5_readCommands : MethodName := ⟨RX5, "readCommands", "(I)Z"⟩
abbrev cX5_readRepeat : ByteArray := prog_7_method_4_code
def yX5_readRepeat : MethodName := ⟨RX5, "readRepeat", "(II)Z"⟩
abbrev cX5_kindHere : ByteArray := prog_7_method_5_code
def yX5_kindHere : MethodName := ⟨RX5, "kindHere", "()I"⟩
abbrev cX5_readArguments : ByteArray := prog_7_method_6_code
def yX5_readArguments : MethodName := ⟨RX5, "readArguments", "(II)Z"⟩
abbrev cX5_readArgument : ByteArray := prog_7_method_7_code
def yX5_readArgument : MethodName := ⟨RX5, "readArgument", "(IIII)Z"⟩
abbrev cX5_readDirection : ByteArray := prog_7_method_8_code
def yX5_readDirection : MethodName := ⟨RX5, "readDirection", "(II)Z"⟩
def RX6 : String := "MusicBoxEditor$SetupReader"
def TX6 : u_T := fun k => match k with
  | 0 => ("MusicBoxEditor$SetupReader", "tokens", "LMusicBoxEditor$Tokens;", true)
  | _ => ("MusicBoxEditor$SetupReader", "target", "LMusicBoxEditor$Box;", true)
def tyX6 : Nat → FieldType := fun k => match k with
  | 0 => .object "MusicBoxEditor$Tokens"
  | _ => .object "MusicBoxEditor$Box"
abbrev wsX60 : List Cond := u_ws RX6 TX6 2
theorem nmX6 : ∀ a, a < 2 → ∀ b, b < 2 → a ≠ b → (TX6 a).2.1 ≠ (TX6 b).2.1 := by decide +kernel
theorem tyX6_ok : ∀ k, k < 2 → parseFieldDescriptor (TX6 k).2.2.1 = some (tyX6 k) := by decide +kernel
abbrev cX6_init : ByteArray := prog_8_method_1_code
def yX6_init : MethodName := ⟨RX6, "<init>", "(LMusicBoxEditor$Tokens;LMusicBoxEditor$Box;)V"⟩
abbrev cX6_readSetup : ByteArray := prog_8_method_2_code
def yX6_readSetup : MethodName := ⟨RX6, "readSetup", "()Z"⟩
abbrev cX6_readHead : ByteArray := prog_8_method_3_code
def yX6_readHead : MethodName := ⟨RX6, "readHead", "()Z"⟩
abbrev cX6_readTooth : ByteArray := prog_8_method_4_code
def yX6_readTooth : MethodName := ⟨RX6, "readTooth", "()Z"⟩
abbrev cX6_readPlace : ByteArray := prog_8_method_5_code
def yX6_readPlace : MethodName := ⟨RX6, "readPlace", "()Z"⟩
def RX7 : String := "MusicBoxEditor$Tokens"
def TX7 : u_T := fun k => match k with
  | 0 => ("MusicBoxEditor$Tokens", "text", "LMusicBoxEditor$Bytes;", true)
  | 1 => ("MusicBoxEditor$Tokens", "kinds", "[I", true)
  | 2 => ("MusicBoxEditor$Tokens", "starts", "[I", true)
  | 3 => ("MusicBoxEditor$Tokens", "ends", "[I", true)
  | 4 => ("MusicBoxEditor$Tokens", "values", "[I", true)
  | 5 => ("MusicBoxEditor$Tokens", "count", "I", false)
  | 6 => ("MusicBoxEditor$Tokens", "here", "I", false)
  | 7 => ("MusicBoxEditor$Tokens", "error", "I", false)
  | _ => ("MusicBoxEditor$Tokens", "errorAt", "I", false)
def tyX7 : Nat → FieldType := fun k => match k with
  | 0 => .object "MusicBoxEditor$Bytes"
  | 1 => .array .int
  | 2 => .array .int
  | 3 => .array .int
  | 4 => .array .int
  | 5 => .int
  | 6 => .int
  | 7 => .int
  | _ => .int
abbrev wsX70 : List Cond := u_ws RX7 TX7 9
theorem nmX7 : ∀ a, a < 9 → ∀ b, b < 9 → a ≠ b → (TX7 a).2.1 ≠ (TX7 b).2.1 := by decide +kernel
theorem tyX7_ok : ∀ k, k < 9 → parseFieldDescriptor (TX7 k).2.2.1 = some (tyX7 k) := by decide +kernel
abbrev cX7_init : ByteArray := prog_9_method_1_code
def yX7_init : MethodName := ⟨RX7, "<init>", "(LMusicBoxEditor$Bytes;)V"⟩
abbrev cX7_scan : ByteArray := prog_9_method_2_code
def yX7_scan : MethodName := ⟨RX7, "scan", "()V"⟩
abbrev cX7_kindOf : ByteArray := prog_9_method_3_code
def yX7_kindOf : MethodName := ⟨RX7, "kindOf", "(I)I"⟩
abbrev cX7_putToken : ByteArray := prog_9_method_4_code
def yX7_putToken : MethodName := ⟨RX7, "putToken", "(II)V"⟩
abbrev cX7_lengthenToken : ByteArray := prog_9_method_5_code
def yX7_lengthenToken : MethodName := ⟨RX7, "lengthenToken", "(I)V"⟩
abbrev cX7_advance : ByteArray := prog_9_method_6_code
def yX7_advance : MethodName := ⟨RX7, "advance", "()V"⟩
abbrev cX7_atAnyWord : ByteArray := prog_9_method_7_code
def yX7_atAnyWord : MethodName := ⟨RX7, "atAnyWord", "()Z"⟩
abbrev cX7_atWord : ByteArray := prog_9_method_8_code
def yX7_atWord : MethodName := ⟨RX7, "atWord", "(Ljava/lang/String;)Z"⟩
abbrev cX7_atSign : ByteArray := prog_9_method_9_code
def yX7_atSign : MethodName := ⟨RX7, "atSign", "(C)Z"⟩
abbrev cX7_fail : ByteArray := prog_9_method_10_code
def yX7_fail : MethodName := ⟨RX7, "fail", "(I)Z"⟩
abbrev cX7_failTaken : ByteArray := prog_9_method_11_code
def yX7_failTaken : MethodName := ⟨RX7, "failTaken", "(I)Z"⟩
abbrev cX7_takeWord : ByteArray := prog_9_method_12_code
def yX7_takeWord : MethodName := ⟨RX7, "takeWord", "(Ljava/lang/String;)Z"⟩
abbrev cX7_takeSign : ByteArray := prog_9_method_13_code
def yX7_takeSign : MethodName := ⟨RX7, "takeSign", "(C)Z"⟩
abbrev cX7_takeNumber : ByteArray := prog_9_method_14_code
def yX7_takeNumber : MethodName := ⟨RX7, "takeNumber", "(II)I"⟩
abbrev cX7_takeEnd : ByteArray := prog_9_method_15_code
def yX7_takeEnd : MethodName := ⟨RX7, "takeEnd", "()Z"⟩
def RX8 : String := "MusicBoxEditor$Tooth"
def TX8 : u_T := fun k => match k with
  | 0 => ("MusicBoxEditor$Tooth", "pitch", "I", false)
  | 1 => ("MusicBoxEditor$Tooth", "bend", "I", false)
  | 2 => ("MusicBoxEditor$Tooth", "gap", "I", false)
  | 3 => ("MusicBoxEditor$Tooth", "strength", "I", false)
  | 4 => ("MusicBoxEditor$Tooth", "wear", "I", false)
  | _ => ("MusicBoxEditor$Tooth", "silence", "I", false)
def tyX8 : Nat → FieldType := fun k => match k with
  | 0 => .int
  | 1 => .int
  | 2 => .int
  | 3 => .int
  | 4 => .int
  | _ => .int
abbrev wsX80 : List Cond := u_ws RX8 TX8 6
theorem nmX8 : ∀ a, a < 6 → ∀ b, b < 6 → a ≠ b → (TX8 a).2.1 ≠ (TX8 b).2.1 := by decide +kernel
theorem tyX8_ok : ∀ k, k < 6 → parseFieldDescriptor (TX8 k).2.2.1 = some (tyX8 k) := by decide +kernel
abbrev cX8_init : ByteArray := prog_10_method_1_code
def yX8_init : MethodName := ⟨RX8, "<init>", "()V"⟩
abbrev cX8_begin : ByteArray := prog_10_method_2_code
def yX8_begin : MethodName := ⟨RX8, "begin", "(III)V"⟩
abbrev cX8_renew : ByteArray := prog_10_method_3_code
def yX8_renew : MethodName := ⟨RX8, "renew", "()V"⟩
abbrev cX8_copyFrom : ByteArray := prog_10_method_4_code
def yX8_copyFrom : MethodName := ⟨RX8, "copyFrom", "(LMusicBoxEditor$Tooth;)V"⟩
abbrev cX8_pitchNow : ByteArray := prog_10_method_5_code
def yX8_pitchNow : MethodName := ⟨RX8, "pitchNow", "()I"⟩
abbrev cX8_brokenNow : ByteArray := prog_10_method_6_code
def yX8_brokenNow : MethodName := ⟨RX8, "brokenNow", "()Z"⟩
abbrev cX8_dampedNow : ByteArray := prog_10_method_7_code
def yX8_dampedNow : MethodName := ⟨RX8, "dampedNow", "()Z"⟩
abbrev cX8_pluck : ByteArray := prog_10_method_8_code
def yX8_pluck : MethodName := ⟨RX8, "pluck", "(I)V"⟩
abbrev cX8_passStep : ByteArray := prog_10_method_9_code
def yX8_passStep : MethodName := ⟨RX8, "passStep", "()V"⟩
def RX9 : String := "MusicBoxEditor"
def TX9 : u_T := fun k => match k with
  | 0 => ("MusicBoxEditor", "text", "LMusicBoxEditor$Bytes;", true)
  | 1 => ("MusicBoxEditor", "output", "LMusicBoxEditor$Bytes;", true)
  | 2 => ("MusicBoxEditor", "tokens", "LMusicBoxEditor$Tokens;", true)
  | 3 => ("MusicBoxEditor", "setupReader", "LMusicBoxEditor$SetupReader;", true)
  | 4 => ("MusicBoxEditor", "scriptReader", "LMusicBoxEditor$ScriptReader;", true)
  | 5 => ("MusicBoxEditor", "script", "LMusicBoxEditor$Script;", true)
  | 6 => ("MusicBoxEditor", "box", "LMusicBoxEditor$Box;", true)
  | 7 => ("MusicBoxEditor", "trial", "LMusicBoxEditor$Box;", true)
  | 8 => ("MusicBoxEditor", "history", "LMusicBoxEditor$History;", true)
  | 9 => ("MusicBoxEditor", "slots", "[LMusicBoxEditor$Box;", true)
  | _ => ("MusicBoxEditor", "slotFilled", "[Z", true)
def tyX9 : Nat → FieldType := fun k => match k with
  | 0 => .object "MusicBoxEditor$Bytes"
  | 1 => .object "MusicBoxEditor$Bytes"
  | 2 => .object "MusicBoxEditor$Tokens"
  | 3 => .object "MusicBoxEditor$SetupReader"
  | 4 => .object "MusicBoxEditor$ScriptReader"
  | 5 => .object "MusicBoxEditor$Script"
  | 6 => .object "MusicBoxEditor$Box"
  | 7 => .object "MusicBoxEditor$Box"
  | 8 => .object "MusicBoxEditor$History"
  | 9 => .array (.object "MusicBoxEditor$Box")
  | _ => .array .boolean
abbrev wsX90 : List Cond := u_ws RX9 TX9 11
theorem nmX9 : ∀ a, a < 11 → ∀ b, b < 11 → a ≠ b → (TX9 a).2.1 ≠ (TX9 b).2.1 := by decide +kernel
theorem tyX9_ok : ∀ k, k < 11 → parseFieldDescriptor (TX9 k).2.2.1 = some (tyX9 k) := by decide +kernel
abbrev cX9_init : ByteArray := prog_1_method_1_code
def yX9_init : MethodName := ⟨RX9, "<init>", "()V"⟩
abbrev cX9_append : ByteArray := prog_1_method_2_code
def yX9_append : MethodName := ⟨RX9, "append", "(IIIII)I"⟩
abbrev cX9_bytesIn : ByteArray := prog_1_method_3_code
def yX9_bytesIn : MethodName := ⟨RX9, "bytesIn", "(I)I"⟩
abbrev cX9_putBytes : ByteArray := prog_1_method_4_code
def yX9_putBytes : MethodName := ⟨RX9, "putBytes", "(I)V"⟩
abbrev cX9_truncate : ByteArray := prog_1_method_5_code
def yX9_truncate : MethodName := ⟨RX9, "truncate", "(I)I"⟩
abbrev cX9_load : ByteArray := prog_1_method_6_code
def yX9_load : MethodName := ⟨RX9, "load", "()I"⟩
abbrev cX9_takeSetup : ByteArray := prog_1_method_7_code
def yX9_takeSetup : MethodName := ⟨RX9, "takeSetup", "()V"⟩
abbrev cX9_runScript : ByteArray := prog_1_method_8_code
def yX9_runScript : MethodName := ⟨RX9, "runScript", "()I"⟩
abbrev cX9_errorCode : ByteArray := prog_1_method_9_code
def yX9_errorCode : MethodName := ⟨RX9, "errorCode", "()I"⟩
abbrev cX9_errorPosition : ByteArray := prog_1_method_10_code
def yX9_errorPosition : MethodName := ⟨RX9, "errorPosition", "()I"⟩
abbrev cX9_stepCount : ByteArray := prog_1_method_11_code
def yX9_stepCount : MethodName := ⟨RX9, "stepCount", "()I"⟩
abbrev cX9_selectedTune : ByteArray := prog_1_method_12_code
def yX9_selectedTune : MethodName := ⟨RX9, "selectedTune", "()I"⟩
abbrev cX9_position : ByteArray := prog_1_method_13_code
def yX9_position : MethodName := ⟨RX9, "position", "()I"⟩
abbrev cX9_isPin : ByteArray := prog_1_method_14_code
def yX9_isPin : MethodName := ⟨RX9, "isPin", "(III)Z"⟩
abbrev cX9_pinCount : ByteArray := prog_1_method_15_code
def yX9_pinCount : MethodName := ⟨RX9, "pinCount", "(I)I"⟩
abbrev cX9_chord : ByteArray := prog_1_method_16_code
def yX9_chord : MethodName := ⟨RX9, "chord", "(II)I"⟩
abbrev cX9_distance : ByteArray := prog_1_method_17_code
def yX9_distance : MethodName := ⟨RX9, "distance", "(III)I"⟩
abbrev cX9_closePins : ByteArray := prog_1_method_18_code
def yX9_closePins : MethodName := ⟨RX9, "closePins", "(I)I"⟩
abbrev cX9_longestRest : ByteArray := prog_1_method_19_code
def yX9_longestRest : MethodName := ⟨RX9, "longestRest", "(I)I"⟩
abbrev cX9_toothCount : ByteArray := prog_1_method_20_code
def yX9_toothCount : MethodName := ⟨RX9, "toothCount", "()I"⟩
abbrev cX9_soundingPitch : ByteArray := prog_1_method_21_code
def yX9_soundingPitch : MethodName := ⟨RX9, "soundingPitch", "(I)I"⟩
abbrev cX9_bendOf : ByteArray := prog_1_method_22_code
def yX9_bendOf : MethodName := ⟨RX9, "bendOf", "(I)I"⟩
abbrev cX9_gap : ByteArray := prog_1_method_23_code
def yX9_gap : MethodName := ⟨RX9, "gap", "(I)I"⟩
abbrev cX9_wear : ByteArray := prog_1_method_24_code
def yX9_wear : MethodName := ⟨RX9, "wear", "(I)I"⟩
abbrev cX9_silence : ByteArray := prog_1_method_25_code
def yX9_silence : MethodName := ⟨RX9, "silence", "(I)I"⟩
abbrev cX9_isBroken : ByteArray := prog_1_method_26_code
def yX9_isBroken : MethodName := ⟨RX9, "isBroken", "(I)Z"⟩
abbrev cX9_nextSound : ByteArray := prog_1_method_27_code
def yX9_nextSound : MethodName := ⟨RX9, "nextSound", "(I)I"⟩
abbrev cX9_turnsLeft : ByteArray := prog_1_method_28_code
def yX9_turnsLeft : MethodName := ⟨RX9, "turnsLeft", "()I"⟩
abbrev cX9_vane : ByteArray := prog_1_method_29_code
def yX9_vane : MethodName := ⟨RX9, "vane", "()I"⟩
abbrev cX9_tempo : ByteArray := prog_1_method_30_code
def yX9_tempo : MethodName := ⟨RX9, "tempo", "()I"⟩
abbrev cX9_secondsPerStep : ByteArray := prog_1_method_31_code
def yX9_secondsPerStep : MethodName := ⟨RX9, "secondsPerStep", "()D"⟩
abbrev cX9_secondsPerStepBits : ByteArray := prog_1_method_32_code
def yX9_secondsPerStepBits : MethodName := ⟨RX9, "secondsPerStepBits", "()J"⟩
abbrev cX9_bitsOfPositive : ByteArray := prog_1_method_33_code
def yX9_bitsOfPositive : MethodName := ⟨RX9, "bitsOfPositive", "(D)J"⟩
abbrev cX9_noteCount : ByteArray := prog_1_method_34_code
def yX9_noteCount : MethodName := ⟨RX9, "noteCount", "()I"⟩
abbrev cX9_squeakCount : ByteArray := prog_1_method_35_code
def yX9_squeakCount : MethodName := ⟨RX9, "squeakCount", "()I"⟩
abbrev cX9_stepsPlayed : ByteArray := prog_1_method_36_code
def yX9_stepsPlayed : MethodName := ⟨RX9, "stepsPlayed", "()I"⟩
abbrev cX9_brokenTeeth : ByteArray := prog_1_method_37_code
def yX9_brokenTeeth : MethodName := ⟨RX9, "brokenTeeth", "()I"⟩
abbrev cX9_meanPitch : ByteArray := prog_1_method_38_code
def yX9_meanPitch : MethodName := ⟨RX9, "meanPitch", "(I)D"⟩
abbrev cX9_density : ByteArray := prog_1_method_39_code
def yX9_density : MethodName := ⟨RX9, "density", "(I)F"⟩
abbrev cX9_contradictions : ByteArray := prog_1_method_40_code
def yX9_contradictions : MethodName := ⟨RX9, "contradictions", "()I"⟩
abbrev cX9_stepsLeft : ByteArray := prog_1_method_41_code
def yX9_stepsLeft : MethodName := ⟨RX9, "stepsLeft", "()I"⟩
abbrev cX9_stepsUntilBroken : ByteArray := prog_1_method_42_code
def yX9_stepsUntilBroken : MethodName := ⟨RX9, "stepsUntilBroken", "(I)I"⟩
abbrev cX9_notesIn : ByteArray := prog_1_method_43_code
def yX9_notesIn : MethodName := ⟨RX9, "notesIn", "(I)I"⟩
abbrev cX9_squeaksIn : ByteArray := prog_1_method_44_code
def yX9_squeaksIn : MethodName := ⟨RX9, "squeaksIn", "(I)I"⟩
abbrev cX9_addPin : ByteArray := prog_1_method_45_code
def yX9_addPin : MethodName := ⟨RX9, "addPin", "(III)I"⟩
abbrev cX9_removePin : ByteArray := prog_1_method_46_code
def yX9_removePin : MethodName := ⟨RX9, "removePin", "(III)I"⟩
abbrev cX9_shift : ByteArray := prog_1_method_47_code
def yX9_shift : MethodName := ⟨RX9, "shift", "(II)I"⟩
abbrev cX9_transpose : ByteArray := prog_1_method_48_code
def yX9_transpose : MethodName := ⟨RX9, "transpose", "(II)I"⟩
abbrev cX9_copyTune : ByteArray := prog_1_method_49_code
def yX9_copyTune : MethodName := ⟨RX9, "copyTune", "(II)I"⟩
abbrev cX9_selectTune : ByteArray := prog_1_method_50_code
def yX9_selectTune : MethodName := ⟨RX9, "selectTune", "(I)I"⟩
abbrev cX9_setGap : ByteArray := prog_1_method_51_code
def yX9_setGap : MethodName := ⟨RX9, "setGap", "(II)I"⟩
abbrev cX9_bend : ByteArray := prog_1_method_52_code
def yX9_bend : MethodName := ⟨RX9, "bend", "(II)I"⟩
abbrev cX9_replaceTooth : ByteArray := prog_1_method_53_code
def yX9_replaceTooth : MethodName := ⟨RX9, "replaceTooth", "(I)I"⟩
abbrev cX9_setVane : ByteArray := prog_1_method_54_code
def yX9_setVane : MethodName := ⟨RX9, "setVane", "(I)I"⟩
abbrev cX9_wind : ByteArray := prog_1_method_55_code
def yX9_wind : MethodName := ⟨RX9, "wind", "(I)I"⟩
abbrev cX9_play : ByteArray := prog_1_method_56_code
def yX9_play : MethodName := ⟨RX9, "play", "(I)I"⟩
abbrev cX9_writePins : ByteArray := prog_1_method_57_code
def yX9_writePins : MethodName := ⟨RX9, "writePins", "(II)I"⟩
abbrev cX9_writeComb : ByteArray := prog_1_method_58_code
def yX9_writeComb : MethodName := ⟨RX9, "writeComb", "()I"⟩
abbrev cX9_outputByte : ByteArray := prog_1_method_59_code
def yX9_outputByte : MethodName := ⟨RX9, "outputByte", "(I)I"⟩
abbrev cX9_undoCount : ByteArray := prog_1_method_60_code
def yX9_undoCount : MethodName := ⟨RX9, "undoCount", "()I"⟩
abbrev cX9_undo : ByteArray := prog_1_method_61_code
def yX9_undo : MethodName := ⟨RX9, "undo", "()I"⟩
abbrev cX9_save : ByteArray := prog_1_method_62_code
def yX9_save : MethodName := ⟨RX9, "save", "(I)I"⟩
abbrev cX9_restore : ByteArray := prog_1_method_63_code
def yX9_restore : MethodName := ⟨RX9, "restore", "(I)I"⟩
abbrev cX9_rangeFault : ByteArray := prog_1_method_64_code
def yX9_rangeFault : MethodName := ⟨RX9, "rangeFault", "(III)I"⟩
abbrev cX9_slotFault : ByteArray := prog_1_method_65_code
def yX9_slotFault : MethodName := ⟨RX9, "slotFault", "(I)I"⟩
abbrev cX9_refuse : ByteArray := prog_1_method_66_code
def yX9_refuse : MethodName := ⟨RX9, "refuse", "(I)V"⟩
def RX10 : String := "MusicBoxEditorModel"
def TX10 : u_T := fun k => match k with
  | 0 => ("MusicBoxEditorModel", "now", "[I", true)
  | 1 => ("MusicBoxEditorModel", "aside", "[I", true)
  | 2 => ("MusicBoxEditorModel", "reading", "[I", true)
  | 3 => ("MusicBoxEditorModel", "past", "[I", true)
  | 4 => ("MusicBoxEditorModel", "saved", "[I", true)
  | 5 => ("MusicBoxEditorModel", "turned", "[I", true)
  | 6 => ("MusicBoxEditorModel", "isSaved", "[Z", true)
  | 7 => ("MusicBoxEditorModel", "undos", "I", false)
  | 8 => ("MusicBoxEditorModel", "thrown", "I", false)
  | 9 => ("MusicBoxEditorModel", "buffer", "[I", true)
  | 10 => ("MusicBoxEditorModel", "fed", "I", false)
  | 11 => ("MusicBoxEditorModel", "lastCode", "I", false)
  | 12 => ("MusicBoxEditorModel", "lastPlace", "I", false)
  | 13 => ("MusicBoxEditorModel", "spot", "I", false)
  | 14 => ("MusicBoxEditorModel", "begin", "I", false)
  | 15 => ("MusicBoxEditorModel", "token", "I", false)
  | 16 => ("MusicBoxEditorModel", "value", "I", false)
  | 17 => ("MusicBoxEditorModel", "code", "I", false)
  | 18 => ("MusicBoxEditorModel", "place", "I", false)
  | 19 => ("MusicBoxEditorModel", "kinds", "[I", true)
  | 20 => ("MusicBoxEditorModel", "ones", "[I", true)
  | 21 => ("MusicBoxEditorModel", "twos", "[I", true)
  | 22 => ("MusicBoxEditorModel", "threes", "[I", true)
  | 23 => ("MusicBoxEditorModel", "commands", "I", false)
  | 24 => ("MusicBoxEditorModel", "done", "I", false)
  | 25 => ("MusicBoxEditorModel", "isScript", "Z", false)
  | 26 => ("MusicBoxEditorModel", "out", "[I", true)
  | _ => ("MusicBoxEditorModel", "written", "I", false)
def tyX10 : Nat → FieldType := fun k => match k with
  | 0 => .array .int
  | 1 => .array .int
  | 2 => .array .int
  | 3 => .array .int
  | 4 => .array .int
  | 5 => .array .int
  | 6 => .array .boolean
  | 7 => .int
  | 8 => .int
  | 9 => .array .int
  | 10 => .int
  | 11 => .int
  | 12 => .int
  | 13 => .int
  | 14 => .int
  | 15 => .int
  | 16 => .int
  | 17 => .int
  | 18 => .int
  | 19 => .array .int
  | 20 => .array .int
  | 21 => .array .int
  | 22 => .array .int
  | 23 => .int
  | 24 => .int
  | 25 => .boolean
  | 26 => .array .int
  | _ => .int
abbrev wsX100 : List Cond := u_ws RX10 TX10 28
theorem nmX10 : ∀ a, a < 28 → ∀ b, b < 28 → a ≠ b → (TX10 a).2.1 ≠ (TX10 b).2.1 := by decide +kernel
theorem tyX10_ok : ∀ k, k < 28 → parseFieldDescriptor (TX10 k).2.2.1 = some (tyX10 k) := by decide +kernel
abbrev cX10_init : ByteArray := prog_12_method_1_code
def yX10_init : MethodName := ⟨RX10, "<init>", "()V"⟩
abbrev cX10_takesText : ByteArray := prog_12_method_2_code
def yX10_takesText : MethodName := ⟨RX10, "takesText", "(Ljava/lang/String;)V"⟩
abbrev cX10_thrown : ByteArray := prog_12_method_3_code
def yX10_thrown : MethodName := ⟨RX10, "thrown", "()I"⟩
abbrev cX10_in : ByteArray := prog_12_method_4_code
def yX10_in : MethodName := ⟨RX10, "in", "(III)Z"⟩
abbrev cX10_right : ByteArray := prog_12_method_5_code
def yX10_right : MethodName := ⟨RX10, "right", "(ZI)Z"⟩
abbrev cX10_of : ByteArray := prog_12_method_6_code
def yX10_of : MethodName := ⟨RX10, "of", "(II)I"⟩
abbrev cX10_puts : ByteArray := prog_12_method_7_code
def yX10_puts : MethodName := ⟨RX10, "puts", "(III)V"⟩
abbrev cX10_isTune : ByteArray := prog_12_method_8_code
def yX10_isTune : MethodName := ⟨RX10, "isTune", "(I)Z"⟩
abbrev cX10_isTooth : ByteArray := prog_12_method_9_code
def yX10_isTooth : MethodName := ⟨RX10, "isTooth", "(I)Z"⟩
abbrev cX10_isStep : ByteArray := prog_12_method_10_code
def yX10_isStep : MethodName := ⟨RX10, "isStep", "(I)Z"⟩
abbrev cX10_set : ByteArray := prog_12_method_11_code
def yX10_set : MethodName := ⟨RX10, "set", "(II)I"⟩
abbrev cX10_putSet : ByteArray := prog_12_method_12_code
def yX10_putSet : MethodName := ⟨RX10, "putSet", "(III)V"⟩
abbrev cX10_has : ByteArray := prog_12_method_13_code
def yX10_has : MethodName := ⟨RX10, "has", "(III)Z"⟩
abbrev cX10_isBad : ByteArray := prog_12_method_14_code
def yX10_isBad : MethodName := ⟨RX10, "isBad", "(I)Z"⟩
abbrev cX10_pins : ByteArray := prog_12_method_15_code
def yX10_pins : MethodName := ⟨RX10, "pins", "(I)I"⟩
abbrev cX10_far : ByteArray := prog_12_method_16_code
def yX10_far : MethodName := ⟨RX10, "far", "(III)I"⟩
abbrev cX10_isClose : ByteArray := prog_12_method_17_code
def yX10_isClose : MethodName := ⟨RX10, "isClose", "(III)Z"⟩
abbrev cX10_sound : ByteArray := prog_12_method_18_code
def yX10_sound : MethodName := ⟨RX10, "sound", "(I)I"⟩
abbrev cX10_plucks : ByteArray := prog_12_method_19_code
def yX10_plucks : MethodName := ⟨RX10, "plucks", "(I)V"⟩
abbrev cX10_step : ByteArray := prog_12_method_20_code
def yX10_step : MethodName := ⟨RX10, "step", "()V"⟩
abbrev cX10_steps : ByteArray := prog_12_method_21_code
def yX10_steps : MethodName := ⟨RX10, "steps", "(I)I"⟩
abbrev cX10_tries : ByteArray := prog_12_method_22_code
def yX10_tries : MethodName := ⟨RX10, "tries", "()V"⟩
abbrev cX10_back : ByteArray := prog_12_method_23_code
def yX10_back : MethodName := ⟨RX10, "back", "(I)I"⟩
abbrev cX10_feeds : ByteArray := prog_12_method_24_code
def yX10_feeds : MethodName := ⟨RX10, "feeds", "(I)V"⟩
abbrev cX10_append : ByteArray := prog_12_method_25_code
def yX10_append : MethodName := ⟨RX10, "append", "(IIIII)I"⟩
abbrev cX10_truncate : ByteArray := prog_12_method_26_code
def yX10_truncate : MethodName := ⟨RX10, "truncate", "(I)I"⟩
abbrev cX10_errorCode : ByteArray := prog_12_method_27_code
def yX10_errorCode : MethodName := ⟨RX10, "errorCode", "()I"⟩
abbrev cX10_errorPosition : ByteArray := prog_12_method_28_code
def yX10_errorPosition : MethodName := ⟨RX10, "errorPosition", "()I"⟩
abbrev cX10_seen : ByteArray := prog_12_method_29_code
def yX10_seen : MethodName := ⟨RX10, "seen", "(I)I"⟩
abbrev cX10_reads : ByteArray := prog_12_method_30_code
def yX10_reads : MethodName := ⟨RX10, "reads", "()V"⟩
abbrev cX10_starts : ByteArray := prog_12_method_31_code
def yX10_starts : MethodName := ⟨RX10, "starts", "()V"⟩
abbrev cX10_must : ByteArray := prog_12_method_32_code
def yX10_must : MethodName := ⟨RX10, "must", "(ZI)Z"⟩
abbrev cX10_goesOn : ByteArray := prog_12_method_33_code
def yX10_goesOn : MethodName := ⟨RX10, "goesOn", "()V"⟩
abbrev cX10_isSign : ByteArray := prog_12_method_34_code
def yX10_isSign : MethodName := ⟨RX10, "isSign", "(I)Z"⟩
abbrev cX10_isWord : ByteArray := prog_12_method_35_code
def yX10_isWord : MethodName := ⟨RX10, "isWord", "(Ljava/lang/String;)Z"⟩
abbrev cX10_takesSign : ByteArray := prog_12_method_36_code
def yX10_takesSign : MethodName := ⟨RX10, "takesSign", "(I)V"⟩
abbrev cX10_looksAt : ByteArray := prog_12_method_37_code
def yX10_looksAt : MethodName := ⟨RX10, "looksAt", "(II)Z"⟩
abbrev cX10_number : ByteArray := prog_12_method_38_code
def yX10_number : MethodName := ⟨RX10, "number", "(II)I"⟩
abbrev cX10_isWhole : ByteArray := prog_12_method_39_code
def yX10_isWhole : MethodName := ⟨RX10, "isWhole", "()Z"⟩
abbrev cX10_readsTooth : ByteArray := prog_12_method_40_code
def yX10_readsTooth : MethodName := ⟨RX10, "readsTooth", "()V"⟩
abbrev cX10_readsPin : ByteArray := prog_12_method_41_code
def yX10_readsPin : MethodName := ⟨RX10, "readsPin", "()V"⟩
abbrev cX10_readsSetup : ByteArray := prog_12_method_42_code
def yX10_readsSetup : MethodName := ⟨RX10, "readsSetup", "()V"⟩
abbrev cX10_load : ByteArray := prog_12_method_43_code
def yX10_load : MethodName := ⟨RX10, "load", "()I"⟩
abbrev cX10_commandHere : ByteArray := prog_12_method_44_code
def yX10_commandHere : MethodName := ⟨RX10, "commandHere", "()I"⟩
abbrev cX10_readsRepeat : ByteArray := prog_12_method_45_code
def yX10_readsRepeat : MethodName := ⟨RX10, "readsRepeat", "(II)V"⟩
abbrev cX10_takesDirection : ByteArray := prog_12_method_46_code
def yX10_takesDirection : MethodName := ⟨RX10, "takesDirection", "()I"⟩
abbrev cX10_readsSingle : ByteArray := prog_12_method_47_code
def yX10_readsSingle : MethodName := ⟨RX10, "readsSingle", "(I)V"⟩
abbrev cX10_readsCommand : ByteArray := prog_12_method_48_code
def yX10_readsCommand : MethodName := ⟨RX10, "readsCommand", "(I)V"⟩
abbrev cX10_readsCommands : ByteArray := prog_12_method_49_code
def yX10_readsCommands : MethodName := ⟨RX10, "readsCommands", "(I)V"⟩
abbrev cX10_does : ByteArray := prog_12_method_50_code
def yX10_does : MethodName := ⟨RX10, "does", "(I)I"⟩
abbrev cX10_doesAll : ByteArray := prog_12_method_51_code
def yX10_doesAll : MethodName := ⟨RX10, "doesAll", "(II)Z"⟩
abbrev cX10_runScript : ByteArray := prog_12_method_52_code
def yX10_runScript : MethodName := ⟨RX10, "runScript", "()I"⟩
abbrev cX10_tells : ByteArray := prog_12_method_53_code
def yX10_tells : MethodName := ⟨RX10, "tells", "(I)I"⟩
abbrev cX10_findsTune : ByteArray := prog_12_method_54_code
def yX10_findsTune : MethodName := ⟨RX10, "findsTune", "(I)Z"⟩
abbrev cX10_findsTooth : ByteArray := prog_12_method_55_code
def yX10_findsTooth : MethodName := ⟨RX10, "findsTooth", "(I)Z"⟩
abbrev cX10_isThere : ByteArray := prog_12_method_56_code
def yX10_isThere : MethodName := ⟨RX10, "isThere", "(III)Z"⟩
abbrev cX10_stepCount : ByteArray := prog_12_method_57_code
def yX10_stepCount : MethodName := ⟨RX10, "stepCount", "()I"⟩
abbrev cX10_selectedTune : ByteArray := prog_12_method_58_code
def yX10_selectedTune : MethodName := ⟨RX10, "selectedTune", "()I"⟩
abbrev cX10_position : ByteArray := prog_12_method_59_code
def yX10_position : MethodName := ⟨RX10, "position", "()I"⟩
abbrev cX10_isPin : ByteArray := prog_12_method_60_code
def yX10_isPin : MethodName := ⟨RX10, "isPin", "(III)Z"⟩
abbrev cX10_pinCount : ByteArray := prog_12_method_61_code
def yX10_pinCount : MethodName := ⟨RX10, "pinCount", "(I)I"⟩
abbrev cX10_chord : ByteArray := prog_12_method_62_code
def yX10_chord : MethodName := ⟨RX10, "chord", "(II)I"⟩
abbrev cX10_distance : ByteArray := prog_12_method_63_code
def yX10_distance : MethodName := ⟨RX10, "distance", "(III)I"⟩
abbrev cX10_closePins : ByteArray := prog_12_method_64_code
def yX10_closePins : MethodName := ⟨RX10, "closePins", "(I)I"⟩
abbrev cX10_longestRest : ByteArray := prog_12_method_65_code
def yX10_longestRest : MethodName := ⟨RX10, "longestRest", "(I)I"⟩
abbrev cX10_toothCount : ByteArray := prog_12_method_66_code
def yX10_toothCount : MethodName := ⟨RX10, "toothCount", "()I"⟩
abbrev cX10_soundingPitch : ByteArray := prog_12_method_67_code
def yX10_soundingPitch : MethodName := ⟨RX10, "soundingPitch", "(I)I"⟩
abbrev cX10_bendOf : ByteArray := prog_12_method_68_code
def yX10_bendOf : MethodName := ⟨RX10, "bendOf", "(I)I"⟩
abbrev cX10_gap : ByteArray := prog_12_method_69_code
def yX10_gap : MethodName := ⟨RX10, "gap", "(I)I"⟩
abbrev cX10_wear : ByteArray := prog_12_method_70_code
def yX10_wear : MethodName := ⟨RX10, "wear", "(I)I"⟩
abbrev cX10_silence : ByteArray := prog_12_method_71_code
def yX10_silence : MethodName := ⟨RX10, "silence", "(I)I"⟩
abbrev cX10_isBroken : ByteArray := prog_12_method_72_code
def yX10_isBroken : MethodName := ⟨RX10, "isBroken", "(I)Z"⟩
abbrev cX10_nextSound : ByteArray := prog_12_method_73_code
def yX10_nextSound : MethodName := ⟨RX10, "nextSound", "(I)I"⟩
abbrev cX10_turnsLeft : ByteArray := prog_12_method_74_code
def yX10_turnsLeft : MethodName := ⟨RX10, "turnsLeft", "()I"⟩
abbrev cX10_vane : ByteArray := prog_12_method_75_code
def yX10_vane : MethodName := ⟨RX10, "vane", "()I"⟩
abbrev cX10_speed : ByteArray := prog_12_method_76_code
def yX10_speed : MethodName := ⟨RX10, "speed", "()I"⟩
abbrev cX10_tempo : ByteArray := prog_12_method_77_code
def yX10_tempo : MethodName := ⟨RX10, "tempo", "()I"⟩
abbrev cX10_secondsPerStep : ByteArray := prog_12_method_78_code
def yX10_secondsPerStep : MethodName := ⟨RX10, "secondsPerStep", "()D"⟩
abbrev cX10_secondsPerStepBits : ByteArray := prog_12_method_79_code
def yX10_secondsPerStepBits : MethodName := ⟨RX10, "secondsPerStepBits", "()J"⟩
abbrev cX10_noteCount : ByteArray := prog_12_method_80_code
def yX10_noteCount : MethodName := ⟨RX10, "noteCount", "()I"⟩
abbrev cX10_squeakCount : ByteArray := prog_12_method_81_code
def yX10_squeakCount : MethodName := ⟨RX10, "squeakCount", "()I"⟩
abbrev cX10_stepsPlayed : ByteArray := prog_12_method_82_code
def yX10_stepsPlayed : MethodName := ⟨RX10, "stepsPlayed", "()I"⟩
abbrev cX10_brokenTeeth : ByteArray := prog_12_method_83_code
def yX10_brokenTeeth : MethodName := ⟨RX10, "brokenTeeth", "()I"⟩
abbrev cX10_meanPitch : ByteArray := prog_12_method_84_code
def yX10_meanPitch : MethodName := ⟨RX10, "meanPitch", "(I)D"⟩
abbrev cX10_density : ByteArray := prog_12_method_85_code
def yX10_density : MethodName := ⟨RX10, "density", "(I)F"⟩
abbrev cX10_contradictions : ByteArray := prog_12_method_86_code
def yX10_contradictions : MethodName := ⟨RX10, "contradictions", "()I"⟩
abbrev cX10_stepsLeft : ByteArray := prog_12_method_87_code
def yX10_stepsLeft : MethodName := ⟨RX10, "stepsLeft", "()I"⟩
abbrev cX10_stepsUntilBroken : ByteArray := prog_12_method_88_code
def yX10_stepsUntilBroken : MethodName := ⟨RX10, "stepsUntilBroken", "(I)I"⟩
abbrev cX10_after : ByteArray := prog_12_method_89_code
def yX10_after : MethodName := ⟨RX10, "after", "(II)I"⟩
abbrev cX10_notesIn : ByteArray := prog_12_method_90_code
def yX10_notesIn : MethodName := ⟨RX10, "notesIn", "(I)I"⟩
abbrev cX10_squeaksIn : ByteArray := prog_12_method_91_code
def yX10_squeaksIn : MethodName := ⟨RX10, "squeaksIn", "(I)I"⟩
abbrev cX10_keeps : ByteArray := prog_12_method_92_code
def yX10_keeps : MethodName := ⟨RX10, "keeps", "()V"⟩
abbrev cX10_changes : ByteArray := prog_12_method_93_code
def yX10_changes : MethodName := ⟨RX10, "changes", "()V"⟩
abbrev cX10_pinning : ByteArray := prog_12_method_94_code
def yX10_pinning : MethodName := ⟨RX10, "pinning", "(IIIZ)I"⟩
abbrev cX10_addPin : ByteArray := prog_12_method_95_code
def yX10_addPin : MethodName := ⟨RX10, "addPin", "(III)I"⟩
abbrev cX10_removePin : ByteArray := prog_12_method_96_code
def yX10_removePin : MethodName := ⟨RX10, "removePin", "(III)I"⟩
abbrev cX10_shift : ByteArray := prog_12_method_97_code
def yX10_shift : MethodName := ⟨RX10, "shift", "(II)I"⟩
abbrev cX10_fits : ByteArray := prog_12_method_98_code
def yX10_fits : MethodName := ⟨RX10, "fits", "(II)Z"⟩
abbrev cX10_transpose : ByteArray := prog_12_method_99_code
def yX10_transpose : MethodName := ⟨RX10, "transpose", "(II)I"⟩
abbrev cX10_copyTune : ByteArray := prog_12_method_100_code
def yX10_copyTune : MethodName := ⟨RX10, "copyTune", "(II)I"⟩
abbrev cX10_selecting : ByteArray := prog_12_method_101_code
def yX10_selecting : MethodName := ⟨RX10, "selecting", "(I)I"⟩
abbrev cX10_selectTune : ByteArray := prog_12_method_102_code
def yX10_selectTune : MethodName := ⟨RX10, "selectTune", "(I)I"⟩
abbrev cX10_gapping : ByteArray := prog_12_method_103_code
def yX10_gapping : MethodName := ⟨RX10, "gapping", "(II)I"⟩
abbrev cX10_setGap : ByteArray := prog_12_method_104_code
def yX10_setGap : MethodName := ⟨RX10, "setGap", "(II)I"⟩
abbrev cX10_bending : ByteArray := prog_12_method_105_code
def yX10_bending : MethodName := ⟨RX10, "bending", "(II)I"⟩
abbrev cX10_bend : ByteArray := prog_12_method_106_code
def yX10_bend : MethodName := ⟨RX10, "bend", "(II)I"⟩
abbrev cX10_replacing : ByteArray := prog_12_method_107_code
def yX10_replacing : MethodName := ⟨RX10, "replacing", "(I)I"⟩
abbrev cX10_replaceTooth : ByteArray := prog_12_method_108_code
def yX10_replaceTooth : MethodName := ⟨RX10, "replaceTooth", "(I)I"⟩
abbrev cX10_vaning : ByteArray := prog_12_method_109_code
def yX10_vaning : MethodName := ⟨RX10, "vaning", "(I)I"⟩
abbrev cX10_setVane : ByteArray := prog_12_method_110_code
def yX10_setVane : MethodName := ⟨RX10, "setVane", "(I)I"⟩
abbrev cX10_winding : ByteArray := prog_12_method_111_code
def yX10_winding : MethodName := ⟨RX10, "winding", "(I)I"⟩
abbrev cX10_wind : ByteArray := prog_12_method_112_code
def yX10_wind : MethodName := ⟨RX10, "wind", "(I)I"⟩
abbrev cX10_playing : ByteArray := prog_12_method_113_code
def yX10_playing : MethodName := ⟨RX10, "playing", "(I)I"⟩
abbrev cX10_play : ByteArray := prog_12_method_114_code
def yX10_play : MethodName := ⟨RX10, "play", "(I)I"⟩
abbrev cX10_writes : ByteArray := prog_12_method_115_code
def yX10_writes : MethodName := ⟨RX10, "writes", "(I)V"⟩
abbrev cX10_writePins : ByteArray := prog_12_method_116_code
def yX10_writePins : MethodName := ⟨RX10, "writePins", "(II)I"⟩
abbrev cX10_writesNumber : ByteArray := prog_12_method_117_code
def yX10_writesNumber : MethodName := ⟨RX10, "writesNumber", "(I)V"⟩
abbrev cX10_writeComb : ByteArray := prog_12_method_118_code
def yX10_writeComb : MethodName := ⟨RX10, "writeComb", "()I"⟩
abbrev cX10_outputByte : ByteArray := prog_12_method_119_code
def yX10_outputByte : MethodName := ⟨RX10, "outputByte", "(I)I"⟩
abbrev cX10_undoCount : ByteArray := prog_12_method_120_code
def yX10_undoCount : MethodName := ⟨RX10, "undoCount", "()I"⟩
abbrev cX10_undo : ByteArray := prog_12_method_121_code
def yX10_undo : MethodName := ⟨RX10, "undo", "()I"⟩
abbrev cX10_save : ByteArray := prog_12_method_122_code
def yX10_save : MethodName := ⟨RX10, "save", "(I)I"⟩
abbrev cX10_restore : ByteArray := prog_12_method_123_code
def yX10_restore : MethodName := ⟨RX10, "restore", "(I)I"⟩
def RJx145de : String := "java/io/Serializable"
def TJx145de : u_T := fun k => match k with
  | _ => ("", "", "", false)
def tyJx145de : Nat → FieldType := fun k => match k with
  | _ => .int
abbrev wsJx145de0 : List Cond := u_ws RJx145de TJx145de 0
theorem nmJx145de : ∀ a, a < 0 → ∀ b, b < 0 → a ≠ b → (TJx145de a).2.1 ≠ (TJx145de b).2.1 := by decide +kernel
theorem tyJx145de_ok : ∀ k, k < 0 → parseFieldDescriptor (TJx145de k).2.2.1 = some (tyJx145de k) := by decide +kernel
def RJx9f9b0 : String := "java/lang/CharSequence"
def TJx9f9b0 : u_T := fun k => match k with
  | _ => ("", "", "", false)
def tyJx9f9b0 : Nat → FieldType := fun k => match k with
  | _ => .int
abbrev wsJx9f9b00 : List Cond := u_ws RJx9f9b0 TJx9f9b0 0
theorem nmJx9f9b0 : ∀ a, a < 0 → ∀ b, b < 0 → a ≠ b → (TJx9f9b0 a).2.1 ≠ (TJx9f9b0 b).2.1 := by decide +kernel
theorem tyJx9f9b0_ok : ∀ k, k < 0 → parseFieldDescriptor (TJx9f9b0 k).2.2.1 = some (tyJx9f9b0 k) := by decide +kernel
def RJxb160c : String := "java/lang/Comparable"
def TJxb160c : u_T := fun k => match k with
  | _ => ("", "", "", false)
def tyJxb160c : Nat → FieldType := fun k => match k with
  | _ => .int
abbrev wsJxb160c0 : List Cond := u_ws RJxb160c TJxb160c 0
theorem nmJxb160c : ∀ a, a < 0 → ∀ b, b < 0 → a ≠ b → (TJxb160c a).2.1 ≠ (TJxb160c b).2.1 := by decide +kernel
theorem tyJxb160c_ok : ∀ k, k < 0 → parseFieldDescriptor (TJxb160c k).2.2.1 = some (tyJxb160c k) := by decide +kernel
def RJxe99ae : String := "java/lang/Double"
def TJxe99ae : u_T := fun k => match k with
  | _ => ("", "", "", false)
def tyJxe99ae : Nat → FieldType := fun k => match k with
  | _ => .int
abbrev wsJxe99ae0 : List Cond := u_ws RJxe99ae TJxe99ae 0
theorem nmJxe99ae : ∀ a, a < 0 → ∀ b, b < 0 → a ≠ b → (TJxe99ae a).2.1 ≠ (TJxe99ae b).2.1 := by decide +kernel
theorem tyJxe99ae_ok : ∀ k, k < 0 → parseFieldDescriptor (TJxe99ae k).2.2.1 = some (tyJxe99ae k) := by decide +kernel
abbrev cJxe99ae_isNaN_b9ae7 : ByteArray := prog_16_method_6_code
def yJxe99ae_isNaN_b9ae7 : MethodName := ⟨RJxe99ae, "isNaN", "(D)Z"⟩
abbrev cJxe99ae_doubleToLongBits_ccdee : ByteArray := prog_16_method_23_code
def yJxe99ae_doubleToLongBits_ccdee : MethodName := ⟨RJxe99ae, "doubleToLongBits", "(D)J"⟩
def RJ13 : String := "java/lang/Long"
def TJ13 : u_T := fun k => match k with
  | _ => ("", "", "", false)
def tyJ13 : Nat → FieldType := fun k => match k with
  | _ => .int
abbrev wsJ130 : List Cond := u_ws RJ13 TJ13 0
theorem nmJ13 : ∀ a, a < 0 → ∀ b, b < 0 → a ≠ b → (TJ13 a).2.1 ≠ (TJ13 b).2.1 := by decide +kernel
theorem tyJ13_ok : ∀ k, k < 0 → parseFieldDescriptor (TJ13 k).2.2.1 = some (tyJ13 k) := by decide +kernel
abbrev cJ13_bitCount_95d88 : ByteArray := prog_21_method_50_code
def yJ13_bitCount_95d88 : MethodName := ⟨RJ13, "bitCount", "(J)I"⟩
def RJ9 : String := "java/lang/Math"
def TJ9 : u_T := fun k => match k with
  | _ => ("", "", "", false)
def tyJ9 : Nat → FieldType := fun k => match k with
  | _ => .int
abbrev wsJ90 : List Cond := u_ws RJ9 TJ9 0
theorem nmJ9 : ∀ a, a < 0 → ∀ b, b < 0 → a ≠ b → (TJ9 a).2.1 ≠ (TJ9 b).2.1 := by decide +kernel
theorem tyJ9_ok : ∀ k, k < 0 → parseFieldDescriptor (TJ9 k).2.2.1 = some (tyJ9 k) := by decide +kernel
abbrev cJ9_floorMod_7cf53 : ByteArray := prog_22_method_50_code
def yJ9_floorMod_7cf53 : MethodName := ⟨RJ9, "floorMod", "(II)I"⟩
abbrev cJ9_abs_0f7a4 : ByteArray := prog_22_method_59_code
def yJ9_abs_0f7a4 : MethodName := ⟨RJ9, "abs", "(I)I"⟩
abbrev cJ9_max_7cf53 : ByteArray := prog_22_method_65_code
def yJ9_max_7cf53 : MethodName := ⟨RJ9, "max", "(II)I"⟩
abbrev cJ9_min_7cf53 : ByteArray := prog_22_method_69_code
def yJ9_min_7cf53 : MethodName := ⟨RJ9, "min", "(II)I"⟩
def RJxd2413 : String := "java/lang/Number"
def TJxd2413 : u_T := fun k => match k with
  | _ => ("", "", "", false)
def tyJxd2413 : Nat → FieldType := fun k => match k with
  | _ => .int
abbrev wsJxd24130 : List Cond := u_ws RJxd2413 TJxd2413 0
theorem nmJxd2413 : ∀ a, a < 0 → ∀ b, b < 0 → a ≠ b → (TJxd2413 a).2.1 ≠ (TJxd2413 b).2.1 := by decide +kernel
theorem tyJxd2413_ok : ∀ k, k < 0 → parseFieldDescriptor (TJxd2413 k).2.2.1 = some (tyJxd2413 k) := by decide +kernel
def RJ0 : String := "java/lang/String"
def TJ0 : u_T := fun k => match k with
  | _ => ("", "", "", false)
def tyJ0 : Nat → FieldType := fun k => match k with
  | _ => .int
abbrev wsJ00 : List Cond := u_ws RJ0 TJ0 0
theorem nmJ0 : ∀ a, a < 0 → ∀ b, b < 0 → a ≠ b → (TJ0 a).2.1 ≠ (TJ0 b).2.1 := by decide +kernel
theorem tyJ0_ok : ∀ k, k < 0 → parseFieldDescriptor (TJ0 k).2.2.1 = some (tyJ0 k) := by decide +kernel
abbrev cJ0_length_8abf5 : ByteArray := prog_25_method_54_code
def yJ0_length_8abf5 : MethodName := ⟨RJ0, "length", "()I"⟩
abbrev cJ0_charAt_5068e : ByteArray := prog_25_method_56_code
def yJ0_charAt_5068e : MethodName := ⟨RJ0, "charAt", "(I)C"⟩
abbrev cJ0_coder_7d493 : ByteArray := prog_25_method_152_code
def yJ0_coder_7d493 : MethodName := ⟨RJ0, "coder", "()B"⟩
abbrev cJ0_isLatin1_aae02 : ByteArray := prog_25_method_154_code
def yJ0_isLatin1_aae02 : MethodName := ⟨RJ0, "isLatin1", "()Z"⟩
abbrev cJ0_checkIndex_df160 : ByteArray := prog_25_method_155_code
def yJ0_checkIndex_df160 : MethodName := ⟨RJ0, "checkIndex", "(II)V"⟩
def RJ1 : String := "java/lang/StringLatin1"
def TJ1 : u_T := fun k => match k with
  | _ => ("", "", "", false)
def tyJ1 : Nat → FieldType := fun k => match k with
  | _ => .int
abbrev wsJ10 : List Cond := u_ws RJ1 TJ1 0
theorem nmJ1 : ∀ a, a < 0 → ∀ b, b < 0 → a ≠ b → (TJ1 a).2.1 ≠ (TJ1 b).2.1 := by decide +kernel
theorem tyJ1_ok : ∀ k, k < 0 → parseFieldDescriptor (TJ1 k).2.2.1 = some (tyJ1 k) := by decide +kernel
abbrev cJ1_charAt_3b067 : ByteArray := prog_26_method_2_code
def yJ1_charAt_3b067 : MethodName := ⟨RJ1, "charAt", "([BI)C"⟩
def RJ2 : String := "java/lang/StringUTF16"
def TJ2 : u_T := fun k => match k with
  | _ => ("", "", "", false)
def tyJ2 : Nat → FieldType := fun k => match k with
  | _ => .int
abbrev wsJ20 : List Cond := u_ws RJ2 TJ2 0
theorem nmJ2 : ∀ a, a < 0 → ∀ b, b < 0 → a ≠ b → (TJ2 a).2.1 ≠ (TJ2 b).2.1 := by decide +kernel
theorem tyJ2_ok : ∀ k, k < 0 → parseFieldDescriptor (TJ2 k).2.2.1 = some (tyJ2 k) := by decide +kernel
abbrev cJ2_getChar_3b067 : ByteArray := prog_27_method_5_code
def yJ2_getChar_3b067 : MethodName := ⟨RJ2, "getChar", "([BI)C"⟩
abbrev cJ2_length_9d52b : ByteArray := prog_27_method_6_code
def yJ2_length_9d52b : MethodName := ⟨RJ2, "length", "([B)I"⟩
abbrev cJ2_charAt_3b067 : ByteArray := prog_27_method_83_code
def yJ2_charAt_3b067 : MethodName := ⟨RJ2, "charAt", "([BI)C"⟩
abbrev cJ2_checkIndex_2214a : ByteArray := prog_27_method_91_code
def yJ2_checkIndex_2214a : MethodName := ⟨RJ2, "checkIndex", "(I[B)V"⟩
def RJ10 : String := "java/lang/System"
def TJ10 : u_T := fun k => match k with
  | _ => ("", "", "", false)
def tyJ10 : Nat → FieldType := fun k => match k with
  | _ => .int
abbrev wsJ100 : List Cond := u_ws RJ10 TJ10 0
theorem nmJ10 : ∀ a, a < 0 → ∀ b, b < 0 → a ≠ b → (TJ10 a).2.1 ≠ (TJ10 b).2.1 := by decide +kernel
theorem tyJ10_ok : ∀ k, k < 0 → parseFieldDescriptor (TJ10 k).2.2.1 = some (tyJ10 k) := by decide +kernel
def RJxfd54e : String := "java/lang/constant/Constable"
def TJxfd54e : u_T := fun k => match k with
  | _ => ("", "", "", false)
def tyJxfd54e : Nat → FieldType := fun k => match k with
  | _ => .int
abbrev wsJxfd54e0 : List Cond := u_ws RJxfd54e TJxfd54e 0
theorem nmJxfd54e : ∀ a, a < 0 → ∀ b, b < 0 → a ≠ b → (TJxfd54e a).2.1 ≠ (TJxfd54e b).2.1 := by decide +kernel
theorem tyJxfd54e_ok : ∀ k, k < 0 → parseFieldDescriptor (TJxfd54e k).2.2.1 = some (tyJxfd54e k) := by decide +kernel
def RJx3cf43 : String := "java/lang/constant/ConstantDesc"
def TJx3cf43 : u_T := fun k => match k with
  | _ => ("", "", "", false)
def tyJx3cf43 : Nat → FieldType := fun k => match k with
  | _ => .int
abbrev wsJx3cf430 : List Cond := u_ws RJx3cf43 TJx3cf43 0
theorem nmJx3cf43 : ∀ a, a < 0 → ∀ b, b < 0 → a ≠ b → (TJx3cf43 a).2.1 ≠ (TJx3cf43 b).2.1 := by decide +kernel
theorem tyJx3cf43_ok : ∀ k, k < 0 → parseFieldDescriptor (TJx3cf43 k).2.2.1 = some (tyJx3cf43 k) := by decide +kernel
def RJ7 : String := "java/util/Arrays"
def TJ7 : u_T := fun k => match k with
  | _ => ("", "", "", false)
def tyJ7 : Nat → FieldType := fun k => match k with
  | _ => .int
abbrev wsJ70 : List Cond := u_ws RJ7 TJ7 0
theorem nmJ7 : ∀ a, a < 0 → ∀ b, b < 0 → a ≠ b → (TJ7 a).2.1 ≠ (TJ7 b).2.1 := by decide +kernel
theorem tyJ7_ok : ∀ k, k < 0 → parseFieldDescriptor (TJ7 k).2.2.1 = some (tyJ7 k) := by decide +kernel
abbrev cJ7_fill_d0a16 : ByteArray := prog_32_method_101_code
def yJ7_fill_d0a16 : MethodName := ⟨RJ7, "fill", "([JJ)V"⟩
def RJ3 : String := "jdk/internal/util/Preconditions"
def TJ3 : u_T := fun k => match k with
  | _ => ("", "", "", false)
def tyJ3 : Nat → FieldType := fun k => match k with
  | _ => .int
abbrev wsJ30 : List Cond := u_ws RJ3 TJ3 0
theorem nmJ3 : ∀ a, a < 0 → ∀ b, b < 0 → a ≠ b → (TJ3 a).2.1 ≠ (TJ3 b).2.1 := by decide +kernel
theorem tyJ3_ok : ∀ k, k < 0 → parseFieldDescriptor (TJ3 k).2.2.1 = some (tyJ3 k) := by decide +kernel
abbrev cJ3_checkIndex_8e157 : ByteArray := prog_34_method_11_code
def yJ3_checkIndex_8e157 : MethodName := ⟨RJ3, "checkIndex", "(IILjava/util/function/BiFunction;)I"⟩
def RL : String := "MusicBoxEditorLaw"
abbrev cL_append : ByteArray := method_3_code
def yL_append : MethodName := ⟨RL, "append", "(LMusicBoxEditor;IIIII[J)I"⟩
abbrev cL_truncate : ByteArray := method_4_code
def yL_truncate : MethodName := ⟨RL, "truncate", "(LMusicBoxEditor;I[J)I"⟩
abbrev cL_isPin : ByteArray := method_5_code
def yL_isPin : MethodName := ⟨RL, "isPin", "(LMusicBoxEditor;III[J)I"⟩
abbrev cL_pinCount : ByteArray := method_6_code
def yL_pinCount : MethodName := ⟨RL, "pinCount", "(LMusicBoxEditor;I[J)I"⟩
abbrev cL_chord : ByteArray := method_7_code
def yL_chord : MethodName := ⟨RL, "chord", "(LMusicBoxEditor;II[J)I"⟩
abbrev cL_distance : ByteArray := method_8_code
def yL_distance : MethodName := ⟨RL, "distance", "(LMusicBoxEditor;III[J)I"⟩
abbrev cL_closePins : ByteArray := method_9_code
def yL_closePins : MethodName := ⟨RL, "closePins", "(LMusicBoxEditor;I[J)I"⟩
abbrev cL_longestRest : ByteArray := method_10_code
def yL_longestRest : MethodName := ⟨RL, "longestRest", "(LMusicBoxEditor;I[J)I"⟩
abbrev cL_soundingPitch : ByteArray := method_11_code
def yL_soundingPitch : MethodName := ⟨RL, "soundingPitch", "(LMusicBoxEditor;I[J)I"⟩
abbrev cL_bendOf : ByteArray := method_12_code
def yL_bendOf : MethodName := ⟨RL, "bendOf", "(LMusicBoxEditor;I[J)I"⟩
abbrev cL_gap : ByteArray := method_13_code
def yL_gap : MethodName := ⟨RL, "gap", "(LMusicBoxEditor;I[J)I"⟩
abbrev cL_wear : ByteArray := method_14_code
def yL_wear : MethodName := ⟨RL, "wear", "(LMusicBoxEditor;I[J)I"⟩
abbrev cL_silence : ByteArray := method_15_code
def yL_silence : MethodName := ⟨RL, "silence", "(LMusicBoxEditor;I[J)I"⟩
abbrev cL_isBroken : ByteArray := method_16_code
def yL_isBroken : MethodName := ⟨RL, "isBroken", "(LMusicBoxEditor;I[J)I"⟩
abbrev cL_nextSound : ByteArray := method_17_code
def yL_nextSound : MethodName := ⟨RL, "nextSound", "(LMusicBoxEditor;I[J)I"⟩
abbrev cL_meanPitch : ByteArray := method_18_code
def yL_meanPitch : MethodName := ⟨RL, "meanPitch", "(LMusicBoxEditor;I[D)I"⟩
abbrev cL_density : ByteArray := method_19_code
def yL_density : MethodName := ⟨RL, "density", "(LMusicBoxEditor;I[D)I"⟩
abbrev cL_stepsUntilBroken : ByteArray := method_20_code
def yL_stepsUntilBroken : MethodName := ⟨RL, "stepsUntilBroken", "(LMusicBoxEditor;I[J)I"⟩
abbrev cL_notesIn : ByteArray := method_21_code
def yL_notesIn : MethodName := ⟨RL, "notesIn", "(LMusicBoxEditor;I[J)I"⟩
abbrev cL_squeaksIn : ByteArray := method_22_code
def yL_squeaksIn : MethodName := ⟨RL, "squeaksIn", "(LMusicBoxEditor;I[J)I"⟩
abbrev cL_addPin : ByteArray := method_23_code
def yL_addPin : MethodName := ⟨RL, "addPin", "(LMusicBoxEditor;III[J)I"⟩
abbrev cL_removePin : ByteArray := method_24_code
def yL_removePin : MethodName := ⟨RL, "removePin", "(LMusicBoxEditor;III[J)I"⟩
abbrev cL_shift : ByteArray := method_25_code
def yL_shift : MethodName := ⟨RL, "shift", "(LMusicBoxEditor;II[J)I"⟩
abbrev cL_transpose : ByteArray := method_26_code
def yL_transpose : MethodName := ⟨RL, "transpose", "(LMusicBoxEditor;II[J)I"⟩
abbrev cL_copyTune : ByteArray := method_27_code
def yL_copyTune : MethodName := ⟨RL, "copyTune", "(LMusicBoxEditor;II[J)I"⟩
abbrev cL_selectTune : ByteArray := method_28_code
def yL_selectTune : MethodName := ⟨RL, "selectTune", "(LMusicBoxEditor;I[J)I"⟩
abbrev cL_setGap : ByteArray := method_29_code
def yL_setGap : MethodName := ⟨RL, "setGap", "(LMusicBoxEditor;II[J)I"⟩
abbrev cL_bend : ByteArray := method_30_code
def yL_bend : MethodName := ⟨RL, "bend", "(LMusicBoxEditor;II[J)I"⟩
abbrev cL_replaceTooth : ByteArray := method_31_code
def yL_replaceTooth : MethodName := ⟨RL, "replaceTooth", "(LMusicBoxEditor;I[J)I"⟩
abbrev cL_setVane : ByteArray := method_32_code
def yL_setVane : MethodName := ⟨RL, "setVane", "(LMusicBoxEditor;I[J)I"⟩
abbrev cL_wind : ByteArray := method_33_code
def yL_wind : MethodName := ⟨RL, "wind", "(LMusicBoxEditor;I[J)I"⟩
abbrev cL_play : ByteArray := method_34_code
def yL_play : MethodName := ⟨RL, "play", "(LMusicBoxEditor;I[J)I"⟩
abbrev cL_writePins : ByteArray := method_35_code
def yL_writePins : MethodName := ⟨RL, "writePins", "(LMusicBoxEditor;II[J)I"⟩
abbrev cL_undo : ByteArray := method_36_code
def yL_undo : MethodName := ⟨RL, "undo", "(LMusicBoxEditor;[J)I"⟩
abbrev cL_save : ByteArray := method_37_code
def yL_save : MethodName := ⟨RL, "save", "(LMusicBoxEditor;I[J)I"⟩
abbrev cL_restore : ByteArray := method_38_code
def yL_restore : MethodName := ⟨RL, "restore", "(LMusicBoxEditor;I[J)I"⟩
abbrev cL_law : ByteArray := code
def yL_law : MethodName := ⟨RL, "law", "([I)Z"⟩
abbrev vwCl : List vw_C := [(RX0, TX0, 10), (RX1, TX1, 2), (RX2, TX2, 3), (RX3, TX3, 4), (RX4, TX4, 7), (RX5, TX5, 2), (RX6, TX6, 2), (RX7, TX7, 9), (RX8, TX8, 6), (RX9, TX9, 11), (RX10, TX10, 28)]
end
section
/-- the good words of the claim's tables -/
def AL : List Cond := lw_tbl.filter goodWord
theorem al_mem {w : Cond} (n : Nat) (h : lw_tbl[n]? = some w) (g : goodWord w = true) : w ∈ AL := List.mem_filter.mpr ⟨List.mem_of_getElem? h, g⟩
theorem al_good {ws : List Cond} (h : ∀ w ∈ ws, w ∈ AL) : GoodIn AL ws := fun w hw => ⟨h w hw, good_of_word (List.mem_filter.mp (h w hw)).2⟩
def Rc : Nat → String := fun k => match k with
  | 0 => RX0
  | 1 => RX1
  | 2 => RX2
  | 3 => RX3
  | 4 => RX4
  | 5 => RX5
  | 6 => RX6
  | 7 => RX7
  | 8 => RX8
  | 9 => RX9
  | _ => RX10
def Tc : Nat → u_T := fun k => match k with
  | 0 => TX0
  | 1 => TX1
  | 2 => TX2
  | 3 => TX3
  | 4 => TX4
  | 5 => TX5
  | 6 => TX6
  | 7 => TX7
  | 8 => TX8
  | 9 => TX9
  | _ => TX10
def Nc : Nat → Nat := fun k => match k with
  | 0 => 10
  | 1 => 2
  | 2 => 3
  | 3 => 4
  | 4 => 7
  | 5 => 2
  | 6 => 2
  | 7 => 9
  | 8 => 6
  | 9 => 11
  | _ => 28
def tyc : Nat → Nat → FieldType := fun k => match k with
  | 0 => tyX0
  | 1 => tyX1
  | 2 => tyX2
  | 3 => tyX3
  | 4 => tyX4
  | 5 => tyX5
  | 6 => tyX6
  | 7 => tyX7
  | 8 => tyX8
  | 9 => tyX9
  | _ => tyX10
set_option maxRecDepth 20000 in
theorem inc0 : ∀ w ∈ u_ws RX0 TX0 10, w ∈ AL := fun w h => List.mem_filter.mpr ⟨(goodIn_r (big := lw_tbl) (u_ws RX0 TX0 10) [284, 286, 288, 290, 292, 294, 296, 298, 300, 302] rfl (by decide +kernel) w h).1, List.all_eq_true.mp (show (u_ws RX0 TX0 10).all goodWord = true by decide +kernel) w h⟩
set_option maxRecDepth 20000 in
theorem inc1 : ∀ w ∈ u_ws RX1 TX1 2, w ∈ AL := fun w h => List.mem_filter.mpr ⟨(goodIn_r (big := lw_tbl) (u_ws RX1 TX1 2) [118, 120] rfl (by decide +kernel) w h).1, List.all_eq_true.mp (show (u_ws RX1 TX1 2).all goodWord = true by decide +kernel) w h⟩
set_option maxRecDepth 20000 in
theorem inc2 : ∀ w ∈ u_ws RX2 TX2 3, w ∈ AL := fun w h => List.mem_filter.mpr ⟨(goodIn_r (big := lw_tbl) (u_ws RX2 TX2 3) [344, 346, 348] rfl (by decide +kernel) w h).1, List.all_eq_true.mp (show (u_ws RX2 TX2 3).all goodWord = true by decide +kernel) w h⟩
set_option maxRecDepth 20000 in
theorem inc3 : ∀ w ∈ u_ws RX3 TX3 4, w ∈ AL := fun w h => List.mem_filter.mpr ⟨(goodIn_r (big := lw_tbl) (u_ws RX3 TX3 4) [215, 217, 219, 221] rfl (by decide +kernel) w h).1, List.all_eq_true.mp (show (u_ws RX3 TX3 4).all goodWord = true by decide +kernel) w h⟩
set_option maxRecDepth 20000 in
theorem inc4 : ∀ w ∈ u_ws RX4 TX4 7, w ∈ AL := fun w h => List.mem_filter.mpr ⟨(goodIn_r (big := lw_tbl) (u_ws RX4 TX4 7) [176, 178, 180, 182, 184, 186, 188] rfl (by decide +kernel) w h).1, List.all_eq_true.mp (show (u_ws RX4 TX4 7).all goodWord = true by decide +kernel) w h⟩
set_option maxRecDepth 20000 in
theorem inc5 : ∀ w ∈ u_ws RX5 TX5 2, w ∈ AL := fun w h => List.mem_filter.mpr ⟨(goodIn_r (big := lw_tbl) (u_ws RX5 TX5 2) [326, 328] rfl (by decide +kernel) w h).1, List.all_eq_true.mp (show (u_ws RX5 TX5 2).all goodWord = true by decide +kernel) w h⟩
set_option maxRecDepth 20000 in
theorem inc6 : ∀ w ∈ u_ws RX6 TX6 2, w ∈ AL := fun w h => List.mem_filter.mpr ⟨(goodIn_r (big := lw_tbl) (u_ws RX6 TX6 2) [313, 315] rfl (by decide +kernel) w h).1, List.all_eq_true.mp (show (u_ws RX6 TX6 2).all goodWord = true by decide +kernel) w h⟩
set_option maxRecDepth 20000 in
theorem inc7 : ∀ w ∈ u_ws RX7 TX7 9, w ∈ AL := fun w h => List.mem_filter.mpr ⟨(goodIn_r (big := lw_tbl) (u_ws RX7 TX7 9) [141, 143, 145, 147, 149, 151, 153, 155, 157] rfl (by decide +kernel) w h).1, List.all_eq_true.mp (show (u_ws RX7 TX7 9).all goodWord = true by decide +kernel) w h⟩
set_option maxRecDepth 20000 in
theorem inc8 : ∀ w ∈ u_ws RX8 TX8 6, w ∈ AL := fun w h => List.mem_filter.mpr ⟨(goodIn_r (big := lw_tbl) (u_ws RX8 TX8 6) [247, 249, 251, 253, 255, 257] rfl (by decide +kernel) w h).1, List.all_eq_true.mp (show (u_ws RX8 TX8 6).all goodWord = true by decide +kernel) w h⟩
set_option maxRecDepth 20000 in
theorem inc9 : ∀ w ∈ u_ws RX9 TX9 11, w ∈ AL := fun w h => List.mem_filter.mpr ⟨(goodIn_r (big := lw_tbl) (u_ws RX9 TX9 11) [563, 565, 567, 569, 571, 573, 575, 577, 579, 581, 583] rfl (by decide +kernel) w h).1, List.all_eq_true.mp (show (u_ws RX9 TX9 11).all goodWord = true by decide +kernel) w h⟩
set_option maxRecDepth 20000 in
theorem inc10 : ∀ w ∈ u_ws RX10 TX10 28, w ∈ AL := fun w h => List.mem_filter.mpr ⟨(goodIn_r (big := lw_tbl) (u_ws RX10 TX10 28) [1500, 1502, 1504, 1506, 1508, 1510, 1512, 1514, 1516, 1518, 1520, 1522, 1524, 1526, 1528, 1530, 1532, 1534, 1536, 1538, 1540, 1542, 1544, 1546, 1548, 1550, 1552, 1554] rfl (by decide +kernel) w h).1, List.all_eq_true.mp (show (u_ws RX10 TX10 28).all goodWord = true by decide +kernel) w h⟩
theorem inC : ∀ ci, ci < 11 → ∀ w ∈ u_ws (Rc ci) (Tc ci) (Nc ci), w ∈ AL
  | 0, _ => inc0
  | 1, _ => inc1
  | 2, _ => inc2
  | 3, _ => inc3
  | 4, _ => inc4
  | 5, _ => inc5
  | 6, _ => inc6
  | 7, _ => inc7
  | 8, _ => inc8
  | 9, _ => inc9
  | 10, _ => inc10
  | n + 11, h => absurd h (by omega)
theorem tyC : ∀ ci, ci < 11 → ∀ k, k < Nc ci → parseFieldDescriptor (Tc ci k).2.2.1 = some (tyc ci k)
  | 0, _ => tyX0_ok
  | 1, _ => tyX1_ok
  | 2, _ => tyX2_ok
  | 3, _ => tyX3_ok
  | 4, _ => tyX4_ok
  | 5, _ => tyX5_ok
  | 6, _ => tyX6_ok
  | 7, _ => tyX7_ok
  | 8, _ => tyX8_ok
  | 9, _ => tyX9_ok
  | 10, _ => tyX10_ok
  | n + 11, h => absurd h (by omega)
theorem nmC : ∀ ci, ci < 11 → ∀ a, a < Nc ci → ∀ b, b < Nc ci → a ≠ b → (Tc ci a).2.1 ≠ (Tc ci b).2.1
  | 0, _ => nmX0
  | 1, _ => nmX1
  | 2, _ => nmX2
  | 3, _ => nmX3
  | 4, _ => nmX4
  | 5, _ => nmX5
  | 6, _ => nmX6
  | 7, _ => nmX7
  | 8, _ => nmX8
  | 9, _ => nmX9
  | 10, _ => nmX10
  | n + 11, h => absurd h (by omega)
theorem clC : ∀ ci, ci < 11 → vwCl[ci]? = some (Rc ci, Tc ci, Nc ci)
  | 0, _ => rfl
  | 1, _ => rfl
  | 2, _ => rfl
  | 3, _ => rfl
  | 4, _ => rfl
  | 5, _ => rfl
  | 6, _ => rfl
  | 7, _ => rfl
  | 8, _ => rfl
  | 9, _ => rfl
  | 10, _ => rfl
  | n + 11, h => absurd h (by omega)
def lkF (own : String) (idx ci j : Nat) : Prop := Cond.fieldLink own idx (Tc ci j).1 (Tc ci j).2.1 (Tc ci j).2.2.1 ∈ AL
def lkV (own : String) (idx : Nat) (y : MethodName) : Prop := Cond.methodLink own idx y ∈ AL ∧ Cond.instanceMethod y ∈ AL ∧ Cond.selects y.cls y y ∈ AL ∧ Cond.initialized y.cls ∈ AL
def lkS (own : String) (idx : Nat) (y : MethodName) : Prop := Cond.methodLink own idx y ∈ AL ∧ Cond.static y ∈ AL ∧ Cond.initialized y.cls ∈ AL
def lkI (own : String) (idx : Nat) (y : MethodName) : Prop := Cond.methodLink own idx y ∈ AL ∧ Cond.instanceMethod y ∈ AL ∧ Cond.initialized y.cls ∈ AL
def nst : List Cond := [.methodLinkNest RX9 32 yX4_init "MusicBoxEditor", .methodLinkNest RX0 11 yX3_init "MusicBoxEditor", .methodLinkNest RX0 24 yX8_init "MusicBoxEditor", .methodLinkNest RX9 143 yX4_runPart "MusicBoxEditor", .methodLinkNest RX0 95 yX9_rangeFault "MusicBoxEditor", .methodLinkNest RX4 78 yX9_rangeFault "MusicBoxEditor"]
def lkN (own : String) (idx : Nat) (y : MethodName) (host : String) : Prop := Cond.methodLinkNest own idx y host ∈ nst ∧ Cond.instanceMethod y ∈ AL ∧ Cond.initialized y.cls ∈ AL
def lkM (own : String) (idx : Nat) (y : MethodName) (host : String) : Prop := Cond.methodLinkNest own idx y host ∈ nst ∧ Cond.static y ∈ AL ∧ Cond.initialized y.cls ∈ AL
theorem ml_L_134 : lkI RL 134 yX9_init := ⟨al_mem 99 (by decide +kernel) (by decide +kernel), al_mem 100 (by decide +kernel) (by decide +kernel), al_mem 69 (by decide +kernel) (by decide +kernel)⟩
theorem cd_X9_init : Cond.code yX9_init cX9_init 2 none ∈ AL := al_mem 101 (by decide +kernel) (by decide +kernel)
theorem ml_X9_11 : lkI RX9 11 yX1_init := ⟨al_mem 107 (by decide +kernel) (by decide +kernel), al_mem 108 (by decide +kernel) (by decide +kernel), al_mem 70 (by decide +kernel) (by decide +kernel)⟩
theorem cd_X1_init : Cond.code yX1_init cX1_init 2 none ∈ AL := al_mem 109 (by decide +kernel) (by decide +kernel)
theorem ml_X1_9 : lkS RX1 9 yJ9_max_7cf53 := ⟨al_mem 111 (by decide +kernel) (by decide +kernel), al_mem 112 (by decide +kernel) (by decide +kernel), al_mem 71 (by decide +kernel) (by decide +kernel)⟩
theorem cd_J9_max_7cf53 : Cond.code yJ9_max_7cf53 cJ9_max_7cf53 2 (some .int) ∈ AL := al_mem 113 (by decide +kernel) (by decide +kernel)
theorem fl_X1_15 : lkF RX1 15 1 0 := al_mem 114 (by decide +kernel) (by decide +kernel)
theorem fl_X1_21 : lkF RX1 21 1 1 := al_mem 115 (by decide +kernel) (by decide +kernel)
theorem fl_X7_41 : lkF RX7 41 1 1 := al_mem 116 (by decide +kernel) (by decide +kernel)
theorem fl_X9_102 : lkF RX9 102 1 1 := al_mem 117 (by decide +kernel) (by decide +kernel)
theorem ml_X9_23 : lkI RX9 23 yX7_init := ⟨al_mem 126 (by decide +kernel) (by decide +kernel), al_mem 127 (by decide +kernel) (by decide +kernel), al_mem 72 (by decide +kernel) (by decide +kernel)⟩
theorem cd_X7_init : Cond.code yX7_init cX7_init 2 none ∈ AL := al_mem 128 (by decide +kernel) (by decide +kernel)
theorem fl_X7_24 : lkF RX7 24 7 0 := al_mem 130 (by decide +kernel) (by decide +kernel)
theorem fl_X7_9 : lkF RX7 9 7 1 := al_mem 131 (by decide +kernel) (by decide +kernel)
theorem fl_X7_15 : lkF RX7 15 7 2 := al_mem 132 (by decide +kernel) (by decide +kernel)
theorem fl_X7_18 : lkF RX7 18 7 3 := al_mem 133 (by decide +kernel) (by decide +kernel)
theorem fl_X7_21 : lkF RX7 21 7 4 := al_mem 134 (by decide +kernel) (by decide +kernel)
theorem fl_X7_35 : lkF RX7 35 7 5 := al_mem 135 (by decide +kernel) (by decide +kernel)
theorem fl_X7_38 : lkF RX7 38 7 6 := al_mem 136 (by decide +kernel) (by decide +kernel)
theorem fl_X7_32 : lkF RX7 32 7 7 := al_mem 137 (by decide +kernel) (by decide +kernel)
theorem fl_X9_120 : lkF RX9 120 7 7 := al_mem 138 (by decide +kernel) (by decide +kernel)
theorem fl_X7_28 : lkF RX7 28 7 8 := al_mem 139 (by decide +kernel) (by decide +kernel)
theorem fl_X9_150 : lkF RX9 150 7 8 := al_mem 140 (by decide +kernel) (by decide +kernel)
theorem ml_X9_32 : lkN RX9 32 yX4_init "MusicBoxEditor" := ⟨by decide +kernel, al_mem 163 (by decide +kernel) (by decide +kernel), al_mem 73 (by decide +kernel) (by decide +kernel)⟩
theorem cd_X4_init : Cond.code yX4_init cX4_init 1 none ∈ AL := al_mem 164 (by decide +kernel) (by decide +kernel)
theorem fl_X4_11 : lkF RX4 11 4 0 := al_mem 166 (by decide +kernel) (by decide +kernel)
theorem fl_X4_15 : lkF RX4 15 4 1 := al_mem 167 (by decide +kernel) (by decide +kernel)
theorem fl_X4_18 : lkF RX4 18 4 2 := al_mem 168 (by decide +kernel) (by decide +kernel)
theorem fl_X4_21 : lkF RX4 21 4 3 := al_mem 169 (by decide +kernel) (by decide +kernel)
theorem fl_X4_24 : lkF RX4 24 4 4 := al_mem 170 (by decide +kernel) (by decide +kernel)
theorem fl_X5_47 : lkF RX5 47 4 4 := al_mem 171 (by decide +kernel) (by decide +kernel)
theorem fl_X9_140 : lkF RX9 140 4 4 := al_mem 172 (by decide +kernel) (by decide +kernel)
theorem fl_X4_28 : lkF RX4 28 4 5 := al_mem 173 (by decide +kernel) (by decide +kernel)
theorem fl_X9_147 : lkF RX9 147 4 5 := al_mem 174 (by decide +kernel) (by decide +kernel)
theorem fl_X4_31 : lkF RX4 31 4 6 := al_mem 175 (by decide +kernel) (by decide +kernel)
theorem ml_X9_39 : lkI RX9 39 yX0_init := ⟨al_mem 193 (by decide +kernel) (by decide +kernel), al_mem 194 (by decide +kernel) (by decide +kernel), al_mem 74 (by decide +kernel) (by decide +kernel)⟩
theorem cd_X0_init : Cond.code yX0_init cX0_init 2 none ∈ AL := al_mem 195 (by decide +kernel) (by decide +kernel)
theorem ml_X0_11 : lkN RX0 11 yX3_init "MusicBoxEditor" := ⟨by decide +kernel, al_mem 200 (by decide +kernel) (by decide +kernel), al_mem 75 (by decide +kernel) (by decide +kernel)⟩
theorem cd_X3_init : Cond.code yX3_init cX3_init 1 none ∈ AL := al_mem 201 (by decide +kernel) (by decide +kernel)
theorem fl_X3_9 : lkF RX3 9 3 0 := al_mem 203 (by decide +kernel) (by decide +kernel)
theorem fl_X3_15 : lkF RX3 15 3 1 := al_mem 204 (by decide +kernel) (by decide +kernel)
theorem fl_X6_82 : lkF RX6 82 3 1 := al_mem 205 (by decide +kernel) (by decide +kernel)
theorem fl_X0_64 : lkF RX0 64 3 1 := al_mem 206 (by decide +kernel) (by decide +kernel)
theorem fl_X9_157 : lkF RX9 157 3 1 := al_mem 207 (by decide +kernel) (by decide +kernel)
theorem fl_X3_19 : lkF RX3 19 3 2 := al_mem 208 (by decide +kernel) (by decide +kernel)
theorem fl_X9_165 : lkF RX9 165 3 2 := al_mem 209 (by decide +kernel) (by decide +kernel)
theorem fl_X0_129 : lkF RX0 129 3 2 := al_mem 210 (by decide +kernel) (by decide +kernel)
theorem fl_X3_22 : lkF RX3 22 3 3 := al_mem 211 (by decide +kernel) (by decide +kernel)
theorem fl_X4_126 : lkF RX4 126 3 3 := al_mem 212 (by decide +kernel) (by decide +kernel)
theorem fl_X9_162 : lkF RX9 162 3 3 := al_mem 213 (by decide +kernel) (by decide +kernel)
theorem fl_X0_126 : lkF RX0 126 3 3 := al_mem 214 (by decide +kernel) (by decide +kernel)
theorem ml_X0_24 : lkN RX0 24 yX8_init "MusicBoxEditor" := ⟨by decide +kernel, al_mem 229 (by decide +kernel) (by decide +kernel), al_mem 76 (by decide +kernel) (by decide +kernel)⟩
theorem cd_X8_init : Cond.code yX8_init cX8_init 1 none ∈ AL := al_mem 230 (by decide +kernel) (by decide +kernel)
theorem fl_X8_9 : lkF RX8 9 8 0 := al_mem 232 (by decide +kernel) (by decide +kernel)
theorem fl_X8_24 : lkF RX8 24 8 1 := al_mem 233 (by decide +kernel) (by decide +kernel)
theorem fl_X0_98 : lkF RX0 98 8 1 := al_mem 234 (by decide +kernel) (by decide +kernel)
theorem fl_X9_226 : lkF RX9 226 8 1 := al_mem 235 (by decide +kernel) (by decide +kernel)
theorem fl_X8_15 : lkF RX8 15 8 2 := al_mem 236 (by decide +kernel) (by decide +kernel)
theorem fl_X4_107 : lkF RX4 107 8 2 := al_mem 237 (by decide +kernel) (by decide +kernel)
theorem fl_X9_229 : lkF RX9 229 8 2 := al_mem 238 (by decide +kernel) (by decide +kernel)
theorem fl_X0_138 : lkF RX0 138 8 2 := al_mem 239 (by decide +kernel) (by decide +kernel)
theorem fl_X8_18 : lkF RX8 18 8 3 := al_mem 240 (by decide +kernel) (by decide +kernel)
theorem fl_X0_157 : lkF RX0 157 8 3 := al_mem 241 (by decide +kernel) (by decide +kernel)
theorem fl_X8_27 : lkF RX8 27 8 4 := al_mem 242 (by decide +kernel) (by decide +kernel)
theorem fl_X0_105 : lkF RX0 105 8 4 := al_mem 243 (by decide +kernel) (by decide +kernel)
theorem fl_X9_232 : lkF RX9 232 8 4 := al_mem 244 (by decide +kernel) (by decide +kernel)
theorem fl_X8_30 : lkF RX8 30 8 5 := al_mem 245 (by decide +kernel) (by decide +kernel)
theorem fl_X9_235 : lkF RX9 235 8 5 := al_mem 246 (by decide +kernel) (by decide +kernel)
theorem fl_X0_12 : lkF RX0 12 0 0 := al_mem 260 (by decide +kernel) (by decide +kernel)
theorem fl_X6_78 : lkF RX6 78 0 0 := al_mem 261 (by decide +kernel) (by decide +kernel)
theorem fl_X4_90 : lkF RX4 90 0 0 := al_mem 262 (by decide +kernel) (by decide +kernel)
theorem fl_X9_153 : lkF RX9 153 0 0 := al_mem 263 (by decide +kernel) (by decide +kernel)
theorem fl_X0_20 : lkF RX0 20 0 1 := al_mem 264 (by decide +kernel) (by decide +kernel)
theorem fl_X4_103 : lkF RX4 103 0 1 := al_mem 265 (by decide +kernel) (by decide +kernel)
theorem fl_X9_217 : lkF RX9 217 0 1 := al_mem 266 (by decide +kernel) (by decide +kernel)
theorem fl_X0_29 : lkF RX0 29 0 2 := al_mem 267 (by decide +kernel) (by decide +kernel)
theorem fl_X6_67 : lkF RX6 67 0 2 := al_mem 268 (by decide +kernel) (by decide +kernel)
theorem fl_X9_211 : lkF RX9 211 0 2 := al_mem 269 (by decide +kernel) (by decide +kernel)
theorem fl_X0_33 : lkF RX0 33 0 3 := al_mem 270 (by decide +kernel) (by decide +kernel)
theorem fl_X4_123 : lkF RX4 123 0 3 := al_mem 271 (by decide +kernel) (by decide +kernel)
theorem fl_X9_244 : lkF RX9 244 0 3 := al_mem 272 (by decide +kernel) (by decide +kernel)
theorem fl_X0_36 : lkF RX0 36 0 4 := al_mem 273 (by decide +kernel) (by decide +kernel)
theorem fl_X4_120 : lkF RX4 120 0 4 := al_mem 274 (by decide +kernel) (by decide +kernel)
theorem fl_X9_247 : lkF RX9 247 0 4 := al_mem 275 (by decide +kernel) (by decide +kernel)
theorem fl_X0_39 : lkF RX0 39 0 5 := al_mem 276 (by decide +kernel) (by decide +kernel)
theorem fl_X9_269 : lkF RX9 269 0 5 := al_mem 277 (by decide +kernel) (by decide +kernel)
theorem fl_X0_42 : lkF RX0 42 0 6 := al_mem 278 (by decide +kernel) (by decide +kernel)
theorem fl_X9_272 : lkF RX9 272 0 6 := al_mem 279 (by decide +kernel) (by decide +kernel)
theorem fl_X0_45 : lkF RX0 45 0 7 := al_mem 280 (by decide +kernel) (by decide +kernel)
theorem fl_X9_275 : lkF RX9 275 0 7 := al_mem 281 (by decide +kernel) (by decide +kernel)
theorem fl_X0_48 : lkF RX0 48 0 8 := al_mem 282 (by decide +kernel) (by decide +kernel)
theorem fl_X0_51 : lkF RX0 51 0 9 := al_mem 283 (by decide +kernel) (by decide +kernel)
theorem ml_X9_49 : lkI RX9 49 yX6_init := ⟨al_mem 307 (by decide +kernel) (by decide +kernel), al_mem 308 (by decide +kernel) (by decide +kernel), al_mem 77 (by decide +kernel) (by decide +kernel)⟩
theorem cd_X6_init : Cond.code yX6_init cX6_init 3 none ∈ AL := al_mem 309 (by decide +kernel) (by decide +kernel)
theorem fl_X6_9 : lkF RX6 9 6 0 := al_mem 311 (by decide +kernel) (by decide +kernel)
theorem fl_X6_15 : lkF RX6 15 6 1 := al_mem 312 (by decide +kernel) (by decide +kernel)
theorem ml_X9_58 : lkI RX9 58 yX5_init := ⟨al_mem 320 (by decide +kernel) (by decide +kernel), al_mem 321 (by decide +kernel) (by decide +kernel), al_mem 78 (by decide +kernel) (by decide +kernel)⟩
theorem cd_X5_init : Cond.code yX5_init cX5_init 3 none ∈ AL := al_mem 322 (by decide +kernel) (by decide +kernel)
theorem fl_X5_9 : lkF RX5 9 5 0 := al_mem 324 (by decide +kernel) (by decide +kernel)
theorem fl_X5_15 : lkF RX5 15 5 1 := al_mem 325 (by decide +kernel) (by decide +kernel)
theorem ml_X9_67 : lkI RX9 67 yX2_init := ⟨al_mem 333 (by decide +kernel) (by decide +kernel), al_mem 334 (by decide +kernel) (by decide +kernel), al_mem 79 (by decide +kernel) (by decide +kernel)⟩
theorem cd_X2_init : Cond.code yX2_init cX2_init 2 none ∈ AL := al_mem 335 (by decide +kernel) (by decide +kernel)
theorem ml_X2_15 : lkI RX2 15 yX0_init := ⟨al_mem 339 (by decide +kernel) (by decide +kernel), al_mem 194 (by decide +kernel) (by decide +kernel), al_mem 74 (by decide +kernel) (by decide +kernel)⟩
theorem fl_X2_11 : lkF RX2 11 2 0 := al_mem 340 (by decide +kernel) (by decide +kernel)
theorem fl_X2_16 : lkF RX2 16 2 1 := al_mem 341 (by decide +kernel) (by decide +kernel)
theorem fl_X9_352 : lkF RX9 352 2 1 := al_mem 342 (by decide +kernel) (by decide +kernel)
theorem fl_X2_20 : lkF RX2 20 2 2 := al_mem 343 (by decide +kernel) (by decide +kernel)
theorem ml_X9_82 : lkV RX9 82 yJ0_length_8abf5 := ⟨al_mem 352 (by decide +kernel) (by decide +kernel), al_mem 353 (by decide +kernel) (by decide +kernel), al_mem 354 (by decide +kernel) (by decide +kernel), al_mem 80 (by decide +kernel) (by decide +kernel)⟩
theorem cd_J0_length_8abf5 : Cond.code yJ0_length_8abf5 cJ0_length_8abf5 1 (some .int) ∈ AL := al_mem 355 (by decide +kernel) (by decide +kernel)
theorem ml_J0_335 : lkV RJ0 335 yJ0_coder_7d493 := ⟨al_mem 356 (by decide +kernel) (by decide +kernel), al_mem 357 (by decide +kernel) (by decide +kernel), al_mem 358 (by decide +kernel) (by decide +kernel), al_mem 80 (by decide +kernel) (by decide +kernel)⟩
theorem cd_J0_coder_7d493 : Cond.code yJ0_coder_7d493 cJ0_coder_7d493 1 (some .byte) ∈ AL := al_mem 359 (by decide +kernel) (by decide +kernel)
theorem ml_X9_88 : lkV RX9 88 yJ0_charAt_5068e := ⟨al_mem 362 (by decide +kernel) (by decide +kernel), al_mem 363 (by decide +kernel) (by decide +kernel), al_mem 364 (by decide +kernel) (by decide +kernel), al_mem 80 (by decide +kernel) (by decide +kernel)⟩
theorem cd_J0_charAt_5068e : Cond.code yJ0_charAt_5068e cJ0_charAt_5068e 2 (some .char) ∈ AL := al_mem 365 (by decide +kernel) (by decide +kernel)
theorem ml_J0_492 : lkV RJ0 492 yJ0_isLatin1_aae02 := ⟨al_mem 366 (by decide +kernel) (by decide +kernel), al_mem 367 (by decide +kernel) (by decide +kernel), al_mem 368 (by decide +kernel) (by decide +kernel), al_mem 80 (by decide +kernel) (by decide +kernel)⟩
theorem cd_J0_isLatin1_aae02 : Cond.code yJ0_isLatin1_aae02 cJ0_isLatin1_aae02 1 (some .boolean) ∈ AL := al_mem 369 (by decide +kernel) (by decide +kernel)
theorem ml_J0_495 : lkS RJ0 495 yJ1_charAt_3b067 := ⟨al_mem 370 (by decide +kernel) (by decide +kernel), al_mem 371 (by decide +kernel) (by decide +kernel), al_mem 81 (by decide +kernel) (by decide +kernel)⟩
theorem cd_J1_charAt_3b067 : Cond.code yJ1_charAt_3b067 cJ1_charAt_3b067 2 (some .char) ∈ AL := al_mem 372 (by decide +kernel) (by decide +kernel)
theorem ml_J1_9 : lkS RJ1 9 yJ0_checkIndex_df160 := ⟨al_mem 373 (by decide +kernel) (by decide +kernel), al_mem 374 (by decide +kernel) (by decide +kernel), al_mem 80 (by decide +kernel) (by decide +kernel)⟩
theorem cd_J0_checkIndex_df160 : Cond.code yJ0_checkIndex_df160 cJ0_checkIndex_df160 2 none ∈ AL := al_mem 375 (by decide +kernel) (by decide +kernel)
theorem ml_J0_1059 : lkS RJ0 1059 yJ3_checkIndex_8e157 := ⟨al_mem 378 (by decide +kernel) (by decide +kernel), al_mem 379 (by decide +kernel) (by decide +kernel), al_mem 82 (by decide +kernel) (by decide +kernel)⟩
theorem cd_J3_checkIndex_8e157 : Cond.code yJ3_checkIndex_8e157 cJ3_checkIndex_8e157 3 (some .int) ∈ AL := al_mem 380 (by decide +kernel) (by decide +kernel)
theorem ml_J0_498 : lkS RJ0 498 yJ2_charAt_3b067 := ⟨al_mem 381 (by decide +kernel) (by decide +kernel), al_mem 382 (by decide +kernel) (by decide +kernel), al_mem 83 (by decide +kernel) (by decide +kernel)⟩
theorem cd_J2_charAt_3b067 : Cond.code yJ2_charAt_3b067 cJ2_charAt_3b067 2 (some .char) ∈ AL := al_mem 383 (by decide +kernel) (by decide +kernel)
theorem ml_J2_67 : lkS RJ2 67 yJ2_checkIndex_2214a := ⟨al_mem 384 (by decide +kernel) (by decide +kernel), al_mem 385 (by decide +kernel) (by decide +kernel), al_mem 83 (by decide +kernel) (by decide +kernel)⟩
theorem cd_J2_checkIndex_2214a : Cond.code yJ2_checkIndex_2214a cJ2_checkIndex_2214a 2 none ∈ AL := al_mem 386 (by decide +kernel) (by decide +kernel)
theorem ml_J2_48 : lkS RJ2 48 yJ2_length_9d52b := ⟨al_mem 387 (by decide +kernel) (by decide +kernel), al_mem 388 (by decide +kernel) (by decide +kernel), al_mem 83 (by decide +kernel) (by decide +kernel)⟩
theorem cd_J2_length_9d52b : Cond.code yJ2_length_9d52b cJ2_length_9d52b 1 (some .int) ∈ AL := al_mem 389 (by decide +kernel) (by decide +kernel)
theorem ml_J2_414 : lkS RJ2 414 yJ0_checkIndex_df160 := ⟨al_mem 390 (by decide +kernel) (by decide +kernel), al_mem 374 (by decide +kernel) (by decide +kernel), al_mem 80 (by decide +kernel) (by decide +kernel)⟩
theorem ml_J2_71 : lkS RJ2 71 yJ2_getChar_3b067 := ⟨al_mem 391 (by decide +kernel) (by decide +kernel), al_mem 392 (by decide +kernel) (by decide +kernel), al_mem 83 (by decide +kernel) (by decide +kernel)⟩
theorem cd_J2_getChar_3b067 : Cond.code yJ2_getChar_3b067 cJ2_getChar_3b067 2 (some .char) ∈ AL := al_mem 393 (by decide +kernel) (by decide +kernel)
theorem ml_X9_92 : lkV RX9 92 yX1_put := ⟨al_mem 400 (by decide +kernel) (by decide +kernel), al_mem 401 (by decide +kernel) (by decide +kernel), al_mem 402 (by decide +kernel) (by decide +kernel), al_mem 70 (by decide +kernel) (by decide +kernel)⟩
theorem cd_X1_put : Cond.code yX1_put cX1_put 2 none ∈ AL := al_mem 403 (by decide +kernel) (by decide +kernel)
theorem ml_X9_95 : lkV RX9 95 yX9_takeSetup := ⟨al_mem 404 (by decide +kernel) (by decide +kernel), al_mem 406 (by decide +kernel) (by decide +kernel), al_mem 0 (by decide +kernel) (by decide +kernel), al_mem 69 (by decide +kernel) (by decide +kernel)⟩
theorem cd_X9_takeSetup : Cond.code yX9_takeSetup cX9_takeSetup 3 none ∈ AL := al_mem 407 (by decide +kernel) (by decide +kernel)
theorem ml_X9_123 : lkV RX9 123 yX6_readSetup := ⟨al_mem 408 (by decide +kernel) (by decide +kernel), al_mem 409 (by decide +kernel) (by decide +kernel), al_mem 410 (by decide +kernel) (by decide +kernel), al_mem 77 (by decide +kernel) (by decide +kernel)⟩
theorem cd_X6_readSetup : Cond.code yX6_readSetup cX6_readSetup 2 (some .boolean) ∈ AL := al_mem 411 (by decide +kernel) (by decide +kernel)
theorem ml_X6_19 : lkV RX6 19 yX7_scan := ⟨al_mem 412 (by decide +kernel) (by decide +kernel), al_mem 413 (by decide +kernel) (by decide +kernel), al_mem 414 (by decide +kernel) (by decide +kernel), al_mem 72 (by decide +kernel) (by decide +kernel)⟩
theorem cd_X7_scan : Cond.code yX7_scan cX7_scan 4 none ∈ AL := al_mem 415 (by decide +kernel) (by decide +kernel)
theorem ml_X7_46 : lkV RX7 46 yX1_at := ⟨al_mem 416 (by decide +kernel) (by decide +kernel), al_mem 417 (by decide +kernel) (by decide +kernel), al_mem 418 (by decide +kernel) (by decide +kernel), al_mem 70 (by decide +kernel) (by decide +kernel)⟩
theorem cd_X1_at : Cond.code yX1_at cX1_at 2 (some .int) ∈ AL := al_mem 419 (by decide +kernel) (by decide +kernel)
theorem ml_X7_50 : lkS RX7 50 yX7_kindOf := ⟨al_mem 420 (by decide +kernel) (by decide +kernel), al_mem 421 (by decide +kernel) (by decide +kernel), al_mem 72 (by decide +kernel) (by decide +kernel)⟩
theorem cd_X7_kindOf : Cond.code yX7_kindOf cX7_kindOf 1 (some .int) ∈ AL := al_mem 422 (by decide +kernel) (by decide +kernel)
theorem ml_X7_53 : lkV RX7 53 yX7_putToken := ⟨al_mem 423 (by decide +kernel) (by decide +kernel), al_mem 424 (by decide +kernel) (by decide +kernel), al_mem 425 (by decide +kernel) (by decide +kernel), al_mem 72 (by decide +kernel) (by decide +kernel)⟩
theorem cd_X7_putToken : Cond.code yX7_putToken cX7_putToken 3 none ∈ AL := al_mem 426 (by decide +kernel) (by decide +kernel)
theorem ml_X7_57 : lkV RX7 57 yX7_lengthenToken := ⟨al_mem 427 (by decide +kernel) (by decide +kernel), al_mem 428 (by decide +kernel) (by decide +kernel), al_mem 429 (by decide +kernel) (by decide +kernel), al_mem 72 (by decide +kernel) (by decide +kernel)⟩
theorem cd_X7_lengthenToken : Cond.code yX7_lengthenToken cX7_lengthenToken 3 none ∈ AL := al_mem 430 (by decide +kernel) (by decide +kernel)
theorem ml_X7_62 : lkS RX7 62 yJ9_min_7cf53 := ⟨al_mem 432 (by decide +kernel) (by decide +kernel), al_mem 433 (by decide +kernel) (by decide +kernel), al_mem 71 (by decide +kernel) (by decide +kernel)⟩
theorem cd_J9_min_7cf53 : Cond.code yJ9_min_7cf53 cJ9_min_7cf53 2 (some .int) ∈ AL := al_mem 434 (by decide +kernel) (by decide +kernel)
theorem ml_X6_24 : lkV RX6 24 yX6_readHead := ⟨al_mem 435 (by decide +kernel) (by decide +kernel), al_mem 436 (by decide +kernel) (by decide +kernel), al_mem 437 (by decide +kernel) (by decide +kernel), al_mem 77 (by decide +kernel) (by decide +kernel)⟩
theorem cd_X6_readHead : Cond.code yX6_readHead cX6_readHead 4 (some .boolean) ∈ AL := al_mem 438 (by decide +kernel) (by decide +kernel)
theorem ml_X6_50 : lkV RX6 50 yX7_takeWord := ⟨al_mem 440 (by decide +kernel) (by decide +kernel), al_mem 441 (by decide +kernel) (by decide +kernel), al_mem 442 (by decide +kernel) (by decide +kernel), al_mem 72 (by decide +kernel) (by decide +kernel)⟩
theorem cd_X7_takeWord : Cond.code yX7_takeWord cX7_takeWord 2 (some .boolean) ∈ AL := al_mem 443 (by decide +kernel) (by decide +kernel)
theorem ml_X7_77 : lkV RX7 77 yX7_atWord := ⟨al_mem 444 (by decide +kernel) (by decide +kernel), al_mem 445 (by decide +kernel) (by decide +kernel), al_mem 446 (by decide +kernel) (by decide +kernel), al_mem 72 (by decide +kernel) (by decide +kernel)⟩
theorem cd_X7_atWord : Cond.code yX7_atWord cX7_atWord 4 (some .boolean) ∈ AL := al_mem 447 (by decide +kernel) (by decide +kernel)
theorem ml_X7_68 : lkV RX7 68 yJ0_length_8abf5 := ⟨al_mem 448 (by decide +kernel) (by decide +kernel), al_mem 353 (by decide +kernel) (by decide +kernel), al_mem 354 (by decide +kernel) (by decide +kernel), al_mem 80 (by decide +kernel) (by decide +kernel)⟩
theorem ml_X7_73 : lkV RX7 73 yJ0_charAt_5068e := ⟨al_mem 449 (by decide +kernel) (by decide +kernel), al_mem 363 (by decide +kernel) (by decide +kernel), al_mem 364 (by decide +kernel) (by decide +kernel), al_mem 80 (by decide +kernel) (by decide +kernel)⟩
theorem ml_X7_81 : lkV RX7 81 yX7_fail := ⟨al_mem 450 (by decide +kernel) (by decide +kernel), al_mem 451 (by decide +kernel) (by decide +kernel), al_mem 452 (by decide +kernel) (by decide +kernel), al_mem 72 (by decide +kernel) (by decide +kernel)⟩
theorem cd_X7_fail : Cond.code yX7_fail cX7_fail 2 (some .boolean) ∈ AL := al_mem 453 (by decide +kernel) (by decide +kernel)
theorem ml_X7_85 : lkV RX7 85 yX7_advance := ⟨al_mem 454 (by decide +kernel) (by decide +kernel), al_mem 455 (by decide +kernel) (by decide +kernel), al_mem 456 (by decide +kernel) (by decide +kernel), al_mem 72 (by decide +kernel) (by decide +kernel)⟩
theorem cd_X7_advance : Cond.code yX7_advance cX7_advance 1 none ∈ AL := al_mem 457 (by decide +kernel) (by decide +kernel)
theorem ml_X6_53 : lkV RX6 53 yX7_takeNumber := ⟨al_mem 458 (by decide +kernel) (by decide +kernel), al_mem 459 (by decide +kernel) (by decide +kernel), al_mem 460 (by decide +kernel) (by decide +kernel), al_mem 72 (by decide +kernel) (by decide +kernel)⟩
theorem cd_X7_takeNumber : Cond.code yX7_takeNumber cX7_takeNumber 4 (some .int) ∈ AL := al_mem 461 (by decide +kernel) (by decide +kernel)
theorem ml_X6_57 : lkV RX6 57 yX0_begin := ⟨al_mem 462 (by decide +kernel) (by decide +kernel), al_mem 463 (by decide +kernel) (by decide +kernel), al_mem 464 (by decide +kernel) (by decide +kernel), al_mem 74 (by decide +kernel) (by decide +kernel)⟩
theorem cd_X0_begin : Cond.code yX0_begin cX0_begin 4 none ∈ AL := al_mem 465 (by decide +kernel) (by decide +kernel)
theorem ml_X0_25 : lkV RX0 25 yX3_begin := ⟨al_mem 466 (by decide +kernel) (by decide +kernel), al_mem 467 (by decide +kernel) (by decide +kernel), al_mem 468 (by decide +kernel) (by decide +kernel), al_mem 75 (by decide +kernel) (by decide +kernel)⟩
theorem cd_X3_begin : Cond.code yX3_begin cX3_begin 2 none ∈ AL := al_mem 469 (by decide +kernel) (by decide +kernel)
theorem ml_X3_25 : lkS RX3 25 yJ7_fill_d0a16 := ⟨al_mem 470 (by decide +kernel) (by decide +kernel), al_mem 471 (by decide +kernel) (by decide +kernel), al_mem 84 (by decide +kernel) (by decide +kernel)⟩
theorem cd_J7_fill_d0a16 : Cond.code yJ7_fill_d0a16 cJ7_fill_d0a16 5 none ∈ AL := al_mem 472 (by decide +kernel) (by decide +kernel)
theorem ml_X6_63 : lkV RX6 63 yX7_takeSign := ⟨al_mem 473 (by decide +kernel) (by decide +kernel), al_mem 474 (by decide +kernel) (by decide +kernel), al_mem 475 (by decide +kernel) (by decide +kernel), al_mem 72 (by decide +kernel) (by decide +kernel)⟩
theorem cd_X7_takeSign : Cond.code yX7_takeSign cX7_takeSign 2 (some .boolean) ∈ AL := al_mem 476 (by decide +kernel) (by decide +kernel)
theorem ml_X7_88 : lkV RX7 88 yX7_atSign := ⟨al_mem 477 (by decide +kernel) (by decide +kernel), al_mem 478 (by decide +kernel) (by decide +kernel), al_mem 479 (by decide +kernel) (by decide +kernel), al_mem 72 (by decide +kernel) (by decide +kernel)⟩
theorem cd_X7_atSign : Cond.code yX7_atSign cX7_atSign 2 (some .boolean) ∈ AL := al_mem 480 (by decide +kernel) (by decide +kernel)
theorem ml_X6_28 : lkV RX6 28 yX6_readTooth := ⟨al_mem 481 (by decide +kernel) (by decide +kernel), al_mem 482 (by decide +kernel) (by decide +kernel), al_mem 483 (by decide +kernel) (by decide +kernel), al_mem 77 (by decide +kernel) (by decide +kernel)⟩
theorem cd_X6_readTooth : Cond.code yX6_readTooth cX6_readTooth 4 (some .boolean) ∈ AL := al_mem 484 (by decide +kernel) (by decide +kernel)
theorem ml_X6_33 : lkV RX6 33 yX7_atWord := ⟨al_mem 486 (by decide +kernel) (by decide +kernel), al_mem 445 (by decide +kernel) (by decide +kernel), al_mem 446 (by decide +kernel) (by decide +kernel), al_mem 72 (by decide +kernel) (by decide +kernel)⟩
theorem ml_X6_71 : lkV RX6 71 yX7_fail := ⟨al_mem 487 (by decide +kernel) (by decide +kernel), al_mem 451 (by decide +kernel) (by decide +kernel), al_mem 452 (by decide +kernel) (by decide +kernel), al_mem 72 (by decide +kernel) (by decide +kernel)⟩
theorem ml_X6_75 : lkV RX6 75 yX0_putTooth := ⟨al_mem 488 (by decide +kernel) (by decide +kernel), al_mem 489 (by decide +kernel) (by decide +kernel), al_mem 490 (by decide +kernel) (by decide +kernel), al_mem 74 (by decide +kernel) (by decide +kernel)⟩
theorem cd_X0_putTooth : Cond.code yX0_putTooth cX0_putTooth 4 none ∈ AL := al_mem 491 (by decide +kernel) (by decide +kernel)
theorem ml_X0_54 : lkV RX0 54 yX8_begin := ⟨al_mem 492 (by decide +kernel) (by decide +kernel), al_mem 493 (by decide +kernel) (by decide +kernel), al_mem 494 (by decide +kernel) (by decide +kernel), al_mem 76 (by decide +kernel) (by decide +kernel)⟩
theorem cd_X8_begin : Cond.code yX8_begin cX8_begin 4 none ∈ AL := al_mem 495 (by decide +kernel) (by decide +kernel)
theorem ml_X8_21 : lkV RX8 21 yX8_renew := ⟨al_mem 496 (by decide +kernel) (by decide +kernel), al_mem 497 (by decide +kernel) (by decide +kernel), al_mem 498 (by decide +kernel) (by decide +kernel), al_mem 76 (by decide +kernel) (by decide +kernel)⟩
theorem cd_X8_renew : Cond.code yX8_renew cX8_renew 1 none ∈ AL := al_mem 499 (by decide +kernel) (by decide +kernel)
theorem ml_X6_39 : lkV RX6 39 yX7_advance := ⟨al_mem 501 (by decide +kernel) (by decide +kernel), al_mem 455 (by decide +kernel) (by decide +kernel), al_mem 456 (by decide +kernel) (by decide +kernel), al_mem 72 (by decide +kernel) (by decide +kernel)⟩
theorem ml_X6_42 : lkV RX6 42 yX6_readPlace := ⟨al_mem 502 (by decide +kernel) (by decide +kernel), al_mem 503 (by decide +kernel) (by decide +kernel), al_mem 504 (by decide +kernel) (by decide +kernel), al_mem 77 (by decide +kernel) (by decide +kernel)⟩
theorem cd_X6_readPlace : Cond.code yX6_readPlace cX6_readPlace 4 (some .boolean) ∈ AL := al_mem 505 (by decide +kernel) (by decide +kernel)
theorem ml_X6_87 : lkV RX6 87 yX3_hasPin := ⟨al_mem 506 (by decide +kernel) (by decide +kernel), al_mem 507 (by decide +kernel) (by decide +kernel), al_mem 508 (by decide +kernel) (by decide +kernel), al_mem 75 (by decide +kernel) (by decide +kernel)⟩
theorem cd_X3_hasPin : Cond.code yX3_hasPin cX3_hasPin 4 (some .boolean) ∈ AL := al_mem 509 (by decide +kernel) (by decide +kernel)
theorem ml_X6_91 : lkV RX6 91 yX7_failTaken := ⟨al_mem 510 (by decide +kernel) (by decide +kernel), al_mem 511 (by decide +kernel) (by decide +kernel), al_mem 512 (by decide +kernel) (by decide +kernel), al_mem 72 (by decide +kernel) (by decide +kernel)⟩
theorem cd_X7_failTaken : Cond.code yX7_failTaken cX7_failTaken 2 (some .boolean) ∈ AL := al_mem 513 (by decide +kernel) (by decide +kernel)
theorem ml_X6_94 : lkV RX6 94 yX3_putPin := ⟨al_mem 514 (by decide +kernel) (by decide +kernel), al_mem 515 (by decide +kernel) (by decide +kernel), al_mem 516 (by decide +kernel) (by decide +kernel), al_mem 75 (by decide +kernel) (by decide +kernel)⟩
theorem cd_X3_putPin : Cond.code yX3_putPin cX3_putPin 4 none ∈ AL := al_mem 517 (by decide +kernel) (by decide +kernel)
theorem ml_X3_41 : lkV RX3 41 yX3_row := ⟨al_mem 518 (by decide +kernel) (by decide +kernel), al_mem 519 (by decide +kernel) (by decide +kernel), al_mem 520 (by decide +kernel) (by decide +kernel), al_mem 75 (by decide +kernel) (by decide +kernel)⟩
theorem cd_X3_row : Cond.code yX3_row cX3_row 3 (some .long) ∈ AL := al_mem 521 (by decide +kernel) (by decide +kernel)
theorem ml_X3_37 : lkS RX3 37 yX3_holds := ⟨al_mem 522 (by decide +kernel) (by decide +kernel), al_mem 523 (by decide +kernel) (by decide +kernel), al_mem 75 (by decide +kernel) (by decide +kernel)⟩
theorem cd_X3_holds : Cond.code yX3_holds cX3_holds 2 (some .boolean) ∈ AL := al_mem 524 (by decide +kernel) (by decide +kernel)
theorem ml_X3_45 : lkV RX3 45 yX3_setRow := ⟨al_mem 525 (by decide +kernel) (by decide +kernel), al_mem 526 (by decide +kernel) (by decide +kernel), al_mem 527 (by decide +kernel) (by decide +kernel), al_mem 75 (by decide +kernel) (by decide +kernel)⟩
theorem cd_X3_setRow : Cond.code yX3_setRow cX3_setRow 5 none ∈ AL := al_mem 528 (by decide +kernel) (by decide +kernel)
theorem ml_X6_45 : lkV RX6 45 yX7_takeEnd := ⟨al_mem 529 (by decide +kernel) (by decide +kernel), al_mem 530 (by decide +kernel) (by decide +kernel), al_mem 531 (by decide +kernel) (by decide +kernel), al_mem 72 (by decide +kernel) (by decide +kernel)⟩
theorem cd_X7_takeEnd : Cond.code yX7_takeEnd cX7_takeEnd 1 (some .boolean) ∈ AL := al_mem 532 (by decide +kernel) (by decide +kernel)
theorem ml_X9_127 : lkV RX9 127 yX0_copyFrom := ⟨al_mem 533 (by decide +kernel) (by decide +kernel), al_mem 534 (by decide +kernel) (by decide +kernel), al_mem 535 (by decide +kernel) (by decide +kernel), al_mem 74 (by decide +kernel) (by decide +kernel)⟩
theorem cd_X0_copyFrom : Cond.code yX0_copyFrom cX0_copyFrom 3 none ∈ AL := al_mem 536 (by decide +kernel) (by decide +kernel)
theorem ml_X0_57 : lkV RX0 57 yX3_copyFrom := ⟨al_mem 537 (by decide +kernel) (by decide +kernel), al_mem 538 (by decide +kernel) (by decide +kernel), al_mem 539 (by decide +kernel) (by decide +kernel), al_mem 75 (by decide +kernel) (by decide +kernel)⟩
theorem cd_X3_copyFrom : Cond.code yX3_copyFrom cX3_copyFrom 2 none ∈ AL := al_mem 540 (by decide +kernel) (by decide +kernel)
theorem ml_X0_61 : lkV RX0 61 yX8_copyFrom := ⟨al_mem 544 (by decide +kernel) (by decide +kernel), al_mem 545 (by decide +kernel) (by decide +kernel), al_mem 546 (by decide +kernel) (by decide +kernel), al_mem 76 (by decide +kernel) (by decide +kernel)⟩
theorem cd_X8_copyFrom : Cond.code yX8_copyFrom cX8_copyFrom 2 none ∈ AL := al_mem 547 (by decide +kernel) (by decide +kernel)
theorem ml_X9_131 : lkV RX9 131 yX2_forgetAll := ⟨al_mem 548 (by decide +kernel) (by decide +kernel), al_mem 549 (by decide +kernel) (by decide +kernel), al_mem 550 (by decide +kernel) (by decide +kernel), al_mem 79 (by decide +kernel) (by decide +kernel)⟩
theorem cd_X2_forgetAll : Cond.code yX2_forgetAll cX2_forgetAll 1 none ∈ AL := al_mem 551 (by decide +kernel) (by decide +kernel)
theorem fl_X9_14 : lkF RX9 14 9 0 := al_mem 552 (by decide +kernel) (by decide +kernel)
theorem fl_X9_18 : lkF RX9 18 9 1 := al_mem 553 (by decide +kernel) (by decide +kernel)
theorem fl_X9_26 : lkF RX9 26 9 2 := al_mem 554 (by decide +kernel) (by decide +kernel)
theorem fl_X9_52 : lkF RX9 52 9 3 := al_mem 555 (by decide +kernel) (by decide +kernel)
theorem fl_X9_61 : lkF RX9 61 9 4 := al_mem 556 (by decide +kernel) (by decide +kernel)
theorem fl_X9_33 : lkF RX9 33 9 5 := al_mem 557 (by decide +kernel) (by decide +kernel)
theorem fl_X9_40 : lkF RX9 40 9 6 := al_mem 558 (by decide +kernel) (by decide +kernel)
theorem fl_X9_44 : lkF RX9 44 9 7 := al_mem 559 (by decide +kernel) (by decide +kernel)
theorem fl_X9_68 : lkF RX9 68 9 8 := al_mem 560 (by decide +kernel) (by decide +kernel)
theorem fl_X9_72 : lkF RX9 72 9 9 := al_mem 561 (by decide +kernel) (by decide +kernel)
theorem fl_X9_76 : lkF RX9 76 9 10 := al_mem 562 (by decide +kernel) (by decide +kernel)
theorem ml_L_151 : lkV RL 151 yX9_load := ⟨al_mem 588 (by decide +kernel) (by decide +kernel), al_mem 589 (by decide +kernel) (by decide +kernel), al_mem 590 (by decide +kernel) (by decide +kernel), al_mem 69 (by decide +kernel) (by decide +kernel)⟩
theorem cd_X9_load : Cond.code yX9_load cX9_load 1 (some .int) ∈ AL := al_mem 591 (by decide +kernel) (by decide +kernel)
theorem ml_L_155 : lkV RL 155 yX9_runScript := ⟨al_mem 592 (by decide +kernel) (by decide +kernel), al_mem 593 (by decide +kernel) (by decide +kernel), al_mem 594 (by decide +kernel) (by decide +kernel), al_mem 69 (by decide +kernel) (by decide +kernel)⟩
theorem cd_X9_runScript : Cond.code yX9_runScript cX9_runScript 2 (some .int) ∈ AL := al_mem 595 (by decide +kernel) (by decide +kernel)
theorem ml_X9_134 : lkV RX9 134 yX5_readScript := ⟨al_mem 596 (by decide +kernel) (by decide +kernel), al_mem 597 (by decide +kernel) (by decide +kernel), al_mem 598 (by decide +kernel) (by decide +kernel), al_mem 78 (by decide +kernel) (by decide +kernel)⟩
theorem cd_X5_readScript : Cond.code yX5_readScript cX5_readScript 1 (some .boolean) ∈ AL := al_mem 599 (by decide +kernel) (by decide +kernel)
theorem ml_X5_19 : lkV RX5 19 yX4_begin := ⟨al_mem 600 (by decide +kernel) (by decide +kernel), al_mem 601 (by decide +kernel) (by decide +kernel), al_mem 602 (by decide +kernel) (by decide +kernel), al_mem 73 (by decide +kernel) (by decide +kernel)⟩
theorem cd_X4_begin : Cond.code yX4_begin cX4_begin 1 none ∈ AL := al_mem 603 (by decide +kernel) (by decide +kernel)
theorem ml_X5_24 : lkV RX5 24 yX7_scan := ⟨al_mem 604 (by decide +kernel) (by decide +kernel), al_mem 413 (by decide +kernel) (by decide +kernel), al_mem 414 (by decide +kernel) (by decide +kernel), al_mem 72 (by decide +kernel) (by decide +kernel)⟩
theorem ml_X5_29 : lkV RX5 29 yX5_readCommands := ⟨al_mem 605 (by decide +kernel) (by decide +kernel), al_mem 607 (by decide +kernel) (by decide +kernel), al_mem 1 (by decide +kernel) (by decide +kernel), al_mem 78 (by decide +kernel) (by decide +kernel)⟩
theorem cd_X5_readCommands : Cond.code yX5_readCommands cX5_readCommands 6 (some .boolean) ∈ AL := al_mem 608 (by decide +kernel) (by decide +kernel)
theorem ml_X5_37 : lkV RX5 37 yX7_atAnyWord := ⟨al_mem 609 (by decide +kernel) (by decide +kernel), al_mem 610 (by decide +kernel) (by decide +kernel), al_mem 611 (by decide +kernel) (by decide +kernel), al_mem 72 (by decide +kernel) (by decide +kernel)⟩
theorem cd_X7_atAnyWord : Cond.code yX7_atAnyWord cX7_atAnyWord 1 (some .boolean) ∈ AL := al_mem 612 (by decide +kernel) (by decide +kernel)
theorem ml_X5_40 : lkV RX5 40 yX5_kindHere := ⟨al_mem 613 (by decide +kernel) (by decide +kernel), al_mem 614 (by decide +kernel) (by decide +kernel), al_mem 615 (by decide +kernel) (by decide +kernel), al_mem 78 (by decide +kernel) (by decide +kernel)⟩
theorem cd_X5_kindHere : Cond.code yX5_kindHere cX5_kindHere 1 (some .int) ∈ AL := al_mem 616 (by decide +kernel) (by decide +kernel)
theorem ml_X5_82 : lkV RX5 82 yX7_atWord := ⟨al_mem 618 (by decide +kernel) (by decide +kernel), al_mem 445 (by decide +kernel) (by decide +kernel), al_mem 446 (by decide +kernel) (by decide +kernel), al_mem 72 (by decide +kernel) (by decide +kernel)⟩
theorem ml_X5_44 : lkV RX5 44 yX7_fail := ⟨al_mem 628 (by decide +kernel) (by decide +kernel), al_mem 451 (by decide +kernel) (by decide +kernel), al_mem 452 (by decide +kernel) (by decide +kernel), al_mem 72 (by decide +kernel) (by decide +kernel)⟩
theorem ml_X5_51 : lkV RX5 51 yX7_advance := ⟨al_mem 629 (by decide +kernel) (by decide +kernel), al_mem 455 (by decide +kernel) (by decide +kernel), al_mem 456 (by decide +kernel) (by decide +kernel), al_mem 72 (by decide +kernel) (by decide +kernel)⟩
theorem ml_X5_54 : lkV RX5 54 yX4_putCommand := ⟨al_mem 630 (by decide +kernel) (by decide +kernel), al_mem 631 (by decide +kernel) (by decide +kernel), al_mem 632 (by decide +kernel) (by decide +kernel), al_mem 73 (by decide +kernel) (by decide +kernel)⟩
theorem cd_X4_putCommand : Cond.code yX4_putCommand cX4_putCommand 4 (some .int) ∈ AL := al_mem 633 (by decide +kernel) (by decide +kernel)
theorem ml_X5_58 : lkV RX5 58 yX5_readRepeat := ⟨al_mem 634 (by decide +kernel) (by decide +kernel), al_mem 636 (by decide +kernel) (by decide +kernel), al_mem 2 (by decide +kernel) (by decide +kernel), al_mem 78 (by decide +kernel) (by decide +kernel)⟩
theorem cd_X5_readRepeat : Cond.code yX5_readRepeat cX5_readRepeat 3 (some .boolean) ∈ AL := al_mem 637 (by decide +kernel) (by decide +kernel)
theorem ml_X5_69 : lkV RX5 69 yX5_readArgument := ⟨al_mem 638 (by decide +kernel) (by decide +kernel), al_mem 639 (by decide +kernel) (by decide +kernel), al_mem 640 (by decide +kernel) (by decide +kernel), al_mem 78 (by decide +kernel) (by decide +kernel)⟩
theorem cd_X5_readArgument : Cond.code yX5_readArgument cX5_readArgument 6 (some .boolean) ∈ AL := al_mem 641 (by decide +kernel) (by decide +kernel)
theorem ml_X5_107 : lkV RX5 107 yX7_takeNumber := ⟨al_mem 642 (by decide +kernel) (by decide +kernel), al_mem 459 (by decide +kernel) (by decide +kernel), al_mem 460 (by decide +kernel) (by decide +kernel), al_mem 72 (by decide +kernel) (by decide +kernel)⟩
theorem ml_X5_110 : lkV RX5 110 yX4_putArgument := ⟨al_mem 643 (by decide +kernel) (by decide +kernel), al_mem 644 (by decide +kernel) (by decide +kernel), al_mem 645 (by decide +kernel) (by decide +kernel), al_mem 73 (by decide +kernel) (by decide +kernel)⟩
theorem cd_X4_putArgument : Cond.code yX4_putArgument cX4_putArgument 5 none ∈ AL := al_mem 646 (by decide +kernel) (by decide +kernel)
theorem ml_X5_73 : lkV RX5 73 yX7_atSign := ⟨al_mem 647 (by decide +kernel) (by decide +kernel), al_mem 478 (by decide +kernel) (by decide +kernel), al_mem 479 (by decide +kernel) (by decide +kernel), al_mem 72 (by decide +kernel) (by decide +kernel)⟩
theorem ml_X5_65 : lkV RX5 65 yX7_takeSign := ⟨al_mem 648 (by decide +kernel) (by decide +kernel), al_mem 474 (by decide +kernel) (by decide +kernel), al_mem 475 (by decide +kernel) (by decide +kernel), al_mem 72 (by decide +kernel) (by decide +kernel)⟩
theorem ml_X5_76 : lkV RX5 76 yX4_closeRepeat := ⟨al_mem 649 (by decide +kernel) (by decide +kernel), al_mem 650 (by decide +kernel) (by decide +kernel), al_mem 651 (by decide +kernel) (by decide +kernel), al_mem 73 (by decide +kernel) (by decide +kernel)⟩
theorem cd_X4_closeRepeat : Cond.code yX4_closeRepeat cX4_closeRepeat 2 none ∈ AL := al_mem 652 (by decide +kernel) (by decide +kernel)
theorem ml_X5_62 : lkV RX5 62 yX5_readArguments := ⟨al_mem 653 (by decide +kernel) (by decide +kernel), al_mem 654 (by decide +kernel) (by decide +kernel), al_mem 655 (by decide +kernel) (by decide +kernel), al_mem 78 (by decide +kernel) (by decide +kernel)⟩
theorem cd_X5_readArguments : Cond.code yX5_readArguments cX5_readArguments 3 (some .boolean) ∈ AL := al_mem 656 (by decide +kernel) (by decide +kernel)
theorem ml_X5_104 : lkV RX5 104 yX5_readDirection := ⟨al_mem 657 (by decide +kernel) (by decide +kernel), al_mem 658 (by decide +kernel) (by decide +kernel), al_mem 659 (by decide +kernel) (by decide +kernel), al_mem 78 (by decide +kernel) (by decide +kernel)⟩
theorem cd_X5_readDirection : Cond.code yX5_readDirection cX5_readDirection 4 (some .boolean) ∈ AL := al_mem 660 (by decide +kernel) (by decide +kernel)
theorem ml_X5_33 : lkV RX5 33 yX7_takeEnd := ⟨al_mem 663 (by decide +kernel) (by decide +kernel), al_mem 530 (by decide +kernel) (by decide +kernel), al_mem 531 (by decide +kernel) (by decide +kernel), al_mem 72 (by decide +kernel) (by decide +kernel)⟩
theorem ml_X9_137 : lkV RX9 137 yX2_remember := ⟨al_mem 664 (by decide +kernel) (by decide +kernel), al_mem 665 (by decide +kernel) (by decide +kernel), al_mem 666 (by decide +kernel) (by decide +kernel), al_mem 79 (by decide +kernel) (by decide +kernel)⟩
theorem cd_X2_remember : Cond.code yX2_remember cX2_remember 2 none ∈ AL := al_mem 667 (by decide +kernel) (by decide +kernel)
theorem ml_X2_23 : lkV RX2 23 yX0_copyFrom := ⟨al_mem 668 (by decide +kernel) (by decide +kernel), al_mem 534 (by decide +kernel) (by decide +kernel), al_mem 535 (by decide +kernel) (by decide +kernel), al_mem 74 (by decide +kernel) (by decide +kernel)⟩
theorem ml_X2_27 : lkS RX2 27 yJ9_min_7cf53 := ⟨al_mem 669 (by decide +kernel) (by decide +kernel), al_mem 433 (by decide +kernel) (by decide +kernel), al_mem 71 (by decide +kernel) (by decide +kernel)⟩
theorem ml_X9_143 : lkN RX9 143 yX4_runPart "MusicBoxEditor" := ⟨by decide +kernel, al_mem 672 (by decide +kernel) (by decide +kernel), al_mem 73 (by decide +kernel) (by decide +kernel)⟩
theorem cd_X4_runPart : Cond.code yX4_runPart cX4_runPart 8 none ∈ AL := al_mem 673 (by decide +kernel) (by decide +kernel)
theorem ml_X4_35 : lkS RX4 35 yJ9_min_7cf53 := ⟨al_mem 674 (by decide +kernel) (by decide +kernel), al_mem 433 (by decide +kernel) (by decide +kernel), al_mem 71 (by decide +kernel) (by decide +kernel)⟩
theorem ml_X4_41 : lkS RX4 41 yJ9_max_7cf53 := ⟨al_mem 675 (by decide +kernel) (by decide +kernel), al_mem 112 (by decide +kernel) (by decide +kernel), al_mem 71 (by decide +kernel) (by decide +kernel)⟩
theorem ml_X4_44 : lkV RX4 44 yX4_argument := ⟨al_mem 676 (by decide +kernel) (by decide +kernel), al_mem 677 (by decide +kernel) (by decide +kernel), al_mem 678 (by decide +kernel) (by decide +kernel), al_mem 73 (by decide +kernel) (by decide +kernel)⟩
theorem cd_X4_argument : Cond.code yX4_argument cX4_argument 4 (some .int) ∈ AL := al_mem 679 (by decide +kernel) (by decide +kernel)
theorem ml_X4_47 : lkV RX4 47 yX4_runPart := ⟨al_mem 680 (by decide +kernel) (by decide +kernel), al_mem 672 (by decide +kernel) (by decide +kernel), al_mem 3 (by decide +kernel) (by decide +kernel), al_mem 73 (by decide +kernel) (by decide +kernel)⟩
theorem ml_X4_51 : lkV RX4 51 yX4_faultOf := ⟨al_mem 681 (by decide +kernel) (by decide +kernel), al_mem 682 (by decide +kernel) (by decide +kernel), al_mem 683 (by decide +kernel) (by decide +kernel), al_mem 73 (by decide +kernel) (by decide +kernel)⟩
theorem cd_X4_faultOf : Cond.code yX4_faultOf cX4_faultOf 6 (some .int) ∈ AL := al_mem 684 (by decide +kernel) (by decide +kernel)
theorem ml_X4_59 : lkV RX4 59 yX0_putPinFault := ⟨al_mem 685 (by decide +kernel) (by decide +kernel), al_mem 686 (by decide +kernel) (by decide +kernel), al_mem 687 (by decide +kernel) (by decide +kernel), al_mem 74 (by decide +kernel) (by decide +kernel)⟩
theorem cd_X0_putPinFault : Cond.code yX0_putPinFault cX0_putPinFault 4 (some .int) ∈ AL := al_mem 688 (by decide +kernel) (by decide +kernel)
theorem ml_X0_83 : lkV RX0 83 yX0_placeFault := ⟨al_mem 689 (by decide +kernel) (by decide +kernel), al_mem 690 (by decide +kernel) (by decide +kernel), al_mem 691 (by decide +kernel) (by decide +kernel), al_mem 74 (by decide +kernel) (by decide +kernel)⟩
theorem cd_X0_placeFault : Cond.code yX0_placeFault cX0_placeFault 4 (some .int) ∈ AL := al_mem 692 (by decide +kernel) (by decide +kernel)
theorem ml_X0_67 : lkV RX0 67 yX0_tuneFault := ⟨al_mem 693 (by decide +kernel) (by decide +kernel), al_mem 694 (by decide +kernel) (by decide +kernel), al_mem 695 (by decide +kernel) (by decide +kernel), al_mem 74 (by decide +kernel) (by decide +kernel)⟩
theorem cd_X0_tuneFault : Cond.code yX0_tuneFault cX0_tuneFault 2 (some .int) ∈ AL := al_mem 696 (by decide +kernel) (by decide +kernel)
theorem ml_X0_71 : lkV RX0 71 yX0_toothFault := ⟨al_mem 697 (by decide +kernel) (by decide +kernel), al_mem 698 (by decide +kernel) (by decide +kernel), al_mem 699 (by decide +kernel) (by decide +kernel), al_mem 74 (by decide +kernel) (by decide +kernel)⟩
theorem cd_X0_toothFault : Cond.code yX0_toothFault cX0_toothFault 2 (some .int) ∈ AL := al_mem 700 (by decide +kernel) (by decide +kernel)
theorem ml_X0_74 : lkV RX0 74 yX0_stepFault := ⟨al_mem 701 (by decide +kernel) (by decide +kernel), al_mem 702 (by decide +kernel) (by decide +kernel), al_mem 703 (by decide +kernel) (by decide +kernel), al_mem 74 (by decide +kernel) (by decide +kernel)⟩
theorem cd_X0_stepFault : Cond.code yX0_stepFault cX0_stepFault 2 (some .int) ∈ AL := al_mem 704 (by decide +kernel) (by decide +kernel)
theorem ml_X0_77 : lkS RX0 77 yJ9_max_7cf53 := ⟨al_mem 705 (by decide +kernel) (by decide +kernel), al_mem 112 (by decide +kernel) (by decide +kernel), al_mem 71 (by decide +kernel) (by decide +kernel)⟩
theorem ml_X0_87 : lkV RX0 87 yX3_hasPin := ⟨al_mem 706 (by decide +kernel) (by decide +kernel), al_mem 507 (by decide +kernel) (by decide +kernel), al_mem 508 (by decide +kernel) (by decide +kernel), al_mem 75 (by decide +kernel) (by decide +kernel)⟩
theorem ml_X4_65 : lkV RX4 65 yX0_takePinFault := ⟨al_mem 707 (by decide +kernel) (by decide +kernel), al_mem 708 (by decide +kernel) (by decide +kernel), al_mem 709 (by decide +kernel) (by decide +kernel), al_mem 74 (by decide +kernel) (by decide +kernel)⟩
theorem cd_X0_takePinFault : Cond.code yX0_takePinFault cX0_takePinFault 4 (some .int) ∈ AL := al_mem 710 (by decide +kernel) (by decide +kernel)
theorem ml_X4_68 : lkV RX4 68 yX0_gapFault := ⟨al_mem 711 (by decide +kernel) (by decide +kernel), al_mem 712 (by decide +kernel) (by decide +kernel), al_mem 713 (by decide +kernel) (by decide +kernel), al_mem 74 (by decide +kernel) (by decide +kernel)⟩
theorem cd_X0_gapFault : Cond.code yX0_gapFault cX0_gapFault 3 (some .int) ∈ AL := al_mem 714 (by decide +kernel) (by decide +kernel)
theorem ml_X0_95 : lkM RX0 95 yX9_rangeFault "MusicBoxEditor" := ⟨by decide +kernel, al_mem 716 (by decide +kernel) (by decide +kernel), al_mem 69 (by decide +kernel) (by decide +kernel)⟩
theorem cd_X9_rangeFault : Cond.code yX9_rangeFault cX9_rangeFault 3 (some .int) ∈ AL := al_mem 717 (by decide +kernel) (by decide +kernel)
theorem ml_X4_71 : lkV RX4 71 yX0_bendFault := ⟨al_mem 718 (by decide +kernel) (by decide +kernel), al_mem 719 (by decide +kernel) (by decide +kernel), al_mem 720 (by decide +kernel) (by decide +kernel), al_mem 74 (by decide +kernel) (by decide +kernel)⟩
theorem cd_X0_bendFault : Cond.code yX0_bendFault cX0_bendFault 4 (some .int) ∈ AL := al_mem 721 (by decide +kernel) (by decide +kernel)
theorem ml_X0_101 : lkV RX0 101 yX8_brokenNow := ⟨al_mem 722 (by decide +kernel) (by decide +kernel), al_mem 723 (by decide +kernel) (by decide +kernel), al_mem 724 (by decide +kernel) (by decide +kernel), al_mem 76 (by decide +kernel) (by decide +kernel)⟩
theorem cd_X8_brokenNow : Cond.code yX8_brokenNow cX8_brokenNow 1 (some .boolean) ∈ AL := al_mem 725 (by decide +kernel) (by decide +kernel)
theorem ml_X4_74 : lkV RX4 74 yX0_toothFault := ⟨al_mem 726 (by decide +kernel) (by decide +kernel), al_mem 698 (by decide +kernel) (by decide +kernel), al_mem 699 (by decide +kernel) (by decide +kernel), al_mem 74 (by decide +kernel) (by decide +kernel)⟩
theorem ml_X4_78 : lkM RX4 78 yX9_rangeFault "MusicBoxEditor" := ⟨by decide +kernel, al_mem 716 (by decide +kernel) (by decide +kernel), al_mem 69 (by decide +kernel) (by decide +kernel)⟩
theorem ml_X4_81 : lkV RX4 81 yX0_windFault := ⟨al_mem 728 (by decide +kernel) (by decide +kernel), al_mem 729 (by decide +kernel) (by decide +kernel), al_mem 730 (by decide +kernel) (by decide +kernel), al_mem 74 (by decide +kernel) (by decide +kernel)⟩
theorem cd_X0_windFault : Cond.code yX0_windFault cX0_windFault 2 (some .int) ∈ AL := al_mem 731 (by decide +kernel) (by decide +kernel)
theorem ml_X4_84 : lkV RX4 84 yX0_tuneFault := ⟨al_mem 732 (by decide +kernel) (by decide +kernel), al_mem 694 (by decide +kernel) (by decide +kernel), al_mem 695 (by decide +kernel) (by decide +kernel), al_mem 74 (by decide +kernel) (by decide +kernel)⟩
theorem ml_X4_87 : lkV RX4 87 yX0_playFault := ⟨al_mem 733 (by decide +kernel) (by decide +kernel), al_mem 734 (by decide +kernel) (by decide +kernel), al_mem 735 (by decide +kernel) (by decide +kernel), al_mem 74 (by decide +kernel) (by decide +kernel)⟩
theorem cd_X0_playFault : Cond.code yX0_playFault cX0_playFault 2 (some .int) ∈ AL := al_mem 736 (by decide +kernel) (by decide +kernel)
theorem ml_X4_55 : lkV RX4 55 yX4_execute := ⟨al_mem 737 (by decide +kernel) (by decide +kernel), al_mem 738 (by decide +kernel) (by decide +kernel), al_mem 739 (by decide +kernel) (by decide +kernel), al_mem 73 (by decide +kernel) (by decide +kernel)⟩
theorem cd_X4_execute : Cond.code yX4_execute cX4_execute 6 none ∈ AL := al_mem 740 (by decide +kernel) (by decide +kernel)
theorem ml_X4_94 : lkV RX4 94 yX3_putPin := ⟨al_mem 741 (by decide +kernel) (by decide +kernel), al_mem 515 (by decide +kernel) (by decide +kernel), al_mem 516 (by decide +kernel) (by decide +kernel), al_mem 75 (by decide +kernel) (by decide +kernel)⟩
theorem ml_X4_100 : lkV RX4 100 yX3_takePin := ⟨al_mem 742 (by decide +kernel) (by decide +kernel), al_mem 743 (by decide +kernel) (by decide +kernel), al_mem 744 (by decide +kernel) (by decide +kernel), al_mem 75 (by decide +kernel) (by decide +kernel)⟩
theorem cd_X3_takePin : Cond.code yX3_takePin cX3_takePin 4 none ∈ AL := al_mem 745 (by decide +kernel) (by decide +kernel)
theorem ml_X4_112 : lkV RX4 112 yX0_bendTooth := ⟨al_mem 747 (by decide +kernel) (by decide +kernel), al_mem 748 (by decide +kernel) (by decide +kernel), al_mem 749 (by decide +kernel) (by decide +kernel), al_mem 74 (by decide +kernel) (by decide +kernel)⟩
theorem cd_X0_bendTooth : Cond.code yX0_bendTooth cX0_bendTooth 3 none ∈ AL := al_mem 750 (by decide +kernel) (by decide +kernel)
theorem ml_X4_116 : lkV RX4 116 yX0_mendTooth := ⟨al_mem 751 (by decide +kernel) (by decide +kernel), al_mem 752 (by decide +kernel) (by decide +kernel), al_mem 753 (by decide +kernel) (by decide +kernel), al_mem 74 (by decide +kernel) (by decide +kernel)⟩
theorem cd_X0_mendTooth : Cond.code yX0_mendTooth cX0_mendTooth 2 none ∈ AL := al_mem 754 (by decide +kernel) (by decide +kernel)
theorem ml_X0_108 : lkV RX0 108 yX8_renew := ⟨al_mem 755 (by decide +kernel) (by decide +kernel), al_mem 497 (by decide +kernel) (by decide +kernel), al_mem 498 (by decide +kernel) (by decide +kernel), al_mem 76 (by decide +kernel) (by decide +kernel)⟩
theorem ml_X4_129 : lkV RX4 129 yX0_playSteps := ⟨al_mem 756 (by decide +kernel) (by decide +kernel), al_mem 757 (by decide +kernel) (by decide +kernel), al_mem 758 (by decide +kernel) (by decide +kernel), al_mem 74 (by decide +kernel) (by decide +kernel)⟩
theorem cd_X0_playSteps : Cond.code yX0_playSteps cX0_playSteps 3 (some .int) ∈ AL := al_mem 759 (by decide +kernel) (by decide +kernel)
theorem ml_X0_111 : lkV RX0 111 yX0_playStep := ⟨al_mem 760 (by decide +kernel) (by decide +kernel), al_mem 761 (by decide +kernel) (by decide +kernel), al_mem 762 (by decide +kernel) (by decide +kernel), al_mem 74 (by decide +kernel) (by decide +kernel)⟩
theorem cd_X0_playStep : Cond.code yX0_playStep cX0_playStep 3 none ∈ AL := al_mem 763 (by decide +kernel) (by decide +kernel)
theorem ml_X0_114 : lkV RX0 114 yX0_soundOf := ⟨al_mem 764 (by decide +kernel) (by decide +kernel), al_mem 765 (by decide +kernel) (by decide +kernel), al_mem 766 (by decide +kernel) (by decide +kernel), al_mem 74 (by decide +kernel) (by decide +kernel)⟩
theorem cd_X0_soundOf : Cond.code yX0_soundOf cX0_soundOf 2 (some .int) ∈ AL := al_mem 767 (by decide +kernel) (by decide +kernel)
theorem ml_X0_132 : lkV RX0 132 yX8_dampedNow := ⟨al_mem 768 (by decide +kernel) (by decide +kernel), al_mem 769 (by decide +kernel) (by decide +kernel), al_mem 770 (by decide +kernel) (by decide +kernel), al_mem 76 (by decide +kernel) (by decide +kernel)⟩
theorem cd_X8_dampedNow : Cond.code yX8_dampedNow cX8_dampedNow 1 (some .boolean) ∈ AL := al_mem 771 (by decide +kernel) (by decide +kernel)
theorem ml_X0_117 : lkV RX0 117 yX8_pluck := ⟨al_mem 772 (by decide +kernel) (by decide +kernel), al_mem 773 (by decide +kernel) (by decide +kernel), al_mem 774 (by decide +kernel) (by decide +kernel), al_mem 76 (by decide +kernel) (by decide +kernel)⟩
theorem cd_X8_pluck : Cond.code yX8_pluck cX8_pluck 2 none ∈ AL := al_mem 775 (by decide +kernel) (by decide +kernel)
theorem ml_X0_120 : lkV RX0 120 yX8_passStep := ⟨al_mem 776 (by decide +kernel) (by decide +kernel), al_mem 777 (by decide +kernel) (by decide +kernel), al_mem 778 (by decide +kernel) (by decide +kernel), al_mem 76 (by decide +kernel) (by decide +kernel)⟩
theorem cd_X8_passStep : Cond.code yX8_passStep cX8_passStep 1 none ∈ AL := al_mem 779 (by decide +kernel) (by decide +kernel)
theorem ml_X8_33 : lkS RX8 33 yJ9_min_7cf53 := ⟨al_mem 780 (by decide +kernel) (by decide +kernel), al_mem 433 (by decide +kernel) (by decide +kernel), al_mem 71 (by decide +kernel) (by decide +kernel)⟩
theorem ml_X0_123 : lkV RX0 123 yX3_goOn := ⟨al_mem 781 (by decide +kernel) (by decide +kernel), al_mem 782 (by decide +kernel) (by decide +kernel), al_mem 783 (by decide +kernel) (by decide +kernel), al_mem 75 (by decide +kernel) (by decide +kernel)⟩
theorem cd_X3_goOn : Cond.code yX3_goOn cX3_goOn 1 (some .boolean) ∈ AL := al_mem 784 (by decide +kernel) (by decide +kernel)
theorem ml_L_159 : lkV RL 159 yX9_errorCode := ⟨al_mem 785 (by decide +kernel) (by decide +kernel), al_mem 786 (by decide +kernel) (by decide +kernel), al_mem 787 (by decide +kernel) (by decide +kernel), al_mem 69 (by decide +kernel) (by decide +kernel)⟩
theorem cd_X9_errorCode : Cond.code yX9_errorCode cX9_errorCode 1 (some .int) ∈ AL := al_mem 788 (by decide +kernel) (by decide +kernel)
theorem ml_L_163 : lkV RL 163 yX9_errorPosition := ⟨al_mem 789 (by decide +kernel) (by decide +kernel), al_mem 790 (by decide +kernel) (by decide +kernel), al_mem 791 (by decide +kernel) (by decide +kernel), al_mem 69 (by decide +kernel) (by decide +kernel)⟩
theorem cd_X9_errorPosition : Cond.code yX9_errorPosition cX9_errorPosition 1 (some .int) ∈ AL := al_mem 792 (by decide +kernel) (by decide +kernel)
theorem ml_L_167 : lkV RL 167 yX9_stepCount := ⟨al_mem 793 (by decide +kernel) (by decide +kernel), al_mem 794 (by decide +kernel) (by decide +kernel), al_mem 795 (by decide +kernel) (by decide +kernel), al_mem 69 (by decide +kernel) (by decide +kernel)⟩
theorem cd_X9_stepCount : Cond.code yX9_stepCount cX9_stepCount 1 (some .int) ∈ AL := al_mem 796 (by decide +kernel) (by decide +kernel)
theorem ml_L_171 : lkV RL 171 yX9_selectedTune := ⟨al_mem 797 (by decide +kernel) (by decide +kernel), al_mem 798 (by decide +kernel) (by decide +kernel), al_mem 799 (by decide +kernel) (by decide +kernel), al_mem 69 (by decide +kernel) (by decide +kernel)⟩
theorem cd_X9_selectedTune : Cond.code yX9_selectedTune cX9_selectedTune 1 (some .int) ∈ AL := al_mem 800 (by decide +kernel) (by decide +kernel)
theorem ml_L_175 : lkV RL 175 yX9_position := ⟨al_mem 801 (by decide +kernel) (by decide +kernel), al_mem 802 (by decide +kernel) (by decide +kernel), al_mem 803 (by decide +kernel) (by decide +kernel), al_mem 69 (by decide +kernel) (by decide +kernel)⟩
theorem cd_X9_position : Cond.code yX9_position cX9_position 1 (some .int) ∈ AL := al_mem 804 (by decide +kernel) (by decide +kernel)
theorem ml_L_199 : lkV RL 199 yX9_toothCount := ⟨al_mem 805 (by decide +kernel) (by decide +kernel), al_mem 806 (by decide +kernel) (by decide +kernel), al_mem 807 (by decide +kernel) (by decide +kernel), al_mem 69 (by decide +kernel) (by decide +kernel)⟩
theorem cd_X9_toothCount : Cond.code yX9_toothCount cX9_toothCount 1 (some .int) ∈ AL := al_mem 808 (by decide +kernel) (by decide +kernel)
theorem ml_L_224 : lkV RL 224 yX9_turnsLeft := ⟨al_mem 809 (by decide +kernel) (by decide +kernel), al_mem 810 (by decide +kernel) (by decide +kernel), al_mem 811 (by decide +kernel) (by decide +kernel), al_mem 69 (by decide +kernel) (by decide +kernel)⟩
theorem cd_X9_turnsLeft : Cond.code yX9_turnsLeft cX9_turnsLeft 1 (some .int) ∈ AL := al_mem 812 (by decide +kernel) (by decide +kernel)
theorem ml_L_228 : lkV RL 228 yX9_vane := ⟨al_mem 813 (by decide +kernel) (by decide +kernel), al_mem 814 (by decide +kernel) (by decide +kernel), al_mem 815 (by decide +kernel) (by decide +kernel), al_mem 69 (by decide +kernel) (by decide +kernel)⟩
theorem cd_X9_vane : Cond.code yX9_vane cX9_vane 1 (some .int) ∈ AL := al_mem 816 (by decide +kernel) (by decide +kernel)
theorem ml_L_232 : lkV RL 232 yX9_tempo := ⟨al_mem 817 (by decide +kernel) (by decide +kernel), al_mem 818 (by decide +kernel) (by decide +kernel), al_mem 819 (by decide +kernel) (by decide +kernel), al_mem 69 (by decide +kernel) (by decide +kernel)⟩
theorem cd_X9_tempo : Cond.code yX9_tempo cX9_tempo 1 (some .int) ∈ AL := al_mem 820 (by decide +kernel) (by decide +kernel)
theorem ml_X9_250 : lkV RX9 250 yX0_stepsPerMinute := ⟨al_mem 821 (by decide +kernel) (by decide +kernel), al_mem 822 (by decide +kernel) (by decide +kernel), al_mem 823 (by decide +kernel) (by decide +kernel), al_mem 74 (by decide +kernel) (by decide +kernel)⟩
theorem cd_X0_stepsPerMinute : Cond.code yX0_stepsPerMinute cX0_stepsPerMinute 1 (some .int) ∈ AL := al_mem 824 (by decide +kernel) (by decide +kernel)
theorem ml_L_236 : lkV RL 236 yX9_secondsPerStep := ⟨al_mem 825 (by decide +kernel) (by decide +kernel), al_mem 826 (by decide +kernel) (by decide +kernel), al_mem 827 (by decide +kernel) (by decide +kernel), al_mem 69 (by decide +kernel) (by decide +kernel)⟩
theorem cd_X9_secondsPerStep : Cond.code yX9_secondsPerStep cX9_secondsPerStep 1 (some .double) ∈ AL := al_mem 828 (by decide +kernel) (by decide +kernel)
theorem ml_L_241 : lkV RL 241 yX9_secondsPerStepBits := ⟨al_mem 830 (by decide +kernel) (by decide +kernel), al_mem 831 (by decide +kernel) (by decide +kernel), al_mem 832 (by decide +kernel) (by decide +kernel), al_mem 69 (by decide +kernel) (by decide +kernel)⟩
theorem cd_X9_secondsPerStepBits : Cond.code yX9_secondsPerStepBits cX9_secondsPerStepBits 1 (some .long) ∈ AL := al_mem 833 (by decide +kernel) (by decide +kernel)
theorem ml_X9_255 : lkV RX9 255 yX9_secondsPerStep := ⟨al_mem 834 (by decide +kernel) (by decide +kernel), al_mem 826 (by decide +kernel) (by decide +kernel), al_mem 827 (by decide +kernel) (by decide +kernel), al_mem 69 (by decide +kernel) (by decide +kernel)⟩
theorem ml_X9_259 : lkS RX9 259 yX9_bitsOfPositive := ⟨al_mem 835 (by decide +kernel) (by decide +kernel), al_mem 836 (by decide +kernel) (by decide +kernel), al_mem 69 (by decide +kernel) (by decide +kernel)⟩
theorem cd_X9_bitsOfPositive : Cond.code yX9_bitsOfPositive cX9_bitsOfPositive 8 (some .long) ∈ AL := al_mem 837 (by decide +kernel) (by decide +kernel)
theorem ml_L_246 : lkV RL 246 yX9_noteCount := ⟨al_mem 841 (by decide +kernel) (by decide +kernel), al_mem 842 (by decide +kernel) (by decide +kernel), al_mem 843 (by decide +kernel) (by decide +kernel), al_mem 69 (by decide +kernel) (by decide +kernel)⟩
theorem cd_X9_noteCount : Cond.code yX9_noteCount cX9_noteCount 1 (some .int) ∈ AL := al_mem 844 (by decide +kernel) (by decide +kernel)
theorem ml_L_250 : lkV RL 250 yX9_squeakCount := ⟨al_mem 845 (by decide +kernel) (by decide +kernel), al_mem 846 (by decide +kernel) (by decide +kernel), al_mem 847 (by decide +kernel) (by decide +kernel), al_mem 69 (by decide +kernel) (by decide +kernel)⟩
theorem cd_X9_squeakCount : Cond.code yX9_squeakCount cX9_squeakCount 1 (some .int) ∈ AL := al_mem 848 (by decide +kernel) (by decide +kernel)
theorem ml_L_254 : lkV RL 254 yX9_stepsPlayed := ⟨al_mem 849 (by decide +kernel) (by decide +kernel), al_mem 850 (by decide +kernel) (by decide +kernel), al_mem 851 (by decide +kernel) (by decide +kernel), al_mem 69 (by decide +kernel) (by decide +kernel)⟩
theorem cd_X9_stepsPlayed : Cond.code yX9_stepsPlayed cX9_stepsPlayed 1 (some .int) ∈ AL := al_mem 852 (by decide +kernel) (by decide +kernel)
theorem ml_L_258 : lkV RL 258 yX9_brokenTeeth := ⟨al_mem 853 (by decide +kernel) (by decide +kernel), al_mem 854 (by decide +kernel) (by decide +kernel), al_mem 855 (by decide +kernel) (by decide +kernel), al_mem 69 (by decide +kernel) (by decide +kernel)⟩
theorem cd_X9_brokenTeeth : Cond.code yX9_brokenTeeth cX9_brokenTeeth 1 (some .int) ∈ AL := al_mem 856 (by decide +kernel) (by decide +kernel)
theorem ml_X9_278 : lkV RX9 278 yX0_brokenCount := ⟨al_mem 857 (by decide +kernel) (by decide +kernel), al_mem 858 (by decide +kernel) (by decide +kernel), al_mem 859 (by decide +kernel) (by decide +kernel), al_mem 74 (by decide +kernel) (by decide +kernel)⟩
theorem cd_X0_brokenCount : Cond.code yX0_brokenCount cX0_brokenCount 3 (some .int) ∈ AL := al_mem 860 (by decide +kernel) (by decide +kernel)
theorem ml_L_269 : lkV RL 269 yX9_contradictions := ⟨al_mem 861 (by decide +kernel) (by decide +kernel), al_mem 862 (by decide +kernel) (by decide +kernel), al_mem 863 (by decide +kernel) (by decide +kernel), al_mem 69 (by decide +kernel) (by decide +kernel)⟩
theorem cd_X9_contradictions : Cond.code yX9_contradictions cX9_contradictions 1 (some .int) ∈ AL := al_mem 864 (by decide +kernel) (by decide +kernel)
theorem ml_X9_284 : lkV RX9 284 yX0_unexplainedWear := ⟨al_mem 865 (by decide +kernel) (by decide +kernel), al_mem 866 (by decide +kernel) (by decide +kernel), al_mem 867 (by decide +kernel) (by decide +kernel), al_mem 74 (by decide +kernel) (by decide +kernel)⟩
theorem cd_X0_unexplainedWear : Cond.code yX0_unexplainedWear cX0_unexplainedWear 3 (some .int) ∈ AL := al_mem 868 (by decide +kernel) (by decide +kernel)
theorem ml_X0_154 : lkS RX0 154 yJ9_abs_0f7a4 := ⟨al_mem 869 (by decide +kernel) (by decide +kernel), al_mem 870 (by decide +kernel) (by decide +kernel), al_mem 71 (by decide +kernel) (by decide +kernel)⟩
theorem cd_J9_abs_0f7a4 : Cond.code yJ9_abs_0f7a4 cJ9_abs_0f7a4 1 (some .int) ∈ AL := al_mem 871 (by decide +kernel) (by decide +kernel)
theorem ml_X9_287 : lkV RX9 287 yX0_brokenTooEarly := ⟨al_mem 872 (by decide +kernel) (by decide +kernel), al_mem 873 (by decide +kernel) (by decide +kernel), al_mem 874 (by decide +kernel) (by decide +kernel), al_mem 74 (by decide +kernel) (by decide +kernel)⟩
theorem cd_X0_brokenTooEarly : Cond.code yX0_brokenTooEarly cX0_brokenTooEarly 3 (some .int) ∈ AL := al_mem 875 (by decide +kernel) (by decide +kernel)
theorem ml_L_273 : lkV RL 273 yX9_stepsLeft := ⟨al_mem 876 (by decide +kernel) (by decide +kernel), al_mem 877 (by decide +kernel) (by decide +kernel), al_mem 878 (by decide +kernel) (by decide +kernel), al_mem 69 (by decide +kernel) (by decide +kernel)⟩
theorem cd_X9_stepsLeft : Cond.code yX9_stepsLeft cX9_stepsLeft 1 (some .int) ∈ AL := al_mem 879 (by decide +kernel) (by decide +kernel)
theorem ml_X9_290 : lkV RX9 290 yX0_playableSteps := ⟨al_mem 880 (by decide +kernel) (by decide +kernel), al_mem 881 (by decide +kernel) (by decide +kernel), al_mem 882 (by decide +kernel) (by decide +kernel), al_mem 74 (by decide +kernel) (by decide +kernel)⟩
theorem cd_X0_playableSteps : Cond.code yX0_playableSteps cX0_playableSteps 1 (some .int) ∈ AL := al_mem 883 (by decide +kernel) (by decide +kernel)
theorem ml_L_325 : lkV RL 325 yX9_writeComb := ⟨al_mem 884 (by decide +kernel) (by decide +kernel), al_mem 885 (by decide +kernel) (by decide +kernel), al_mem 886 (by decide +kernel) (by decide +kernel), al_mem 69 (by decide +kernel) (by decide +kernel)⟩
theorem cd_X9_writeComb : Cond.code yX9_writeComb cX9_writeComb 2 (some .int) ∈ AL := al_mem 887 (by decide +kernel) (by decide +kernel)
theorem ml_X9_238 : lkV RX9 238 yX8_brokenNow := ⟨al_mem 888 (by decide +kernel) (by decide +kernel), al_mem 723 (by decide +kernel) (by decide +kernel), al_mem 724 (by decide +kernel) (by decide +kernel), al_mem 76 (by decide +kernel) (by decide +kernel)⟩
theorem ml_X9_221 : lkV RX9 221 yX8_pitchNow := ⟨al_mem 889 (by decide +kernel) (by decide +kernel), al_mem 890 (by decide +kernel) (by decide +kernel), al_mem 891 (by decide +kernel) (by decide +kernel), al_mem 76 (by decide +kernel) (by decide +kernel)⟩
theorem cd_X8_pitchNow : Cond.code yX8_pitchNow cX8_pitchNow 1 (some .int) ∈ AL := al_mem 892 (by decide +kernel) (by decide +kernel)
theorem ml_X9_346 : lkV RX9 346 yX1_putNumber := ⟨al_mem 893 (by decide +kernel) (by decide +kernel), al_mem 894 (by decide +kernel) (by decide +kernel), al_mem 895 (by decide +kernel) (by decide +kernel), al_mem 70 (by decide +kernel) (by decide +kernel)⟩
theorem cd_X1_putNumber : Cond.code yX1_putNumber cX1_putNumber 3 none ∈ AL := al_mem 896 (by decide +kernel) (by decide +kernel)
theorem ml_X1_25 : lkV RX1 25 yX1_put := ⟨al_mem 897 (by decide +kernel) (by decide +kernel), al_mem 401 (by decide +kernel) (by decide +kernel), al_mem 402 (by decide +kernel) (by decide +kernel), al_mem 70 (by decide +kernel) (by decide +kernel)⟩
theorem ml_L_329 : lkV RL 329 yX9_outputByte := ⟨al_mem 898 (by decide +kernel) (by decide +kernel), al_mem 899 (by decide +kernel) (by decide +kernel), al_mem 900 (by decide +kernel) (by decide +kernel), al_mem 69 (by decide +kernel) (by decide +kernel)⟩
theorem cd_X9_outputByte : Cond.code yX9_outputByte cX9_outputByte 2 (some .int) ∈ AL := al_mem 901 (by decide +kernel) (by decide +kernel)
theorem ml_X9_349 : lkV RX9 349 yX1_at := ⟨al_mem 902 (by decide +kernel) (by decide +kernel), al_mem 417 (by decide +kernel) (by decide +kernel), al_mem 418 (by decide +kernel) (by decide +kernel), al_mem 70 (by decide +kernel) (by decide +kernel)⟩
theorem ml_L_333 : lkV RL 333 yX9_undoCount := ⟨al_mem 903 (by decide +kernel) (by decide +kernel), al_mem 904 (by decide +kernel) (by decide +kernel), al_mem 905 (by decide +kernel) (by decide +kernel), al_mem 69 (by decide +kernel) (by decide +kernel)⟩
theorem cd_X9_undoCount : Cond.code yX9_undoCount cX9_undoCount 1 (some .int) ∈ AL := al_mem 906 (by decide +kernel) (by decide +kernel)
theorem ml_L_138 : lkS RL 138 yL_append := ⟨al_mem 907 (by decide +kernel) (by decide +kernel), al_mem 908 (by decide +kernel) (by decide +kernel), al_mem 68 (by decide +kernel) (by decide +kernel)⟩
theorem cd_L_append : Cond.codeWith yL_append cL_append 8 (some .int) [(0, 16, 19, 13)] ∈ AL := al_mem 909 (by decide +kernel) (by decide +kernel)
theorem ml_L_7 : lkV RL 7 yX9_append := ⟨al_mem 911 (by decide +kernel) (by decide +kernel), al_mem 912 (by decide +kernel) (by decide +kernel), al_mem 913 (by decide +kernel) (by decide +kernel), al_mem 69 (by decide +kernel) (by decide +kernel)⟩
theorem cd_X9_append : Cond.code yX9_append cX9_append 7 (some .int) ∈ AL := al_mem 914 (by decide +kernel) (by decide +kernel)
theorem ml_X9_98 : lkS RX9 98 yX9_bytesIn := ⟨al_mem 915 (by decide +kernel) (by decide +kernel), al_mem 916 (by decide +kernel) (by decide +kernel), al_mem 69 (by decide +kernel) (by decide +kernel)⟩
theorem cd_X9_bytesIn : Cond.code yX9_bytesIn cX9_bytesIn 3 (some .int) ∈ AL := al_mem 917 (by decide +kernel) (by decide +kernel)
theorem ml_X9_112 : lkV RX9 112 yX9_putBytes := ⟨al_mem 986 (by decide +kernel) (by decide +kernel), al_mem 988 (by decide +kernel) (by decide +kernel), al_mem 5 (by decide +kernel) (by decide +kernel), al_mem 69 (by decide +kernel) (by decide +kernel)⟩
theorem cd_X9_putBytes : Cond.code yX9_putBytes cX9_putBytes 4 none ∈ AL := al_mem 989 (by decide +kernel) (by decide +kernel)
theorem ml_L_147 : lkS RL 147 yL_truncate := ⟨al_mem 990 (by decide +kernel) (by decide +kernel), al_mem 991 (by decide +kernel) (by decide +kernel), al_mem 68 (by decide +kernel) (by decide +kernel)⟩
theorem cd_L_truncate : Cond.codeWith yL_truncate cL_truncate 4 (some .int) [(0, 9, 12, 19)] ∈ AL := al_mem 992 (by decide +kernel) (by decide +kernel)
theorem ml_L_15 : lkV RL 15 yX9_truncate := ⟨al_mem 994 (by decide +kernel) (by decide +kernel), al_mem 995 (by decide +kernel) (by decide +kernel), al_mem 996 (by decide +kernel) (by decide +kernel), al_mem 69 (by decide +kernel) (by decide +kernel)⟩
theorem cd_X9_truncate : Cond.code yX9_truncate cX9_truncate 3 (some .int) ∈ AL := al_mem 997 (by decide +kernel) (by decide +kernel)
theorem ml_L_179 : lkS RL 179 yL_isPin := ⟨al_mem 1014 (by decide +kernel) (by decide +kernel), al_mem 1015 (by decide +kernel) (by decide +kernel), al_mem 68 (by decide +kernel) (by decide +kernel)⟩
theorem cd_L_isPin : Cond.codeWith yL_isPin cL_isPin 6 (some .int) [(0, 19, 22, 25)] ∈ AL := al_mem 1016 (by decide +kernel) (by decide +kernel)
theorem ml_L_21 : lkV RL 21 yX9_isPin := ⟨al_mem 1018 (by decide +kernel) (by decide +kernel), al_mem 1019 (by decide +kernel) (by decide +kernel), al_mem 1020 (by decide +kernel) (by decide +kernel), al_mem 69 (by decide +kernel) (by decide +kernel)⟩
theorem cd_X9_isPin : Cond.code yX9_isPin cX9_isPin 4 (some .boolean) ∈ AL := al_mem 1021 (by decide +kernel) (by decide +kernel)
theorem ml_X9_168 : lkV RX9 168 yX0_placeFault := ⟨al_mem 1022 (by decide +kernel) (by decide +kernel), al_mem 690 (by decide +kernel) (by decide +kernel), al_mem 691 (by decide +kernel) (by decide +kernel), al_mem 74 (by decide +kernel) (by decide +kernel)⟩
theorem ml_X9_172 : lkS RX9 172 yX9_refuse := ⟨al_mem 1023 (by decide +kernel) (by decide +kernel), al_mem 1024 (by decide +kernel) (by decide +kernel), al_mem 69 (by decide +kernel) (by decide +kernel)⟩
theorem cd_X9_refuse : Cond.code yX9_refuse cX9_refuse 1 none ∈ AL := al_mem 1025 (by decide +kernel) (by decide +kernel)
theorem ml_X9_175 : lkV RX9 175 yX3_hasPin := ⟨al_mem 1044 (by decide +kernel) (by decide +kernel), al_mem 507 (by decide +kernel) (by decide +kernel), al_mem 508 (by decide +kernel) (by decide +kernel), al_mem 75 (by decide +kernel) (by decide +kernel)⟩
theorem ml_L_183 : lkS RL 183 yL_pinCount := ⟨al_mem 1045 (by decide +kernel) (by decide +kernel), al_mem 1046 (by decide +kernel) (by decide +kernel), al_mem 68 (by decide +kernel) (by decide +kernel)⟩
theorem cd_L_pinCount : Cond.codeWith yL_pinCount cL_pinCount 4 (some .int) [(0, 9, 12, 25)] ∈ AL := al_mem 1047 (by decide +kernel) (by decide +kernel)
theorem ml_L_27 : lkV RL 27 yX9_pinCount := ⟨al_mem 1048 (by decide +kernel) (by decide +kernel), al_mem 1049 (by decide +kernel) (by decide +kernel), al_mem 1050 (by decide +kernel) (by decide +kernel), al_mem 69 (by decide +kernel) (by decide +kernel)⟩
theorem cd_X9_pinCount : Cond.code yX9_pinCount cX9_pinCount 2 (some .int) ∈ AL := al_mem 1051 (by decide +kernel) (by decide +kernel)
theorem ml_X9_179 : lkV RX9 179 yX0_tuneFault := ⟨al_mem 1052 (by decide +kernel) (by decide +kernel), al_mem 694 (by decide +kernel) (by decide +kernel), al_mem 695 (by decide +kernel) (by decide +kernel), al_mem 74 (by decide +kernel) (by decide +kernel)⟩
theorem ml_X9_182 : lkV RX9 182 yX3_pinsOf := ⟨al_mem 1053 (by decide +kernel) (by decide +kernel), al_mem 1054 (by decide +kernel) (by decide +kernel), al_mem 1055 (by decide +kernel) (by decide +kernel), al_mem 75 (by decide +kernel) (by decide +kernel)⟩
theorem cd_X3_pinsOf : Cond.code yX3_pinsOf cX3_pinsOf 4 (some .int) ∈ AL := al_mem 1056 (by decide +kernel) (by decide +kernel)
theorem ml_X3_51 : lkS RX3 51 yJ13_bitCount_95d88 := ⟨al_mem 1057 (by decide +kernel) (by decide +kernel), al_mem 1058 (by decide +kernel) (by decide +kernel), al_mem 94 (by decide +kernel) (by decide +kernel)⟩
theorem cd_J13_bitCount_95d88 : Cond.code yJ13_bitCount_95d88 cJ13_bitCount_95d88 2 (some .int) ∈ AL := al_mem 1059 (by decide +kernel) (by decide +kernel)
theorem ml_L_186 : lkS RL 186 yL_chord := ⟨al_mem 1063 (by decide +kernel) (by decide +kernel), al_mem 1064 (by decide +kernel) (by decide +kernel), al_mem 68 (by decide +kernel) (by decide +kernel)⟩
theorem cd_L_chord : Cond.codeWith yL_chord cL_chord 5 (some .int) [(0, 10, 13, 25)] ∈ AL := al_mem 1065 (by decide +kernel) (by decide +kernel)
theorem ml_L_30 : lkV RL 30 yX9_chord := ⟨al_mem 1066 (by decide +kernel) (by decide +kernel), al_mem 1067 (by decide +kernel) (by decide +kernel), al_mem 1068 (by decide +kernel) (by decide +kernel), al_mem 69 (by decide +kernel) (by decide +kernel)⟩
theorem cd_X9_chord : Cond.code yX9_chord cX9_chord 3 (some .int) ∈ AL := al_mem 1069 (by decide +kernel) (by decide +kernel)
theorem ml_X9_185 : lkV RX9 185 yX0_stepFault := ⟨al_mem 1070 (by decide +kernel) (by decide +kernel), al_mem 702 (by decide +kernel) (by decide +kernel), al_mem 703 (by decide +kernel) (by decide +kernel), al_mem 74 (by decide +kernel) (by decide +kernel)⟩
theorem ml_X9_188 : lkS RX9 188 yJ9_max_7cf53 := ⟨al_mem 1071 (by decide +kernel) (by decide +kernel), al_mem 112 (by decide +kernel) (by decide +kernel), al_mem 71 (by decide +kernel) (by decide +kernel)⟩
theorem ml_X9_194 : lkV RX9 194 yX3_teethAt := ⟨al_mem 1072 (by decide +kernel) (by decide +kernel), al_mem 1073 (by decide +kernel) (by decide +kernel), al_mem 1074 (by decide +kernel) (by decide +kernel), al_mem 75 (by decide +kernel) (by decide +kernel)⟩
theorem cd_X3_teethAt : Cond.code yX3_teethAt cX3_teethAt 5 (some .int) ∈ AL := al_mem 1075 (by decide +kernel) (by decide +kernel)
theorem ml_X3_57 : lkV RX3 57 yX3_hasPin := ⟨al_mem 1076 (by decide +kernel) (by decide +kernel), al_mem 507 (by decide +kernel) (by decide +kernel), al_mem 508 (by decide +kernel) (by decide +kernel), al_mem 75 (by decide +kernel) (by decide +kernel)⟩
theorem ml_L_190 : lkS RL 190 yL_distance := ⟨al_mem 1077 (by decide +kernel) (by decide +kernel), al_mem 1078 (by decide +kernel) (by decide +kernel), al_mem 68 (by decide +kernel) (by decide +kernel)⟩
theorem cd_L_distance : Cond.codeWith yL_distance cL_distance 6 (some .int) [(0, 12, 15, 25), (0, 12, 19, 38)] ∈ AL := al_mem 1079 (by decide +kernel) (by decide +kernel)
theorem ml_L_34 : lkV RL 34 yX9_distance := ⟨al_mem 1081 (by decide +kernel) (by decide +kernel), al_mem 1082 (by decide +kernel) (by decide +kernel), al_mem 1083 (by decide +kernel) (by decide +kernel), al_mem 69 (by decide +kernel) (by decide +kernel)⟩
theorem cd_X9_distance : Cond.code yX9_distance cX9_distance 4 (some .int) ∈ AL := al_mem 1084 (by decide +kernel) (by decide +kernel)
theorem ml_X9_202 : lkV RX9 202 yX3_stepsBack := ⟨al_mem 1101 (by decide +kernel) (by decide +kernel), al_mem 1102 (by decide +kernel) (by decide +kernel), al_mem 1103 (by decide +kernel) (by decide +kernel), al_mem 75 (by decide +kernel) (by decide +kernel)⟩
theorem cd_X3_stepsBack : Cond.code yX3_stepsBack cX3_stepsBack 6 (some .int) ∈ AL := al_mem 1104 (by decide +kernel) (by decide +kernel)
theorem ml_L_193 : lkS RL 193 yL_closePins := ⟨al_mem 1105 (by decide +kernel) (by decide +kernel), al_mem 1106 (by decide +kernel) (by decide +kernel), al_mem 68 (by decide +kernel) (by decide +kernel)⟩
theorem cd_L_closePins : Cond.codeWith yL_closePins cL_closePins 4 (some .int) [(0, 9, 12, 25)] ∈ AL := al_mem 1107 (by decide +kernel) (by decide +kernel)
theorem ml_L_40 : lkV RL 40 yX9_closePins := ⟨al_mem 1108 (by decide +kernel) (by decide +kernel), al_mem 1109 (by decide +kernel) (by decide +kernel), al_mem 1110 (by decide +kernel) (by decide +kernel), al_mem 69 (by decide +kernel) (by decide +kernel)⟩
theorem cd_X9_closePins : Cond.code yX9_closePins cX9_closePins 2 (some .int) ∈ AL := al_mem 1111 (by decide +kernel) (by decide +kernel)
theorem ml_X9_205 : lkV RX9 205 yX0_closePinsOf := ⟨al_mem 1112 (by decide +kernel) (by decide +kernel), al_mem 1113 (by decide +kernel) (by decide +kernel), al_mem 1114 (by decide +kernel) (by decide +kernel), al_mem 74 (by decide +kernel) (by decide +kernel)⟩
theorem cd_X0_closePinsOf : Cond.code yX0_closePinsOf cX0_closePinsOf 5 (some .int) ∈ AL := al_mem 1115 (by decide +kernel) (by decide +kernel)
theorem ml_X0_141 : lkV RX0 141 yX0_closePinAt := ⟨al_mem 1116 (by decide +kernel) (by decide +kernel), al_mem 1117 (by decide +kernel) (by decide +kernel), al_mem 1118 (by decide +kernel) (by decide +kernel), al_mem 74 (by decide +kernel) (by decide +kernel)⟩
theorem cd_X0_closePinAt : Cond.code yX0_closePinAt cX0_closePinAt 4 (some .boolean) ∈ AL := al_mem 1119 (by decide +kernel) (by decide +kernel)
theorem ml_X0_135 : lkV RX0 135 yX3_stepsBack := ⟨al_mem 1120 (by decide +kernel) (by decide +kernel), al_mem 1102 (by decide +kernel) (by decide +kernel), al_mem 1103 (by decide +kernel) (by decide +kernel), al_mem 75 (by decide +kernel) (by decide +kernel)⟩
theorem ml_L_196 : lkS RL 196 yL_longestRest := ⟨al_mem 1121 (by decide +kernel) (by decide +kernel), al_mem 1122 (by decide +kernel) (by decide +kernel), al_mem 68 (by decide +kernel) (by decide +kernel)⟩
theorem cd_L_longestRest : Cond.codeWith yL_longestRest cL_longestRest 4 (some .int) [(0, 9, 12, 25)] ∈ AL := al_mem 1123 (by decide +kernel) (by decide +kernel)
theorem ml_L_43 : lkV RL 43 yX9_longestRest := ⟨al_mem 1124 (by decide +kernel) (by decide +kernel), al_mem 1125 (by decide +kernel) (by decide +kernel), al_mem 1126 (by decide +kernel) (by decide +kernel), al_mem 69 (by decide +kernel) (by decide +kernel)⟩
theorem cd_X9_longestRest : Cond.code yX9_longestRest cX9_longestRest 2 (some .int) ∈ AL := al_mem 1127 (by decide +kernel) (by decide +kernel)
theorem ml_X9_208 : lkV RX9 208 yX3_longestRestOf := ⟨al_mem 1128 (by decide +kernel) (by decide +kernel), al_mem 1129 (by decide +kernel) (by decide +kernel), al_mem 1130 (by decide +kernel) (by decide +kernel), al_mem 75 (by decide +kernel) (by decide +kernel)⟩
theorem cd_X3_longestRestOf : Cond.code yX3_longestRestOf cX3_longestRestOf 6 (some .int) ∈ AL := al_mem 1131 (by decide +kernel) (by decide +kernel)
theorem ml_X3_61 : lkV RX3 61 yX3_teethAt := ⟨al_mem 1132 (by decide +kernel) (by decide +kernel), al_mem 1073 (by decide +kernel) (by decide +kernel), al_mem 1074 (by decide +kernel) (by decide +kernel), al_mem 75 (by decide +kernel) (by decide +kernel)⟩
theorem ml_X3_65 : lkS RX3 65 yJ9_max_7cf53 := ⟨al_mem 1133 (by decide +kernel) (by decide +kernel), al_mem 112 (by decide +kernel) (by decide +kernel), al_mem 71 (by decide +kernel) (by decide +kernel)⟩
theorem ml_X3_70 : lkS RX3 70 yJ9_min_7cf53 := ⟨al_mem 1134 (by decide +kernel) (by decide +kernel), al_mem 433 (by decide +kernel) (by decide +kernel), al_mem 71 (by decide +kernel) (by decide +kernel)⟩
theorem ml_L_203 : lkS RL 203 yL_soundingPitch := ⟨al_mem 1135 (by decide +kernel) (by decide +kernel), al_mem 1136 (by decide +kernel) (by decide +kernel), al_mem 68 (by decide +kernel) (by decide +kernel)⟩
theorem cd_L_soundingPitch : Cond.codeWith yL_soundingPitch cL_soundingPitch 4 (some .int) [(0, 9, 12, 25)] ∈ AL := al_mem 1137 (by decide +kernel) (by decide +kernel)
theorem ml_L_46 : lkV RL 46 yX9_soundingPitch := ⟨al_mem 1138 (by decide +kernel) (by decide +kernel), al_mem 1139 (by decide +kernel) (by decide +kernel), al_mem 1140 (by decide +kernel) (by decide +kernel), al_mem 69 (by decide +kernel) (by decide +kernel)⟩
theorem cd_X9_soundingPitch : Cond.code yX9_soundingPitch cX9_soundingPitch 2 (some .int) ∈ AL := al_mem 1141 (by decide +kernel) (by decide +kernel)
theorem ml_X9_214 : lkV RX9 214 yX0_toothFault := ⟨al_mem 1142 (by decide +kernel) (by decide +kernel), al_mem 698 (by decide +kernel) (by decide +kernel), al_mem 699 (by decide +kernel) (by decide +kernel), al_mem 74 (by decide +kernel) (by decide +kernel)⟩
theorem ml_L_206 : lkS RL 206 yL_bendOf := ⟨al_mem 1143 (by decide +kernel) (by decide +kernel), al_mem 1144 (by decide +kernel) (by decide +kernel), al_mem 68 (by decide +kernel) (by decide +kernel)⟩
theorem cd_L_bendOf : Cond.codeWith yL_bendOf cL_bendOf 4 (some .int) [(0, 9, 12, 25)] ∈ AL := al_mem 1145 (by decide +kernel) (by decide +kernel)
theorem ml_L_49 : lkV RL 49 yX9_bendOf := ⟨al_mem 1146 (by decide +kernel) (by decide +kernel), al_mem 1147 (by decide +kernel) (by decide +kernel), al_mem 1148 (by decide +kernel) (by decide +kernel), al_mem 69 (by decide +kernel) (by decide +kernel)⟩
theorem cd_X9_bendOf : Cond.code yX9_bendOf cX9_bendOf 2 (some .int) ∈ AL := al_mem 1149 (by decide +kernel) (by decide +kernel)
theorem ml_L_209 : lkS RL 209 yL_gap := ⟨al_mem 1150 (by decide +kernel) (by decide +kernel), al_mem 1151 (by decide +kernel) (by decide +kernel), al_mem 68 (by decide +kernel) (by decide +kernel)⟩
theorem cd_L_gap : Cond.codeWith yL_gap cL_gap 4 (some .int) [(0, 9, 12, 25)] ∈ AL := al_mem 1152 (by decide +kernel) (by decide +kernel)
theorem ml_L_52 : lkV RL 52 yX9_gap := ⟨al_mem 1153 (by decide +kernel) (by decide +kernel), al_mem 1154 (by decide +kernel) (by decide +kernel), al_mem 1155 (by decide +kernel) (by decide +kernel), al_mem 69 (by decide +kernel) (by decide +kernel)⟩
theorem cd_X9_gap : Cond.code yX9_gap cX9_gap 2 (some .int) ∈ AL := al_mem 1156 (by decide +kernel) (by decide +kernel)
theorem ml_L_212 : lkS RL 212 yL_wear := ⟨al_mem 1157 (by decide +kernel) (by decide +kernel), al_mem 1158 (by decide +kernel) (by decide +kernel), al_mem 68 (by decide +kernel) (by decide +kernel)⟩
theorem cd_L_wear : Cond.codeWith yL_wear cL_wear 4 (some .int) [(0, 9, 12, 25)] ∈ AL := al_mem 1159 (by decide +kernel) (by decide +kernel)
theorem ml_L_55 : lkV RL 55 yX9_wear := ⟨al_mem 1160 (by decide +kernel) (by decide +kernel), al_mem 1161 (by decide +kernel) (by decide +kernel), al_mem 1162 (by decide +kernel) (by decide +kernel), al_mem 69 (by decide +kernel) (by decide +kernel)⟩
theorem cd_X9_wear : Cond.code yX9_wear cX9_wear 2 (some .int) ∈ AL := al_mem 1163 (by decide +kernel) (by decide +kernel)
theorem ml_L_215 : lkS RL 215 yL_silence := ⟨al_mem 1164 (by decide +kernel) (by decide +kernel), al_mem 1165 (by decide +kernel) (by decide +kernel), al_mem 68 (by decide +kernel) (by decide +kernel)⟩
theorem cd_L_silence : Cond.codeWith yL_silence cL_silence 4 (some .int) [(0, 9, 12, 25)] ∈ AL := al_mem 1166 (by decide +kernel) (by decide +kernel)
theorem ml_L_58 : lkV RL 58 yX9_silence := ⟨al_mem 1167 (by decide +kernel) (by decide +kernel), al_mem 1168 (by decide +kernel) (by decide +kernel), al_mem 1169 (by decide +kernel) (by decide +kernel), al_mem 69 (by decide +kernel) (by decide +kernel)⟩
theorem cd_X9_silence : Cond.code yX9_silence cX9_silence 2 (some .int) ∈ AL := al_mem 1170 (by decide +kernel) (by decide +kernel)
theorem ml_L_218 : lkS RL 218 yL_isBroken := ⟨al_mem 1171 (by decide +kernel) (by decide +kernel), al_mem 1172 (by decide +kernel) (by decide +kernel), al_mem 68 (by decide +kernel) (by decide +kernel)⟩
theorem cd_L_isBroken : Cond.codeWith yL_isBroken cL_isBroken 4 (some .int) [(0, 16, 19, 25)] ∈ AL := al_mem 1173 (by decide +kernel) (by decide +kernel)
theorem ml_L_61 : lkV RL 61 yX9_isBroken := ⟨al_mem 1174 (by decide +kernel) (by decide +kernel), al_mem 1175 (by decide +kernel) (by decide +kernel), al_mem 1176 (by decide +kernel) (by decide +kernel), al_mem 69 (by decide +kernel) (by decide +kernel)⟩
theorem cd_X9_isBroken : Cond.code yX9_isBroken cX9_isBroken 2 (some .boolean) ∈ AL := al_mem 1177 (by decide +kernel) (by decide +kernel)
theorem ml_L_221 : lkS RL 221 yL_nextSound := ⟨al_mem 1178 (by decide +kernel) (by decide +kernel), al_mem 1179 (by decide +kernel) (by decide +kernel), al_mem 68 (by decide +kernel) (by decide +kernel)⟩
theorem cd_L_nextSound : Cond.codeWith yL_nextSound cL_nextSound 4 (some .int) [(0, 9, 12, 25)] ∈ AL := al_mem 1180 (by decide +kernel) (by decide +kernel)
theorem ml_L_65 : lkV RL 65 yX9_nextSound := ⟨al_mem 1181 (by decide +kernel) (by decide +kernel), al_mem 1182 (by decide +kernel) (by decide +kernel), al_mem 1183 (by decide +kernel) (by decide +kernel), al_mem 69 (by decide +kernel) (by decide +kernel)⟩
theorem cd_X9_nextSound : Cond.code yX9_nextSound cX9_nextSound 2 (some .int) ∈ AL := al_mem 1184 (by decide +kernel) (by decide +kernel)
theorem ml_X9_241 : lkV RX9 241 yX0_soundOf := ⟨al_mem 1185 (by decide +kernel) (by decide +kernel), al_mem 765 (by decide +kernel) (by decide +kernel), al_mem 766 (by decide +kernel) (by decide +kernel), al_mem 74 (by decide +kernel) (by decide +kernel)⟩
theorem ml_L_262 : lkS RL 262 yL_meanPitch := ⟨al_mem 1186 (by decide +kernel) (by decide +kernel), al_mem 1187 (by decide +kernel) (by decide +kernel), al_mem 68 (by decide +kernel) (by decide +kernel)⟩
theorem cd_L_meanPitch : Cond.codeWith yL_meanPitch cL_meanPitch 4 (some .int) [(0, 8, 11, 25)] ∈ AL := al_mem 1188 (by decide +kernel) (by decide +kernel)
theorem ml_L_68 : lkV RL 68 yX9_meanPitch := ⟨al_mem 1189 (by decide +kernel) (by decide +kernel), al_mem 1190 (by decide +kernel) (by decide +kernel), al_mem 1191 (by decide +kernel) (by decide +kernel), al_mem 69 (by decide +kernel) (by decide +kernel)⟩
theorem cd_X9_meanPitch : Cond.code yX9_meanPitch cX9_meanPitch 3 (some .double) ∈ AL := al_mem 1192 (by decide +kernel) (by decide +kernel)
theorem ml_X9_281 : lkV RX9 281 yX0_pitchSum := ⟨al_mem 1193 (by decide +kernel) (by decide +kernel), al_mem 1194 (by decide +kernel) (by decide +kernel), al_mem 1195 (by decide +kernel) (by decide +kernel), al_mem 74 (by decide +kernel) (by decide +kernel)⟩
theorem cd_X0_pitchSum : Cond.code yX0_pitchSum cX0_pitchSum 4 (some .int) ∈ AL := al_mem 1196 (by decide +kernel) (by decide +kernel)
theorem ml_X0_91 : lkV RX0 91 yX3_row := ⟨al_mem 1197 (by decide +kernel) (by decide +kernel), al_mem 519 (by decide +kernel) (by decide +kernel), al_mem 520 (by decide +kernel) (by decide +kernel), al_mem 75 (by decide +kernel) (by decide +kernel)⟩
theorem ml_X0_144 : lkS RX0 144 yJ13_bitCount_95d88 := ⟨al_mem 1198 (by decide +kernel) (by decide +kernel), al_mem 1058 (by decide +kernel) (by decide +kernel), al_mem 94 (by decide +kernel) (by decide +kernel)⟩
theorem ml_X0_150 : lkV RX0 150 yX8_pitchNow := ⟨al_mem 1199 (by decide +kernel) (by decide +kernel), al_mem 890 (by decide +kernel) (by decide +kernel), al_mem 891 (by decide +kernel) (by decide +kernel), al_mem 76 (by decide +kernel) (by decide +kernel)⟩
theorem ml_L_266 : lkS RL 266 yL_density := ⟨al_mem 1200 (by decide +kernel) (by decide +kernel), al_mem 1201 (by decide +kernel) (by decide +kernel), al_mem 68 (by decide +kernel) (by decide +kernel)⟩
theorem cd_L_density : Cond.codeWith yL_density cL_density 4 (some .int) [(0, 9, 12, 25)] ∈ AL := al_mem 1202 (by decide +kernel) (by decide +kernel)
theorem ml_L_72 : lkV RL 72 yX9_density := ⟨al_mem 1203 (by decide +kernel) (by decide +kernel), al_mem 1204 (by decide +kernel) (by decide +kernel), al_mem 1205 (by decide +kernel) (by decide +kernel), al_mem 69 (by decide +kernel) (by decide +kernel)⟩
theorem cd_X9_density : Cond.code yX9_density cX9_density 3 (some .float) ∈ AL := al_mem 1206 (by decide +kernel) (by decide +kernel)
theorem ml_L_277 : lkS RL 277 yL_stepsUntilBroken := ⟨al_mem 1207 (by decide +kernel) (by decide +kernel), al_mem 1208 (by decide +kernel) (by decide +kernel), al_mem 68 (by decide +kernel) (by decide +kernel)⟩
theorem cd_L_stepsUntilBroken : Cond.codeWith yL_stepsUntilBroken cL_stepsUntilBroken 4 (some .int) [(0, 9, 12, 25)] ∈ AL := al_mem 1209 (by decide +kernel) (by decide +kernel)
theorem ml_L_76 : lkV RL 76 yX9_stepsUntilBroken := ⟨al_mem 1210 (by decide +kernel) (by decide +kernel), al_mem 1211 (by decide +kernel) (by decide +kernel), al_mem 1212 (by decide +kernel) (by decide +kernel), al_mem 69 (by decide +kernel) (by decide +kernel)⟩
theorem cd_X9_stepsUntilBroken : Cond.code yX9_stepsUntilBroken cX9_stepsUntilBroken 4 (some .int) ∈ AL := al_mem 1213 (by decide +kernel) (by decide +kernel)
theorem ml_X9_293 : lkV RX9 293 yX0_playSteps := ⟨al_mem 1214 (by decide +kernel) (by decide +kernel), al_mem 757 (by decide +kernel) (by decide +kernel), al_mem 758 (by decide +kernel) (by decide +kernel), al_mem 74 (by decide +kernel) (by decide +kernel)⟩
theorem ml_L_280 : lkS RL 280 yL_notesIn := ⟨al_mem 1215 (by decide +kernel) (by decide +kernel), al_mem 1216 (by decide +kernel) (by decide +kernel), al_mem 68 (by decide +kernel) (by decide +kernel)⟩
theorem cd_L_notesIn : Cond.codeWith yL_notesIn cL_notesIn 4 (some .int) [(0, 9, 12, 19)] ∈ AL := al_mem 1217 (by decide +kernel) (by decide +kernel)
theorem ml_L_79 : lkV RL 79 yX9_notesIn := ⟨al_mem 1218 (by decide +kernel) (by decide +kernel), al_mem 1219 (by decide +kernel) (by decide +kernel), al_mem 1220 (by decide +kernel) (by decide +kernel), al_mem 69 (by decide +kernel) (by decide +kernel)⟩
theorem cd_X9_notesIn : Cond.code yX9_notesIn cX9_notesIn 2 (some .int) ∈ AL := al_mem 1221 (by decide +kernel) (by decide +kernel)
theorem ml_X9_296 : lkS RX9 296 yX9_rangeFault := ⟨al_mem 1222 (by decide +kernel) (by decide +kernel), al_mem 716 (by decide +kernel) (by decide +kernel), al_mem 69 (by decide +kernel) (by decide +kernel)⟩
theorem ml_L_283 : lkS RL 283 yL_squeaksIn := ⟨al_mem 1223 (by decide +kernel) (by decide +kernel), al_mem 1224 (by decide +kernel) (by decide +kernel), al_mem 68 (by decide +kernel) (by decide +kernel)⟩
theorem cd_L_squeaksIn : Cond.codeWith yL_squeaksIn cL_squeaksIn 4 (some .int) [(0, 9, 12, 19)] ∈ AL := al_mem 1225 (by decide +kernel) (by decide +kernel)
theorem ml_L_82 : lkV RL 82 yX9_squeaksIn := ⟨al_mem 1226 (by decide +kernel) (by decide +kernel), al_mem 1227 (by decide +kernel) (by decide +kernel), al_mem 1228 (by decide +kernel) (by decide +kernel), al_mem 69 (by decide +kernel) (by decide +kernel)⟩
theorem cd_X9_squeaksIn : Cond.code yX9_squeaksIn cX9_squeaksIn 2 (some .int) ∈ AL := al_mem 1229 (by decide +kernel) (by decide +kernel)
theorem ml_L_286 : lkS RL 286 yL_addPin := ⟨al_mem 1230 (by decide +kernel) (by decide +kernel), al_mem 1231 (by decide +kernel) (by decide +kernel), al_mem 68 (by decide +kernel) (by decide +kernel)⟩
theorem cd_L_addPin : Cond.codeWith yL_addPin cL_addPin 6 (some .int) [(0, 12, 15, 25), (0, 12, 19, 13)] ∈ AL := al_mem 1232 (by decide +kernel) (by decide +kernel)
theorem ml_L_85 : lkV RL 85 yX9_addPin := ⟨al_mem 1233 (by decide +kernel) (by decide +kernel), al_mem 1234 (by decide +kernel) (by decide +kernel), al_mem 1235 (by decide +kernel) (by decide +kernel), al_mem 69 (by decide +kernel) (by decide +kernel)⟩
theorem cd_X9_addPin : Cond.code yX9_addPin cX9_addPin 4 (some .int) ∈ AL := al_mem 1236 (by decide +kernel) (by decide +kernel)
theorem ml_X9_299 : lkV RX9 299 yX0_putPinFault := ⟨al_mem 1237 (by decide +kernel) (by decide +kernel), al_mem 686 (by decide +kernel) (by decide +kernel), al_mem 687 (by decide +kernel) (by decide +kernel), al_mem 74 (by decide +kernel) (by decide +kernel)⟩
theorem ml_X9_302 : lkV RX9 302 yX3_putPin := ⟨al_mem 1238 (by decide +kernel) (by decide +kernel), al_mem 515 (by decide +kernel) (by decide +kernel), al_mem 516 (by decide +kernel) (by decide +kernel), al_mem 75 (by decide +kernel) (by decide +kernel)⟩
theorem ml_L_289 : lkS RL 289 yL_removePin := ⟨al_mem 1239 (by decide +kernel) (by decide +kernel), al_mem 1240 (by decide +kernel) (by decide +kernel), al_mem 68 (by decide +kernel) (by decide +kernel)⟩
theorem cd_L_removePin : Cond.codeWith yL_removePin cL_removePin 6 (some .int) [(0, 12, 15, 25), (0, 12, 19, 13)] ∈ AL := al_mem 1241 (by decide +kernel) (by decide +kernel)
theorem ml_L_88 : lkV RL 88 yX9_removePin := ⟨al_mem 1242 (by decide +kernel) (by decide +kernel), al_mem 1243 (by decide +kernel) (by decide +kernel), al_mem 1244 (by decide +kernel) (by decide +kernel), al_mem 69 (by decide +kernel) (by decide +kernel)⟩
theorem cd_X9_removePin : Cond.code yX9_removePin cX9_removePin 4 (some .int) ∈ AL := al_mem 1245 (by decide +kernel) (by decide +kernel)
theorem ml_X9_306 : lkV RX9 306 yX0_takePinFault := ⟨al_mem 1246 (by decide +kernel) (by decide +kernel), al_mem 708 (by decide +kernel) (by decide +kernel), al_mem 709 (by decide +kernel) (by decide +kernel), al_mem 74 (by decide +kernel) (by decide +kernel)⟩
theorem ml_X9_309 : lkV RX9 309 yX3_takePin := ⟨al_mem 1247 (by decide +kernel) (by decide +kernel), al_mem 743 (by decide +kernel) (by decide +kernel), al_mem 744 (by decide +kernel) (by decide +kernel), al_mem 75 (by decide +kernel) (by decide +kernel)⟩
theorem ml_L_292 : lkS RL 292 yL_shift := ⟨al_mem 1248 (by decide +kernel) (by decide +kernel), al_mem 1249 (by decide +kernel) (by decide +kernel), al_mem 68 (by decide +kernel) (by decide +kernel)⟩
theorem cd_L_shift : Cond.codeWith yL_shift cL_shift 5 (some .int) [(0, 10, 13, 25), (0, 10, 17, 19)] ∈ AL := al_mem 1250 (by decide +kernel) (by decide +kernel)
theorem ml_L_91 : lkV RL 91 yX9_shift := ⟨al_mem 1251 (by decide +kernel) (by decide +kernel), al_mem 1252 (by decide +kernel) (by decide +kernel), al_mem 1253 (by decide +kernel) (by decide +kernel), al_mem 69 (by decide +kernel) (by decide +kernel)⟩
theorem cd_X9_shift : Cond.code yX9_shift cX9_shift 3 (some .int) ∈ AL := al_mem 1254 (by decide +kernel) (by decide +kernel)
theorem ml_X9_312 : lkV RX9 312 yX3_turnPins := ⟨al_mem 1255 (by decide +kernel) (by decide +kernel), al_mem 1256 (by decide +kernel) (by decide +kernel), al_mem 1257 (by decide +kernel) (by decide +kernel), al_mem 75 (by decide +kernel) (by decide +kernel)⟩
theorem cd_X3_turnPins : Cond.code yX3_turnPins cX3_turnPins 5 none ∈ AL := al_mem 1258 (by decide +kernel) (by decide +kernel)
theorem ml_X3_73 : lkS RX3 73 yJ9_floorMod_7cf53 := ⟨al_mem 1259 (by decide +kernel) (by decide +kernel), al_mem 1260 (by decide +kernel) (by decide +kernel), al_mem 71 (by decide +kernel) (by decide +kernel)⟩
theorem cd_J9_floorMod_7cf53 : Cond.code yJ9_floorMod_7cf53 cJ9_floorMod_7cf53 3 (some .int) ∈ AL := al_mem 1261 (by decide +kernel) (by decide +kernel)
theorem ml_X3_76 : lkV RX3 76 yX3_turnedRow := ⟨al_mem 1262 (by decide +kernel) (by decide +kernel), al_mem 1263 (by decide +kernel) (by decide +kernel), al_mem 1264 (by decide +kernel) (by decide +kernel), al_mem 75 (by decide +kernel) (by decide +kernel)⟩
theorem cd_X3_turnedRow : Cond.code yX3_turnedRow cX3_turnedRow 8 (some .long) ∈ AL := al_mem 1265 (by decide +kernel) (by decide +kernel)
theorem ml_L_295 : lkS RL 295 yL_transpose := ⟨al_mem 1266 (by decide +kernel) (by decide +kernel), al_mem 1267 (by decide +kernel) (by decide +kernel), al_mem 68 (by decide +kernel) (by decide +kernel)⟩
theorem cd_L_transpose : Cond.codeWith yL_transpose cL_transpose 5 (some .int) [(0, 10, 13, 25), (0, 10, 17, 19), (0, 10, 21, 13)] ∈ AL := al_mem 1268 (by decide +kernel) (by decide +kernel)
theorem ml_L_94 : lkV RL 94 yX9_transpose := ⟨al_mem 1269 (by decide +kernel) (by decide +kernel), al_mem 1270 (by decide +kernel) (by decide +kernel), al_mem 1271 (by decide +kernel) (by decide +kernel), al_mem 69 (by decide +kernel) (by decide +kernel)⟩
theorem cd_X9_transpose : Cond.code yX9_transpose cX9_transpose 3 (some .int) ∈ AL := al_mem 1272 (by decide +kernel) (by decide +kernel)
theorem ml_X9_316 : lkV RX9 316 yX0_movePinsFault := ⟨al_mem 1273 (by decide +kernel) (by decide +kernel), al_mem 1274 (by decide +kernel) (by decide +kernel), al_mem 1275 (by decide +kernel) (by decide +kernel), al_mem 74 (by decide +kernel) (by decide +kernel)⟩
theorem cd_X0_movePinsFault : Cond.code yX0_movePinsFault cX0_movePinsFault 4 (some .int) ∈ AL := al_mem 1276 (by decide +kernel) (by decide +kernel)
theorem ml_X9_319 : lkV RX9 319 yX3_movePins := ⟨al_mem 1277 (by decide +kernel) (by decide +kernel), al_mem 1278 (by decide +kernel) (by decide +kernel), al_mem 1279 (by decide +kernel) (by decide +kernel), al_mem 75 (by decide +kernel) (by decide +kernel)⟩
theorem cd_X3_movePins : Cond.code yX3_movePins cX3_movePins 5 none ∈ AL := al_mem 1280 (by decide +kernel) (by decide +kernel)
theorem ml_L_298 : lkS RL 298 yL_copyTune := ⟨al_mem 1281 (by decide +kernel) (by decide +kernel), al_mem 1282 (by decide +kernel) (by decide +kernel), al_mem 68 (by decide +kernel) (by decide +kernel)⟩
theorem cd_L_copyTune : Cond.codeWith yL_copyTune cL_copyTune 5 (some .int) [(0, 10, 13, 25), (0, 10, 17, 19)] ∈ AL := al_mem 1283 (by decide +kernel) (by decide +kernel)
theorem ml_L_97 : lkV RL 97 yX9_copyTune := ⟨al_mem 1284 (by decide +kernel) (by decide +kernel), al_mem 1285 (by decide +kernel) (by decide +kernel), al_mem 1286 (by decide +kernel) (by decide +kernel), al_mem 69 (by decide +kernel) (by decide +kernel)⟩
theorem cd_X9_copyTune : Cond.code yX9_copyTune cX9_copyTune 3 (some .int) ∈ AL := al_mem 1287 (by decide +kernel) (by decide +kernel)
theorem ml_X9_322 : lkV RX9 322 yX3_copyPins := ⟨al_mem 1288 (by decide +kernel) (by decide +kernel), al_mem 1289 (by decide +kernel) (by decide +kernel), al_mem 1290 (by decide +kernel) (by decide +kernel), al_mem 75 (by decide +kernel) (by decide +kernel)⟩
theorem cd_X3_copyPins : Cond.code yX3_copyPins cX3_copyPins 4 none ∈ AL := al_mem 1291 (by decide +kernel) (by decide +kernel)
theorem ml_L_301 : lkS RL 301 yL_selectTune := ⟨al_mem 1292 (by decide +kernel) (by decide +kernel), al_mem 1293 (by decide +kernel) (by decide +kernel), al_mem 68 (by decide +kernel) (by decide +kernel)⟩
theorem cd_L_selectTune : Cond.codeWith yL_selectTune cL_selectTune 4 (some .int) [(0, 9, 12, 25)] ∈ AL := al_mem 1294 (by decide +kernel) (by decide +kernel)
theorem ml_L_100 : lkV RL 100 yX9_selectTune := ⟨al_mem 1295 (by decide +kernel) (by decide +kernel), al_mem 1296 (by decide +kernel) (by decide +kernel), al_mem 1297 (by decide +kernel) (by decide +kernel), al_mem 69 (by decide +kernel) (by decide +kernel)⟩
theorem cd_X9_selectTune : Cond.code yX9_selectTune cX9_selectTune 3 (some .int) ∈ AL := al_mem 1298 (by decide +kernel) (by decide +kernel)
theorem ml_L_304 : lkS RL 304 yL_setGap := ⟨al_mem 1299 (by decide +kernel) (by decide +kernel), al_mem 1300 (by decide +kernel) (by decide +kernel), al_mem 68 (by decide +kernel) (by decide +kernel)⟩
theorem cd_L_setGap : Cond.codeWith yL_setGap cL_setGap 5 (some .int) [(0, 10, 13, 25), (0, 10, 17, 19)] ∈ AL := al_mem 1301 (by decide +kernel) (by decide +kernel)
theorem ml_L_103 : lkV RL 103 yX9_setGap := ⟨al_mem 1302 (by decide +kernel) (by decide +kernel), al_mem 1303 (by decide +kernel) (by decide +kernel), al_mem 1304 (by decide +kernel) (by decide +kernel), al_mem 69 (by decide +kernel) (by decide +kernel)⟩
theorem cd_X9_setGap : Cond.code yX9_setGap cX9_setGap 4 (some .int) ∈ AL := al_mem 1305 (by decide +kernel) (by decide +kernel)
theorem ml_X9_325 : lkV RX9 325 yX0_gapFault := ⟨al_mem 1306 (by decide +kernel) (by decide +kernel), al_mem 712 (by decide +kernel) (by decide +kernel), al_mem 713 (by decide +kernel) (by decide +kernel), al_mem 74 (by decide +kernel) (by decide +kernel)⟩
theorem ml_L_307 : lkS RL 307 yL_bend := ⟨al_mem 1307 (by decide +kernel) (by decide +kernel), al_mem 1308 (by decide +kernel) (by decide +kernel), al_mem 68 (by decide +kernel) (by decide +kernel)⟩
theorem cd_L_bend : Cond.codeWith yL_bend cL_bend 5 (some .int) [(0, 10, 13, 25), (0, 10, 17, 19), (0, 10, 21, 13)] ∈ AL := al_mem 1309 (by decide +kernel) (by decide +kernel)
theorem ml_L_106 : lkV RL 106 yX9_bend := ⟨al_mem 1310 (by decide +kernel) (by decide +kernel), al_mem 1311 (by decide +kernel) (by decide +kernel), al_mem 1312 (by decide +kernel) (by decide +kernel), al_mem 69 (by decide +kernel) (by decide +kernel)⟩
theorem cd_X9_bend : Cond.code yX9_bend cX9_bend 3 (some .int) ∈ AL := al_mem 1313 (by decide +kernel) (by decide +kernel)
theorem ml_X9_328 : lkV RX9 328 yX0_bendFault := ⟨al_mem 1314 (by decide +kernel) (by decide +kernel), al_mem 719 (by decide +kernel) (by decide +kernel), al_mem 720 (by decide +kernel) (by decide +kernel), al_mem 74 (by decide +kernel) (by decide +kernel)⟩
theorem ml_X9_331 : lkV RX9 331 yX0_bendTooth := ⟨al_mem 1315 (by decide +kernel) (by decide +kernel), al_mem 748 (by decide +kernel) (by decide +kernel), al_mem 749 (by decide +kernel) (by decide +kernel), al_mem 74 (by decide +kernel) (by decide +kernel)⟩
theorem ml_L_310 : lkS RL 310 yL_replaceTooth := ⟨al_mem 1316 (by decide +kernel) (by decide +kernel), al_mem 1317 (by decide +kernel) (by decide +kernel), al_mem 68 (by decide +kernel) (by decide +kernel)⟩
theorem cd_L_replaceTooth : Cond.codeWith yL_replaceTooth cL_replaceTooth 4 (some .int) [(0, 9, 12, 25)] ∈ AL := al_mem 1318 (by decide +kernel) (by decide +kernel)
theorem ml_L_109 : lkV RL 109 yX9_replaceTooth := ⟨al_mem 1319 (by decide +kernel) (by decide +kernel), al_mem 1320 (by decide +kernel) (by decide +kernel), al_mem 1321 (by decide +kernel) (by decide +kernel), al_mem 69 (by decide +kernel) (by decide +kernel)⟩
theorem cd_X9_replaceTooth : Cond.code yX9_replaceTooth cX9_replaceTooth 3 (some .int) ∈ AL := al_mem 1322 (by decide +kernel) (by decide +kernel)
theorem ml_X9_334 : lkV RX9 334 yX0_mendTooth := ⟨al_mem 1323 (by decide +kernel) (by decide +kernel), al_mem 752 (by decide +kernel) (by decide +kernel), al_mem 753 (by decide +kernel) (by decide +kernel), al_mem 74 (by decide +kernel) (by decide +kernel)⟩
theorem ml_L_313 : lkS RL 313 yL_setVane := ⟨al_mem 1324 (by decide +kernel) (by decide +kernel), al_mem 1325 (by decide +kernel) (by decide +kernel), al_mem 68 (by decide +kernel) (by decide +kernel)⟩
theorem cd_L_setVane : Cond.codeWith yL_setVane cL_setVane 4 (some .int) [(0, 9, 12, 19)] ∈ AL := al_mem 1326 (by decide +kernel) (by decide +kernel)
theorem ml_L_112 : lkV RL 112 yX9_setVane := ⟨al_mem 1327 (by decide +kernel) (by decide +kernel), al_mem 1328 (by decide +kernel) (by decide +kernel), al_mem 1329 (by decide +kernel) (by decide +kernel), al_mem 69 (by decide +kernel) (by decide +kernel)⟩
theorem cd_X9_setVane : Cond.code yX9_setVane cX9_setVane 3 (some .int) ∈ AL := al_mem 1330 (by decide +kernel) (by decide +kernel)
theorem ml_L_316 : lkS RL 316 yL_wind := ⟨al_mem 1331 (by decide +kernel) (by decide +kernel), al_mem 1332 (by decide +kernel) (by decide +kernel), al_mem 68 (by decide +kernel) (by decide +kernel)⟩
theorem cd_L_wind : Cond.codeWith yL_wind cL_wind 4 (some .int) [(0, 9, 12, 19), (0, 9, 15, 13)] ∈ AL := al_mem 1333 (by decide +kernel) (by decide +kernel)
theorem ml_L_115 : lkV RL 115 yX9_wind := ⟨al_mem 1334 (by decide +kernel) (by decide +kernel), al_mem 1335 (by decide +kernel) (by decide +kernel), al_mem 1336 (by decide +kernel) (by decide +kernel), al_mem 69 (by decide +kernel) (by decide +kernel)⟩
theorem cd_X9_wind : Cond.code yX9_wind cX9_wind 2 (some .int) ∈ AL := al_mem 1337 (by decide +kernel) (by decide +kernel)
theorem ml_X9_337 : lkV RX9 337 yX0_windFault := ⟨al_mem 1338 (by decide +kernel) (by decide +kernel), al_mem 729 (by decide +kernel) (by decide +kernel), al_mem 730 (by decide +kernel) (by decide +kernel), al_mem 74 (by decide +kernel) (by decide +kernel)⟩
theorem ml_L_319 : lkS RL 319 yL_play := ⟨al_mem 1339 (by decide +kernel) (by decide +kernel), al_mem 1340 (by decide +kernel) (by decide +kernel), al_mem 68 (by decide +kernel) (by decide +kernel)⟩
theorem cd_L_play : Cond.codeWith yL_play cL_play 4 (some .int) [(0, 9, 12, 19), (0, 9, 15, 13)] ∈ AL := al_mem 1341 (by decide +kernel) (by decide +kernel)
theorem ml_L_118 : lkV RL 118 yX9_play := ⟨al_mem 1342 (by decide +kernel) (by decide +kernel), al_mem 1343 (by decide +kernel) (by decide +kernel), al_mem 1344 (by decide +kernel) (by decide +kernel), al_mem 69 (by decide +kernel) (by decide +kernel)⟩
theorem cd_X9_play : Cond.code yX9_play cX9_play 2 (some .int) ∈ AL := al_mem 1345 (by decide +kernel) (by decide +kernel)
theorem ml_X9_340 : lkV RX9 340 yX0_playFault := ⟨al_mem 1346 (by decide +kernel) (by decide +kernel), al_mem 734 (by decide +kernel) (by decide +kernel), al_mem 735 (by decide +kernel) (by decide +kernel), al_mem 74 (by decide +kernel) (by decide +kernel)⟩
theorem ml_L_322 : lkS RL 322 yL_writePins := ⟨al_mem 1347 (by decide +kernel) (by decide +kernel), al_mem 1348 (by decide +kernel) (by decide +kernel), al_mem 68 (by decide +kernel) (by decide +kernel)⟩
theorem cd_L_writePins : Cond.codeWith yL_writePins cL_writePins 5 (some .int) [(0, 10, 13, 25)] ∈ AL := al_mem 1349 (by decide +kernel) (by decide +kernel)
theorem ml_L_121 : lkV RL 121 yX9_writePins := ⟨al_mem 1350 (by decide +kernel) (by decide +kernel), al_mem 1351 (by decide +kernel) (by decide +kernel), al_mem 1352 (by decide +kernel) (by decide +kernel), al_mem 69 (by decide +kernel) (by decide +kernel)⟩
theorem cd_X9_writePins : Cond.code yX9_writePins cX9_writePins 4 (some .int) ∈ AL := al_mem 1353 (by decide +kernel) (by decide +kernel)
theorem ml_X9_343 : lkV RX9 343 yX0_closePinAt := ⟨al_mem 1354 (by decide +kernel) (by decide +kernel), al_mem 1117 (by decide +kernel) (by decide +kernel), al_mem 1118 (by decide +kernel) (by decide +kernel), al_mem 74 (by decide +kernel) (by decide +kernel)⟩
theorem ml_L_337 : lkS RL 337 yL_undo := ⟨al_mem 1355 (by decide +kernel) (by decide +kernel), al_mem 1356 (by decide +kernel) (by decide +kernel), al_mem 68 (by decide +kernel) (by decide +kernel)⟩
theorem cd_L_undo : Cond.codeWith yL_undo cL_undo 3 (some .int) [(0, 8, 11, 13)] ∈ AL := al_mem 1357 (by decide +kernel) (by decide +kernel)
theorem ml_L_124 : lkV RL 124 yX9_undo := ⟨al_mem 1358 (by decide +kernel) (by decide +kernel), al_mem 1359 (by decide +kernel) (by decide +kernel), al_mem 1360 (by decide +kernel) (by decide +kernel), al_mem 69 (by decide +kernel) (by decide +kernel)⟩
theorem cd_X9_undo : Cond.code yX9_undo cX9_undo 1 (some .int) ∈ AL := al_mem 1361 (by decide +kernel) (by decide +kernel)
theorem ml_X9_355 : lkV RX9 355 yX2_takeBack := ⟨al_mem 1362 (by decide +kernel) (by decide +kernel), al_mem 1363 (by decide +kernel) (by decide +kernel), al_mem 1364 (by decide +kernel) (by decide +kernel), al_mem 79 (by decide +kernel) (by decide +kernel)⟩
theorem cd_X2_takeBack : Cond.code yX2_takeBack cX2_takeBack 2 none ∈ AL := al_mem 1365 (by decide +kernel) (by decide +kernel)
theorem ml_L_341 : lkS RL 341 yL_save := ⟨al_mem 1366 (by decide +kernel) (by decide +kernel), al_mem 1367 (by decide +kernel) (by decide +kernel), al_mem 68 (by decide +kernel) (by decide +kernel)⟩
theorem cd_L_save : Cond.codeWith yL_save cL_save 4 (some .int) [(0, 9, 12, 25)] ∈ AL := al_mem 1368 (by decide +kernel) (by decide +kernel)
theorem ml_L_128 : lkV RL 128 yX9_save := ⟨al_mem 1369 (by decide +kernel) (by decide +kernel), al_mem 1370 (by decide +kernel) (by decide +kernel), al_mem 1371 (by decide +kernel) (by decide +kernel), al_mem 69 (by decide +kernel) (by decide +kernel)⟩
theorem cd_X9_save : Cond.code yX9_save cX9_save 2 (some .int) ∈ AL := al_mem 1372 (by decide +kernel) (by decide +kernel)
theorem ml_X9_358 : lkS RX9 358 yX9_slotFault := ⟨al_mem 1373 (by decide +kernel) (by decide +kernel), al_mem 1374 (by decide +kernel) (by decide +kernel), al_mem 69 (by decide +kernel) (by decide +kernel)⟩
theorem cd_X9_slotFault : Cond.code yX9_slotFault cX9_slotFault 1 (some .int) ∈ AL := al_mem 1375 (by decide +kernel) (by decide +kernel)
theorem ml_L_344 : lkS RL 344 yL_restore := ⟨al_mem 1376 (by decide +kernel) (by decide +kernel), al_mem 1377 (by decide +kernel) (by decide +kernel), al_mem 68 (by decide +kernel) (by decide +kernel)⟩
theorem cd_L_restore : Cond.codeWith yL_restore cL_restore 4 (some .int) [(0, 9, 12, 25), (0, 9, 15, 38)] ∈ AL := al_mem 1378 (by decide +kernel) (by decide +kernel)
theorem ml_L_131 : lkV RL 131 yX9_restore := ⟨al_mem 1379 (by decide +kernel) (by decide +kernel), al_mem 1380 (by decide +kernel) (by decide +kernel), al_mem 1381 (by decide +kernel) (by decide +kernel), al_mem 69 (by decide +kernel) (by decide +kernel)⟩
theorem cd_X9_restore : Cond.code yX9_restore cX9_restore 2 (some .int) ∈ AL := al_mem 1382 (by decide +kernel) (by decide +kernel)
theorem ml_L_137 : lkI RL 137 yX10_init := ⟨al_mem 1386 (by decide +kernel) (by decide +kernel), al_mem 1387 (by decide +kernel) (by decide +kernel), al_mem 86 (by decide +kernel) (by decide +kernel)⟩
theorem cd_X10_init : Cond.code yX10_init cX10_init 1 none ∈ AL := al_mem 1388 (by decide +kernel) (by decide +kernel)
theorem ml_X10_56 : lkV RX10 56 yX10_takesText := ⟨al_mem 1391 (by decide +kernel) (by decide +kernel), al_mem 1393 (by decide +kernel) (by decide +kernel), al_mem 6 (by decide +kernel) (by decide +kernel), al_mem 86 (by decide +kernel) (by decide +kernel)⟩
theorem cd_X10_takesText : Cond.code yX10_takesText cX10_takesText 3 none ∈ AL := al_mem 1394 (by decide +kernel) (by decide +kernel)
theorem ml_X10_60 : lkV RX10 60 yJ0_length_8abf5 := ⟨al_mem 1395 (by decide +kernel) (by decide +kernel), al_mem 353 (by decide +kernel) (by decide +kernel), al_mem 354 (by decide +kernel) (by decide +kernel), al_mem 80 (by decide +kernel) (by decide +kernel)⟩
theorem ml_X10_66 : lkV RX10 66 yJ0_charAt_5068e := ⟨al_mem 1396 (by decide +kernel) (by decide +kernel), al_mem 363 (by decide +kernel) (by decide +kernel), al_mem 364 (by decide +kernel) (by decide +kernel), al_mem 80 (by decide +kernel) (by decide +kernel)⟩
theorem ml_X10_73 : lkV RX10 73 yX10_starts := ⟨al_mem 1397 (by decide +kernel) (by decide +kernel), al_mem 1399 (by decide +kernel) (by decide +kernel), al_mem 7 (by decide +kernel) (by decide +kernel), al_mem 86 (by decide +kernel) (by decide +kernel)⟩
theorem cd_X10_starts : Cond.code yX10_starts cX10_starts 1 none ∈ AL := al_mem 1400 (by decide +kernel) (by decide +kernel)
theorem ml_X10_155 : lkV RX10 155 yX10_reads := ⟨al_mem 1401 (by decide +kernel) (by decide +kernel), al_mem 1403 (by decide +kernel) (by decide +kernel), al_mem 8 (by decide +kernel) (by decide +kernel), al_mem 86 (by decide +kernel) (by decide +kernel)⟩
theorem cd_X10_reads : Cond.code yX10_reads cX10_reads 2 none ∈ AL := al_mem 1404 (by decide +kernel) (by decide +kernel)
theorem ml_X10_137 : lkV RX10 137 yX10_seen := ⟨al_mem 1405 (by decide +kernel) (by decide +kernel), al_mem 1407 (by decide +kernel) (by decide +kernel), al_mem 9 (by decide +kernel) (by decide +kernel), al_mem 86 (by decide +kernel) (by decide +kernel)⟩
theorem cd_X10_seen : Cond.code yX10_seen cX10_seen 2 (some .int) ∈ AL := al_mem 1408 (by decide +kernel) (by decide +kernel)
theorem ml_X10_82 : lkS RX10 82 yX10_in := ⟨al_mem 1409 (by decide +kernel) (by decide +kernel), al_mem 1410 (by decide +kernel) (by decide +kernel), al_mem 86 (by decide +kernel) (by decide +kernel)⟩
theorem cd_X10_in : Cond.code yX10_in cX10_in 3 (some .boolean) ∈ AL := al_mem 1411 (by decide +kernel) (by decide +kernel)
theorem ml_X10_116 : lkS RX10 116 yJ9_min_7cf53 := ⟨al_mem 1412 (by decide +kernel) (by decide +kernel), al_mem 433 (by decide +kernel) (by decide +kernel), al_mem 71 (by decide +kernel) (by decide +kernel)⟩
theorem ml_X10_76 : lkV RX10 76 yX10_readsSetup := ⟨al_mem 1413 (by decide +kernel) (by decide +kernel), al_mem 1415 (by decide +kernel) (by decide +kernel), al_mem 10 (by decide +kernel) (by decide +kernel), al_mem 86 (by decide +kernel) (by decide +kernel)⟩
theorem cd_X10_readsSetup : Cond.code yX10_readsSetup cX10_readsSetup 1 none ∈ AL := al_mem 1416 (by decide +kernel) (by decide +kernel)
theorem ml_X10_173 : lkV RX10 173 yX10_isWord := ⟨al_mem 1418 (by decide +kernel) (by decide +kernel), al_mem 1420 (by decide +kernel) (by decide +kernel), al_mem 11 (by decide +kernel) (by decide +kernel), al_mem 86 (by decide +kernel) (by decide +kernel)⟩
theorem cd_X10_isWord : Cond.code yX10_isWord cX10_isWord 3 (some .boolean) ∈ AL := al_mem 1421 (by decide +kernel) (by decide +kernel)
theorem ml_X10_161 : lkV RX10 161 yX10_must := ⟨al_mem 1422 (by decide +kernel) (by decide +kernel), al_mem 1424 (by decide +kernel) (by decide +kernel), al_mem 12 (by decide +kernel) (by decide +kernel), al_mem 86 (by decide +kernel) (by decide +kernel)⟩
theorem cd_X10_must : Cond.code yX10_must cX10_must 3 (some .boolean) ∈ AL := al_mem 1425 (by decide +kernel) (by decide +kernel)
theorem ml_X10_164 : lkV RX10 164 yX10_goesOn := ⟨al_mem 1426 (by decide +kernel) (by decide +kernel), al_mem 1428 (by decide +kernel) (by decide +kernel), al_mem 13 (by decide +kernel) (by decide +kernel), al_mem 86 (by decide +kernel) (by decide +kernel)⟩
theorem cd_X10_goesOn : Cond.code yX10_goesOn cX10_goesOn 1 none ∈ AL := al_mem 1429 (by decide +kernel) (by decide +kernel)
theorem ml_X10_177 : lkV RX10 177 yX10_number := ⟨al_mem 1430 (by decide +kernel) (by decide +kernel), al_mem 1432 (by decide +kernel) (by decide +kernel), al_mem 14 (by decide +kernel) (by decide +kernel), al_mem 86 (by decide +kernel) (by decide +kernel)⟩
theorem cd_X10_number : Cond.code yX10_number cX10_number 5 (some .int) ∈ AL := al_mem 1433 (by decide +kernel) (by decide +kernel)
theorem ml_X10_167 : lkV RX10 167 yX10_looksAt := ⟨al_mem 1434 (by decide +kernel) (by decide +kernel), al_mem 1436 (by decide +kernel) (by decide +kernel), al_mem 15 (by decide +kernel) (by decide +kernel), al_mem 86 (by decide +kernel) (by decide +kernel)⟩
theorem cd_X10_looksAt : Cond.code yX10_looksAt cX10_looksAt 3 (some .boolean) ∈ AL := al_mem 1437 (by decide +kernel) (by decide +kernel)
theorem ml_X10_180 : lkV RX10 180 yX10_takesSign := ⟨al_mem 1438 (by decide +kernel) (by decide +kernel), al_mem 1440 (by decide +kernel) (by decide +kernel), al_mem 16 (by decide +kernel) (by decide +kernel), al_mem 86 (by decide +kernel) (by decide +kernel)⟩
theorem cd_X10_takesSign : Cond.code yX10_takesSign cX10_takesSign 2 none ∈ AL := al_mem 1441 (by decide +kernel) (by decide +kernel)
theorem ml_X10_158 : lkV RX10 158 yX10_isSign := ⟨al_mem 1442 (by decide +kernel) (by decide +kernel), al_mem 1444 (by decide +kernel) (by decide +kernel), al_mem 17 (by decide +kernel) (by decide +kernel), al_mem 86 (by decide +kernel) (by decide +kernel)⟩
theorem cd_X10_isSign : Cond.code yX10_isSign cX10_isSign 2 (some .boolean) ∈ AL := al_mem 1445 (by decide +kernel) (by decide +kernel)
theorem ml_X10_190 : lkV RX10 190 yX10_readsTooth := ⟨al_mem 1446 (by decide +kernel) (by decide +kernel), al_mem 1448 (by decide +kernel) (by decide +kernel), al_mem 18 (by decide +kernel) (by decide +kernel), al_mem 86 (by decide +kernel) (by decide +kernel)⟩
theorem cd_X10_readsTooth : Cond.code yX10_readsTooth cX10_readsTooth 5 none ∈ AL := al_mem 1449 (by decide +kernel) (by decide +kernel)
theorem ml_X10_108 : lkV RX10 108 yX10_puts := ⟨al_mem 1451 (by decide +kernel) (by decide +kernel), al_mem 1453 (by decide +kernel) (by decide +kernel), al_mem 19 (by decide +kernel) (by decide +kernel), al_mem 86 (by decide +kernel) (by decide +kernel)⟩
theorem cd_X10_puts : Cond.code yX10_puts cX10_puts 4 none ∈ AL := al_mem 1454 (by decide +kernel) (by decide +kernel)
theorem ml_X10_193 : lkV RX10 193 yX10_readsPin := ⟨al_mem 1455 (by decide +kernel) (by decide +kernel), al_mem 1457 (by decide +kernel) (by decide +kernel), al_mem 20 (by decide +kernel) (by decide +kernel), al_mem 86 (by decide +kernel) (by decide +kernel)⟩
theorem cd_X10_readsPin : Cond.code yX10_readsPin cX10_readsPin 4 none ∈ AL := al_mem 1458 (by decide +kernel) (by decide +kernel)
theorem ml_X10_93 : lkV RX10 93 yX10_has := ⟨al_mem 1460 (by decide +kernel) (by decide +kernel), al_mem 1462 (by decide +kernel) (by decide +kernel), al_mem 21 (by decide +kernel) (by decide +kernel), al_mem 86 (by decide +kernel) (by decide +kernel)⟩
theorem cd_X10_has : Cond.code yX10_has cX10_has 4 (some .boolean) ∈ AL := al_mem 1463 (by decide +kernel) (by decide +kernel)
theorem ml_X10_86 : lkV RX10 86 yX10_set := ⟨al_mem 1464 (by decide +kernel) (by decide +kernel), al_mem 1466 (by decide +kernel) (by decide +kernel), al_mem 22 (by decide +kernel) (by decide +kernel), al_mem 86 (by decide +kernel) (by decide +kernel)⟩
theorem cd_X10_set : Cond.code yX10_set cX10_set 3 (some .int) ∈ AL := al_mem 1467 (by decide +kernel) (by decide +kernel)
theorem ml_X10_185 : lkV RX10 185 yX10_putSet := ⟨al_mem 1468 (by decide +kernel) (by decide +kernel), al_mem 1470 (by decide +kernel) (by decide +kernel), al_mem 23 (by decide +kernel) (by decide +kernel), al_mem 86 (by decide +kernel) (by decide +kernel)⟩
theorem cd_X10_putSet : Cond.code yX10_putSet cX10_putSet 4 none ∈ AL := al_mem 1471 (by decide +kernel) (by decide +kernel)
theorem fl_X10_7 : lkF RX10 7 10 0 := al_mem 1472 (by decide +kernel) (by decide +kernel)
theorem fl_X10_13 : lkF RX10 13 10 1 := al_mem 1473 (by decide +kernel) (by decide +kernel)
theorem fl_X10_16 : lkF RX10 16 10 2 := al_mem 1474 (by decide +kernel) (by decide +kernel)
theorem fl_X10_19 : lkF RX10 19 10 3 := al_mem 1475 (by decide +kernel) (by decide +kernel)
theorem fl_X10_22 : lkF RX10 22 10 4 := al_mem 1476 (by decide +kernel) (by decide +kernel)
theorem fl_X10_25 : lkF RX10 25 10 5 := al_mem 1477 (by decide +kernel) (by decide +kernel)
theorem fl_X10_28 : lkF RX10 28 10 6 := al_mem 1478 (by decide +kernel) (by decide +kernel)
theorem fl_X10_200 : lkF RX10 200 10 7 := al_mem 1479 (by decide +kernel) (by decide +kernel)
theorem fl_X10_79 : lkF RX10 79 10 8 := al_mem 1480 (by decide +kernel) (by decide +kernel)
theorem fl_X10_32 : lkF RX10 32 10 9 := al_mem 1481 (by decide +kernel) (by decide +kernel)
theorem fl_X10_70 : lkF RX10 70 10 10 := al_mem 1482 (by decide +kernel) (by decide +kernel)
theorem fl_X10_131 : lkF RX10 131 10 11 := al_mem 1483 (by decide +kernel) (by decide +kernel)
theorem fl_X10_35 : lkF RX10 35 10 12 := al_mem 1484 (by decide +kernel) (by decide +kernel)
theorem fl_X10_134 : lkF RX10 134 10 13 := al_mem 1485 (by decide +kernel) (by decide +kernel)
theorem fl_X10_140 : lkF RX10 140 10 14 := al_mem 1486 (by decide +kernel) (by decide +kernel)
theorem fl_X10_143 : lkF RX10 143 10 15 := al_mem 1487 (by decide +kernel) (by decide +kernel)
theorem fl_X10_146 : lkF RX10 146 10 16 := al_mem 1488 (by decide +kernel) (by decide +kernel)
theorem fl_X10_149 : lkF RX10 149 10 17 := al_mem 1489 (by decide +kernel) (by decide +kernel)
theorem fl_X10_152 : lkF RX10 152 10 18 := al_mem 1490 (by decide +kernel) (by decide +kernel)
theorem fl_X10_39 : lkF RX10 39 10 19 := al_mem 1491 (by decide +kernel) (by decide +kernel)
theorem fl_X10_42 : lkF RX10 42 10 20 := al_mem 1492 (by decide +kernel) (by decide +kernel)
theorem fl_X10_45 : lkF RX10 45 10 21 := al_mem 1493 (by decide +kernel) (by decide +kernel)
theorem fl_X10_48 : lkF RX10 48 10 22 := al_mem 1494 (by decide +kernel) (by decide +kernel)
theorem fl_X10_224 : lkF RX10 224 10 23 := al_mem 1495 (by decide +kernel) (by decide +kernel)
theorem fl_X10_275 : lkF RX10 275 10 24 := al_mem 1496 (by decide +kernel) (by decide +kernel)
theorem fl_X10_284 : lkF RX10 284 10 25 := al_mem 1497 (by decide +kernel) (by decide +kernel)
theorem fl_X10_51 : lkF RX10 51 10 26 := al_mem 1498 (by decide +kernel) (by decide +kernel)
theorem fl_X10_350 : lkF RX10 350 10 27 := al_mem 1499 (by decide +kernel) (by decide +kernel)
theorem ml_L_144 : lkV RL 144 yX10_thrown := ⟨al_mem 1557 (by decide +kernel) (by decide +kernel), al_mem 1558 (by decide +kernel) (by decide +kernel), al_mem 1559 (by decide +kernel) (by decide +kernel), al_mem 86 (by decide +kernel) (by decide +kernel)⟩
theorem cd_X10_thrown : Cond.code yX10_thrown cX10_thrown 1 (some .int) ∈ AL := al_mem 1560 (by decide +kernel) (by decide +kernel)
theorem ml_L_143 : lkV RL 143 yX10_append := ⟨al_mem 1561 (by decide +kernel) (by decide +kernel), al_mem 1562 (by decide +kernel) (by decide +kernel), al_mem 1563 (by decide +kernel) (by decide +kernel), al_mem 86 (by decide +kernel) (by decide +kernel)⟩
theorem cd_X10_append : Cond.code yX10_append cX10_append 7 (some .int) ∈ AL := al_mem 1564 (by decide +kernel) (by decide +kernel)
theorem ml_X10_124 : lkV RX10 124 yX10_feeds := ⟨al_mem 1565 (by decide +kernel) (by decide +kernel), al_mem 1567 (by decide +kernel) (by decide +kernel), al_mem 24 (by decide +kernel) (by decide +kernel), al_mem 86 (by decide +kernel) (by decide +kernel)⟩
theorem cd_X10_feeds : Cond.code yX10_feeds cX10_feeds 4 none ∈ AL := al_mem 1568 (by decide +kernel) (by decide +kernel)
theorem ml_X10_127 : lkV RX10 127 yX10_right := ⟨al_mem 1569 (by decide +kernel) (by decide +kernel), al_mem 1571 (by decide +kernel) (by decide +kernel), al_mem 25 (by decide +kernel) (by decide +kernel), al_mem 86 (by decide +kernel) (by decide +kernel)⟩
theorem cd_X10_right : Cond.code yX10_right cX10_right 3 (some .boolean) ∈ AL := al_mem 1572 (by decide +kernel) (by decide +kernel)
theorem ml_L_150 : lkV RL 150 yX10_truncate := ⟨al_mem 1573 (by decide +kernel) (by decide +kernel), al_mem 1574 (by decide +kernel) (by decide +kernel), al_mem 1575 (by decide +kernel) (by decide +kernel), al_mem 86 (by decide +kernel) (by decide +kernel)⟩
theorem cd_X10_truncate : Cond.code yX10_truncate cX10_truncate 3 (some .int) ∈ AL := al_mem 1576 (by decide +kernel) (by decide +kernel)
theorem ml_L_162 : lkV RL 162 yX10_errorCode := ⟨al_mem 1577 (by decide +kernel) (by decide +kernel), al_mem 1578 (by decide +kernel) (by decide +kernel), al_mem 1579 (by decide +kernel) (by decide +kernel), al_mem 86 (by decide +kernel) (by decide +kernel)⟩
theorem cd_X10_errorCode : Cond.code yX10_errorCode cX10_errorCode 1 (some .int) ∈ AL := al_mem 1580 (by decide +kernel) (by decide +kernel)
theorem ml_L_166 : lkV RL 166 yX10_errorPosition := ⟨al_mem 1581 (by decide +kernel) (by decide +kernel), al_mem 1582 (by decide +kernel) (by decide +kernel), al_mem 1583 (by decide +kernel) (by decide +kernel), al_mem 86 (by decide +kernel) (by decide +kernel)⟩
theorem cd_X10_errorPosition : Cond.code yX10_errorPosition cX10_errorPosition 1 (some .int) ∈ AL := al_mem 1584 (by decide +kernel) (by decide +kernel)
theorem ml_L_154 : lkV RL 154 yX10_load := ⟨al_mem 1585 (by decide +kernel) (by decide +kernel), al_mem 1586 (by decide +kernel) (by decide +kernel), al_mem 1587 (by decide +kernel) (by decide +kernel), al_mem 86 (by decide +kernel) (by decide +kernel)⟩
theorem cd_X10_load : Cond.code yX10_load cX10_load 2 (some .int) ∈ AL := al_mem 1588 (by decide +kernel) (by decide +kernel)
theorem ml_X10_196 : lkV RX10 196 yX10_isWhole := ⟨al_mem 1589 (by decide +kernel) (by decide +kernel), al_mem 1591 (by decide +kernel) (by decide +kernel), al_mem 26 (by decide +kernel) (by decide +kernel), al_mem 86 (by decide +kernel) (by decide +kernel)⟩
theorem cd_X10_isWhole : Cond.code yX10_isWhole cX10_isWhole 1 (some .boolean) ∈ AL := al_mem 1592 (by decide +kernel) (by decide +kernel)
theorem ml_L_158 : lkV RL 158 yX10_runScript := ⟨al_mem 1593 (by decide +kernel) (by decide +kernel), al_mem 1594 (by decide +kernel) (by decide +kernel), al_mem 1595 (by decide +kernel) (by decide +kernel), al_mem 86 (by decide +kernel) (by decide +kernel)⟩
theorem cd_X10_runScript : Cond.code yX10_runScript cX10_runScript 2 (some .int) ∈ AL := al_mem 1596 (by decide +kernel) (by decide +kernel)
theorem ml_X10_221 : lkV RX10 221 yX10_readsCommands := ⟨al_mem 1597 (by decide +kernel) (by decide +kernel), al_mem 1599 (by decide +kernel) (by decide +kernel), al_mem 27 (by decide +kernel) (by decide +kernel), al_mem 86 (by decide +kernel) (by decide +kernel)⟩
theorem cd_X10_readsCommands : Cond.code yX10_readsCommands cX10_readsCommands 2 none ∈ AL := al_mem 1600 (by decide +kernel) (by decide +kernel)
theorem ml_X10_244 : lkV RX10 244 yX10_readsCommand := ⟨al_mem 1601 (by decide +kernel) (by decide +kernel), al_mem 1603 (by decide +kernel) (by decide +kernel), al_mem 28 (by decide +kernel) (by decide +kernel), al_mem 86 (by decide +kernel) (by decide +kernel)⟩
theorem cd_X10_readsCommand : Cond.code yX10_readsCommand cX10_readsCommand 4 none ∈ AL := al_mem 1604 (by decide +kernel) (by decide +kernel)
theorem ml_X10_234 : lkV RX10 234 yX10_commandHere := ⟨al_mem 1605 (by decide +kernel) (by decide +kernel), al_mem 1607 (by decide +kernel) (by decide +kernel), al_mem 29 (by decide +kernel) (by decide +kernel), al_mem 86 (by decide +kernel) (by decide +kernel)⟩
theorem cd_X10_commandHere : Cond.code yX10_commandHere cX10_commandHere 1 (some .int) ∈ AL := al_mem 1608 (by decide +kernel) (by decide +kernel)
theorem ml_X10_237 : lkV RX10 237 yX10_readsRepeat := ⟨al_mem 1618 (by decide +kernel) (by decide +kernel), al_mem 1620 (by decide +kernel) (by decide +kernel), al_mem 30 (by decide +kernel) (by decide +kernel), al_mem 86 (by decide +kernel) (by decide +kernel)⟩
theorem cd_X10_readsRepeat : Cond.code yX10_readsRepeat cX10_readsRepeat 3 none ∈ AL := al_mem 1621 (by decide +kernel) (by decide +kernel)
theorem ml_X10_241 : lkV RX10 241 yX10_readsSingle := ⟨al_mem 1622 (by decide +kernel) (by decide +kernel), al_mem 1624 (by decide +kernel) (by decide +kernel), al_mem 31 (by decide +kernel) (by decide +kernel), al_mem 86 (by decide +kernel) (by decide +kernel)⟩
theorem cd_X10_readsSingle : Cond.code yX10_readsSingle cX10_readsSingle 2 none ∈ AL := al_mem 1625 (by decide +kernel) (by decide +kernel)
theorem ml_X10_231 : lkV RX10 231 yX10_takesDirection := ⟨al_mem 1626 (by decide +kernel) (by decide +kernel), al_mem 1628 (by decide +kernel) (by decide +kernel), al_mem 32 (by decide +kernel) (by decide +kernel), al_mem 86 (by decide +kernel) (by decide +kernel)⟩
theorem cd_X10_takesDirection : Cond.code yX10_takesDirection cX10_takesDirection 2 (some .int) ∈ AL := al_mem 1629 (by decide +kernel) (by decide +kernel)
theorem ml_X10_281 : lkV RX10 281 yX10_keeps := ⟨al_mem 1632 (by decide +kernel) (by decide +kernel), al_mem 1634 (by decide +kernel) (by decide +kernel), al_mem 33 (by decide +kernel) (by decide +kernel), al_mem 86 (by decide +kernel) (by decide +kernel)⟩
theorem cd_X10_keeps : Cond.code yX10_keeps cX10_keeps 2 none ∈ AL := al_mem 1635 (by decide +kernel) (by decide +kernel)
theorem ml_X10_272 : lkV RX10 272 yX10_doesAll := ⟨al_mem 1636 (by decide +kernel) (by decide +kernel), al_mem 1638 (by decide +kernel) (by decide +kernel), al_mem 34 (by decide +kernel) (by decide +kernel), al_mem 86 (by decide +kernel) (by decide +kernel)⟩
theorem cd_X10_doesAll : Cond.code yX10_doesAll cX10_doesAll 5 (some .boolean) ∈ AL := al_mem 1639 (by decide +kernel) (by decide +kernel)
theorem ml_X10_278 : lkV RX10 278 yX10_does := ⟨al_mem 1640 (by decide +kernel) (by decide +kernel), al_mem 1642 (by decide +kernel) (by decide +kernel), al_mem 35 (by decide +kernel) (by decide +kernel), al_mem 86 (by decide +kernel) (by decide +kernel)⟩
theorem cd_X10_does : Cond.code yX10_does cX10_does 3 (some .int) ∈ AL := al_mem 1643 (by decide +kernel) (by decide +kernel)
theorem ml_X10_247 : lkV RX10 247 yX10_pinning := ⟨al_mem 1644 (by decide +kernel) (by decide +kernel), al_mem 1646 (by decide +kernel) (by decide +kernel), al_mem 36 (by decide +kernel) (by decide +kernel), al_mem 86 (by decide +kernel) (by decide +kernel)⟩
theorem cd_X10_pinning : Cond.code yX10_pinning cX10_pinning 5 (some .int) ∈ AL := al_mem 1647 (by decide +kernel) (by decide +kernel)
theorem ml_X10_288 : lkV RX10 288 yX10_isTune := ⟨al_mem 1648 (by decide +kernel) (by decide +kernel), al_mem 1650 (by decide +kernel) (by decide +kernel), al_mem 37 (by decide +kernel) (by decide +kernel), al_mem 86 (by decide +kernel) (by decide +kernel)⟩
theorem cd_X10_isTune : Cond.code yX10_isTune cX10_isTune 2 (some .boolean) ∈ AL := al_mem 1651 (by decide +kernel) (by decide +kernel)
theorem ml_X10_291 : lkV RX10 291 yX10_isTooth := ⟨al_mem 1652 (by decide +kernel) (by decide +kernel), al_mem 1654 (by decide +kernel) (by decide +kernel), al_mem 38 (by decide +kernel) (by decide +kernel), al_mem 86 (by decide +kernel) (by decide +kernel)⟩
theorem cd_X10_isTooth : Cond.code yX10_isTooth cX10_isTooth 2 (some .boolean) ∈ AL := al_mem 1655 (by decide +kernel) (by decide +kernel)
theorem ml_X10_294 : lkV RX10 294 yX10_isStep := ⟨al_mem 1656 (by decide +kernel) (by decide +kernel), al_mem 1658 (by decide +kernel) (by decide +kernel), al_mem 39 (by decide +kernel) (by decide +kernel), al_mem 86 (by decide +kernel) (by decide +kernel)⟩
theorem cd_X10_isStep : Cond.code yX10_isStep cX10_isStep 2 (some .boolean) ∈ AL := al_mem 1659 (by decide +kernel) (by decide +kernel)
theorem ml_X10_344 : lkV RX10 344 yX10_changes := ⟨al_mem 1660 (by decide +kernel) (by decide +kernel), al_mem 1662 (by decide +kernel) (by decide +kernel), al_mem 40 (by decide +kernel) (by decide +kernel), al_mem 86 (by decide +kernel) (by decide +kernel)⟩
theorem cd_X10_changes : Cond.code yX10_changes cX10_changes 1 none ∈ AL := al_mem 1663 (by decide +kernel) (by decide +kernel)
theorem ml_X10_306 : lkV RX10 306 yX10_pins := ⟨al_mem 1664 (by decide +kernel) (by decide +kernel), al_mem 1666 (by decide +kernel) (by decide +kernel), al_mem 41 (by decide +kernel) (by decide +kernel), al_mem 86 (by decide +kernel) (by decide +kernel)⟩
theorem cd_X10_pins : Cond.code yX10_pins cX10_pins 5 (some .int) ∈ AL := al_mem 1667 (by decide +kernel) (by decide +kernel)
theorem ml_X10_251 : lkV RX10 251 yX10_gapping := ⟨al_mem 1668 (by decide +kernel) (by decide +kernel), al_mem 1670 (by decide +kernel) (by decide +kernel), al_mem 42 (by decide +kernel) (by decide +kernel), al_mem 86 (by decide +kernel) (by decide +kernel)⟩
theorem cd_X10_gapping : Cond.code yX10_gapping cX10_gapping 4 (some .int) ∈ AL := al_mem 1671 (by decide +kernel) (by decide +kernel)
theorem ml_X10_90 : lkV RX10 90 yX10_of := ⟨al_mem 1672 (by decide +kernel) (by decide +kernel), al_mem 1674 (by decide +kernel) (by decide +kernel), al_mem 43 (by decide +kernel) (by decide +kernel), al_mem 86 (by decide +kernel) (by decide +kernel)⟩
theorem cd_X10_of : Cond.code yX10_of cX10_of 3 (some .int) ∈ AL := al_mem 1675 (by decide +kernel) (by decide +kernel)
theorem ml_X10_254 : lkV RX10 254 yX10_bending := ⟨al_mem 1676 (by decide +kernel) (by decide +kernel), al_mem 1678 (by decide +kernel) (by decide +kernel), al_mem 44 (by decide +kernel) (by decide +kernel), al_mem 86 (by decide +kernel) (by decide +kernel)⟩
theorem cd_X10_bending : Cond.code yX10_bending cX10_bending 3 (some .int) ∈ AL := al_mem 1679 (by decide +kernel) (by decide +kernel)
theorem ml_X10_100 : lkV RX10 100 yX10_isBad := ⟨al_mem 1680 (by decide +kernel) (by decide +kernel), al_mem 1682 (by decide +kernel) (by decide +kernel), al_mem 45 (by decide +kernel) (by decide +kernel), al_mem 86 (by decide +kernel) (by decide +kernel)⟩
theorem cd_X10_isBad : Cond.code yX10_isBad cX10_isBad 2 (some .boolean) ∈ AL := al_mem 1683 (by decide +kernel) (by decide +kernel)
theorem ml_X10_257 : lkV RX10 257 yX10_replacing := ⟨al_mem 1684 (by decide +kernel) (by decide +kernel), al_mem 1686 (by decide +kernel) (by decide +kernel), al_mem 46 (by decide +kernel) (by decide +kernel), al_mem 86 (by decide +kernel) (by decide +kernel)⟩
theorem cd_X10_replacing : Cond.code yX10_replacing cX10_replacing 3 (some .int) ∈ AL := al_mem 1687 (by decide +kernel) (by decide +kernel)
theorem ml_X10_260 : lkV RX10 260 yX10_vaning := ⟨al_mem 1688 (by decide +kernel) (by decide +kernel), al_mem 1690 (by decide +kernel) (by decide +kernel), al_mem 47 (by decide +kernel) (by decide +kernel), al_mem 86 (by decide +kernel) (by decide +kernel)⟩
theorem cd_X10_vaning : Cond.code yX10_vaning cX10_vaning 3 (some .int) ∈ AL := al_mem 1691 (by decide +kernel) (by decide +kernel)
theorem ml_X10_263 : lkV RX10 263 yX10_winding := ⟨al_mem 1692 (by decide +kernel) (by decide +kernel), al_mem 1694 (by decide +kernel) (by decide +kernel), al_mem 48 (by decide +kernel) (by decide +kernel), al_mem 86 (by decide +kernel) (by decide +kernel)⟩
theorem cd_X10_winding : Cond.code yX10_winding cX10_winding 2 (some .int) ∈ AL := al_mem 1695 (by decide +kernel) (by decide +kernel)
theorem ml_X10_266 : lkV RX10 266 yX10_selecting := ⟨al_mem 1696 (by decide +kernel) (by decide +kernel), al_mem 1698 (by decide +kernel) (by decide +kernel), al_mem 49 (by decide +kernel) (by decide +kernel), al_mem 86 (by decide +kernel) (by decide +kernel)⟩
theorem cd_X10_selecting : Cond.code yX10_selecting cX10_selecting 3 (some .int) ∈ AL := al_mem 1699 (by decide +kernel) (by decide +kernel)
theorem ml_X10_269 : lkV RX10 269 yX10_playing := ⟨al_mem 1700 (by decide +kernel) (by decide +kernel), al_mem 1702 (by decide +kernel) (by decide +kernel), al_mem 50 (by decide +kernel) (by decide +kernel), al_mem 86 (by decide +kernel) (by decide +kernel)⟩
theorem cd_X10_playing : Cond.code yX10_playing cX10_playing 2 (some .int) ∈ AL := al_mem 1703 (by decide +kernel) (by decide +kernel)
theorem ml_X10_338 : lkV RX10 338 yX10_steps := ⟨al_mem 1704 (by decide +kernel) (by decide +kernel), al_mem 1706 (by decide +kernel) (by decide +kernel), al_mem 51 (by decide +kernel) (by decide +kernel), al_mem 86 (by decide +kernel) (by decide +kernel)⟩
theorem cd_X10_steps : Cond.code yX10_steps cX10_steps 3 (some .int) ∈ AL := al_mem 1707 (by decide +kernel) (by decide +kernel)
theorem ml_X10_121 : lkV RX10 121 yX10_step := ⟨al_mem 1708 (by decide +kernel) (by decide +kernel), al_mem 1710 (by decide +kernel) (by decide +kernel), al_mem 52 (by decide +kernel) (by decide +kernel), al_mem 86 (by decide +kernel) (by decide +kernel)⟩
theorem cd_X10_step : Cond.code yX10_step cX10_step 2 none ∈ AL := al_mem 1711 (by decide +kernel) (by decide +kernel)
theorem ml_X10_112 : lkV RX10 112 yX10_plucks := ⟨al_mem 1712 (by decide +kernel) (by decide +kernel), al_mem 1714 (by decide +kernel) (by decide +kernel), al_mem 53 (by decide +kernel) (by decide +kernel), al_mem 86 (by decide +kernel) (by decide +kernel)⟩
theorem cd_X10_plucks : Cond.code yX10_plucks cX10_plucks 3 none ∈ AL := al_mem 1715 (by decide +kernel) (by decide +kernel)
theorem ml_X10_104 : lkV RX10 104 yX10_sound := ⟨al_mem 1716 (by decide +kernel) (by decide +kernel), al_mem 1718 (by decide +kernel) (by decide +kernel), al_mem 54 (by decide +kernel) (by decide +kernel), al_mem 86 (by decide +kernel) (by decide +kernel)⟩
theorem cd_X10_sound : Cond.code yX10_sound cX10_sound 2 (some .int) ∈ AL := al_mem 1719 (by decide +kernel) (by decide +kernel)
theorem ml_L_170 : lkV RL 170 yX10_stepCount := ⟨al_mem 1720 (by decide +kernel) (by decide +kernel), al_mem 1721 (by decide +kernel) (by decide +kernel), al_mem 1722 (by decide +kernel) (by decide +kernel), al_mem 86 (by decide +kernel) (by decide +kernel)⟩
theorem cd_X10_stepCount : Cond.code yX10_stepCount cX10_stepCount 1 (some .int) ∈ AL := al_mem 1723 (by decide +kernel) (by decide +kernel)
theorem ml_X10_297 : lkV RX10 297 yX10_tells := ⟨al_mem 1724 (by decide +kernel) (by decide +kernel), al_mem 1726 (by decide +kernel) (by decide +kernel), al_mem 55 (by decide +kernel) (by decide +kernel), al_mem 86 (by decide +kernel) (by decide +kernel)⟩
theorem cd_X10_tells : Cond.code yX10_tells cX10_tells 2 (some .int) ∈ AL := al_mem 1727 (by decide +kernel) (by decide +kernel)
theorem ml_L_174 : lkV RL 174 yX10_selectedTune := ⟨al_mem 1728 (by decide +kernel) (by decide +kernel), al_mem 1729 (by decide +kernel) (by decide +kernel), al_mem 1730 (by decide +kernel) (by decide +kernel), al_mem 86 (by decide +kernel) (by decide +kernel)⟩
theorem cd_X10_selectedTune : Cond.code yX10_selectedTune cX10_selectedTune 1 (some .int) ∈ AL := al_mem 1731 (by decide +kernel) (by decide +kernel)
theorem ml_L_178 : lkV RL 178 yX10_position := ⟨al_mem 1732 (by decide +kernel) (by decide +kernel), al_mem 1733 (by decide +kernel) (by decide +kernel), al_mem 1734 (by decide +kernel) (by decide +kernel), al_mem 86 (by decide +kernel) (by decide +kernel)⟩
theorem cd_X10_position : Cond.code yX10_position cX10_position 1 (some .int) ∈ AL := al_mem 1735 (by decide +kernel) (by decide +kernel)
theorem ml_L_182 : lkV RL 182 yX10_isPin := ⟨al_mem 1736 (by decide +kernel) (by decide +kernel), al_mem 1737 (by decide +kernel) (by decide +kernel), al_mem 1738 (by decide +kernel) (by decide +kernel), al_mem 86 (by decide +kernel) (by decide +kernel)⟩
theorem cd_X10_isPin : Cond.code yX10_isPin cX10_isPin 4 (some .boolean) ∈ AL := al_mem 1739 (by decide +kernel) (by decide +kernel)
theorem ml_X10_300 : lkV RX10 300 yX10_isThere := ⟨al_mem 1740 (by decide +kernel) (by decide +kernel), al_mem 1742 (by decide +kernel) (by decide +kernel), al_mem 56 (by decide +kernel) (by decide +kernel), al_mem 86 (by decide +kernel) (by decide +kernel)⟩
theorem cd_X10_isThere : Cond.code yX10_isThere cX10_isThere 4 (some .boolean) ∈ AL := al_mem 1743 (by decide +kernel) (by decide +kernel)
theorem ml_L_185 : lkV RL 185 yX10_pinCount := ⟨al_mem 1744 (by decide +kernel) (by decide +kernel), al_mem 1745 (by decide +kernel) (by decide +kernel), al_mem 1746 (by decide +kernel) (by decide +kernel), al_mem 86 (by decide +kernel) (by decide +kernel)⟩
theorem cd_X10_pinCount : Cond.code yX10_pinCount cX10_pinCount 2 (some .int) ∈ AL := al_mem 1747 (by decide +kernel) (by decide +kernel)
theorem ml_X10_303 : lkV RX10 303 yX10_findsTune := ⟨al_mem 1748 (by decide +kernel) (by decide +kernel), al_mem 1750 (by decide +kernel) (by decide +kernel), al_mem 57 (by decide +kernel) (by decide +kernel), al_mem 86 (by decide +kernel) (by decide +kernel)⟩
theorem cd_X10_findsTune : Cond.code yX10_findsTune cX10_findsTune 2 (some .boolean) ∈ AL := al_mem 1751 (by decide +kernel) (by decide +kernel)
theorem ml_L_189 : lkV RL 189 yX10_chord := ⟨al_mem 1752 (by decide +kernel) (by decide +kernel), al_mem 1753 (by decide +kernel) (by decide +kernel), al_mem 1754 (by decide +kernel) (by decide +kernel), al_mem 86 (by decide +kernel) (by decide +kernel)⟩
theorem cd_X10_chord : Cond.code yX10_chord cX10_chord 3 (some .int) ∈ AL := al_mem 1755 (by decide +kernel) (by decide +kernel)
theorem ml_L_192 : lkV RL 192 yX10_distance := ⟨al_mem 1756 (by decide +kernel) (by decide +kernel), al_mem 1757 (by decide +kernel) (by decide +kernel), al_mem 1758 (by decide +kernel) (by decide +kernel), al_mem 86 (by decide +kernel) (by decide +kernel)⟩
theorem cd_X10_distance : Cond.code yX10_distance cX10_distance 4 (some .int) ∈ AL := al_mem 1759 (by decide +kernel) (by decide +kernel)
theorem ml_X10_96 : lkV RX10 96 yX10_far := ⟨al_mem 1760 (by decide +kernel) (by decide +kernel), al_mem 1762 (by decide +kernel) (by decide +kernel), al_mem 58 (by decide +kernel) (by decide +kernel), al_mem 86 (by decide +kernel) (by decide +kernel)⟩
theorem cd_X10_far : Cond.code yX10_far cX10_far 5 (some .int) ∈ AL := al_mem 1763 (by decide +kernel) (by decide +kernel)
theorem ml_L_195 : lkV RL 195 yX10_closePins := ⟨al_mem 1764 (by decide +kernel) (by decide +kernel), al_mem 1765 (by decide +kernel) (by decide +kernel), al_mem 1766 (by decide +kernel) (by decide +kernel), al_mem 86 (by decide +kernel) (by decide +kernel)⟩
theorem cd_X10_closePins : Cond.code yX10_closePins cX10_closePins 5 (some .int) ∈ AL := al_mem 1767 (by decide +kernel) (by decide +kernel)
theorem ml_X10_309 : lkV RX10 309 yX10_isClose := ⟨al_mem 1768 (by decide +kernel) (by decide +kernel), al_mem 1770 (by decide +kernel) (by decide +kernel), al_mem 59 (by decide +kernel) (by decide +kernel), al_mem 86 (by decide +kernel) (by decide +kernel)⟩
theorem cd_X10_isClose : Cond.code yX10_isClose cX10_isClose 4 (some .boolean) ∈ AL := al_mem 1771 (by decide +kernel) (by decide +kernel)
theorem ml_L_198 : lkV RL 198 yX10_longestRest := ⟨al_mem 1772 (by decide +kernel) (by decide +kernel), al_mem 1773 (by decide +kernel) (by decide +kernel), al_mem 1774 (by decide +kernel) (by decide +kernel), al_mem 86 (by decide +kernel) (by decide +kernel)⟩
theorem cd_X10_longestRest : Cond.code yX10_longestRest cX10_longestRest 5 (some .int) ∈ AL := al_mem 1775 (by decide +kernel) (by decide +kernel)
theorem ml_X10_312 : lkS RX10 312 yJ9_max_7cf53 := ⟨al_mem 1776 (by decide +kernel) (by decide +kernel), al_mem 112 (by decide +kernel) (by decide +kernel), al_mem 71 (by decide +kernel) (by decide +kernel)⟩
theorem ml_L_202 : lkV RL 202 yX10_toothCount := ⟨al_mem 1777 (by decide +kernel) (by decide +kernel), al_mem 1778 (by decide +kernel) (by decide +kernel), al_mem 1779 (by decide +kernel) (by decide +kernel), al_mem 86 (by decide +kernel) (by decide +kernel)⟩
theorem cd_X10_toothCount : Cond.code yX10_toothCount cX10_toothCount 1 (some .int) ∈ AL := al_mem 1780 (by decide +kernel) (by decide +kernel)
theorem ml_L_205 : lkV RL 205 yX10_soundingPitch := ⟨al_mem 1781 (by decide +kernel) (by decide +kernel), al_mem 1782 (by decide +kernel) (by decide +kernel), al_mem 1783 (by decide +kernel) (by decide +kernel), al_mem 86 (by decide +kernel) (by decide +kernel)⟩
theorem cd_X10_soundingPitch : Cond.code yX10_soundingPitch cX10_soundingPitch 2 (some .int) ∈ AL := al_mem 1784 (by decide +kernel) (by decide +kernel)
theorem ml_X10_315 : lkV RX10 315 yX10_findsTooth := ⟨al_mem 1785 (by decide +kernel) (by decide +kernel), al_mem 1787 (by decide +kernel) (by decide +kernel), al_mem 60 (by decide +kernel) (by decide +kernel), al_mem 86 (by decide +kernel) (by decide +kernel)⟩
theorem cd_X10_findsTooth : Cond.code yX10_findsTooth cX10_findsTooth 2 (some .boolean) ∈ AL := al_mem 1788 (by decide +kernel) (by decide +kernel)
theorem ml_L_208 : lkV RL 208 yX10_bendOf := ⟨al_mem 1789 (by decide +kernel) (by decide +kernel), al_mem 1790 (by decide +kernel) (by decide +kernel), al_mem 1791 (by decide +kernel) (by decide +kernel), al_mem 86 (by decide +kernel) (by decide +kernel)⟩
theorem cd_X10_bendOf : Cond.code yX10_bendOf cX10_bendOf 2 (some .int) ∈ AL := al_mem 1792 (by decide +kernel) (by decide +kernel)
theorem ml_L_211 : lkV RL 211 yX10_gap := ⟨al_mem 1793 (by decide +kernel) (by decide +kernel), al_mem 1794 (by decide +kernel) (by decide +kernel), al_mem 1795 (by decide +kernel) (by decide +kernel), al_mem 86 (by decide +kernel) (by decide +kernel)⟩
theorem cd_X10_gap : Cond.code yX10_gap cX10_gap 2 (some .int) ∈ AL := al_mem 1796 (by decide +kernel) (by decide +kernel)
theorem ml_L_214 : lkV RL 214 yX10_wear := ⟨al_mem 1797 (by decide +kernel) (by decide +kernel), al_mem 1798 (by decide +kernel) (by decide +kernel), al_mem 1799 (by decide +kernel) (by decide +kernel), al_mem 86 (by decide +kernel) (by decide +kernel)⟩
theorem cd_X10_wear : Cond.code yX10_wear cX10_wear 2 (some .int) ∈ AL := al_mem 1800 (by decide +kernel) (by decide +kernel)
theorem ml_L_217 : lkV RL 217 yX10_silence := ⟨al_mem 1801 (by decide +kernel) (by decide +kernel), al_mem 1802 (by decide +kernel) (by decide +kernel), al_mem 1803 (by decide +kernel) (by decide +kernel), al_mem 86 (by decide +kernel) (by decide +kernel)⟩
theorem cd_X10_silence : Cond.code yX10_silence cX10_silence 2 (some .int) ∈ AL := al_mem 1804 (by decide +kernel) (by decide +kernel)
theorem ml_L_220 : lkV RL 220 yX10_isBroken := ⟨al_mem 1805 (by decide +kernel) (by decide +kernel), al_mem 1806 (by decide +kernel) (by decide +kernel), al_mem 1807 (by decide +kernel) (by decide +kernel), al_mem 86 (by decide +kernel) (by decide +kernel)⟩
theorem cd_X10_isBroken : Cond.code yX10_isBroken cX10_isBroken 2 (some .boolean) ∈ AL := al_mem 1808 (by decide +kernel) (by decide +kernel)
theorem ml_L_223 : lkV RL 223 yX10_nextSound := ⟨al_mem 1809 (by decide +kernel) (by decide +kernel), al_mem 1810 (by decide +kernel) (by decide +kernel), al_mem 1811 (by decide +kernel) (by decide +kernel), al_mem 86 (by decide +kernel) (by decide +kernel)⟩
theorem cd_X10_nextSound : Cond.code yX10_nextSound cX10_nextSound 2 (some .int) ∈ AL := al_mem 1812 (by decide +kernel) (by decide +kernel)
theorem ml_L_227 : lkV RL 227 yX10_turnsLeft := ⟨al_mem 1813 (by decide +kernel) (by decide +kernel), al_mem 1814 (by decide +kernel) (by decide +kernel), al_mem 1815 (by decide +kernel) (by decide +kernel), al_mem 86 (by decide +kernel) (by decide +kernel)⟩
theorem cd_X10_turnsLeft : Cond.code yX10_turnsLeft cX10_turnsLeft 1 (some .int) ∈ AL := al_mem 1816 (by decide +kernel) (by decide +kernel)
theorem ml_L_231 : lkV RL 231 yX10_vane := ⟨al_mem 1817 (by decide +kernel) (by decide +kernel), al_mem 1818 (by decide +kernel) (by decide +kernel), al_mem 1819 (by decide +kernel) (by decide +kernel), al_mem 86 (by decide +kernel) (by decide +kernel)⟩
theorem cd_X10_vane : Cond.code yX10_vane cX10_vane 1 (some .int) ∈ AL := al_mem 1820 (by decide +kernel) (by decide +kernel)
theorem ml_L_235 : lkV RL 235 yX10_tempo := ⟨al_mem 1821 (by decide +kernel) (by decide +kernel), al_mem 1822 (by decide +kernel) (by decide +kernel), al_mem 1823 (by decide +kernel) (by decide +kernel), al_mem 86 (by decide +kernel) (by decide +kernel)⟩
theorem cd_X10_tempo : Cond.code yX10_tempo cX10_tempo 1 (some .int) ∈ AL := al_mem 1824 (by decide +kernel) (by decide +kernel)
theorem ml_X10_318 : lkV RX10 318 yX10_speed := ⟨al_mem 1825 (by decide +kernel) (by decide +kernel), al_mem 1827 (by decide +kernel) (by decide +kernel), al_mem 61 (by decide +kernel) (by decide +kernel), al_mem 86 (by decide +kernel) (by decide +kernel)⟩
theorem cd_X10_speed : Cond.code yX10_speed cX10_speed 1 (some .int) ∈ AL := al_mem 1828 (by decide +kernel) (by decide +kernel)
theorem ml_L_240 : lkV RL 240 yX10_secondsPerStep := ⟨al_mem 1829 (by decide +kernel) (by decide +kernel), al_mem 1830 (by decide +kernel) (by decide +kernel), al_mem 1831 (by decide +kernel) (by decide +kernel), al_mem 86 (by decide +kernel) (by decide +kernel)⟩
theorem cd_X10_secondsPerStep : Cond.code yX10_secondsPerStep cX10_secondsPerStep 1 (some .double) ∈ AL := al_mem 1832 (by decide +kernel) (by decide +kernel)
theorem ml_L_245 : lkV RL 245 yX10_secondsPerStepBits := ⟨al_mem 1834 (by decide +kernel) (by decide +kernel), al_mem 1835 (by decide +kernel) (by decide +kernel), al_mem 1836 (by decide +kernel) (by decide +kernel), al_mem 86 (by decide +kernel) (by decide +kernel)⟩
theorem cd_X10_secondsPerStepBits : Cond.code yX10_secondsPerStepBits cX10_secondsPerStepBits 1 (some .long) ∈ AL := al_mem 1837 (by decide +kernel) (by decide +kernel)
theorem ml_X10_323 : lkS RX10 323 yJxe99ae_doubleToLongBits_ccdee := ⟨al_mem 1838 (by decide +kernel) (by decide +kernel), al_mem 1839 (by decide +kernel) (by decide +kernel), al_mem 96 (by decide +kernel) (by decide +kernel)⟩
theorem cd_Jxe99ae_doubleToLongBits_ccdee : Cond.code yJxe99ae_doubleToLongBits_ccdee cJxe99ae_doubleToLongBits_ccdee 2 (some .long) ∈ AL := al_mem 1840 (by decide +kernel) (by decide +kernel)
theorem ml_Jxe99ae_122 : lkS RJxe99ae 122 yJxe99ae_isNaN_b9ae7 := ⟨al_mem 1841 (by decide +kernel) (by decide +kernel), al_mem 1842 (by decide +kernel) (by decide +kernel), al_mem 96 (by decide +kernel) (by decide +kernel)⟩
theorem cd_Jxe99ae_isNaN_b9ae7 : Cond.code yJxe99ae_isNaN_b9ae7 cJxe99ae_isNaN_b9ae7 2 (some .boolean) ∈ AL := al_mem 1843 (by decide +kernel) (by decide +kernel)
theorem ml_L_249 : lkV RL 249 yX10_noteCount := ⟨al_mem 1848 (by decide +kernel) (by decide +kernel), al_mem 1849 (by decide +kernel) (by decide +kernel), al_mem 1850 (by decide +kernel) (by decide +kernel), al_mem 86 (by decide +kernel) (by decide +kernel)⟩
theorem cd_X10_noteCount : Cond.code yX10_noteCount cX10_noteCount 1 (some .int) ∈ AL := al_mem 1851 (by decide +kernel) (by decide +kernel)
theorem ml_L_253 : lkV RL 253 yX10_squeakCount := ⟨al_mem 1852 (by decide +kernel) (by decide +kernel), al_mem 1853 (by decide +kernel) (by decide +kernel), al_mem 1854 (by decide +kernel) (by decide +kernel), al_mem 86 (by decide +kernel) (by decide +kernel)⟩
theorem cd_X10_squeakCount : Cond.code yX10_squeakCount cX10_squeakCount 1 (some .int) ∈ AL := al_mem 1855 (by decide +kernel) (by decide +kernel)
theorem ml_L_257 : lkV RL 257 yX10_stepsPlayed := ⟨al_mem 1856 (by decide +kernel) (by decide +kernel), al_mem 1857 (by decide +kernel) (by decide +kernel), al_mem 1858 (by decide +kernel) (by decide +kernel), al_mem 86 (by decide +kernel) (by decide +kernel)⟩
theorem cd_X10_stepsPlayed : Cond.code yX10_stepsPlayed cX10_stepsPlayed 1 (some .int) ∈ AL := al_mem 1859 (by decide +kernel) (by decide +kernel)
theorem ml_L_261 : lkV RL 261 yX10_brokenTeeth := ⟨al_mem 1860 (by decide +kernel) (by decide +kernel), al_mem 1861 (by decide +kernel) (by decide +kernel), al_mem 1862 (by decide +kernel) (by decide +kernel), al_mem 86 (by decide +kernel) (by decide +kernel)⟩
theorem cd_X10_brokenTeeth : Cond.code yX10_brokenTeeth cX10_brokenTeeth 3 (some .int) ∈ AL := al_mem 1863 (by decide +kernel) (by decide +kernel)
theorem ml_L_265 : lkV RL 265 yX10_meanPitch := ⟨al_mem 1864 (by decide +kernel) (by decide +kernel), al_mem 1865 (by decide +kernel) (by decide +kernel), al_mem 1866 (by decide +kernel) (by decide +kernel), al_mem 86 (by decide +kernel) (by decide +kernel)⟩
theorem cd_X10_meanPitch : Cond.code yX10_meanPitch cX10_meanPitch 5 (some .double) ∈ AL := al_mem 1867 (by decide +kernel) (by decide +kernel)
theorem ml_L_268 : lkV RL 268 yX10_density := ⟨al_mem 1868 (by decide +kernel) (by decide +kernel), al_mem 1869 (by decide +kernel) (by decide +kernel), al_mem 1870 (by decide +kernel) (by decide +kernel), al_mem 86 (by decide +kernel) (by decide +kernel)⟩
theorem cd_X10_density : Cond.code yX10_density cX10_density 2 (some .float) ∈ AL := al_mem 1871 (by decide +kernel) (by decide +kernel)
theorem ml_L_272 : lkV RL 272 yX10_contradictions := ⟨al_mem 1872 (by decide +kernel) (by decide +kernel), al_mem 1873 (by decide +kernel) (by decide +kernel), al_mem 1874 (by decide +kernel) (by decide +kernel), al_mem 86 (by decide +kernel) (by decide +kernel)⟩
theorem cd_X10_contradictions : Cond.code yX10_contradictions cX10_contradictions 3 (some .int) ∈ AL := al_mem 1875 (by decide +kernel) (by decide +kernel)
theorem ml_X10_329 : lkS RX10 329 yJ9_abs_0f7a4 := ⟨al_mem 1876 (by decide +kernel) (by decide +kernel), al_mem 870 (by decide +kernel) (by decide +kernel), al_mem 71 (by decide +kernel) (by decide +kernel)⟩
theorem ml_L_276 : lkV RL 276 yX10_stepsLeft := ⟨al_mem 1877 (by decide +kernel) (by decide +kernel), al_mem 1878 (by decide +kernel) (by decide +kernel), al_mem 1879 (by decide +kernel) (by decide +kernel), al_mem 86 (by decide +kernel) (by decide +kernel)⟩
theorem cd_X10_stepsLeft : Cond.code yX10_stepsLeft cX10_stepsLeft 1 (some .int) ∈ AL := al_mem 1880 (by decide +kernel) (by decide +kernel)
theorem ml_L_279 : lkV RL 279 yX10_stepsUntilBroken := ⟨al_mem 1881 (by decide +kernel) (by decide +kernel), al_mem 1882 (by decide +kernel) (by decide +kernel), al_mem 1883 (by decide +kernel) (by decide +kernel), al_mem 86 (by decide +kernel) (by decide +kernel)⟩
theorem cd_X10_stepsUntilBroken : Cond.code yX10_stepsUntilBroken cX10_stepsUntilBroken 3 (some .int) ∈ AL := al_mem 1884 (by decide +kernel) (by decide +kernel)
theorem ml_X10_332 : lkV RX10 332 yX10_tries := ⟨al_mem 1885 (by decide +kernel) (by decide +kernel), al_mem 1887 (by decide +kernel) (by decide +kernel), al_mem 62 (by decide +kernel) (by decide +kernel), al_mem 86 (by decide +kernel) (by decide +kernel)⟩
theorem cd_X10_tries : Cond.code yX10_tries cX10_tries 2 none ∈ AL := al_mem 1888 (by decide +kernel) (by decide +kernel)
theorem ml_X10_335 : lkV RX10 335 yX10_back := ⟨al_mem 1889 (by decide +kernel) (by decide +kernel), al_mem 1891 (by decide +kernel) (by decide +kernel), al_mem 63 (by decide +kernel) (by decide +kernel), al_mem 86 (by decide +kernel) (by decide +kernel)⟩
theorem cd_X10_back : Cond.code yX10_back cX10_back 3 (some .int) ∈ AL := al_mem 1892 (by decide +kernel) (by decide +kernel)
theorem ml_L_282 : lkV RL 282 yX10_notesIn := ⟨al_mem 1893 (by decide +kernel) (by decide +kernel), al_mem 1894 (by decide +kernel) (by decide +kernel), al_mem 1895 (by decide +kernel) (by decide +kernel), al_mem 86 (by decide +kernel) (by decide +kernel)⟩
theorem cd_X10_notesIn : Cond.code yX10_notesIn cX10_notesIn 2 (some .int) ∈ AL := al_mem 1896 (by decide +kernel) (by decide +kernel)
theorem ml_X10_341 : lkV RX10 341 yX10_after := ⟨al_mem 1897 (by decide +kernel) (by decide +kernel), al_mem 1899 (by decide +kernel) (by decide +kernel), al_mem 64 (by decide +kernel) (by decide +kernel), al_mem 86 (by decide +kernel) (by decide +kernel)⟩
theorem cd_X10_after : Cond.code yX10_after cX10_after 5 (some .int) ∈ AL := al_mem 1900 (by decide +kernel) (by decide +kernel)
theorem ml_L_285 : lkV RL 285 yX10_squeaksIn := ⟨al_mem 1901 (by decide +kernel) (by decide +kernel), al_mem 1902 (by decide +kernel) (by decide +kernel), al_mem 1903 (by decide +kernel) (by decide +kernel), al_mem 86 (by decide +kernel) (by decide +kernel)⟩
theorem cd_X10_squeaksIn : Cond.code yX10_squeaksIn cX10_squeaksIn 2 (some .int) ∈ AL := al_mem 1904 (by decide +kernel) (by decide +kernel)
theorem ml_L_288 : lkV RL 288 yX10_addPin := ⟨al_mem 1905 (by decide +kernel) (by decide +kernel), al_mem 1906 (by decide +kernel) (by decide +kernel), al_mem 1907 (by decide +kernel) (by decide +kernel), al_mem 86 (by decide +kernel) (by decide +kernel)⟩
theorem cd_X10_addPin : Cond.code yX10_addPin cX10_addPin 4 (some .int) ∈ AL := al_mem 1908 (by decide +kernel) (by decide +kernel)
theorem ml_L_291 : lkV RL 291 yX10_removePin := ⟨al_mem 1909 (by decide +kernel) (by decide +kernel), al_mem 1910 (by decide +kernel) (by decide +kernel), al_mem 1911 (by decide +kernel) (by decide +kernel), al_mem 86 (by decide +kernel) (by decide +kernel)⟩
theorem cd_X10_removePin : Cond.code yX10_removePin cX10_removePin 4 (some .int) ∈ AL := al_mem 1912 (by decide +kernel) (by decide +kernel)
theorem ml_L_294 : lkV RL 294 yX10_shift := ⟨al_mem 1913 (by decide +kernel) (by decide +kernel), al_mem 1914 (by decide +kernel) (by decide +kernel), al_mem 1915 (by decide +kernel) (by decide +kernel), al_mem 86 (by decide +kernel) (by decide +kernel)⟩
theorem cd_X10_shift : Cond.code yX10_shift cX10_shift 4 (some .int) ∈ AL := al_mem 1916 (by decide +kernel) (by decide +kernel)
theorem ml_L_297 : lkV RL 297 yX10_transpose := ⟨al_mem 1917 (by decide +kernel) (by decide +kernel), al_mem 1918 (by decide +kernel) (by decide +kernel), al_mem 1919 (by decide +kernel) (by decide +kernel), al_mem 86 (by decide +kernel) (by decide +kernel)⟩
theorem cd_X10_transpose : Cond.code yX10_transpose cX10_transpose 4 (some .int) ∈ AL := al_mem 1920 (by decide +kernel) (by decide +kernel)
theorem ml_X10_347 : lkV RX10 347 yX10_fits := ⟨al_mem 1921 (by decide +kernel) (by decide +kernel), al_mem 1923 (by decide +kernel) (by decide +kernel), al_mem 65 (by decide +kernel) (by decide +kernel), al_mem 86 (by decide +kernel) (by decide +kernel)⟩
theorem cd_X10_fits : Cond.code yX10_fits cX10_fits 5 (some .boolean) ∈ AL := al_mem 1924 (by decide +kernel) (by decide +kernel)
theorem ml_L_300 : lkV RL 300 yX10_copyTune := ⟨al_mem 1925 (by decide +kernel) (by decide +kernel), al_mem 1926 (by decide +kernel) (by decide +kernel), al_mem 1927 (by decide +kernel) (by decide +kernel), al_mem 86 (by decide +kernel) (by decide +kernel)⟩
theorem cd_X10_copyTune : Cond.code yX10_copyTune cX10_copyTune 4 (some .int) ∈ AL := al_mem 1928 (by decide +kernel) (by decide +kernel)
theorem ml_L_303 : lkV RL 303 yX10_selectTune := ⟨al_mem 1929 (by decide +kernel) (by decide +kernel), al_mem 1930 (by decide +kernel) (by decide +kernel), al_mem 1931 (by decide +kernel) (by decide +kernel), al_mem 86 (by decide +kernel) (by decide +kernel)⟩
theorem cd_X10_selectTune : Cond.code yX10_selectTune cX10_selectTune 2 (some .int) ∈ AL := al_mem 1932 (by decide +kernel) (by decide +kernel)
theorem ml_L_306 : lkV RL 306 yX10_setGap := ⟨al_mem 1933 (by decide +kernel) (by decide +kernel), al_mem 1934 (by decide +kernel) (by decide +kernel), al_mem 1935 (by decide +kernel) (by decide +kernel), al_mem 86 (by decide +kernel) (by decide +kernel)⟩
theorem cd_X10_setGap : Cond.code yX10_setGap cX10_setGap 3 (some .int) ∈ AL := al_mem 1936 (by decide +kernel) (by decide +kernel)
theorem ml_L_309 : lkV RL 309 yX10_bend := ⟨al_mem 1937 (by decide +kernel) (by decide +kernel), al_mem 1938 (by decide +kernel) (by decide +kernel), al_mem 1939 (by decide +kernel) (by decide +kernel), al_mem 86 (by decide +kernel) (by decide +kernel)⟩
theorem cd_X10_bend : Cond.code yX10_bend cX10_bend 3 (some .int) ∈ AL := al_mem 1940 (by decide +kernel) (by decide +kernel)
theorem ml_L_312 : lkV RL 312 yX10_replaceTooth := ⟨al_mem 1941 (by decide +kernel) (by decide +kernel), al_mem 1942 (by decide +kernel) (by decide +kernel), al_mem 1943 (by decide +kernel) (by decide +kernel), al_mem 86 (by decide +kernel) (by decide +kernel)⟩
theorem cd_X10_replaceTooth : Cond.code yX10_replaceTooth cX10_replaceTooth 2 (some .int) ∈ AL := al_mem 1944 (by decide +kernel) (by decide +kernel)
theorem ml_L_315 : lkV RL 315 yX10_setVane := ⟨al_mem 1945 (by decide +kernel) (by decide +kernel), al_mem 1946 (by decide +kernel) (by decide +kernel), al_mem 1947 (by decide +kernel) (by decide +kernel), al_mem 86 (by decide +kernel) (by decide +kernel)⟩
theorem cd_X10_setVane : Cond.code yX10_setVane cX10_setVane 2 (some .int) ∈ AL := al_mem 1948 (by decide +kernel) (by decide +kernel)
theorem ml_L_318 : lkV RL 318 yX10_wind := ⟨al_mem 1949 (by decide +kernel) (by decide +kernel), al_mem 1950 (by decide +kernel) (by decide +kernel), al_mem 1951 (by decide +kernel) (by decide +kernel), al_mem 86 (by decide +kernel) (by decide +kernel)⟩
theorem cd_X10_wind : Cond.code yX10_wind cX10_wind 2 (some .int) ∈ AL := al_mem 1952 (by decide +kernel) (by decide +kernel)
theorem ml_L_321 : lkV RL 321 yX10_play := ⟨al_mem 1953 (by decide +kernel) (by decide +kernel), al_mem 1954 (by decide +kernel) (by decide +kernel), al_mem 1955 (by decide +kernel) (by decide +kernel), al_mem 86 (by decide +kernel) (by decide +kernel)⟩
theorem cd_X10_play : Cond.code yX10_play cX10_play 2 (some .int) ∈ AL := al_mem 1956 (by decide +kernel) (by decide +kernel)
theorem ml_L_324 : lkV RL 324 yX10_writePins := ⟨al_mem 1957 (by decide +kernel) (by decide +kernel), al_mem 1958 (by decide +kernel) (by decide +kernel), al_mem 1959 (by decide +kernel) (by decide +kernel), al_mem 86 (by decide +kernel) (by decide +kernel)⟩
theorem cd_X10_writePins : Cond.code yX10_writePins cX10_writePins 4 (some .int) ∈ AL := al_mem 1960 (by decide +kernel) (by decide +kernel)
theorem ml_X10_353 : lkV RX10 353 yX10_writes := ⟨al_mem 1961 (by decide +kernel) (by decide +kernel), al_mem 1963 (by decide +kernel) (by decide +kernel), al_mem 66 (by decide +kernel) (by decide +kernel), al_mem 86 (by decide +kernel) (by decide +kernel)⟩
theorem cd_X10_writes : Cond.code yX10_writes cX10_writes 2 none ∈ AL := al_mem 1964 (by decide +kernel) (by decide +kernel)
theorem ml_L_328 : lkV RL 328 yX10_writeComb := ⟨al_mem 1965 (by decide +kernel) (by decide +kernel), al_mem 1966 (by decide +kernel) (by decide +kernel), al_mem 1967 (by decide +kernel) (by decide +kernel), al_mem 86 (by decide +kernel) (by decide +kernel)⟩
theorem cd_X10_writeComb : Cond.code yX10_writeComb cX10_writeComb 2 (some .int) ∈ AL := al_mem 1968 (by decide +kernel) (by decide +kernel)
theorem ml_X10_356 : lkV RX10 356 yX10_writesNumber := ⟨al_mem 1969 (by decide +kernel) (by decide +kernel), al_mem 1971 (by decide +kernel) (by decide +kernel), al_mem 67 (by decide +kernel) (by decide +kernel), al_mem 86 (by decide +kernel) (by decide +kernel)⟩
theorem cd_X10_writesNumber : Cond.code yX10_writesNumber cX10_writesNumber 3 none ∈ AL := al_mem 1972 (by decide +kernel) (by decide +kernel)
theorem ml_L_332 : lkV RL 332 yX10_outputByte := ⟨al_mem 1973 (by decide +kernel) (by decide +kernel), al_mem 1974 (by decide +kernel) (by decide +kernel), al_mem 1975 (by decide +kernel) (by decide +kernel), al_mem 86 (by decide +kernel) (by decide +kernel)⟩
theorem cd_X10_outputByte : Cond.code yX10_outputByte cX10_outputByte 2 (some .int) ∈ AL := al_mem 1976 (by decide +kernel) (by decide +kernel)
theorem ml_L_336 : lkV RL 336 yX10_undoCount := ⟨al_mem 1977 (by decide +kernel) (by decide +kernel), al_mem 1978 (by decide +kernel) (by decide +kernel), al_mem 1979 (by decide +kernel) (by decide +kernel), al_mem 86 (by decide +kernel) (by decide +kernel)⟩
theorem cd_X10_undoCount : Cond.code yX10_undoCount cX10_undoCount 1 (some .int) ∈ AL := al_mem 1980 (by decide +kernel) (by decide +kernel)
theorem ml_L_340 : lkV RL 340 yX10_undo := ⟨al_mem 1981 (by decide +kernel) (by decide +kernel), al_mem 1982 (by decide +kernel) (by decide +kernel), al_mem 1983 (by decide +kernel) (by decide +kernel), al_mem 86 (by decide +kernel) (by decide +kernel)⟩
theorem cd_X10_undo : Cond.code yX10_undo cX10_undo 2 (some .int) ∈ AL := al_mem 1984 (by decide +kernel) (by decide +kernel)
theorem ml_L_343 : lkV RL 343 yX10_save := ⟨al_mem 1985 (by decide +kernel) (by decide +kernel), al_mem 1986 (by decide +kernel) (by decide +kernel), al_mem 1987 (by decide +kernel) (by decide +kernel), al_mem 86 (by decide +kernel) (by decide +kernel)⟩
theorem cd_X10_save : Cond.code yX10_save cX10_save 3 (some .int) ∈ AL := al_mem 1988 (by decide +kernel) (by decide +kernel)
theorem ml_L_346 : lkV RL 346 yX10_restore := ⟨al_mem 1989 (by decide +kernel) (by decide +kernel), al_mem 1990 (by decide +kernel) (by decide +kernel), al_mem 1991 (by decide +kernel) (by decide +kernel), al_mem 86 (by decide +kernel) (by decide +kernel)⟩
theorem cd_X10_restore : Cond.code yX10_restore cX10_restore 3 (some .int) ∈ AL := al_mem 1992 (by decide +kernel) (by decide +kernel)
theorem gw_inst {C : String} {n : Nat} : goodWord (.instantiable C n) = true := by rfl
theorem gw_init {C : String} : goodWord (.initialized C) = true := by rfl
theorem gw_nat {y : MethodName} : goodWord (.native y) = true := by rfl
theorem gw_cl {C D : String} {n : Nat} : goodWord (.classLink C n D) = true := by rfl
theorem gw_c2 {C : String} {n : Nat} {v : Int64} : goodWord (.constantLong C n v) = true := by rfl
theorem gw_cw {y : MethodName} {c n r h} : goodWord (.codeWith y c n r h) = true := by rfl
end
section
/-! The model machine: things are named by three numbers (kind, which, which part); ints and longs of each lie in two functions; references never change once all is built. -/
abbrev Rf : Type := Nat × Nat × Nat
abbrev MV : Type := Value ⊕ Rf
abbrev Mm : Type := (Rf → Nat → Int32) × (Rf → Nat → Int64)
abbrev Sh : Type := Rf → Nat → Option Rf
def rv (ad : Rf → Nat) (v : MV) : Value := match v with
  | .inl x => x
  | .inr r => .ref (ad r)
def putI (M : Mm) (r : Rf) (j : Nat) (v : Int32) : Mm := (fun r' j' => if j' = j ∧ r' = r then v else M.1 r' j', M.2)
def putL (M : Mm) (r : Rf) (j : Nat) (v : Int64) : Mm := (M.1, fun r' j' => if j' = j ∧ r' = r then v else M.2 r' j')
/-- what a thing is: an object (number of its kind among vwCl, which fields are references) or a row (kind of its elements, length) -/
def kd (r : Rf) : (Nat × List Bool) ⊕ (Nat × Nat) := match r.1 with
  | 0 => .inl (9, [true, true, true, true, true, true, true, true, true, true, true])
  | 1 => .inl (1, [true, false])
  | 2 => .inr (0, if r.2.1 = 0 then 800 else 64)
  | 3 => .inl (7, [true, true, true, true, true, false, false, false, false])
  | 4 => .inr (0, 801)
  | 5 => .inl (6, [true, true])
  | 6 => .inl (5, [true, true])
  | 7 => .inl (4, [true, true, true, true, false, false, false])
  | 8 => .inr (0, if r.2.1 = 3 then 90 else 30)
  | 9 => .inl (0, [true, true, false, false, false, false, false, false, false, false])
  | 10 => .inl (3, [true, false, false, false])
  | 11 => .inr (2, 36)
  | 12 => .inr (4, 12)
  | 13 => .inl (8, [false, false, false, false, false, false])
  | 14 => .inl (2, [true, false, false])
  | 15 => .inr (5, 8)
  | 16 => .inr (5, 2)
  | 17 => .inr (1, 2)
  | 18 => .inl (10, [true, true, true, true, true, true, true, false, false, true, false, false, false, false, false, false, false, false, false, true, true, true, true, false, false, false, true, false])
  | 19 => .inr (0, match r.2.1 with
    | 0 => 280 | 1 => 280 | 2 => 280 | 3 => 2240 | 4 => 560 | 5 => 64 | 6 => 800 | 7 => 30 | 8 => 30 | 9 => 30 | 10 => 30 | _ => 100)
  | 20 => .inr (1, 2)
  | 21 => .inr (2, 1)
  | _ => .inr (3, 1)
def fv (ad : Rf → Nat) (sh : Sh) (M : Mm) (r : Rf) : Nat → List Bool → List Value
  | _, [] => []
  | j, b :: t => (if b = true then va_rf ((sh r j).map ad) else .int (M.1 r j)) :: fv ad sh M r (j + 1) t
def ent (tc : Nat → ClassId) (ad : Rf → Nat) (sh : Sh) (M : Mm) (r : Rf) : va_E := match kd r with
  | .inl (ci, ks) => .inr (ci, fv ad sh M r 0 ks)
  | .inr (0, n) => .inl (tc 0, n, .inl (M.1 r))
  | .inr (1, n) => .inl (tc 1, n, .inl (M.1 r))
  | .inr (2, n) => .inl (tc 2, n, .inr (.inl (M.2 r)))
  | .inr (3, n) => .inl (tc 3, n, .inr (.inr (.inr (.inl (fun j => (M.2 r j).toUInt64)))))
  | .inr (t + 4, n) => .inl (tc (t + 4), n, .inr (.inr (.inr (.inr (fun j => (sh r j).map ad)))))
def wl (tc : Nat → ClassId) (ad : Rf → Nat) (sh : Sh) (M : Mm) (rs : List Rf) : va_W := rs.map fun r => (ad r, ent tc ad sh M r)
def tys (tc : Nat → ClassId) : List (ClassId × FieldType) := [(tc 0, .int), (tc 1, .boolean), (tc 2, .long), (tc 3, .double), (tc 4, .object RX8), (tc 5, .object RX0)]
theorem wl_at {tc : Nat → ClassId} {ad : Rf → Nat} {sh : Sh} {M : Mm} {rs : List Rf} {r : Rf} (h : r ∈ rs) : ∃ k : Nat, rs[k]? = some r ∧ (wl tc ad sh M rs)[k]? = some (ad r, ent tc ad sh M r) := by
  obtain ⟨k, hk⟩ := List.getElem?_of_mem h
  exact ⟨k, hk, by rw [wl, List.getElem?_map, hk]; rfl⟩
theorem wl_set {tc : Nat → ClassId} {ad : Rf → Nat} {sh : Sh} {M M' : Mm} {rs : List Rf} {r : Rf} {k : Nat} {x : va_E} (hn : rs.Nodup) (hk : rs[k]? = some r) (hx : ent tc ad sh M' r = x) (h : ∀ r', r' ≠ r → ent tc ad sh M' r' = ent tc ad sh M r') :
    (wl tc ad sh M rs).set k (ad r, x) = wl tc ad sh M' rs := by
  subst hx
  apply List.ext_getElem?
  intro i
  rw [List.getElem?_set, wl, wl, List.getElem?_map, List.getElem?_map, List.length_map]
  by_cases hi : k = i
  · subst hi
    have hl : k < rs.length := (List.getElem?_eq_some_iff.mp hk).1
    rw [if_pos rfl, if_pos hl, hk]
    rfl
  · rw [if_neg hi]
    cases hr : rs[i]? with
    | none => rfl
    | some r' =>
      have hne : r' ≠ r := by
        intro e
        subst e
        obtain ⟨h1, h2⟩ := List.getElem?_eq_some_iff.mp hk
        obtain ⟨h3, h4⟩ := List.getElem?_eq_some_iff.mp hr
        exact hi ((List.getElem_inj hn).mp (h2.trans h4.symm))
      show some (ad r', ent tc ad sh M r') = some (ad r', ent tc ad sh M' r')
      rw [h r' hne]
theorem fv_len {ad : Rf → Nat} {sh : Sh} {M : Mm} {r : Rf} : ∀ (ks : List Bool) (j : Nat), (fv ad sh M r j ks).length = ks.length
  | [], _ => rfl
  | _ :: t, j => by rw [fv, List.length_cons, List.length_cons, fv_len t (j + 1)]
theorem fv_get {ad : Rf → Nat} {sh : Sh} {M : Mm} {r : Rf} : ∀ (ks : List Bool) (i j : Nat) (b : Bool), ks[j]? = some b → (fv ad sh M r i ks)[j]? = some (if b = true then va_rf ((sh r (i + j)).map ad) else .int (M.1 r (i + j)))
  | [], _, _, _, h => by simp at h
  | c :: t, i, 0, b, h => by
    rw [fv]
    simp at h
    subst h
    rfl
  | c :: t, i, j + 1, b, h => by
    rw [fv, List.getElem?_cons_succ, fv_get t (i + 1) j b (by simpa using h)]
    rw [show i + 1 + j = i + (j + 1) by omega]
theorem fv_other {ad : Rf → Nat} {sh : Sh} {M M' : Mm} {r : Rf} (h : ∀ j, M'.1 r j = M.1 r j) : ∀ (ks : List Bool) (j : Nat), fv ad sh M' r j ks = fv ad sh M r j ks
  | [], _ => rfl
  | b :: t, j => by rw [fv, fv, fv_other h t (j + 1), h j]
theorem fv_put {ad : Rf → Nat} {sh : Sh} {M : Mm} {r : Rf} {v : Int32} {q : Nat} : ∀ (ks : List Bool) (i j : Nat), i + j = q → ks[j]? = some false → (fv ad sh M r i ks).set j (.int v) = fv ad sh (putI M r q v) r i ks
  | [], _, _, _, h => by simp at h
  | c :: t, i, 0, e, h => by
    simp at h
    subst h
    have e2 : i = q := by omega
    subst e2
    rw [fv, fv, List.set_cons_zero]
    have h2 : ∀ (t : List Bool) (k : Nat), i < k → fv ad sh M r k t = fv ad sh (putI M r i v) r k t := by
      intro t
      induction t with
      | nil => intro k _; rfl
      | cons b t ih =>
        intro k hk
        rw [fv, fv, ih (k + 1) (by omega)]
        have hne : ¬ (k = i) := by omega
        simp [putI, hne]
    rw [h2 t (i + 1) (by omega)]
    simp [putI]
  | c :: t, i, j + 1, e, h => by
    rw [fv, fv, List.set_cons_succ, fv_put (q := q) t (i + 1) j (by omega) (by simpa using h)]
    have hne : ¬ (i = q) := by omega
    simp [putI, hne]
theorem ent_other {tc : Nat → ClassId} {ad : Rf → Nat} {sh : Sh} {M M' : Mm} {r : Rf} (h1 : M'.1 r = M.1 r) (h2 : M'.2 r = M.2 r) : ent tc ad sh M' r = ent tc ad sh M r := by
  unfold ent
  split <;> first | rw [fv_other (fun j => congrFun h1 j)] | rw [h1] | rw [h2] | rfl
theorem putI_ne {M : Mm} {r r' : Rf} {j : Nat} {v : Int32} (h : r' ≠ r) : (putI M r j v).1 r' = M.1 r' := by
  funext j'
  simp [putI, h]
theorem putL_ne {M : Mm} {r r' : Rf} {j : Nat} {v : Int64} (h : r' ≠ r) : (putL M r j v).2 r' = M.2 r' := by
  funext j'
  simp [putL, h]
/-- the locals as the model has them -/
def zl (ad : Rf → Nat) (lsA : Array Slot) (nL : Nat) (ls : List (Option MV)) : Prop := lsA.size = nL ∧ lv_wf lsA ∧ ∀ (i : Nat) (v : MV), ls[i]? = some (some v) → lsA[i]? = some (.val (rv ad v))
def lvl (ad : Rf → Nat) : Nat → List (Option MV) → List (Nat × Value)
  | _, [] => []
  | i, none :: t => lvl ad (i + 1) t
  | i, some v :: t => (i, rv ad v) :: lvl ad (i + 1) t
theorem lvl_mem {ad : Rf → Nat} : ∀ (ls : List (Option MV)) (k i : Nat) (v : MV), ls[i]? = some (some v) → (k + i, rv ad v) ∈ lvl ad k ls
  | [], _, _, _, h => by simp at h
  | o :: t, k, 0, v, h => by
    simp at h
    subst h
    rw [lvl]
    exact List.mem_cons_self
  | o :: t, k, i + 1, v, h => by
    have h2 := lvl_mem (ad := ad) t (k + 1) i v (by simpa using h)
    rw [show k + 1 + i = k + (i + 1) by omega] at h2
    cases o with
    | none => rw [lvl]; exact h2
    | some w => rw [lvl]; exact List.mem_cons_of_mem _ h2
theorem mem_lvl {ad : Rf → Nat} : ∀ (ls : List (Option MV)) (k : Nat) (q : Nat × Value), q ∈ lvl ad k ls → ∃ (i : Nat) (v : MV), ls[i]? = some (some v) ∧ q = (k + i, rv ad v)
  | [], _, q, h => by rw [lvl] at h; cases h
  | none :: t, k, q, h => by
    rw [lvl] at h
    obtain ⟨i, v, h1, h2⟩ := mem_lvl t (k + 1) q h
    exact ⟨i + 1, v, by simpa using h1, by rw [h2, show k + 1 + i = k + (i + 1) by omega]⟩
  | some w :: t, k, q, h => by
    rw [lvl] at h
    rcases List.mem_cons.mp h with h | h
    · exact ⟨0, w, rfl, h⟩
    · obtain ⟨i, v, h1, h2⟩ := mem_lvl t (k + 1) q h
      exact ⟨i + 1, v, by simpa using h1, by rw [h2, show k + 1 + i = k + (i + 1) by omega]⟩
theorem zl_lv {ad : Rf → Nat} {lsA : Array Slot} {nL : Nat} {ls : List (Option MV)} (h : zl ad lsA nL ls) : lv_has lsA nL (lvl ad 0 ls) := by
  refine ⟨h.1, h.2.1, fun q hq => ?_⟩
  obtain ⟨i, v, h1, h2⟩ := mem_lvl ls 0 q hq
  subst h2
  rw [Nat.zero_add]
  exact h.2.2 i v h1
def lok (ls : List (Option MV)) (i : Nat) : Bool := match i with
  | 0 => true
  | k + 1 => match ls[k]? with
    | some (some (.inl v)) => v.category == 1
    | _ => true
theorem lok_spec {ad : Rf → Nat} {ls : List (Option MV)} {i k : Nat} {v : MV} (h : lok ls i = true) (hk : ls[k]? = some (some v)) (hi : k + 1 = i) : (rv ad v).category = 1 := by
  subst hi
  rw [lok, hk] at h
  cases v with
  | inl x =>
    show x.category = 1
    simpa using h
  | inr r => rfl
theorem zl_set1 {ad : Rf → Nat} {lsA : Array Slot} {nL i : Nat} {ls : List (Option MV)} {v : MV} (hk : lok ls i = true) (h : lv_has lsA nL ((i, rv ad v) :: (lvl ad 0 ls).filter (fun q => !(q.1 == i) && !(q.1 + 1 == i && q.2.category == 2)))) : zl ad lsA nL (ls.set i (some v)) := by
  refine ⟨h.1, h.2.1, fun j w hj => ?_⟩
  by_cases e : i = j
  · subst e
    have h1 : (ls.set i (some v))[i]? = some (some v) := by
      rw [List.getElem?_set] at hj ⊢
      rw [if_pos rfl] at hj ⊢
      by_cases hl : i < ls.length
      · rw [if_pos hl]
      · rw [if_neg hl] at hj; cases hj
    rw [h1] at hj
    cases hj
    exact h.2.2 (i, rv ad v) List.mem_cons_self
  · rw [List.getElem?_set, if_neg e] at hj
    have hm := lvl_mem (ad := ad) ls 0 j w hj
    rw [Nat.zero_add] at hm
    refine h.2.2 (j, rv ad w) (List.mem_cons_of_mem _ (List.mem_filter.mpr ⟨hm, ?_⟩))
    have e1 : (j == i) = false := by simpa using (fun e2 : j = i => e e2.symm)
    by_cases e3 : j + 1 = i
    · have := lok_spec (ad := ad) hk hj e3
      simp [e1, this]
    · simp [e1, e3]
theorem zl_set2 {ad : Rf → Nat} {lsA : Array Slot} {nL i : Nat} {ls : List (Option MV)} {v : MV} (hk : lok ls i = true) (h : lv_has lsA nL ((i, rv ad v) :: (lvl ad 0 ls).filter (fun q => !(q.1 == i) && (!(q.1 == i + 1) && !(q.1 + 1 == i && q.2.category == 2))))) : zl ad lsA nL ((ls.set (i + 1) none).set i (some v)) := by
  refine ⟨h.1, h.2.1, fun j w hj => ?_⟩
  by_cases e : i = j
  · subst e
    have h1 : ((ls.set (i + 1) none).set i (some v))[i]? = some (some v) := by
      rw [List.getElem?_set] at hj ⊢
      rw [if_pos rfl] at hj ⊢
      by_cases hl : i < (ls.set (i + 1) none).length
      · rw [if_pos hl]
      · rw [if_neg hl] at hj; cases hj
    rw [h1] at hj
    cases hj
    exact h.2.2 (i, rv ad v) List.mem_cons_self
  · rw [List.getElem?_set, if_neg e, List.getElem?_set] at hj
    by_cases e4 : i + 1 = j
    · rw [if_pos e4] at hj
      split at hj <;> cases hj
    rw [if_neg e4] at hj
    have hm := lvl_mem (ad := ad) ls 0 j w hj
    rw [Nat.zero_add] at hm
    refine h.2.2 (j, rv ad w) (List.mem_cons_of_mem _ (List.mem_filter.mpr ⟨hm, ?_⟩))
    have e1 : (j == i) = false := by simpa using (fun e2 : j = i => e e2.symm)
    have e5 : (j == i + 1) = false := by simpa using (fun e2 : j = i + 1 => e4 e2.symm)
    by_cases e3 : j + 1 = i
    · have := lok_spec (ad := ad) hk hj e3
      simp [e1, e5, this]
    · simp [e1, e5, e3]
end
section
/-- the texts of the String constants, by their places -/
def sby : Nat → List Int32 := fun j => match j with
  | 0 => [98, 111, 120, 32, 56, 32, 53, 32, 52, 48, 59, 32, 116, 111, 111, 116, 104, 32, 49, 48, 32, 51, 32, 51, 48, 59, 32, 116, 111, 111, 116, 104, 32, 49, 52, 32, 50, 32, 49, 50, 59, 32, 116, 111, 111, 116, 104, 32, 49, 55, 32, 52, 32, 49, 48, 48, 59, 32, 112, 105, 110, 32, 48, 32, 48, 32, 48, 59, 32, 112, 105, 110, 32, 48, 32, 49, 32, 50, 59, 32, 112, 105, 110, 32, 48, 32, 50, 32, 52, 59, 32, 112, 105, 110, 32, 48, 32, 49, 32, 51, 59, 32, 112, 105, 110, 32, 49, 32, 48, 32, 49, 59, 32, 112, 105, 110, 32, 49, 32, 48, 32, 53, 59]
  | 1 => [98, 111, 120]
  | 2 => [116, 111, 111, 116, 104]
  | 3 => [112, 105, 110]
  | 4 => [117, 110, 112, 105, 110]
  | 5 => [103, 97, 112]
  | 6 => [98, 101, 110, 100]
  | 7 => [109, 101, 110, 100]
  | 8 => [118, 97, 110, 101]
  | 9 => [119, 105, 110, 100]
  | 10 => [116, 117, 110, 101]
  | 11 => [112, 108, 97, 121]
  | 12 => [114, 101, 112, 101, 97, 116]
  | 13 => [117, 112]
  | 14 => [100, 111, 119, 110]
  | 15 => [116, 104, 101, 32, 116, 101, 120, 116, 32, 98, 117, 102, 102, 101, 114, 32, 119, 111, 117, 108, 100, 32, 98, 101, 32, 116, 111, 111, 32, 108, 111, 110, 103]
  | 16 => [108, 101, 110, 103, 116, 104, 32, 111, 117, 116, 32, 111, 102, 32, 114, 97, 110, 103, 101]
  | 17 => [116, 104, 101, 114, 101, 32, 105, 115, 32, 110, 111, 32, 115, 117, 99, 104, 32, 116, 117, 110, 101, 44, 32, 116, 111, 111, 116, 104, 44, 32, 115, 116, 101, 112, 32, 111, 114, 32, 115, 108, 111, 116]
  | 18 => [97, 110, 32, 97, 114, 103, 117, 109, 101, 110, 116, 32, 105, 115, 32, 111, 117, 116, 32, 111, 102, 32, 114, 97, 110, 103, 101]
  | 19 => [110, 111, 116, 32, 112, 111, 115, 115, 105, 98, 108, 101, 32, 105, 110, 32, 116, 104, 105, 115, 32, 115, 116, 97, 116, 101]
  | 20 => [116, 104, 101, 114, 101, 32, 105, 115, 32, 110, 111, 32, 112, 105, 110]
  | 21 => [116, 104, 101, 32, 115, 108, 111, 116, 32, 105, 115, 32, 101, 109, 112, 116, 121]
  | _ => []
def stt : List (String × Nat × String × Nat) := [(RX9, 80, "box 8 5 40; tooth 10 3 30; tooth 14 2 12; tooth 17 4 100; pin 0 0 0; pin 0 1 2; pin 0 2 4; pin 0 1 3; pin 1 0 1; pin 1 0 5;", 0), (RX10, 54, "box 8 5 40; tooth 10 3 30; tooth 14 2 12; tooth 17 4 100; pin 0 0 0; pin 0 1 2; pin 0 2 4; pin 0 1 3; pin 1 0 1; pin 1 0 5;", 0), (RX6, 48, "box", 1), (RX10, 188, "box", 1), (RX6, 31, "tooth", 2), (RX10, 171, "tooth", 2), (RX6, 37, "pin", 3), (RX5, 80, "pin", 3), (RX10, 183, "pin", 3), (RX5, 86, "unpin", 4), (RX10, 203, "unpin", 4), (RX5, 88, "gap", 5), (RX10, 205, "gap", 5), (RX5, 90, "bend", 6), (RX10, 207, "bend", 6), (RX5, 92, "mend", 7), (RX10, 209, "mend", 7), (RX5, 94, "vane", 8), (RX10, 211, "vane", 8), (RX5, 96, "wind", 9), (RX10, 213, "wind", 9), (RX5, 98, "tune", 10), (RX10, 215, "tune", 10), (RX5, 100, "play", 11), (RX10, 217, "play", 11), (RX5, 102, "repeat", 12), (RX10, 219, "repeat", 12), (RX5, 114, "up", 13), (RX10, 227, "up", 13), (RX5, 116, "down", 14), (RX10, 229, "down", 14), (RX9, 107, "the text buffer would be too long", 15), (RX9, 117, "length out of range", 16), (RX9, 365, "there is no such tune, tooth, step or slot", 17), (RX9, 368, "an argument is out of range", 18), (RX9, 370, "not possible in this state", 19), (RX9, 199, "there is no pin", 20), (RX9, 361, "the slot is empty", 21)]
def nsw : List Cond := [.methodLinkNest RX9 32 yX4_init "MusicBoxEditor", .methodLinkNest RX0 11 yX3_init "MusicBoxEditor", .methodLinkNest RX0 24 yX8_init "MusicBoxEditor", .methodLinkNest RX9 143 yX4_runPart "MusicBoxEditor", .methodLinkNest RX0 95 yX9_rangeFault "MusicBoxEditor", .methodLinkNest RX4 78 yX9_rangeFault "MusicBoxEditor", .castable "java/lang/IllegalStateException" "java/lang/IllegalStateException", .declares ⟨"java/lang/RuntimeException", "<init>", "()V"⟩, .declares ⟨"java/lang/RuntimeException", "<init>", "(Ljava/lang/String;)V"⟩, .declares ⟨"java/lang/Exception", "<init>", "()V"⟩, .declares ⟨"java/lang/Exception", "<init>", "(Ljava/lang/String;)V"⟩, .declares ⟨"java/lang/Throwable", "<init>", "()V"⟩, .declares ⟨"java/lang/Throwable", "<init>", "(Ljava/lang/String;)V"⟩, .castable "java/lang/IllegalArgumentException" "java/lang/IllegalArgumentException", .castable "java/lang/IndexOutOfBoundsException" "java/lang/IndexOutOfBoundsException", .castable "java/util/NoSuchElementException" "java/util/NoSuchElementException", .castable "MusicBoxEditor" "java/lang/Object", .castable "MusicBoxEditor$Bytes" "java/lang/Object", .castable "MusicBoxEditor$Tokens" "java/lang/Object", .castable "MusicBoxEditor$Script" "java/lang/Object", .castable "MusicBoxEditor$Box" "java/lang/Object", .castable "MusicBoxEditor$Roll" "java/lang/Object", .castable "MusicBoxEditor$Tooth" "java/lang/Object", .castable "MusicBoxEditor$SetupReader" "java/lang/Object", .castable "MusicBoxEditor$ScriptReader" "java/lang/Object", .castable "MusicBoxEditor$History" "java/lang/Object", .castable "MusicBoxEditorModel" "java/lang/Object", .castable "java/lang/IllegalStateException" "java/lang/Object", .castable "java/lang/IllegalArgumentException" "java/lang/Object", .castable "java/lang/IndexOutOfBoundsException" "java/lang/Object", .castable "java/util/NoSuchElementException" "java/lang/Object", .castable "java/lang/Throwable" "java/lang/Object", .castable "java/lang/String" "java/lang/Object"]
theorem nst_in : ∀ w ∈ nst, w ∈ nsw := by decide +kernel
theorem nsw_warm {s U : State} (hW : s.WarmedH U.vm) (h : ∀ w ∈ nsw, va_Nw w s) : ∀ w ∈ nsw, va_Nw w U := by
  unfold nsw at h ⊢
  simp only [List.forall_mem_cons] at h ⊢
  obtain ⟨h0, h1, h2, h3, h4, h5, h6, h7, h8, h9, h10, h11, h12, h13, h14, h15, h16, h17, h18, h19, h20, h21, h22, h23, h24, h25, h26, h27, h28, h29, h30, h31, h32, -⟩ := h
  exact ⟨va_Nw.warmM hW h0, va_Nw.warmM hW h1, va_Nw.warmM hW h2, va_Nw.warmM hW h3, va_Nw.warmM hW h4, va_Nw.warmM hW h5, va_Nw.warmC hW h6, va_Nw.warmD hW h7, va_Nw.warmD hW h8, va_Nw.warmD hW h9, va_Nw.warmD hW h10, va_Nw.warmD hW h11, va_Nw.warmD hW h12, va_Nw.warmC hW h13, va_Nw.warmC hW h14, va_Nw.warmC hW h15, va_Nw.warmC hW h16, va_Nw.warmC hW h17, va_Nw.warmC hW h18, va_Nw.warmC hW h19, va_Nw.warmC hW h20, va_Nw.warmC hW h21, va_Nw.warmC hW h22, va_Nw.warmC hW h23, va_Nw.warmC hW h24, va_Nw.warmC hW h25, va_Nw.warmC hW h26, va_Nw.warmC hW h27, va_Nw.warmC hW h28, va_Nw.warmC hW h29, va_Nw.warmC hW h30, va_Nw.warmC hW h31, va_Nw.warmC hW h32, fun _ h => absurd h List.not_mem_nil⟩
/-- the String constants: where they lie, what they hold -/
def Sk (ad : Rf → Nat) (A : Nat → Prop) (U : State) (H : Heap) : Prop :=
  ∀ j : Nat, j < 22 → va_O "java/lang/String" (ad (30, j, 0)) A U H ∧ va_OF "java/lang/String" "coder" "B" (.int 0) (ad (30, j, 0)) A U H ∧ va_OF "java/lang/String" "value" "[B" (.ref (ad (33, j, 0))) (ad (30, j, 0)) A U H ∧ va_T .byte (ad (33, j, 0)) (sby j).length (fun i => .int ((sby j).getD i 0)) A U H
/-- four kinds of throw -/
def exs : List String := ["java/lang/IllegalStateException", "java/lang/IllegalArgumentException", "java/lang/IndexOutOfBoundsException", "java/util/NoSuchElementException"]
/-- what never changes beside the model's own things -/
def Fx (l : Launch) (ad : Rf → Nat) (A : Nat → Prop) (s : State) (H : Heap) : Prop :=
  l.stackTraces = false ∧ Sk ad A s H ∧ (∀ q ∈ stt, vk_R q.1 q.2.1 q.2.2.1 (ad (30, q.2.2.2, 0)) s) ∧ vx_Zq Bundle.tN "UNASSIGNED_STACK" Bundle.steD A s H ∧ vx_Zq Bundle.tN "SUPPRESSED_SENTINEL" Bundle.listD A s H ∧
  va_Z "java/lang/String" "COMPACT_STRINGS" "Z" (.int 1) A s H ∧ (∀ x ∈ exs, ∀ y ∈ exs, x ≠ y → va_Nc x y s) ∧ (∀ w ∈ nsw, va_Nw w s)
theorem Fx.to {l : Launch} {ad : Rf → Nat} {A B : Nat → Prop} {s U : State} {H0 H : Heap} (h : Fx l ad A s H0) (hW : s.WarmedH U.vm) (hq : ∀ a : Nat, a < H0.size → ¬ A a → H[a]? = H0[a]?) (hAB : ∀ q, B q → A q) : Fx l ad B U H := by
  obtain ⟨h1, h2, h3, h4, h5, h6, h7, h8⟩ := h
  have hv := hW.alike
  exact ⟨h1, fun j hj => ⟨va_O.narrow (va_O.moved hv ((h2 j hj).1.kept hq)) hAB, va_OF.narrow (va_OF.moved hv ((h2 j hj).2.1.kept hq)) hAB, va_OF.narrow (va_OF.moved hv ((h2 j hj).2.2.1.kept hq)) hAB, va_T.narrow (va_T.moved hv ((h2 j hj).2.2.2.kept hq)) hAB⟩,
    fun q hq => vk_R.warm hW (h3 q hq), vx_Zq.narrow (vx_Zq.moved hv (h4.kept hq)) hAB, vx_Zq.narrow (vx_Zq.moved hv (h5.kept hq)) hAB, va_Z.narrow (va_Z.moved hv (h6.kept hq)) hAB, fun x hx y hy e => va_Nc.moved hv (h7 x hx y hy e), nsw_warm hW h8⟩
/-- which cells a call may change -/
def Af (ad : Rf → Nat) (rs : List Rf) (sz : Nat) : Nat → Prop := fun q => (∃ r ∈ rs, q = ad r) ∨ sz ≤ q
/-- the model's things lie in the heap -/
def Wd (D : va_G) (tc : Nat → ClassId) (ad : Rf → Nat) (sh : Sh) (M : Mm) (rs : List Rf) (H : Heap) : Prop := va_P D vwCl (wl tc ad sh M rs) H
/-- a method's frame: all that doesn't change while it runs -/
def Cx (own : String) (cc : ByteArray) (nL : Nat) (rt : Option FieldType) (xt : List ExceptionTableEntry) (nme : String) (rs : List Rf) (p : Program) (l : Launch) (s : State) (m : MethodId) (args : Array Value) (meth : Method) (c : Code) (D : va_G) (tc : Nat → ClassId) (ad : Rf → Nat) (A : Nat → Prop) : Prop :=
  p.tables.exec = Jvm.exec ∧ c.code = cc ∧ c.maxLocals = nL ∧ s.vm.findClass own = some m.cls ∧ (∀ w ∈ AL, w.before args s = true) ∧ meth.locks = false ∧ meth.sig.returnType = rt ∧ c.exceptionTable.toList = xt ∧ meth.name = nme ∧
  va_K D vwCl (tys tc) s ∧ (∀ q, s.heap.size ≤ q → A q) ∧ Fx l ad A s s.heap ∧ (∀ r ∈ rs, A (ad r)) ∧ (∀ r ∈ rs, ∀ r' ∈ rs, ad r = ad r' → r = r')
abbrev QF : Type := List Frame → Array Value → State → va_G → (Nat → ClassId) → (Rf → Nat) → (Nat → Prop) → State → Prop
/-- from here on, in this model state, the machine comes to Q -/
def Z (own : String) (cc : ByteArray) (nL : Nat) (rt : Option FieldType) (xt : List ExceptionTableEntry) (nme : String) (R : Room) (Q : QF) (rs : List Rf) (sh : Sh) (cells slots pc : Nat) (ls : List (Option MV)) (st : List MV) (M : Mm) : Prop :=
  ∀ (p : Program) (l : Launch) (e : Env) (s : State) (m : MethodId) (args : Array Value) (below : List Frame) (meth : Method) (c : Code) (D : va_G) (tc : Nat → ClassId) (ad : Rf → Nat) (A : Nat → Prop) (H : Heap) (locs : List Loc) (lsA : Array Slot),
    Cx own cc nL rt xt nme rs p l s m args meth c D tc ad A → Wd D tc ad sh M rs H → va_S A s.heap H locs → zl ad lsA nL ls →
    W p l e R s m args below meth c H locs cells slots (Q below args s D tc ad A) (F0 m pc lsA (st.map (rv ad)))
/-- the same, with a thing of class E thrown here -/
def ZX (own : String) (cc : ByteArray) (nL : Nat) (rt : Option FieldType) (xt : List ExceptionTableEntry) (nme : String) (R : Room) (Q : QF) (rs : List Rf) (sh : Sh) (cells slots pc : Nat) (ls : List (Option MV)) (E : String) (M : Mm) : Prop :=
  ∀ (p : Program) (l : Launch) (e : Env) (s : State) (m : MethodId) (args : Array Value) (below : List Frame) (meth : Method) (c : Code) (D : va_G) (tc : Nat → ClassId) (ad : Rf → Nat) (A : Nat → Prop) (H : Heap) (locs : List Loc) (lsA : Array Slot) (rest : List Value) (q : Addr) (ce : Cell),
    Cx own cc nL rt xt nme rs p l s m args meth c D tc ad A → Wd D tc ad sh M rs H → va_S A s.heap H locs → zl ad lsA nL ls → H[q]? = some ce → ce.vm = .none → s.vm.findClass E = some ce.cls →
    vx_W p l e R s m args below meth c H locs cells slots (Q below args s D tc ad A) (F0 m pc lsA rest) q
theorem Wd.D {own : String} {cc : ByteArray} {nL : Nat} {rt : Option FieldType} {xt : List ExceptionTableEntry} {nme : String} {rs : List Rf} {p : Program} {l : Launch} {s : State} {m : MethodId} {args : Array Value} {meth : Method} {c : Code} {D : va_G} {tc : Nat → ClassId} {ad : Rf → Nat} {A : Nat → Prop} (hn : rs.Nodup) (C : Cx own cc nL rt xt nme rs p l s m args meth c D tc ad A) (sh : Sh) (M : Mm) : va_D A (wl tc ad sh M rs) := by
  obtain ⟨-, -, -, -, -, -, -, -, -, -, -, -, h1, h2⟩ := C
  refine ⟨fun i j p q hi hj e => ?_, fun k q hk => ?_⟩
  · rw [wl, List.getElem?_map] at hi hj
    cases h3 : rs[i]? with
    | none => rw [h3] at hi; cases hi
    | some r =>
      cases h4 : rs[j]? with
      | none => rw [h4] at hj; cases hj
      | some r' =>
        rw [h3] at hi
        rw [h4] at hj
        cases hi
        cases hj
        have h5 := h2 r (List.mem_of_getElem? h3) r' (List.mem_of_getElem? h4) e
        subst h5
        obtain ⟨g1, g2⟩ := List.getElem?_eq_some_iff.mp h3
        obtain ⟨g3, g4⟩ := List.getElem?_eq_some_iff.mp h4
        exact (List.getElem_inj hn).mp (g2.trans g4.symm)
  · rw [wl, List.getElem?_map] at hk
    cases h3 : rs[k]? with
    | none => rw [h3] at hk; cases hk
    | some r =>
      rw [h3] at hk
      cases hk
      exact h1 r (List.mem_of_getElem? h3)
/-- a method's room, by how deep its calls go -/
def rmD (d mc ms : Nat) : Room := { frames := d, cells := mc, slots := ms, locals := 60 * d }
/-- what a method's start holds -/
def Ps (D : va_G) (tc : Nat → ClassId) (ad : Rf → Nat) (l : Launch) (sh : Sh) (M : Mm) (rs : List Rf) (sz : Nat) (av : List MV) : Array Value → State → Prop :=
  va_Pc (av.map (rv ad)) (fun U => U.heap.size = sz ∧ Wd D tc ad sh M rs U.heap ∧ va_K D vwCl (tys tc) U ∧ Fx l ad (Af ad rs sz) U U.heap ∧ (∀ r ∈ rs, ∀ r' ∈ rs, ad r = ad r' → r = r'))
def Qs (D : va_G) (tc : Nat → ClassId) (ad : Rf → Nat) (sh : Sh) (rs : List Rf) (A : Nat → Prop) (PR : Option Value → Mm → Prop) : Array Value → State → Outcome → State → Prop :=
  fun _ st oc t => (∃ (v : Option Value) (M : Mm), oc = .returned v ∧ PR v M ∧ Wd D tc ad sh M rs t.heap) ∧ va_F A st t
def Xs (D : va_G) (tc : Nat → ClassId) (ad : Rf → Nat) (sh : Sh) (rs : List Rf) (A : Nat → Prop) (PX : String → Mm → Prop) : String → State → State → Prop :=
  fun E st t => (∃ M : Mm, PX E M ∧ Wd D tc ad sh M rs t.heap) ∧ va_F A st t
/-- the end of a method of the model: what it answers, what it throws -/
def QM (sh : Sh) (rs : List Rf) (mc ms : Nat) (PR : Option Value → Mm → Prop) (PX : String → Mm → Prop) : QF :=
  fun below args s D tc ad A => vx_MQ below (Qs D tc ad sh rs A PR) (Xs D tc ad sh rs A PX) args s mc ms A
/-- the contract of a method of the model -/
def Tri (y : MethodName) (w0 : Cond) (d mc ms : Nat) (sh : Sh) (rs : List Rf) (av : List MV) (M : Mm) (PR : Option Value → Mm → Prop) (PX : String → Mm → Prop) : Prop :=
  ∀ (l : Launch) (D : va_G) (tc : Nat → ClassId) (ad : Rf → Nat) (sz : Nat), vx_Met l y (w0 :: AL) (rmD d mc ms) (Ps D tc ad l sh M rs sz av) (Qs D tc ad sh rs (Af ad rs sz) PR) (Xs D tc ad sh rs (Af ad rs sz) PX) mc ms (Af ad rs sz)
theorem Tri.mono {y : MethodName} {w0 : Cond} {d mc ms : Nat} {sh : Sh} {rs : List Rf} {av : List MV} {M : Mm} {PR PR2 : Option Value → Mm → Prop} {PX PX2 : String → Mm → Prop} (h : Tri y w0 d mc ms sh rs av M PR PX) (h1 : ∀ v M', PR v M' → PR2 v M') (h2 : ∀ E M', PX E M' → PX2 E M') : Tri y w0 d mc ms sh rs av M PR2 PX2 := by
  intro l D tc ad sz
  have h3 := h l D tc ad sz
  refine MetFree.imp h3 ?_
  rintro a st o t (⟨⟨⟨v, M', e1, e2, e3⟩, e4⟩, e5⟩ | ⟨q, e0, E, ce, L, ⟨⟨M', e1, e2⟩, e3⟩, e4⟩)
  · exact Or.inl ⟨⟨⟨v, M', e1, h1 v M' e2, e3⟩, e4⟩, e5⟩
  · exact Or.inr ⟨q, e0, E, ce, L, ⟨⟨M', h2 E M' e1, e2⟩, e3⟩, e4⟩
theorem zl_entry (ad : Rf → Nat) {vs : List MV} {n : Nat} {ls : List (Option MV)} (h : (lg_sl (vs.map (rv ad))).length ≤ n) (hq : ∀ (i : Nat) (v : MV), ls[i]? = some (some v) → (i, rv ad v) ∈ lv_args 0 (vs.map (rv ad))) : zl ad ((lg_sl (vs.map (rv ad)) ++ List.replicate (n - (lg_sl (vs.map (rv ad))).length) Slot.unset).toArray) n ls := by
  have h1 := lv_entry (vs.map (rv ad)) h
  exact ⟨h1.1, h1.2.1, fun i v hi => h1.2.2 (i, rv ad v) (hq i v hi)⟩
theorem vx_ofWF {l : Launch} {y : MethodName} {ws ws' : List Cond} {rm : Room} {Pc : Array Value → State → Prop} {Qc : Array Value → State → Outcome → State → Prop} {XC : String → State → State → Prop} {mc ms : Nat} {free : Addr → Prop} {cc : ByteArray} {maxL : Nat} {ret : Option FieldType}
    (hy : plainFor y = true) (hw : ws = Cond.code y cc maxL ret :: ws')
    (body : ∀ p e s m args below meth c s₁, BodyLoose p l y (headSpec ws rm) cc maxL ret e s m args below meth c s₁ → c.maxLocals = maxL → (∀ x ∈ c.exceptionTable.toList, False) → Pc args s →
      W p l e (headSpec ws rm).room s m args below meth c s.heap [] 0 0 (vx_MQ below Qc XC args s mc ms free) (entryFrame m args maxL)) : vx_Met l y ws rm Pc Qc XC mc ms free := by
  refine MetFree.of_bodySF (code := cc) (maxLocals := maxL) (ret := ret) hy ?_ ?_
  · intro args s m h hn
    obtain ⟨meth, c, h1, h2, h3, h4, h5, h6, -, -⟩ := Cond.code_spec hn (atoms_spec (ws := ws) h _ (by rw [hw]; exact List.mem_cons_self))
    exact ⟨meth, c, h1, h2, h3, h4, h5, h6⟩
  · intro p e s m args below meth c s₁ B hml hP _
    have hh0 : s₁.heap = s.heap := by rw [B.state]; rfl
    have ht : ∀ x ∈ c.exceptionTable.toList, False := by
      obtain ⟨meth9, c9, h1, h2, -, -, -, -, h7, -⟩ := Cond.code_spec B.named (atoms_spec (ws := ws) B.pre _ (by rw [hw]; exact List.mem_cons_self))
      cases Option.some.inj (h1.symm.trans B.method)
      cases Option.some.inj (h2.symm.trans (Stand.of_body B).code)
      intro x hx
      rw [Array.isEmpty_iff.mp h7] at hx
      cases hx
    obtain ⟨t, a1, o, b1, b2, b3⟩ := body p e s m args below meth c s₁ B hml ht hP s₁ hh0 (Stand.of_body B)
    exact ⟨t, o, a1, b1, b2, b3⟩
/-- a contract out of a walk -/
theorem Tri.of {y : MethodName} {own nme : String} {cc : ByteArray} {nL : Nat} {rt : Option FieldType} {d mc ms : Nat} {sh : Sh} {rs : List Rf} {av : List MV} {M : Mm} {PR : Option Value → Mm → Prop} {PX : String → Mm → Prop}
    (hy : plainFor y = true) (ho : y.cls = own) (hm : y.name = nme) (ls : List (Option MV)) (hls : ∀ ad : Rf → Nat, (lg_sl (av.map (rv ad))).length ≤ nL ∧ ∀ (i : Nat) (v : MV), ls[i]? = some (some v) → (i, rv ad v) ∈ lv_args 0 (av.map (rv ad)))
    (k : Z own cc nL rt [] nme (rmD d mc ms) (QM sh rs mc ms PR PX) rs sh 0 0 0 ls [] M) : Tri y (.code y cc nL rt) d mc ms sh rs av M PR PX := by
  intro l D tc ad sz
  refine vx_ofWF (cc := cc) (maxL := nL) (ret := rt) hy rfl ?_
  intro p e s m args below meth c s₁ B hml hxt hv
  obtain ⟨rfl, hsz, hP, hK, hF, hinj⟩ := hv
  have hts := atoms_spec (ws := Cond.code y cc nL rt :: AL) B.pre
  have hown : s.vm.findClass own = some m.cls := by rw [← ho]; exact findClass_of_methodNamed B.named
  have hnm : meth.name = nme := by rw [← hm]; exact (name_of_methodNamed B.named B.method).1
  have hxn : c.exceptionTable.toList = [] := by
    cases h : c.exceptionTable.toList with
    | nil => rfl
    | cons a t => exact (hxt a (by rw [h]; exact List.mem_cons_self)).elim
  subst hsz
  rw [lg_entry_eq]
  exact k p l e s m _ below meth c D tc ad (Af ad rs s.heap.size) s.heap [] _
    ⟨B.exec, B.bytes, hml, hown, fun w hw => hts w (List.mem_cons_of_mem _ hw), B.notSynchronized, B.returns, hxn, hnm, hK, fun q h => Or.inr h, hF, fun r hr => Or.inl ⟨r, hr, rfl⟩, hinj⟩
    hP va_S.rf (zl_entry ad (hls ad).1 (hls ad).2)
end
section
section ZR
variable {own : String} {cc : ByteArray} {nL : Nat} {rt : Option FieldType} {xt : List ExceptionTableEntry} {nme : String} {R : Room} {Q : QF} {rs : List Rf} {sh : Sh} {cells slots pc : Nat} {ls : List (Option MV)} {st : List MV} {M : Mm}
theorem z_iconst {n : Int} {v : Int32} (hd : decode cc pc = .ok (.iconst n, 1)) (hv : Int32.ofInt n = v) (k : Z own cc nL rt xt nme R Q rs sh cells slots (pc + 1) ls (.inl (.int v) :: st) M) : Z own cc nL rt xt nme R Q rs sh cells slots pc ls st M := fun p l e s m args below meth c D tc ad A H locs lsA C hP hS hl => lv_iconst C.1 C.2.1 hd hv (k p l e s m args below meth c D tc ad A H locs lsA C hP hS hl)
theorem z_bipush {n : Int} {v : Int32} (hd : decode cc pc = .ok (.bipush n, 2)) (hv : (Int8.ofInt n).toInt32 = v) (k : Z own cc nL rt xt nme R Q rs sh cells slots (pc + 2) ls (.inl (.int v) :: st) M) : Z own cc nL rt xt nme R Q rs sh cells slots pc ls st M := fun p l e s m args below meth c D tc ad A H locs lsA C hP hS hl => lv_bipush C.1 C.2.1 hd hv (k p l e s m args below meth c D tc ad A H locs lsA C hP hS hl)
theorem z_sipush {n : Int} {v : Int32} (hd : decode cc pc = .ok (.sipush n, 3)) (hv : (Int16.ofInt n).toInt32 = v) (k : Z own cc nL rt xt nme R Q rs sh cells slots (pc + 3) ls (.inl (.int v) :: st) M) : Z own cc nL rt xt nme R Q rs sh cells slots pc ls st M := fun p l e s m args below meth c D tc ad A H locs lsA C hP hS hl => lv_sipush C.1 C.2.1 hd hv (k p l e s m args below meth c D tc ad A H locs lsA C hP hS hl)
theorem z_lconst {n : Fin 2} {v : Int64} (hd : decode cc pc = .ok (.lconst n, 1)) (hv : Int64.ofNat (n : Nat) = v) (k : Z own cc nL rt xt nme R Q rs sh cells slots (pc + 1) ls (.inl (.long v) :: st) M) : Z own cc nL rt xt nme R Q rs sh cells slots pc ls st M := fun p l e s m args below meth c D tc ad A H locs lsA C hP hS hl => lv_lconst C.1 C.2.1 hd hv (k p l e s m args below meth c D tc ad A H locs lsA C hP hS hl)
theorem z_fconst0  (hd : decode cc pc = .ok (.fconst 0, 1))  (k : Z own cc nL rt xt nme R Q rs sh cells slots (pc + 1) ls (.inl (.float FP.fconst0) :: st) M) : Z own cc nL rt xt nme R Q rs sh cells slots pc ls st M := fun p l e s m args below meth c D tc ad A H locs lsA C hP hS hl => lv_fconst0 C.1 C.2.1 hd  (k p l e s m args below meth c D tc ad A H locs lsA C hP hS hl)
theorem z_dconst0  (hd : decode cc pc = .ok (.dconst 0, 1))  (k : Z own cc nL rt xt nme R Q rs sh cells slots (pc + 1) ls (.inl (.double FP.dconst0) :: st) M) : Z own cc nL rt xt nme R Q rs sh cells slots pc ls st M := fun p l e s m args below meth c D tc ad A H locs lsA C hP hS hl => lv_dconst0 C.1 C.2.1 hd  (k p l e s m args below meth c D tc ad A H locs lsA C hP hS hl)
theorem z_dconst1  (hd : decode cc pc = .ok (.dconst 1, 1))  (k : Z own cc nL rt xt nme R Q rs sh cells slots (pc + 1) ls (.inl (.double FP.dconst1) :: st) M) : Z own cc nL rt xt nme R Q rs sh cells slots pc ls st M := fun p l e s m args below meth c D tc ad A H locs lsA C hP hS hl => lv_dconst1 C.1 C.2.1 hd  (k p l e s m args below meth c D tc ad A H locs lsA C hP hS hl)
theorem z_iload_n {k : Fin 4} {i : Nat} {x : Int32} (hd : decode cc pc = .ok (.iload_n k, 1)) (hi : (k : Nat) = i) (hv : ls[i]? = some (some (.inl (.int x)))) (k : Z own cc nL rt xt nme R Q rs sh cells slots (pc + 1) ls (.inl (.int x) :: st) M) : Z own cc nL rt xt nme R Q rs sh cells slots pc ls st M := fun p l e s m args below meth c D tc ad A H locs lsA C hP hS hl => lv_iload_n C.1 C.2.1 hd hi (hl.2.2 i _ hv) (k p l e s m args below meth c D tc ad A H locs lsA C hP hS hl)
theorem z_iload {i : Nat} {x : Int32} (hd : decode cc pc = .ok (.iload i, 2)) (hv : ls[i]? = some (some (.inl (.int x)))) (k : Z own cc nL rt xt nme R Q rs sh cells slots (pc + 2) ls (.inl (.int x) :: st) M) : Z own cc nL rt xt nme R Q rs sh cells slots pc ls st M := fun p l e s m args below meth c D tc ad A H locs lsA C hP hS hl => lv_iload C.1 C.2.1 hd (hl.2.2 i _ hv) (k p l e s m args below meth c D tc ad A H locs lsA C hP hS hl)
theorem z_lload_n {k : Fin 4} {i : Nat} {x : Int64} (hd : decode cc pc = .ok (.lload_n k, 1)) (hi : (k : Nat) = i) (hv : ls[i]? = some (some (.inl (.long x)))) (k : Z own cc nL rt xt nme R Q rs sh cells slots (pc + 1) ls (.inl (.long x) :: st) M) : Z own cc nL rt xt nme R Q rs sh cells slots pc ls st M := fun p l e s m args below meth c D tc ad A H locs lsA C hP hS hl => lv_lload_n C.1 C.2.1 hd hi (hl.2.2 i _ hv) (k p l e s m args below meth c D tc ad A H locs lsA C hP hS hl)
theorem z_lload {i : Nat} {x : Int64} (hd : decode cc pc = .ok (.lload i, 2)) (hv : ls[i]? = some (some (.inl (.long x)))) (k : Z own cc nL rt xt nme R Q rs sh cells slots (pc + 2) ls (.inl (.long x) :: st) M) : Z own cc nL rt xt nme R Q rs sh cells slots pc ls st M := fun p l e s m args below meth c D tc ad A H locs lsA C hP hS hl => lv_lload C.1 C.2.1 hd (hl.2.2 i _ hv) (k p l e s m args below meth c D tc ad A H locs lsA C hP hS hl)
theorem z_fload_n {k : Fin 4} {i : Nat} {x : UInt32} (hd : decode cc pc = .ok (.fload_n k, 1)) (hi : (k : Nat) = i) (hv : ls[i]? = some (some (.inl (.float x)))) (k : Z own cc nL rt xt nme R Q rs sh cells slots (pc + 1) ls (.inl (.float x) :: st) M) : Z own cc nL rt xt nme R Q rs sh cells slots pc ls st M := fun p l e s m args below meth c D tc ad A H locs lsA C hP hS hl => lv_fload_n C.1 C.2.1 hd hi (hl.2.2 i _ hv) (k p l e s m args below meth c D tc ad A H locs lsA C hP hS hl)
theorem z_fload {i : Nat} {x : UInt32} (hd : decode cc pc = .ok (.fload i, 2)) (hv : ls[i]? = some (some (.inl (.float x)))) (k : Z own cc nL rt xt nme R Q rs sh cells slots (pc + 2) ls (.inl (.float x) :: st) M) : Z own cc nL rt xt nme R Q rs sh cells slots pc ls st M := fun p l e s m args below meth c D tc ad A H locs lsA C hP hS hl => lv_fload C.1 C.2.1 hd (hl.2.2 i _ hv) (k p l e s m args below meth c D tc ad A H locs lsA C hP hS hl)
theorem z_dload_n {k : Fin 4} {i : Nat} {x : UInt64} (hd : decode cc pc = .ok (.dload_n k, 1)) (hi : (k : Nat) = i) (hv : ls[i]? = some (some (.inl (.double x)))) (k : Z own cc nL rt xt nme R Q rs sh cells slots (pc + 1) ls (.inl (.double x) :: st) M) : Z own cc nL rt xt nme R Q rs sh cells slots pc ls st M := fun p l e s m args below meth c D tc ad A H locs lsA C hP hS hl => lv_dload_n C.1 C.2.1 hd hi (hl.2.2 i _ hv) (k p l e s m args below meth c D tc ad A H locs lsA C hP hS hl)
theorem z_dload {i : Nat} {x : UInt64} (hd : decode cc pc = .ok (.dload i, 2)) (hv : ls[i]? = some (some (.inl (.double x)))) (k : Z own cc nL rt xt nme R Q rs sh cells slots (pc + 2) ls (.inl (.double x) :: st) M) : Z own cc nL rt xt nme R Q rs sh cells slots pc ls st M := fun p l e s m args below meth c D tc ad A H locs lsA C hP hS hl => lv_dload C.1 C.2.1 hd (hl.2.2 i _ hv) (k p l e s m args below meth c D tc ad A H locs lsA C hP hS hl)
theorem z_aload_n {k : Fin 4} {i : Nat} {r : Rf} (hd : decode cc pc = .ok (.aload_n k, 1)) (hi : (k : Nat) = i) (hv : ls[i]? = some (some (.inr r))) (k : Z own cc nL rt xt nme R Q rs sh cells slots (pc + 1) ls (.inr r :: st) M) : Z own cc nL rt xt nme R Q rs sh cells slots pc ls st M := fun p l e s m args below meth c D tc ad A H locs lsA C hP hS hl => lv_aload_n C.1 C.2.1 hd hi (hl.2.2 i _ hv) (k p l e s m args below meth c D tc ad A H locs lsA C hP hS hl)
theorem z_aload {i : Nat} {r : Rf} (hd : decode cc pc = .ok (.aload i, 2)) (hv : ls[i]? = some (some (.inr r))) (k : Z own cc nL rt xt nme R Q rs sh cells slots (pc + 2) ls (.inr r :: st) M) : Z own cc nL rt xt nme R Q rs sh cells slots pc ls st M := fun p l e s m args below meth c D tc ad A H locs lsA C hP hS hl => lv_aload C.1 C.2.1 hd (hl.2.2 i _ hv) (k p l e s m args below meth c D tc ad A H locs lsA C hP hS hl)
theorem z_istore_n {i : Nat} {x : Int32} {k : Fin 4} (hd : decode cc pc = .ok (.istore_n k, 1)) (hi : (k : Nat) = i) (hn : i < nL) (hk : lok ls i = true) (k : Z own cc nL rt xt nme R Q rs sh cells slots (pc + 1) (ls.set i (some (.inl (.int x)))) st M) : Z own cc nL rt xt nme R Q rs sh cells slots pc ls (.inl (.int x) :: st) M := fun p l e s m args below meth c D tc ad A H locs lsA C hP hS hl => lv_istore_n C.1 C.2.1 hd hi (zl_lv hl) hn rfl (fun ls9 hl9 => k p l e s m args below meth c D tc ad A H locs ls9 C hP hS (zl_set1 (v := .inl (.int x)) hk hl9))
theorem z_istore {i : Nat} {x : Int32}  (hd : decode cc pc = .ok (.istore i, 2))  (hn : i < nL) (hk : lok ls i = true) (k : Z own cc nL rt xt nme R Q rs sh cells slots (pc + 2) (ls.set i (some (.inl (.int x)))) st M) : Z own cc nL rt xt nme R Q rs sh cells slots pc ls (.inl (.int x) :: st) M := fun p l e s m args below meth c D tc ad A H locs lsA C hP hS hl => lv_istore C.1 C.2.1 hd  (zl_lv hl) hn rfl (fun ls9 hl9 => k p l e s m args below meth c D tc ad A H locs ls9 C hP hS (zl_set1 (v := .inl (.int x)) hk hl9))
theorem z_fstore {i : Nat} {x : UInt32}  (hd : decode cc pc = .ok (.fstore i, 2))  (hn : i < nL) (hk : lok ls i = true) (k : Z own cc nL rt xt nme R Q rs sh cells slots (pc + 2) (ls.set i (some (.inl (.float x)))) st M) : Z own cc nL rt xt nme R Q rs sh cells slots pc ls (.inl (.float x) :: st) M := fun p l e s m args below meth c D tc ad A H locs lsA C hP hS hl => lv_fstore C.1 C.2.1 hd  (zl_lv hl) hn rfl (fun ls9 hl9 => k p l e s m args below meth c D tc ad A H locs ls9 C hP hS (zl_set1 (v := .inl (.float x)) hk hl9))
theorem z_astore_n {i : Nat} {x : Rf} {k : Fin 4} (hd : decode cc pc = .ok (.astore_n k, 1)) (hi : (k : Nat) = i) (hn : i < nL) (hk : lok ls i = true) (k : Z own cc nL rt xt nme R Q rs sh cells slots (pc + 1) (ls.set i (some (.inr x))) st M) : Z own cc nL rt xt nme R Q rs sh cells slots pc ls (.inr x :: st) M := fun p l e s m args below meth c D tc ad A H locs lsA C hP hS hl => lv_astore_n C.1 C.2.1 hd hi (zl_lv hl) hn rfl (fun ls9 hl9 => k p l e s m args below meth c D tc ad A H locs ls9 C hP hS (zl_set1 (v := .inr x) hk hl9))
theorem z_astore {i : Nat} {x : Rf}  (hd : decode cc pc = .ok (.astore i, 2))  (hn : i < nL) (hk : lok ls i = true) (k : Z own cc nL rt xt nme R Q rs sh cells slots (pc + 2) (ls.set i (some (.inr x))) st M) : Z own cc nL rt xt nme R Q rs sh cells slots pc ls (.inr x :: st) M := fun p l e s m args below meth c D tc ad A H locs lsA C hP hS hl => lv_astore C.1 C.2.1 hd  (zl_lv hl) hn rfl (fun ls9 hl9 => k p l e s m args below meth c D tc ad A H locs ls9 C hP hS (zl_set1 (v := .inr x) hk hl9))
theorem z_lstore_n {i : Nat} {x : Int64} {k : Fin 4} (hd : decode cc pc = .ok (.lstore_n k, 1)) (hi : (k : Nat) = i) (hn : i + 1 < nL) (hk : lok ls i = true) (k : Z own cc nL rt xt nme R Q rs sh cells slots (pc + 1) ((ls.set (i + 1) none).set i (some (.inl (.long x)))) st M) : Z own cc nL rt xt nme R Q rs sh cells slots pc ls (.inl (.long x) :: st) M := fun p l e s m args below meth c D tc ad A H locs lsA C hP hS hl => lv_lstore_n C.1 C.2.1 hd hi (zl_lv hl) hn rfl (fun ls9 hl9 => k p l e s m args below meth c D tc ad A H locs ls9 C hP hS (zl_set2 (v := .inl (.long x)) hk hl9))
theorem z_lstore {i : Nat} {x : Int64}  (hd : decode cc pc = .ok (.lstore i, 2))  (hn : i + 1 < nL) (hk : lok ls i = true) (k : Z own cc nL rt xt nme R Q rs sh cells slots (pc + 2) ((ls.set (i + 1) none).set i (some (.inl (.long x)))) st M) : Z own cc nL rt xt nme R Q rs sh cells slots pc ls (.inl (.long x) :: st) M := fun p l e s m args below meth c D tc ad A H locs lsA C hP hS hl => lv_lstore C.1 C.2.1 hd  (zl_lv hl) hn rfl (fun ls9 hl9 => k p l e s m args below meth c D tc ad A H locs ls9 C hP hS (zl_set2 (v := .inl (.long x)) hk hl9))
theorem z_dstore_n {i : Nat} {x : UInt64} {k : Fin 4} (hd : decode cc pc = .ok (.dstore_n k, 1)) (hi : (k : Nat) = i) (hn : i + 1 < nL) (hk : lok ls i = true) (k : Z own cc nL rt xt nme R Q rs sh cells slots (pc + 1) ((ls.set (i + 1) none).set i (some (.inl (.double x)))) st M) : Z own cc nL rt xt nme R Q rs sh cells slots pc ls (.inl (.double x) :: st) M := fun p l e s m args below meth c D tc ad A H locs lsA C hP hS hl => lv_dstore_n C.1 C.2.1 hd hi (zl_lv hl) hn rfl (fun ls9 hl9 => k p l e s m args below meth c D tc ad A H locs ls9 C hP hS (zl_set2 (v := .inl (.double x)) hk hl9))
theorem z_dstore {i : Nat} {x : UInt64}  (hd : decode cc pc = .ok (.dstore i, 2))  (hn : i + 1 < nL) (hk : lok ls i = true) (k : Z own cc nL rt xt nme R Q rs sh cells slots (pc + 2) ((ls.set (i + 1) none).set i (some (.inl (.double x)))) st M) : Z own cc nL rt xt nme R Q rs sh cells slots pc ls (.inl (.double x) :: st) M := fun p l e s m args below meth c D tc ad A H locs lsA C hP hS hl => lv_dstore C.1 C.2.1 hd  (zl_lv hl) hn rfl (fun ls9 hl9 => k p l e s m args below meth c D tc ad A H locs ls9 C hP hS (zl_set2 (v := .inl (.double x)) hk hl9))
theorem z_iinc {i : Nat} {n : Int} {x v : Int32} (hd : decode cc pc = .ok (.iinc i n, 3)) (hx : ls[i]? = some (some (.inl (.int x)))) (hv : x + Int32.ofInt n = v) (hn : i < nL) (hk : lok ls i = true) (k : Z own cc nL rt xt nme R Q rs sh cells slots (pc + 3) (ls.set i (some (.inl (.int v)))) st M) : Z own cc nL rt xt nme R Q rs sh cells slots pc ls st M := by
  intro p l e s m args below meth c D tc ad A H locs lsA C hP hS hl
  have hm := lvl_mem (ad := ad) ls 0 i _ hx
  rw [Nat.zero_add] at hm
  obtain ⟨q, hq⟩ := List.getElem?_of_mem hm
  exact lv_iinc (x := x) C.1 C.2.1 hd (zl_lv hl) hq hv hn rfl (fun ls9 hl9 => k p l e s m args below meth c D tc ad A H locs ls9 C hP hS (zl_set1 (v := .inl (.int v)) hk hl9))
theorem z_iadd {x y : Int32} (hd : decode cc pc = .ok (.iadd, 1))  (k : Z own cc nL rt xt nme R Q rs sh cells slots (pc + 1) ls (.inl (.int (x + y)) :: st) M) : Z own cc nL rt xt nme R Q rs sh cells slots pc ls (.inl (.int y) :: .inl (.int x) :: st) M := fun p l e s m args below meth c D tc ad A H locs lsA C hP hS hl => lv_iadd C.1 C.2.1 hd  (k p l e s m args below meth c D tc ad A H locs lsA C hP hS hl)
theorem z_isub {x y : Int32} (hd : decode cc pc = .ok (.isub, 1))  (k : Z own cc nL rt xt nme R Q rs sh cells slots (pc + 1) ls (.inl (.int (x - y)) :: st) M) : Z own cc nL rt xt nme R Q rs sh cells slots pc ls (.inl (.int y) :: .inl (.int x) :: st) M := fun p l e s m args below meth c D tc ad A H locs lsA C hP hS hl => lv_isub C.1 C.2.1 hd  (k p l e s m args below meth c D tc ad A H locs lsA C hP hS hl)
theorem z_imul {x y : Int32} (hd : decode cc pc = .ok (.imul, 1))  (k : Z own cc nL rt xt nme R Q rs sh cells slots (pc + 1) ls (.inl (.int (x * y)) :: st) M) : Z own cc nL rt xt nme R Q rs sh cells slots pc ls (.inl (.int y) :: .inl (.int x) :: st) M := fun p l e s m args below meth c D tc ad A H locs lsA C hP hS hl => lv_imul C.1 C.2.1 hd  (k p l e s m args below meth c D tc ad A H locs lsA C hP hS hl)
theorem z_iand {x y : Int32} (hd : decode cc pc = .ok (.iand, 1))  (k : Z own cc nL rt xt nme R Q rs sh cells slots (pc + 1) ls (.inl (.int (x &&& y)) :: st) M) : Z own cc nL rt xt nme R Q rs sh cells slots pc ls (.inl (.int y) :: .inl (.int x) :: st) M := fun p l e s m args below meth c D tc ad A H locs lsA C hP hS hl => lv_iand C.1 C.2.1 hd  (k p l e s m args below meth c D tc ad A H locs lsA C hP hS hl)
theorem z_ior {x y : Int32} (hd : decode cc pc = .ok (.ior, 1))  (k : Z own cc nL rt xt nme R Q rs sh cells slots (pc + 1) ls (.inl (.int (x ||| y)) :: st) M) : Z own cc nL rt xt nme R Q rs sh cells slots pc ls (.inl (.int y) :: .inl (.int x) :: st) M := fun p l e s m args below meth c D tc ad A H locs lsA C hP hS hl => lv_ior C.1 C.2.1 hd  (k p l e s m args below meth c D tc ad A H locs lsA C hP hS hl)
theorem z_ixor {x y : Int32} (hd : decode cc pc = .ok (.ixor, 1))  (k : Z own cc nL rt xt nme R Q rs sh cells slots (pc + 1) ls (.inl (.int (x ^^^ y)) :: st) M) : Z own cc nL rt xt nme R Q rs sh cells slots pc ls (.inl (.int y) :: .inl (.int x) :: st) M := fun p l e s m args below meth c D tc ad A H locs lsA C hP hS hl => lv_ixor C.1 C.2.1 hd  (k p l e s m args below meth c D tc ad A H locs lsA C hP hS hl)
theorem z_ishl {x y : Int32} (hd : decode cc pc = .ok (.ishl, 1))  (k : Z own cc nL rt xt nme R Q rs sh cells slots (pc + 1) ls (.inl (.int (x <<< (y &&& 31))) :: st) M) : Z own cc nL rt xt nme R Q rs sh cells slots pc ls (.inl (.int y) :: .inl (.int x) :: st) M := fun p l e s m args below meth c D tc ad A H locs lsA C hP hS hl => lv_ishl C.1 C.2.1 hd  (k p l e s m args below meth c D tc ad A H locs lsA C hP hS hl)
theorem z_ishr {x y : Int32} (hd : decode cc pc = .ok (.ishr, 1))  (k : Z own cc nL rt xt nme R Q rs sh cells slots (pc + 1) ls (.inl (.int (x >>> (y &&& 31))) :: st) M) : Z own cc nL rt xt nme R Q rs sh cells slots pc ls (.inl (.int y) :: .inl (.int x) :: st) M := fun p l e s m args below meth c D tc ad A H locs lsA C hP hS hl => lv_ishr C.1 C.2.1 hd  (k p l e s m args below meth c D tc ad A H locs lsA C hP hS hl)
theorem z_iushr {x y : Int32} (hd : decode cc pc = .ok (.iushr, 1))  (k : Z own cc nL rt xt nme R Q rs sh cells slots (pc + 1) ls (.inl (.int ((x.toUInt32 >>> (y.toUInt32 &&& Int32.toUInt32 31)).toInt32)) :: st) M) : Z own cc nL rt xt nme R Q rs sh cells slots pc ls (.inl (.int y) :: .inl (.int x) :: st) M := fun p l e s m args below meth c D tc ad A H locs lsA C hP hS hl => lv_iushr C.1 C.2.1 hd rfl (k p l e s m args below meth c D tc ad A H locs lsA C hP hS hl)
theorem z_ineg {x : Int32} (hd : decode cc pc = .ok (.ineg, 1))  (k : Z own cc nL rt xt nme R Q rs sh cells slots (pc + 1) ls (.inl (.int (-x)) :: st) M) : Z own cc nL rt xt nme R Q rs sh cells slots pc ls (.inl (.int x) :: st) M := fun p l e s m args below meth c D tc ad A H locs lsA C hP hS hl => lv_ineg C.1 C.2.1 hd  (k p l e s m args below meth c D tc ad A H locs lsA C hP hS hl)
theorem z_idiv {x y : Int32} (hd : decode cc pc = .ok (.idiv, 1)) (hne : ¬ y = 0) (k : Z own cc nL rt xt nme R Q rs sh cells slots (pc + 1) ls (.inl (.int (x / y)) :: st) M) : Z own cc nL rt xt nme R Q rs sh cells slots pc ls (.inl (.int y) :: .inl (.int x) :: st) M := fun p l e s m args below meth c D tc ad A H locs lsA C hP hS hl => lv_idiv C.1 C.2.1 hd hne (k p l e s m args below meth c D tc ad A H locs lsA C hP hS hl)
theorem z_irem {x y : Int32} (hd : decode cc pc = .ok (.irem, 1)) (hne : ¬ y = 0) (k : Z own cc nL rt xt nme R Q rs sh cells slots (pc + 1) ls (.inl (.int (x - x / y * y)) :: st) M) : Z own cc nL rt xt nme R Q rs sh cells slots pc ls (.inl (.int y) :: .inl (.int x) :: st) M := fun p l e s m args below meth c D tc ad A H locs lsA C hP hS hl => lv_irem C.1 C.2.1 hd hne (k p l e s m args below meth c D tc ad A H locs lsA C hP hS hl)
theorem z_ladd {x y : Int64} (hd : decode cc pc = .ok (.ladd, 1))  (k : Z own cc nL rt xt nme R Q rs sh cells slots (pc + 1) ls (.inl (.long (x + y)) :: st) M) : Z own cc nL rt xt nme R Q rs sh cells slots pc ls (.inl (.long y) :: .inl (.long x) :: st) M := fun p l e s m args below meth c D tc ad A H locs lsA C hP hS hl => lv_ladd C.1 C.2.1 hd  (k p l e s m args below meth c D tc ad A H locs lsA C hP hS hl)
theorem z_lsub {x y : Int64} (hd : decode cc pc = .ok (.lsub, 1))  (k : Z own cc nL rt xt nme R Q rs sh cells slots (pc + 1) ls (.inl (.long (x - y)) :: st) M) : Z own cc nL rt xt nme R Q rs sh cells slots pc ls (.inl (.long y) :: .inl (.long x) :: st) M := fun p l e s m args below meth c D tc ad A H locs lsA C hP hS hl => lv_lsub C.1 C.2.1 hd  (k p l e s m args below meth c D tc ad A H locs lsA C hP hS hl)
theorem z_land {x y : Int64} (hd : decode cc pc = .ok (.land, 1))  (k : Z own cc nL rt xt nme R Q rs sh cells slots (pc + 1) ls (.inl (.long (x &&& y)) :: st) M) : Z own cc nL rt xt nme R Q rs sh cells slots pc ls (.inl (.long y) :: .inl (.long x) :: st) M := fun p l e s m args below meth c D tc ad A H locs lsA C hP hS hl => lv_land C.1 C.2.1 hd  (k p l e s m args below meth c D tc ad A H locs lsA C hP hS hl)
theorem z_lor {x y : Int64} (hd : decode cc pc = .ok (.lor, 1))  (k : Z own cc nL rt xt nme R Q rs sh cells slots (pc + 1) ls (.inl (.long (x ||| y)) :: st) M) : Z own cc nL rt xt nme R Q rs sh cells slots pc ls (.inl (.long y) :: .inl (.long x) :: st) M := fun p l e s m args below meth c D tc ad A H locs lsA C hP hS hl => lv_lor C.1 C.2.1 hd  (k p l e s m args below meth c D tc ad A H locs lsA C hP hS hl)
theorem z_lxor {x y : Int64} (hd : decode cc pc = .ok (.lxor, 1))  (k : Z own cc nL rt xt nme R Q rs sh cells slots (pc + 1) ls (.inl (.long (x ^^^ y)) :: st) M) : Z own cc nL rt xt nme R Q rs sh cells slots pc ls (.inl (.long y) :: .inl (.long x) :: st) M := fun p l e s m args below meth c D tc ad A H locs lsA C hP hS hl => lv_lxor C.1 C.2.1 hd  (k p l e s m args below meth c D tc ad A H locs lsA C hP hS hl)
theorem z_lshl {x : Int64} {y : Int32} (hd : decode cc pc = .ok (.lshl, 1))  (k : Z own cc nL rt xt nme R Q rs sh cells slots (pc + 1) ls (.inl (.long (x <<< (y.toInt64 &&& 63))) :: st) M) : Z own cc nL rt xt nme R Q rs sh cells slots pc ls (.inl (.int y) :: .inl (.long x) :: st) M := fun p l e s m args below meth c D tc ad A H locs lsA C hP hS hl => lv_lshl C.1 C.2.1 hd rfl (k p l e s m args below meth c D tc ad A H locs lsA C hP hS hl)
theorem z_lushr {x : Int64} {y : Int32} (hd : decode cc pc = .ok (.lushr, 1))  (k : Z own cc nL rt xt nme R Q rs sh cells slots (pc + 1) ls (.inl (.long ((x.toUInt64 >>> (y.toInt64.toUInt64 &&& Int64.toUInt64 63)).toInt64)) :: st) M) : Z own cc nL rt xt nme R Q rs sh cells slots pc ls (.inl (.int y) :: .inl (.long x) :: st) M := fun p l e s m args below meth c D tc ad A H locs lsA C hP hS hl => lv_lushr C.1 C.2.1 hd rfl (k p l e s m args below meth c D tc ad A H locs lsA C hP hS hl)
theorem z_i2l {x : Int32} (hd : decode cc pc = .ok (.i2l, 1))  (k : Z own cc nL rt xt nme R Q rs sh cells slots (pc + 1) ls (.inl (.long x.toInt64) :: st) M) : Z own cc nL rt xt nme R Q rs sh cells slots pc ls (.inl (.int x) :: st) M := fun p l e s m args below meth c D tc ad A H locs lsA C hP hS hl => lv_i2l C.1 C.2.1 hd rfl (k p l e s m args below meth c D tc ad A H locs lsA C hP hS hl)
theorem z_l2i {x : Int64} (hd : decode cc pc = .ok (.l2i, 1))  (k : Z own cc nL rt xt nme R Q rs sh cells slots (pc + 1) ls (.inl (.int x.toInt32) :: st) M) : Z own cc nL rt xt nme R Q rs sh cells slots pc ls (.inl (.long x) :: st) M := fun p l e s m args below meth c D tc ad A H locs lsA C hP hS hl => lv_l2i C.1 C.2.1 hd rfl (k p l e s m args below meth c D tc ad A H locs lsA C hP hS hl)
theorem z_i2d {x : Int32} (hd : decode cc pc = .ok (.i2d, 1))  (k : Z own cc nL rt xt nme R Q rs sh cells slots (pc + 1) ls (.inl (.double (FP.i2d x)) :: st) M) : Z own cc nL rt xt nme R Q rs sh cells slots pc ls (.inl (.int x) :: st) M := fun p l e s m args below meth c D tc ad A H locs lsA C hP hS hl => lv_i2d C.1 C.2.1 hd  (k p l e s m args below meth c D tc ad A H locs lsA C hP hS hl)
theorem z_i2f {x : Int32} (hd : decode cc pc = .ok (.i2f, 1))  (k : Z own cc nL rt xt nme R Q rs sh cells slots (pc + 1) ls (.inl (.float (FP.i2f x)) :: st) M) : Z own cc nL rt xt nme R Q rs sh cells slots pc ls (.inl (.int x) :: st) M := fun p l e s m args below meth c D tc ad A H locs lsA C hP hS hl => lv_i2f C.1 C.2.1 hd  (k p l e s m args below meth c D tc ad A H locs lsA C hP hS hl)
theorem z_f2d {x : UInt32} (hd : decode cc pc = .ok (.f2d, 1)) (hne : vf_n64 (FP.f2d x)) (k : Z own cc nL rt xt nme R Q rs sh cells slots (pc + 1) ls (.inl (.double (FP.f2d x)) :: st) M) : Z own cc nL rt xt nme R Q rs sh cells slots pc ls (.inl (.float x) :: st) M := fun p l e s m args below meth c D tc ad A H locs lsA C hP hS hl => lv_f2d C.1 C.2.1 hd hne (k p l e s m args below meth c D tc ad A H locs lsA C hP hS hl)
theorem z_d2l {x : UInt64} (hd : decode cc pc = .ok (.d2l, 1))  (k : Z own cc nL rt xt nme R Q rs sh cells slots (pc + 1) ls (.inl (.long (FP.d2l x)) :: st) M) : Z own cc nL rt xt nme R Q rs sh cells slots pc ls (.inl (.double x) :: st) M := fun p l e s m args below meth c D tc ad A H locs lsA C hP hS hl => lv_d2l C.1 C.2.1 hd  (k p l e s m args below meth c D tc ad A H locs lsA C hP hS hl)
theorem z_ddiv {x y : UInt64} (hd : decode cc pc = .ok (.ddiv, 1)) (hne : vf_n64 (FP.ddiv x y)) (k : Z own cc nL rt xt nme R Q rs sh cells slots (pc + 1) ls (.inl (.double (FP.ddiv x y)) :: st) M) : Z own cc nL rt xt nme R Q rs sh cells slots pc ls (.inl (.double y) :: .inl (.double x) :: st) M := fun p l e s m args below meth c D tc ad A H locs lsA C hP hS hl => lv_ddiv C.1 C.2.1 hd hne (k p l e s m args below meth c D tc ad A H locs lsA C hP hS hl)
theorem z_dmul {x y : UInt64} (hd : decode cc pc = .ok (.dmul, 1)) (hne : vf_n64 (FP.dmul x y)) (k : Z own cc nL rt xt nme R Q rs sh cells slots (pc + 1) ls (.inl (.double (FP.dmul x y)) :: st) M) : Z own cc nL rt xt nme R Q rs sh cells slots pc ls (.inl (.double y) :: .inl (.double x) :: st) M := fun p l e s m args below meth c D tc ad A H locs lsA C hP hS hl => lv_dmul C.1 C.2.1 hd hne (k p l e s m args below meth c D tc ad A H locs lsA C hP hS hl)
theorem z_dsub {x y : UInt64} (hd : decode cc pc = .ok (.dsub, 1)) (hne : vf_n64 (FP.dsub x y)) (k : Z own cc nL rt xt nme R Q rs sh cells slots (pc + 1) ls (.inl (.double (FP.dsub x y)) :: st) M) : Z own cc nL rt xt nme R Q rs sh cells slots pc ls (.inl (.double y) :: .inl (.double x) :: st) M := fun p l e s m args below meth c D tc ad A H locs lsA C hP hS hl => lv_dsub C.1 C.2.1 hd hne (k p l e s m args below meth c D tc ad A H locs lsA C hP hS hl)
theorem z_fdiv {x y : UInt32} (hd : decode cc pc = .ok (.fdiv, 1)) (hne : vf_n32 (FP.fdiv x y)) (k : Z own cc nL rt xt nme R Q rs sh cells slots (pc + 1) ls (.inl (.float (FP.fdiv x y)) :: st) M) : Z own cc nL rt xt nme R Q rs sh cells slots pc ls (.inl (.float y) :: .inl (.float x) :: st) M := fun p l e s m args below meth c D tc ad A H locs lsA C hP hS hl => lv_fdiv C.1 C.2.1 hd hne (k p l e s m args below meth c D tc ad A H locs lsA C hP hS hl)
theorem z_dcmp {x y : UInt64} {op : CmpOp} (hd : decode cc pc = .ok (.dcmp op, 1))  (k : Z own cc nL rt xt nme R Q rs sh cells slots (pc + 1) ls (.inl (.int (Op.cmpValue (FP.dcmp x y) op)) :: st) M) : Z own cc nL rt xt nme R Q rs sh cells slots pc ls (.inl (.double y) :: .inl (.double x) :: st) M := fun p l e s m args below meth c D tc ad A H locs lsA C hP hS hl => lv_dcmp C.1 C.2.1 hd  (k p l e s m args below meth c D tc ad A H locs lsA C hP hS hl)
theorem z_fcmp {x y : UInt32} {op : CmpOp} (hd : decode cc pc = .ok (.fcmp op, 1))  (k : Z own cc nL rt xt nme R Q rs sh cells slots (pc + 1) ls (.inl (.int (Op.cmpValue (FP.fcmp x y) op)) :: st) M) : Z own cc nL rt xt nme R Q rs sh cells slots pc ls (.inl (.float y) :: .inl (.float x) :: st) M := fun p l e s m args below meth c D tc ad A H locs lsA C hP hS hl => lv_fcmp C.1 C.2.1 hd  (k p l e s m args below meth c D tc ad A H locs lsA C hP hS hl)
theorem rv_cat {ad : Rf → Nat} {v : MV} (h : (match v with | .inl x => x.category == 1 | .inr _ => true) = true) : (rv ad v).category = 1 := by
  cases v with
  | inl x =>
    show x.category = 1
    simpa using h
  | inr r => rfl
theorem z_dup {v : MV} (hd : decode cc pc = .ok (.dup, 1)) (hc : (match v with | .inl x => x.category == 1 | .inr _ => true) = true) (k : Z own cc nL rt xt nme R Q rs sh cells slots (pc + 1) ls (v :: v :: st) M) : Z own cc nL rt xt nme R Q rs sh cells slots pc ls (v :: st) M := fun p l e s m args below meth c D tc ad A H locs lsA C hP hS hl => lv_dup C.1 C.2.1 hd (rv_cat hc) (k p l e s m args below meth c D tc ad A H locs lsA C hP hS hl)
theorem z_pop {v : MV} (hd : decode cc pc = .ok (.pop, 1)) (hc : (match v with | .inl x => x.category == 1 | .inr _ => true) = true) (k : Z own cc nL rt xt nme R Q rs sh cells slots (pc + 1) ls st M) : Z own cc nL rt xt nme R Q rs sh cells slots pc ls (v :: st) M := fun p l e s m args below meth c D tc ad A H locs lsA C hP hS hl => lv_pop C.1 C.2.1 hd (rv_cat hc) (k p l e s m args below meth c D tc ad A H locs lsA C hP hS hl)
theorem z_dup2 {v w : MV} (hd : decode cc pc = .ok (.dup2, 1)) (hc : (match v with | .inl x => x.category == 1 | .inr _ => true) = true) (hc2 : (match w with | .inl x => x.category == 1 | .inr _ => true) = true) (k : Z own cc nL rt xt nme R Q rs sh cells slots (pc + 1) ls (v :: w :: v :: w :: st) M) : Z own cc nL rt xt nme R Q rs sh cells slots pc ls (v :: w :: st) M := fun p l e s m args below meth c D tc ad A H locs lsA C hP hS hl => lv_dup2_11 C.1 C.2.1 hd (rv_cat hc) (rv_cat hc2) (k p l e s m args below meth c D tc ad A H locs lsA C hP hS hl)
theorem z_if_eq {off : Int} {tgt : Nat} {x : Int32} (hd : decode cc pc = .ok (.ifCond .eq off, 3)) (ht : (pc : Int) + off = (tgt : Int)) (kt : x = 0 → Z own cc nL rt xt nme R Q rs sh cells slots tgt ls st M) (kf : ¬ x = 0 → Z own cc nL rt xt nme R Q rs sh cells slots (pc + 3) ls st M) : Z own cc nL rt xt nme R Q rs sh cells slots pc ls (.inl (.int x) :: st) M := fun p l e s m args below meth c D tc ad A H locs lsA C hP hS hl => lv_if_eq C.1 C.2.1 hd ht (fun h => kt h p l e s m args below meth c D tc ad A H locs lsA C hP hS hl) (fun h => kf h p l e s m args below meth c D tc ad A H locs lsA C hP hS hl)
theorem z_if_ne {off : Int} {tgt : Nat} {x : Int32} (hd : decode cc pc = .ok (.ifCond .ne off, 3)) (ht : (pc : Int) + off = (tgt : Int)) (kt : ¬ x = 0 → Z own cc nL rt xt nme R Q rs sh cells slots tgt ls st M) (kf : x = 0 → Z own cc nL rt xt nme R Q rs sh cells slots (pc + 3) ls st M) : Z own cc nL rt xt nme R Q rs sh cells slots pc ls (.inl (.int x) :: st) M := fun p l e s m args below meth c D tc ad A H locs lsA C hP hS hl => lv_if_ne C.1 C.2.1 hd ht (fun h => kt h p l e s m args below meth c D tc ad A H locs lsA C hP hS hl) (fun h => kf h p l e s m args below meth c D tc ad A H locs lsA C hP hS hl)
theorem z_if_lt {off : Int} {tgt : Nat} {x : Int32} (hd : decode cc pc = .ok (.ifCond .lt off, 3)) (ht : (pc : Int) + off = (tgt : Int)) (kt : x < 0 → Z own cc nL rt xt nme R Q rs sh cells slots tgt ls st M) (kf : ¬ x < 0 → Z own cc nL rt xt nme R Q rs sh cells slots (pc + 3) ls st M) : Z own cc nL rt xt nme R Q rs sh cells slots pc ls (.inl (.int x) :: st) M := fun p l e s m args below meth c D tc ad A H locs lsA C hP hS hl => lv_if_lt C.1 C.2.1 hd ht (fun h => kt h p l e s m args below meth c D tc ad A H locs lsA C hP hS hl) (fun h => kf h p l e s m args below meth c D tc ad A H locs lsA C hP hS hl)
theorem z_if_ge {off : Int} {tgt : Nat} {x : Int32} (hd : decode cc pc = .ok (.ifCond .ge off, 3)) (ht : (pc : Int) + off = (tgt : Int)) (kt : 0 ≤ x → Z own cc nL rt xt nme R Q rs sh cells slots tgt ls st M) (kf : ¬ 0 ≤ x → Z own cc nL rt xt nme R Q rs sh cells slots (pc + 3) ls st M) : Z own cc nL rt xt nme R Q rs sh cells slots pc ls (.inl (.int x) :: st) M := fun p l e s m args below meth c D tc ad A H locs lsA C hP hS hl => lv_if_ge C.1 C.2.1 hd ht (fun h => kt h p l e s m args below meth c D tc ad A H locs lsA C hP hS hl) (fun h => kf h p l e s m args below meth c D tc ad A H locs lsA C hP hS hl)
theorem z_if_gt {off : Int} {tgt : Nat} {x : Int32} (hd : decode cc pc = .ok (.ifCond .gt off, 3)) (ht : (pc : Int) + off = (tgt : Int)) (kt : 0 < x → Z own cc nL rt xt nme R Q rs sh cells slots tgt ls st M) (kf : ¬ 0 < x → Z own cc nL rt xt nme R Q rs sh cells slots (pc + 3) ls st M) : Z own cc nL rt xt nme R Q rs sh cells slots pc ls (.inl (.int x) :: st) M := fun p l e s m args below meth c D tc ad A H locs lsA C hP hS hl => lv_if_gt C.1 C.2.1 hd ht (fun h => kt h p l e s m args below meth c D tc ad A H locs lsA C hP hS hl) (fun h => kf h p l e s m args below meth c D tc ad A H locs lsA C hP hS hl)
theorem z_if_le {off : Int} {tgt : Nat} {x : Int32} (hd : decode cc pc = .ok (.ifCond .le off, 3)) (ht : (pc : Int) + off = (tgt : Int)) (kt : x ≤ 0 → Z own cc nL rt xt nme R Q rs sh cells slots tgt ls st M) (kf : ¬ x ≤ 0 → Z own cc nL rt xt nme R Q rs sh cells slots (pc + 3) ls st M) : Z own cc nL rt xt nme R Q rs sh cells slots pc ls (.inl (.int x) :: st) M := fun p l e s m args below meth c D tc ad A H locs lsA C hP hS hl => lv_if_le C.1 C.2.1 hd ht (fun h => kt h p l e s m args below meth c D tc ad A H locs lsA C hP hS hl) (fun h => kf h p l e s m args below meth c D tc ad A H locs lsA C hP hS hl)
theorem z_icmp_eq {off : Int} {tgt : Nat} {x y : Int32} (hd : decode cc pc = .ok (.if_icmp .eq off, 3)) (ht : (pc : Int) + off = (tgt : Int)) (kt : x = y → Z own cc nL rt xt nme R Q rs sh cells slots tgt ls st M) (kf : ¬ x = y → Z own cc nL rt xt nme R Q rs sh cells slots (pc + 3) ls st M) : Z own cc nL rt xt nme R Q rs sh cells slots pc ls (.inl (.int y) :: .inl (.int x) :: st) M := fun p l e s m args below meth c D tc ad A H locs lsA C hP hS hl => lv_icmp_eq C.1 C.2.1 hd ht (fun h => kt h p l e s m args below meth c D tc ad A H locs lsA C hP hS hl) (fun h => kf h p l e s m args below meth c D tc ad A H locs lsA C hP hS hl)
theorem z_icmp_ne {off : Int} {tgt : Nat} {x y : Int32} (hd : decode cc pc = .ok (.if_icmp .ne off, 3)) (ht : (pc : Int) + off = (tgt : Int)) (kt : ¬ x = y → Z own cc nL rt xt nme R Q rs sh cells slots tgt ls st M) (kf : x = y → Z own cc nL rt xt nme R Q rs sh cells slots (pc + 3) ls st M) : Z own cc nL rt xt nme R Q rs sh cells slots pc ls (.inl (.int y) :: .inl (.int x) :: st) M := fun p l e s m args below meth c D tc ad A H locs lsA C hP hS hl => lv_icmp_ne C.1 C.2.1 hd ht (fun h => kt h p l e s m args below meth c D tc ad A H locs lsA C hP hS hl) (fun h => kf h p l e s m args below meth c D tc ad A H locs lsA C hP hS hl)
theorem z_icmp_lt {off : Int} {tgt : Nat} {x y : Int32} (hd : decode cc pc = .ok (.if_icmp .lt off, 3)) (ht : (pc : Int) + off = (tgt : Int)) (kt : x < y → Z own cc nL rt xt nme R Q rs sh cells slots tgt ls st M) (kf : ¬ x < y → Z own cc nL rt xt nme R Q rs sh cells slots (pc + 3) ls st M) : Z own cc nL rt xt nme R Q rs sh cells slots pc ls (.inl (.int y) :: .inl (.int x) :: st) M := fun p l e s m args below meth c D tc ad A H locs lsA C hP hS hl => lv_icmp_lt C.1 C.2.1 hd ht (fun h => kt h p l e s m args below meth c D tc ad A H locs lsA C hP hS hl) (fun h => kf h p l e s m args below meth c D tc ad A H locs lsA C hP hS hl)
theorem z_icmp_ge {off : Int} {tgt : Nat} {x y : Int32} (hd : decode cc pc = .ok (.if_icmp .ge off, 3)) (ht : (pc : Int) + off = (tgt : Int)) (kt : y ≤ x → Z own cc nL rt xt nme R Q rs sh cells slots tgt ls st M) (kf : ¬ y ≤ x → Z own cc nL rt xt nme R Q rs sh cells slots (pc + 3) ls st M) : Z own cc nL rt xt nme R Q rs sh cells slots pc ls (.inl (.int y) :: .inl (.int x) :: st) M := fun p l e s m args below meth c D tc ad A H locs lsA C hP hS hl => lv_icmp_ge C.1 C.2.1 hd ht (fun h => kt h p l e s m args below meth c D tc ad A H locs lsA C hP hS hl) (fun h => kf h p l e s m args below meth c D tc ad A H locs lsA C hP hS hl)
theorem z_icmp_gt {off : Int} {tgt : Nat} {x y : Int32} (hd : decode cc pc = .ok (.if_icmp .gt off, 3)) (ht : (pc : Int) + off = (tgt : Int)) (kt : y < x → Z own cc nL rt xt nme R Q rs sh cells slots tgt ls st M) (kf : ¬ y < x → Z own cc nL rt xt nme R Q rs sh cells slots (pc + 3) ls st M) : Z own cc nL rt xt nme R Q rs sh cells slots pc ls (.inl (.int y) :: .inl (.int x) :: st) M := fun p l e s m args below meth c D tc ad A H locs lsA C hP hS hl => lv_icmp_gt C.1 C.2.1 hd ht (fun h => kt h p l e s m args below meth c D tc ad A H locs lsA C hP hS hl) (fun h => kf h p l e s m args below meth c D tc ad A H locs lsA C hP hS hl)
theorem z_icmp_le {off : Int} {tgt : Nat} {x y : Int32} (hd : decode cc pc = .ok (.if_icmp .le off, 3)) (ht : (pc : Int) + off = (tgt : Int)) (kt : x ≤ y → Z own cc nL rt xt nme R Q rs sh cells slots tgt ls st M) (kf : ¬ x ≤ y → Z own cc nL rt xt nme R Q rs sh cells slots (pc + 3) ls st M) : Z own cc nL rt xt nme R Q rs sh cells slots pc ls (.inl (.int y) :: .inl (.int x) :: st) M := fun p l e s m args below meth c D tc ad A H locs lsA C hP hS hl => lv_icmp_le C.1 C.2.1 hd ht (fun h => kt h p l e s m args below meth c D tc ad A H locs lsA C hP hS hl) (fun h => kf h p l e s m args below meth c D tc ad A H locs lsA C hP hS hl)
theorem z_goto {off : Int} {tgt : Nat} (hd : decode cc pc = .ok (.goto off, 3)) (ht : (pc : Int) + off = (tgt : Int)) (k : Z own cc nL rt xt nme R Q rs sh cells slots tgt ls st M) : Z own cc nL rt xt nme R Q rs sh cells slots pc ls st M := fun p l e s m args below meth c D tc ad A H locs lsA C hP hS hl => lv_goto C.1 C.2.1 hd ht (k p l e s m args below meth c D tc ad A H locs lsA C hP hS hl)
theorem z_tin {dflt lo hi : Int} {offs : Array Int} {len : Nat} {x : Int32} {off : Int} {tgt : Nat} (hd : decode cc pc = .ok (.tableswitch dflt lo hi offs, len)) (h1 : ¬ x.toInt < lo) (h2 : ¬ hi < x.toInt) (ho : offs[(x.toInt - lo).toNat]? = some off) (ht : (pc : Int) + off = (tgt : Int)) (k : Z own cc nL rt xt nme R Q rs sh cells slots tgt ls st M) : Z own cc nL rt xt nme R Q rs sh cells slots pc ls (.inl (.int x) :: st) M := fun p l e s m args below meth c D tc ad A H locs lsA C hP hS hl => lv_tableIn C.1 C.2.1 hd h1 h2 ho ht (k p l e s m args below meth c D tc ad A H locs lsA C hP hS hl)
theorem z_tout {dflt lo hi : Int} {offs : Array Int} {len : Nat} {x : Int32} {tgt : Nat} (hd : decode cc pc = .ok (.tableswitch dflt lo hi offs, len)) (h1 : x.toInt < lo ∨ hi < x.toInt) (ht : (pc : Int) + dflt = (tgt : Int)) (k : Z own cc nL rt xt nme R Q rs sh cells slots tgt ls st M) : Z own cc nL rt xt nme R Q rs sh cells slots pc ls (.inl (.int x) :: st) M := fun p l e s m args below meth c D tc ad A H locs lsA C hP hS hl => lv_tableOut C.1 C.2.1 hd h1 ht (k p l e s m args below meth c D tc ad A H locs lsA C hP hS hl)
theorem z_ldc {idx : Nat} {v : Int32} (hd : decode cc pc = .ok (.ldc idx, 2)) (hw : Cond.constant own idx v ∈ AL) (k : Z own cc nL rt xt nme R Q rs sh cells slots (pc + 2) ls (.inl (.int v) :: st) M) : Z own cc nL rt xt nme R Q rs sh cells slots pc ls st M := fun p l e s m args below meth c D tc ad A H locs lsA C hP hS hl => lv_ldc C.1 C.2.1 C.2.2.2.1 (C.2.2.2.2.1 _ hw) hd (k p l e s m args below meth c D tc ad A H locs lsA C hP hS hl)
theorem z_ldc2 {idx : Nat} {v : Int64} (hd : decode cc pc = .ok (.ldc2_w idx, 3)) (hw : Cond.constantLong own idx v ∈ AL) (k : Z own cc nL rt xt nme R Q rs sh cells slots (pc + 3) ls (.inl (.long v) :: st) M) : Z own cc nL rt xt nme R Q rs sh cells slots pc ls st M := fun p l e s m args below meth c D tc ad A H locs lsA C hP hS hl => lv_ldc2 C.1 C.2.1 C.2.2.2.1 (C.2.2.2.2.1 _ hw) hd (k p l e s m args below meth c D tc ad A H locs lsA C hP hS hl)
theorem z_ldc2d {idx : Nat} {v : UInt64} (hd : decode cc pc = .ok (.ldc2_w idx, 3)) (hw : Cond.constantDouble own idx v ∈ AL) (k : Z own cc nL rt xt nme R Q rs sh cells slots (pc + 3) ls (.inl (.double v) :: st) M) : Z own cc nL rt xt nme R Q rs sh cells slots pc ls st M := fun p l e s m args below meth c D tc ad A H locs lsA C hP hS hl => lv_ldc2d C.1 C.2.1 C.2.2.2.1 (C.2.2.2.2.1 _ hw) hd (k p l e s m args below meth c D tc ad A H locs lsA C hP hS hl)
theorem z_lcmp {x y : Int64} (hd : decode cc pc = .ok (.lcmp, 1)) (k : Z own cc nL rt xt nme R Q rs sh cells slots (pc + 1) ls (.inl (.int (lg_cmp x y)) :: st) M) : Z own cc nL rt xt nme R Q rs sh cells slots pc ls (.inl (.long y) :: .inl (.long x) :: st) M := fun p l e s m args below meth c D tc ad A H locs lsA C hP hS hl => W.lcmp C.1 C.2.1 hd (k p l e s m args below meth c D tc ad A H locs lsA C hP hS hl)
def okF (b : Bool) (r : Rf) (ci j : Nat) : Bool := match kd r with
  | .inl (c, ks) => c == ci && ks[j]? == some b && decide (ci < 11) && decide (j < Nc ci)
  | .inr _ => false
theorem okF_spec {b : Bool} {r : Rf} {ci j : Nat} (h : okF b r ci j = true) : ∃ ks : List Bool, kd r = .inl (ci, ks) ∧ ks[j]? = some b ∧ ci < 11 ∧ j < Nc ci := by
  unfold okF at h
  split at h
  · rename_i c ks hk
    simp only [Bool.and_eq_true, beq_iff_eq, decide_eq_true_eq] at h
    obtain ⟨⟨⟨h1, h2⟩, h3⟩, h4⟩ := h
    subst h1
    exact ⟨ks, hk, h2, h3, h4⟩
  · cases h
theorem ent_o {tc : Nat → ClassId} {ad : Rf → Nat} {sh : Sh} {M : Mm} {r : Rf} {ci : Nat} {ks : List Bool} (h : kd r = .inl (ci, ks)) : ent tc ad sh M r = .inr (ci, fv ad sh M r 0 ks) := by
  unfold ent; rw [h]
theorem z_getI {x : Int32} {ci j idx : Nat} {r : Rf} (hd : decode cc pc = .ok (.getfield idx, 3)) (hw : lkF own idx ci j) (hr : r ∈ rs) (hk : okF false r ci j = true)
    (hx : M.1 r j = x) (k : Z own cc nL rt xt nme R Q rs sh cells slots (pc + 3) ls (.inl (.int x) :: st) M) : Z own cc nL rt xt nme R Q rs sh cells slots pc ls (.inr r :: st) M := by
  subst hx
  intro p l e s m args below meth c D tc ad A H locs lsA C hP hS hl
  obtain ⟨ks, h1, h2, h3, h4⟩ := okF_spec hk
  obtain ⟨q, -, hq⟩ := wl_at (tc := tc) (ad := ad) (sh := sh) (M := M) hr
  have hv := fv_get (ad := ad) (sh := sh) (M := M) (r := r) ks 0 j false h2
  rw [Nat.zero_add] at hv
  rw [ent_o h1] at hq
  exact va_get (C := Rc ci) (T := Tc ci) (N := Nc ci) C.1 C.2.1 C.2.2.2.2.1 (inC ci h3) C.2.2.2.1 C.2.2.2.2.2.2.2.2.2.1 hP q hq (clC ci h3) j h4 (C.2.2.2.2.1 _ hw) (fun _ h => h) hv hd (k p l e s m args below meth c D tc ad A H locs lsA C hP hS hl)
theorem z_getR {ci j idx : Nat} {r r' : Rf} (hd : decode cc pc = .ok (.getfield idx, 3)) (hw : lkF own idx ci j) (hr : r ∈ rs) (hk : okF true r ci j = true) (hs : sh r j = some r')
    (k : Z own cc nL rt xt nme R Q rs sh cells slots (pc + 3) ls (.inr r' :: st) M) : Z own cc nL rt xt nme R Q rs sh cells slots pc ls (.inr r :: st) M := by
  intro p l e s m args below meth c D tc ad A H locs lsA C hP hS hl
  obtain ⟨ks, h1, h2, h3, h4⟩ := okF_spec hk
  obtain ⟨q, -, hq⟩ := wl_at (tc := tc) (ad := ad) (sh := sh) (M := M) hr
  have hv := fv_get (ad := ad) (sh := sh) (M := M) (r := r) ks 0 j true h2
  rw [Nat.zero_add, hs] at hv
  rw [ent_o h1] at hq
  exact va_get (C := Rc ci) (T := Tc ci) (N := Nc ci) C.1 C.2.1 C.2.2.2.2.1 (inC ci h3) C.2.2.2.1 C.2.2.2.2.2.2.2.2.2.1 hP q hq (clC ci h3) j h4 (C.2.2.2.2.1 _ hw) (fun _ h => h) hv hd (k p l e s m args below meth c D tc ad A H locs lsA C hP hS hl)
theorem z_putX {ci j idx : Nat} {r : Rf} {v : Int32} (hn : rs.Nodup) (hd : decode cc pc = .ok (.putfield idx, 3)) (hw : lkF own idx ci j) (hr : r ∈ rs) (hk : okF false r ci j = true) (hf : (Tc ci j).2.2.2 = false) (hv1 : narrow (tyc ci j) (.int v) = .int v) (hv2 : fits (tyc ci j) (.int v) = true)
    (k : Z own cc nL rt xt nme R Q rs sh cells slots (pc + 3) ls st (putI M r j v)) : Z own cc nL rt xt nme R Q rs sh cells slots pc ls (.inl (.int v) :: .inr r :: st) M := by
  intro p l e s m args below meth c D tc ad A H locs lsA C hP hS hl
  obtain ⟨ks, h1, h2, h3, h4⟩ := okF_spec hk
  obtain ⟨q, hq0, hq⟩ := wl_at (tc := tc) (ad := ad) (sh := sh) (M := M) hr
  have hvs := fv_put (ad := ad) (sh := sh) (M := M) (r := r) (v := v) ks 0 j (Nat.zero_add j) h2
  have hq2 := hq
  rw [ent_o h1] at hq
  refine va_put (C := Rc ci) (T := Tc ci) (N := Nc ci) (ty := tyc ci j) C.1 C.2.1 C.2.2.2.2.1 (inC ci h3) (tyc ci) (tyC ci h3) (nmC ci h3) C.2.2.2.1 C.2.2.2.2.2.2.2.2.2.1 hP (Wd.D hn C sh M) hS q hq (clC ci h3) j h4 (C.2.2.2.2.1 _ hw) (fun _ h => h) hf (tyC ci h3 j h4) hv1 hv2 (by rw [fv_len]; exact (List.getElem?_eq_some_iff.mp h2).1) hd (fun H1 locs1 hP1 _ hS1 => ?_)
  have hP1 : va_P D vwCl (List.set (wl tc ad sh M rs) q (ad r, .inr (ci, (fv ad sh M r 0 ks).set j (.int v)))) H1 := hP1
  rw [hvs] at hP1
  rw [wl_set (M := M) (M' := putI M r j v) hn hq0 (ent_o h1) (fun r' h => ent_other (putI_ne h) rfl)] at hP1
  exact k p l e s m args below meth c D tc ad A H1 locs1 lsA C hP1 hS1 hl
theorem z_putI {ci j idx : Nat} {r : Rf} {v : Int32} (hn : rs.Nodup) (hd : decode cc pc = .ok (.putfield idx, 3)) (hw : lkF own idx ci j) (hr : r ∈ rs) (hk : okF false r ci j = true) (hf : ((Tc ci j).2.2.2 == false && tyc ci j == .int) = true)
    (k : Z own cc nL rt xt nme R Q rs sh cells slots (pc + 3) ls st (putI M r j v)) : Z own cc nL rt xt nme R Q rs sh cells slots pc ls (.inl (.int v) :: .inr r :: st) M := by
  simp only [Bool.and_eq_true, beq_iff_eq] at hf
  exact z_putX hn hd hw hr hk hf.1 (by rw [hf.2]; rfl) (by rw [hf.2]; rfl) k
theorem z_iald {x : Int32} {n : Nat} {r : Rf} {i : Int32} (hd : decode cc pc = .ok (.iaload, 1)) (hr : r ∈ rs) (hk : kd r = .inr (0, n)) (hin : ¬ (i < 0 ∨ n ≤ i.toNatClampNeg))
    (hx : M.1 r i.toNatClampNeg = x) (k : Z own cc nL rt xt nme R Q rs sh cells slots (pc + 1) ls (.inl (.int x) :: st) M) : Z own cc nL rt xt nme R Q rs sh cells slots pc ls (.inl (.int i) :: .inr r :: st) M := by
  subst hx
  intro p l e s m args below meth c D tc ad A H locs lsA C hP hS hl
  obtain ⟨q, -, hq⟩ := wl_at (tc := tc) (ad := ad) (sh := sh) (M := M) hr
  rw [show ent tc ad sh M r = .inl (tc 0, n, .inl (M.1 r)) by unfold ent; rw [hk]] at hq
  exact va_iald C.1 C.2.1 C.2.2.2.2.2.2.2.2.2.1 hP q 0 hq rfl hin hd (k p l e s m args below meth c D tc ad A H locs lsA C hP hS hl)
theorem z_zald {x : Int32} {n : Nat} {r : Rf} {i : Int32} (hd : decode cc pc = .ok (.baload, 1)) (hr : r ∈ rs) (hk : kd r = .inr (1, n)) (hin : ¬ (i < 0 ∨ n ≤ i.toNatClampNeg))
    (hx : M.1 r i.toNatClampNeg = x) (k : Z own cc nL rt xt nme R Q rs sh cells slots (pc + 1) ls (.inl (.int x) :: st) M) : Z own cc nL rt xt nme R Q rs sh cells slots pc ls (.inl (.int i) :: .inr r :: st) M := by
  subst hx
  intro p l e s m args below meth c D tc ad A H locs lsA C hP hS hl
  obtain ⟨q, -, hq⟩ := wl_at (tc := tc) (ad := ad) (sh := sh) (M := M) hr
  rw [show ent tc ad sh M r = .inl (tc 1, n, .inl (M.1 r)) by unfold ent; rw [hk]] at hq
  exact va_zald C.1 C.2.1 C.2.2.2.2.2.2.2.2.2.1 hP q 1 hq rfl hin hd (k p l e s m args below meth c D tc ad A H locs lsA C hP hS hl)
theorem z_lald {x : Int64} {n : Nat} {r : Rf} {i : Int32} (hd : decode cc pc = .ok (.laload, 1)) (hr : r ∈ rs) (hk : kd r = .inr (2, n)) (hin : ¬ (i < 0 ∨ n ≤ i.toNatClampNeg))
    (hx : M.2 r i.toNatClampNeg = x) (k : Z own cc nL rt xt nme R Q rs sh cells slots (pc + 1) ls (.inl (.long x) :: st) M) : Z own cc nL rt xt nme R Q rs sh cells slots pc ls (.inl (.int i) :: .inr r :: st) M := by
  subst hx
  intro p l e s m args below meth c D tc ad A H locs lsA C hP hS hl
  obtain ⟨q, -, hq⟩ := wl_at (tc := tc) (ad := ad) (sh := sh) (M := M) hr
  rw [show ent tc ad sh M r = .inl (tc 2, n, .inr (.inl (M.2 r))) by unfold ent; rw [hk]] at hq
  exact va_lald C.1 C.2.1 C.2.2.2.2.2.2.2.2.2.1 hP q 2 hq rfl hin hd (k p l e s m args below meth c D tc ad A H locs lsA C hP hS hl)
theorem z_dald {n : Nat} {r : Rf} {i : Int32} (hd : decode cc pc = .ok (.daload, 1)) (hr : r ∈ rs) (hk : kd r = .inr (3, n)) (hin : ¬ (i < 0 ∨ n ≤ i.toNatClampNeg))
    (k : Z own cc nL rt xt nme R Q rs sh cells slots (pc + 1) ls (.inl (.double (M.2 r i.toNatClampNeg).toUInt64) :: st) M) : Z own cc nL rt xt nme R Q rs sh cells slots pc ls (.inl (.int i) :: .inr r :: st) M := by
  intro p l e s m args below meth c D tc ad A H locs lsA C hP hS hl
  obtain ⟨q, -, hq⟩ := wl_at (tc := tc) (ad := ad) (sh := sh) (M := M) hr
  rw [show ent tc ad sh M r = .inl (tc 3, n, .inr (.inr (.inr (.inl (fun j => (M.2 r j).toUInt64))))) by unfold ent; rw [hk]] at hq
  exact va_dald C.1 C.2.1 C.2.2.2.2.2.2.2.2.2.1 hP q 3 hq rfl hin hd (k p l e s m args below meth c D tc ad A H locs lsA C hP hS hl)
theorem z_aald {n t : Nat} {r r' : Rf} {i : Int32} (hd : decode cc pc = .ok (.aaload, 1)) (hr : r ∈ rs) (hk : kd r = .inr (t + 4, n)) (ht : t < 2) (hin : ¬ (i < 0 ∨ n ≤ i.toNatClampNeg)) (hs : sh r i.toNatClampNeg = some r')
    (k : Z own cc nL rt xt nme R Q rs sh cells slots (pc + 1) ls (.inr r' :: st) M) : Z own cc nL rt xt nme R Q rs sh cells slots pc ls (.inl (.int i) :: .inr r :: st) M := by
  intro p l e s m args below meth c D tc ad A H locs lsA C hP hS hl
  obtain ⟨q, -, hq⟩ := wl_at (tc := tc) (ad := ad) (sh := sh) (M := M) hr
  rw [show ent tc ad sh M r = .inl (tc (t + 4), n, .inr (.inr (.inr (.inr (fun j => (sh r j).map ad))))) by unfold ent; rw [hk]] at hq
  have ht2 : ∃ C0 : String, (tys tc)[t + 4]? = some (tc (t + 4), .object C0) := by
    match t, ht with
    | 0, _ => exact ⟨_, rfl⟩
    | 1, _ => exact ⟨_, rfl⟩
  obtain ⟨C0, ht2⟩ := ht2
  refine va_aldq C.1 C.2.1 C.2.2.2.2.2.2.2.2.2.1 hP q (t + 4) hq ht2 hin hd ?_
  rw [hs]
  exact k p l e s m args below meth c D tc ad A H locs lsA C hP hS hl
theorem z_alen {n t : Nat} {r : Rf} {v : Int32} (hd : decode cc pc = .ok (.arraylength, 1)) (hr : r ∈ rs) (hk : kd r = .inr (t, n)) (ht : t < 6) (hv : Int32.ofNat n = v)
    (k : Z own cc nL rt xt nme R Q rs sh cells slots (pc + 1) ls (.inl (.int v) :: st) M) : Z own cc nL rt xt nme R Q rs sh cells slots pc ls (.inr r :: st) M := by
  intro p l e s m args below meth c D tc ad A H locs lsA C hP hS hl
  obtain ⟨q, -, hq⟩ := wl_at (tc := tc) (ad := ad) (sh := sh) (M := M) hr
  have h1 : ∃ x : (Nat → Int32) ⊕ (Nat → Int64) ⊕ (Nat → UInt32) ⊕ (Nat → UInt64) ⊕ (Nat → Option Nat), ent tc ad sh M r = .inl (tc t, n, x) := by
    unfold ent
    rw [hk]
    match t, ht with
    | 0, _ => exact ⟨_, rfl⟩
    | 1, _ => exact ⟨_, rfl⟩
    | 2, _ => exact ⟨_, rfl⟩
    | 3, _ => exact ⟨_, rfl⟩
    | 4, _ => exact ⟨_, rfl⟩
    | 5, _ => exact ⟨_, rfl⟩
  have h2 : ∃ ty : FieldType, (tys tc)[t]? = some (tc t, ty) := by
    match t, ht with
    | 0, _ => exact ⟨_, rfl⟩
    | 1, _ => exact ⟨_, rfl⟩
    | 2, _ => exact ⟨_, rfl⟩
    | 3, _ => exact ⟨_, rfl⟩
    | 4, _ => exact ⟨_, rfl⟩
    | 5, _ => exact ⟨_, rfl⟩
  obtain ⟨x, hx⟩ := h1
  obtain ⟨ty, hty⟩ := h2
  rw [hx] at hq
  exact va_alen C.1 C.2.1 C.2.2.2.2.2.2.2.2.2.1 hP q t hq hty hv hd (k p l e s m args below meth c D tc ad A H locs lsA C hP hS hl)
theorem upd_put {M : Mm} {r : Rf} {j : Nat} {v : Int32} : upd (M.1 r) j v = (putI M r j v).1 r := by
  funext q
  by_cases h : q = j <;> simp [upd, putI, h]
theorem updL_put {M : Mm} {r : Rf} {j : Nat} {v : Int64} : vp_updL (M.2 r) j v = (putL M r j v).2 r := by
  funext q
  by_cases h : q = j <;> simp [vp_updL, putL, h]
theorem z_iast {n j : Nat} {r : Rf} {i v : Int32} (hn : rs.Nodup) (hd : decode cc pc = .ok (.iastore, 1)) (hr : r ∈ rs) (hk : kd r = .inr (0, n)) (hin : ¬ (i < 0 ∨ n ≤ i.toNatClampNeg)) (hj : i.toNatClampNeg = j)
    (k : Z own cc nL rt xt nme R Q rs sh cells slots (pc + 1) ls st (putI M r j v)) : Z own cc nL rt xt nme R Q rs sh cells slots pc ls (.inl (.int v) :: .inl (.int i) :: .inr r :: st) M := by
  subst hj
  intro p l e s m args below meth c D tc ad A H locs lsA C hP hS hl
  obtain ⟨q, hq0, hq⟩ := wl_at (tc := tc) (ad := ad) (sh := sh) (M := M) hr
  have he : ∀ M : Mm, ent tc ad sh M r = .inl (tc 0, n, .inl (M.1 r)) := fun M => by unfold ent; rw [hk]
  rw [he] at hq
  refine va_iast C.1 C.2.1 C.2.2.2.2.2.2.2.2.2.1 hP (Wd.D hn C sh M) hS q 0 hq rfl hin hd (fun H1 locs1 hP1 _ hS1 => ?_)
  rw [upd_put, wl_set (M := M) (M' := putI M r i.toNatClampNeg v) hn hq0 (he _) (fun r' h => ent_other (putI_ne h) rfl)] at hP1
  exact k p l e s m args below meth c D tc ad A H1 locs1 lsA C hP1 hS1 hl
theorem z_zast {n j : Nat} {r : Rf} {i v : Int32} (hn : rs.Nodup) (hd : decode cc pc = .ok (.bastore, 1)) (hr : r ∈ rs) (hk : kd r = .inr (1, n)) (hin : ¬ (i < 0 ∨ n ≤ i.toNatClampNeg)) (hj : i.toNatClampNeg = j) (hv : vp_nar .boolean v = v)
    (k : Z own cc nL rt xt nme R Q rs sh cells slots (pc + 1) ls st (putI M r j v)) : Z own cc nL rt xt nme R Q rs sh cells slots pc ls (.inl (.int v) :: .inl (.int i) :: .inr r :: st) M := by
  subst hj
  intro p l e s m args below meth c D tc ad A H locs lsA C hP hS hl
  obtain ⟨q, hq0, hq⟩ := wl_at (tc := tc) (ad := ad) (sh := sh) (M := M) hr
  have he : ∀ M : Mm, ent tc ad sh M r = .inl (tc 1, n, .inl (M.1 r)) := fun M => by unfold ent; rw [hk]
  rw [he] at hq
  refine va_zast C.1 C.2.1 C.2.2.2.2.2.2.2.2.2.1 hP (Wd.D hn C sh M) hS q 1 hq rfl hin hd (fun H1 locs1 hP1 _ hS1 => ?_)
  rw [hv, upd_put, wl_set (M := M) (M' := putI M r i.toNatClampNeg v) hn hq0 (he _) (fun r' h => ent_other (putI_ne h) rfl)] at hP1
  exact k p l e s m args below meth c D tc ad A H1 locs1 lsA C hP1 hS1 hl
theorem z_last {n j : Nat} {r : Rf} {i : Int32} {v : Int64} (hn : rs.Nodup) (hd : decode cc pc = .ok (.lastore, 1)) (hr : r ∈ rs) (hk : kd r = .inr (2, n)) (hin : ¬ (i < 0 ∨ n ≤ i.toNatClampNeg)) (hj : i.toNatClampNeg = j)
    (k : Z own cc nL rt xt nme R Q rs sh cells slots (pc + 1) ls st (putL M r j v)) : Z own cc nL rt xt nme R Q rs sh cells slots pc ls (.inl (.long v) :: .inl (.int i) :: .inr r :: st) M := by
  subst hj
  intro p l e s m args below meth c D tc ad A H locs lsA C hP hS hl
  obtain ⟨q, hq0, hq⟩ := wl_at (tc := tc) (ad := ad) (sh := sh) (M := M) hr
  have he : ∀ M : Mm, ent tc ad sh M r = .inl (tc 2, n, .inr (.inl (M.2 r))) := fun M => by unfold ent; rw [hk]
  rw [he] at hq
  refine va_last C.1 C.2.1 C.2.2.2.2.2.2.2.2.2.1 hP (Wd.D hn C sh M) hS q 2 hq rfl hin hd (fun H1 locs1 hP1 _ hS1 => ?_)
  rw [updL_put, wl_set (M := M) (M' := putL M r i.toNatClampNeg v) hn hq0 (he _) (fun r' h => ent_other rfl (putL_ne h))] at hP1
  exact k p l e s m args below meth c D tc ad A H1 locs1 lsA C hP1 hS1 hl
theorem z_dast {n : Nat} {r : Rf} {i : Int32} {v : UInt64} (hn : rs.Nodup) (hd : decode cc pc = .ok (.dastore, 1)) (hr : r ∈ rs) (hk : kd r = .inr (3, n)) (hin : ¬ (i < 0 ∨ n ≤ i.toNatClampNeg))
    (k : Z own cc nL rt xt nme R Q rs sh cells slots (pc + 1) ls st (putL M r i.toNatClampNeg v.toInt64)) : Z own cc nL rt xt nme R Q rs sh cells slots pc ls (.inl (.double v) :: .inl (.int i) :: .inr r :: st) M := by
  intro p l e s m args below meth c D tc ad A H locs lsA C hP hS hl
  obtain ⟨q, hq0, hq⟩ := wl_at (tc := tc) (ad := ad) (sh := sh) (M := M) hr
  have he : ∀ M : Mm, ent tc ad sh M r = .inl (tc 3, n, .inr (.inr (.inr (.inl (fun j => (M.2 r j).toUInt64))))) := fun M => by unfold ent; rw [hk]
  rw [he] at hq
  refine va_dast C.1 C.2.1 C.2.2.2.2.2.2.2.2.2.1 hP (Wd.D hn C sh M) hS q 3 hq rfl hin hd (fun H1 locs1 hP1 _ hS1 => ?_)
  have hu : vf_upd (fun j => (M.2 r j).toUInt64) i.toNatClampNeg v = (fun j => ((putL M r i.toNatClampNeg v.toInt64).2 r j).toUInt64) := by
    funext q
    by_cases h : q = i.toNatClampNeg <;> simp [vf_upd, putL, h]
  rw [hu, wl_set (M := M) (M' := putL M r i.toNatClampNeg v.toInt64) hn hq0 (he _) (fun r' h => ent_other rfl (putL_ne h))] at hP1
  exact k p l e s m args below meth c D tc ad A H1 locs1 lsA C hP1 hS1 hl
theorem z_ldcS {idx j : Nat} {tx : String} (hd : decode cc pc = .ok (.ldc idx, 2)) (hw : (own, idx, tx, j) ∈ stt) (k : Z own cc nL rt xt nme R Q rs sh cells slots (pc + 2) ls (.inr (30, j, 0) :: st) M) : Z own cc nL rt xt nme R Q rs sh cells slots pc ls st M := fun p l e s m args below meth c D tc ad A H locs lsA C hP hS hl =>
  va_ldcS C.1 C.2.1 C.2.2.2.1 (C.2.2.2.2.2.2.2.2.2.2.2.1.2.2.1 _ hw) hd (k p l e s m args below meth c D tc ad A H locs lsA C hP hS hl)

end ZR
end
section
section ZC
variable {own : String} {cc : ByteArray} {nL : Nat} {rt : Option FieldType} {xt : List ExceptionTableEntry} {nme : String} {R : Room} {Q : QF} {rs : List Rf} {sh : Sh} {cells slots pc : Nat} {ls : List (Option MV)} {st stk : List MV} {M : Mm}
section
variable {p : Program} {l : Launch} {e : Env} {s : State} {m : MethodId} {args : Array Value} {below : List Frame} {meth : Method} {c : Code} {H : Heap} {locs : List Loc}
/-- an int that is narrowed on its way out -/
theorem zretN {Qc : Array Value → State → Outcome → State → Prop} {free : Addr → Prop} {v w : Int32} {ty : FieldType} (hexec : p.tables.exec = Jvm.exec) (hb : c.code = cc) (hr : meth.sig.returnType = some ty) (hn : narrow ty (.int v) = .int w)
    (hq : ∀ t : State, t.heap = H → s.WarmedH t.vm → Qc args s (.returned (some (.int w))) t) (hf : ∀ q ∈ locs, free q.base)
    {ls : Array Slot} (hdg : decode cc pc = .ok (.ireturn, 1)) (hlocks : meth.locks = false) : W p l e R s m args below meth c H locs cells slots (MQ below Qc args s cells slots free) (F0 m pc ls [.int v]) := by
  intro T hT X
  have hlocks : meth.locks = false := hlocks
  obtain ⟨fs, hret, hrun, hended, hW, hframe⟩ := X.leave (v := some (.int w)) (fun h => by rw [hr] at h; cases h)
  have hmeth' : T.vm.method? m = some meth := X.method'
  refine ⟨T.setFrames fs, ?_, .returned (some (.int w)), hrun, hended, hq _ hT hW, locs, ⟨⟨_, rfl⟩, hW, hframe⟩, hf⟩
  jvm_step X.here [X.here.top, hexec, hb, hdg, hmeth', hr, hn]
  (try refine ⟨rfl, ?_⟩); (try refine ⟨rfl, ?_⟩)
  first | (intro acts; rw [hret _ acts rfl rfl rfl]) | rw [hret _ _ rfl rfl rfl]
  exact Steps.refl _
end
theorem z_iret {mc ms : Nat} {PR : Option Value → Mm → Prop} {PX : String → Mm → Prop} {v w : Int32} {ty : FieldType} (hd : decode cc pc = .ok (.ireturn, 1)) (hrt : rt = some ty) (hnw : narrow ty (.int v) = .int w) (hc : cells ≤ mc) (hs : slots ≤ ms) (hp : PR (some (.int w)) M) : Z own cc nL rt xt nme R (QM sh rs mc ms PR PX) rs sh cells slots pc ls (.inl (.int v) :: []) M := by
  intro p l e s m args below meth c D tc ad A H locs lsA C hP hS hl
  refine W.widen hc hs (vx_ret ?_)
  exact zretN C.1 C.2.1 (C.2.2.2.2.2.2.1.trans hrt) hnw (fun t ht hW => ⟨⟨some (.int w), M, rfl, hp, by rw [ht]; exact hP⟩, hS.F ht⟩) hS.2.2 hd C.2.2.2.2.2.1
theorem z_vret {mc ms : Nat} {PR : Option Value → Mm → Prop} {PX : String → Mm → Prop} (hd : decode cc pc = .ok (.return_, 1)) (hrt : rt = none) (hc : cells ≤ mc) (hs : slots ≤ ms) (hp : PR none M) : Z own cc nL rt xt nme R (QM sh rs mc ms PR PX) rs sh cells slots pc ls [] M := by
  intro p l e s m args below meth c D tc ad A H locs lsA C hP hS hl
  refine W.widen hc hs (vx_ret ?_)
  exact W.vret C.1 C.2.1 (C.2.2.2.2.2.2.1.trans hrt) (fun t ht hW => ⟨⟨none, M, rfl, hp, by rw [ht]; exact hP⟩, hS.F ht⟩) hS.2.2 hd C.2.2.2.2.2.1
theorem z_lret {mc ms : Nat} {PR : Option Value → Mm → Prop} {PX : String → Mm → Prop} {v : Int64} (hd : decode cc pc = .ok (.lreturn, 1)) (hrt : rt = some .long) (hc : cells ≤ mc) (hs : slots ≤ ms) (hp : PR (some (.long v)) M) : Z own cc nL rt xt nme R (QM sh rs mc ms PR PX) rs sh cells slots pc ls (.inl (.long v) :: []) M := by
  intro p l e s m args below meth c D tc ad A H locs lsA C hP hS hl
  refine W.widen hc hs (vx_ret ?_)
  exact W.lret C.1 C.2.1 (C.2.2.2.2.2.2.1.trans hrt) (fun t ht hW => ⟨⟨some (.long v), M, rfl, hp, by rw [ht]; exact hP⟩, hS.F ht⟩) hS.2.2 hd C.2.2.2.2.2.1
theorem z_dret {mc ms : Nat} {PR : Option Value → Mm → Prop} {PX : String → Mm → Prop} {v : UInt64} (hd : decode cc pc = .ok (.dreturn, 1)) (hrt : rt = some .double) (hc : cells ≤ mc) (hs : slots ≤ ms) (hp : PR (some (.double v)) M) : Z own cc nL rt xt nme R (QM sh rs mc ms PR PX) rs sh cells slots pc ls (.inl (.double v) :: []) M := by
  intro p l e s m args below meth c D tc ad A H locs lsA C hP hS hl
  refine W.widen hc hs (vx_ret ?_)
  exact W.dret C.1 C.2.1 (C.2.2.2.2.2.2.1.trans hrt) (fun t ht hW => ⟨⟨some (.double v), M, rfl, hp, by rw [ht]; exact hP⟩, hS.F ht⟩) hS.2.2 hd C.2.2.2.2.2.1
theorem z_fret {mc ms : Nat} {PR : Option Value → Mm → Prop} {PX : String → Mm → Prop} {v : UInt32} (hd : decode cc pc = .ok (.freturn, 1)) (hrt : rt = some .float) (hc : cells ≤ mc) (hs : slots ≤ ms) (hp : PR (some (.float v)) M) : Z own cc nL rt xt nme R (QM sh rs mc ms PR PX) rs sh cells slots pc ls (.inl (.float v) :: []) M := by
  intro p l e s m args below meth c D tc ad A H locs lsA C hP hS hl
  refine W.widen hc hs (vx_ret ?_)
  exact W.fret C.1 C.2.1 (C.2.2.2.2.2.2.1.trans hrt) (fun t ht hW => ⟨⟨some (.float v), M, rfl, hp, by rw [ht]; exact hP⟩, hS.F ht⟩) hS.2.2 hd C.2.2.2.2.2.1
/-- thrown out of a method of the model -/
theorem zx_out {mc ms : Nat} {PR : Option Value → Mm → Prop} {PX : String → Mm → Prop} {E : String} (hx : xt = []) (hc : cells ≤ mc) (hs : slots ≤ ms) (hp : PX E M) : ZX own cc nL rt xt nme R (QM sh rs mc ms PR PX) rs sh cells slots pc ls E M := by
  intro p l e s m args below meth c D tc ad A H locs lsA rest q ce C hP hS hl hq hv hcl
  refine vx_out (fun x h => ?_) C.2.2.2.2.2.1 hq hv hcl (fun t ht hvm => ⟨⟨M, hp, by rw [ht]; exact hP⟩, hS.F ht⟩) hS.2.2 hc hs
  rw [C.2.2.2.2.2.2.2.1, hx] at h
  cases h
theorem Ps.blind {D : va_G} {tc : Nat → ClassId} {ad : Rf → Nat} {l : Launch} {sz : Nat} {av : List MV} : FrameBlind (Ps D tc ad l sh M rs sz av) := by
  intro a U g mk h
  obtain ⟨h1, h2, h3, h4, h5, h6⟩ := h
  exact ⟨h1, h2, h3, va_K.moved (u := U) (U := U.calling g mk a) (Vm.Alike.refl U.vm) h4, Fx.to (s := U) (U := U.calling g mk a) (H0 := U.heap) (H := U.heap) h5 (State.WarmedH.refl U) (fun _ _ _ => rfl) (fun _ h => h), h6⟩
theorem Cx.pre {p : Program} {l : Launch} {s : State} {m : MethodId} {args : Array Value} {meth : Method} {c : Code} {D : va_G} {tc : Nat → ClassId} {ad : Rf → Nat} {A : Nat → Prop} {H : Heap} {locs : List Loc} (C : Cx own cc nL rt xt nme rs p l s m args meth c D tc ad A) (hP : Wd D tc ad sh M rs H) (hS : va_S A s.heap H locs) (av : List MV) :
    ∀ U : State, U.heap = H → s.WarmedH U.vm → Ps D tc ad l sh M rs H.size av (av.map (rv ad)).toArray U := by
  obtain ⟨-, -, -, -, -, -, -, -, -, hK, hA, hF, hAr, hinj⟩ := C
  intro U hU hW
  refine ⟨rfl, by rw [hU], by rw [hU]; exact hP, va_K.moved hW.alike hK, ?_, hinj⟩
  rw [hU]
  refine Fx.to hF hW hS.2.1 (fun q hq => ?_)
  rcases hq with ⟨r, hr, rfl⟩ | hq
  · exact hAr r hr
  · exact hA q (Nat.le_trans hS.1 hq)
theorem Cx.af {p : Program} {l : Launch} {s : State} {m : MethodId} {args : Array Value} {meth : Method} {c : Code} {D : va_G} {tc : Nat → ClassId} {ad : Rf → Nat} {A : Nat → Prop} {H : Heap} {locs : List Loc} (C : Cx own cc nL rt xt nme rs p l s m args meth c D tc ad A) (hS : va_S A s.heap H locs) : ∀ q, Af ad rs H.size q → A q := by
  obtain ⟨-, -, -, -, -, -, -, -, -, -, hA, -, hAr, -⟩ := C
  intro q hq
  rcases hq with ⟨r, hr, rfl⟩ | hq
  · exact hAr r hr
  · exact hA q (Nat.le_trans hS.1 hq)
theorem map_ret {ad : Rf → Nat} {v : Option Value} {st : List MV} : (v.toList.map Sum.inl ++ st : List MV).map (rv ad) = v.toList ++ st.map (rv ad) := by
  cases v <;> rfl
/-- behind a call -/
theorem z_run {PR1 : Option Value → Mm → Prop} {PX1 : String → Mm → Prop} {mc ms : Nat} {p : Program} {l : Launch} {e : Env} {s : State} {m : MethodId} {args : Array Value} {below : List Frame} {meth : Method} {c : Code} {D : va_G} {tc : Nat → ClassId} {ad : Rf → Nat} {A : Nat → Prop} {H : Heap} {locs : List Loc} {lsA : Array Slot} {st0 : List Value} {a : Array Value}
    (C : Cx own cc nL rt xt nme rs p l s m args meth c D tc ad A) (hS : va_S A s.heap H locs) (hl : zl ad lsA nL ls)
    (hr : vx_Run p l e R s m args below meth c H locs cells slots mc ms (F0 m pc lsA st0) (st.map (rv ad)) (Qs D tc ad sh rs (Af ad rs H.size) PR1 a) (Xs D tc ad sh rs (Af ad rs H.size) PX1) (Af ad rs H.size))
    (kk : ∀ (v : Option Value) (M1 : Mm), PR1 v M1 → Z own cc nL rt xt nme R Q rs sh (cells + mc) (slots + ms) (pc + 3) ls (v.toList.map Sum.inl ++ st) M1)
    (kx : ∀ (E : String) (M1 : Mm), PX1 E M1 → ZX own cc nL rt xt nme R Q rs sh (cells + mc) (slots + ms) pc ls E M1) : W p l e R s m args below meth c H locs cells slots (Q below args s D tc ad A) (F0 m pc lsA st0) := by
  intro T hT X
  have haf := C.af hS
  rcases hr T hT X with ⟨v, st₀, t, T', L, h0, X', hL, e1, e2, ⟨⟨v2, M1, hv, hp, hb⟩, hF⟩, st⟩ | ⟨q, st₀, t, T', L, E, ce, h0, X', hL, e1, e2, ⟨⟨M1, hp, hb⟩, hF⟩, hce, hcv, hcl, st⟩
  · cases hv
    obtain ⟨k1, k2, k3⟩ := vx_keep h0 e1 hS (fun q _ h => haf q h) haf hL hF
    have hk := kk v M1 hp p l e s m args below meth c D tc ad A T'.heap (locs ++ L) lsA C (by rw [e1]; exact hb) k3 hl
    rw [map_ret] at hk
    obtain ⟨t2, a1, b1⟩ := hk T' rfl X'
    exact ⟨t2, st t2 a1, b1⟩
  · obtain ⟨k1, k2, k3⟩ := vx_keep h0 e1 hS (fun q _ h => haf q h) haf hL hF
    obtain ⟨t2, a1, b1⟩ := kx E M1 hp p l e s m args below meth c D tc ad A T'.heap (locs ++ L) lsA _ q ce C (by rw [e1]; exact hb) k3 hl (by rw [e1]; exact hce) hcv hcl T' rfl X'
    exact ⟨t2, st.trans a1, b1⟩
def mhOk (y : MethodName) (n : Nat) : Bool := decide (y.cls ≠ "java/lang/invoke/MethodHandle") && decide (y.cls ≠ "java/lang/invoke/VarHandle") && decide ((parseMethodDescriptor y.desc).map (fun d => d.parameters.length) = some n)
theorem mhOk_spec {y : MethodName} {n : Nat} (h : mhOk y n = true) : y.cls ≠ "java/lang/invoke/MethodHandle" ∧ y.cls ≠ "java/lang/invoke/VarHandle" ∧ (parseMethodDescriptor y.desc).map (fun d => d.parameters.length) = some n := by
  simp only [mhOk, Bool.and_eq_true, decide_eq_true_eq] at h
  exact ⟨h.1.1, h.1.2, h.2⟩
def mcs (st : List MV) : Nat := (st.map (fun v => match v with | .inl x => x.category | .inr _ => 1)).sum
theorem mcs_map {ad : Rf → Nat} : ∀ st : List MV, ((st.map (rv ad)).map fun v => v.category).sum = mcs st
  | [] => rfl
  | .inl x :: t => by
    have h := mcs_map (ad := ad) t
    simp only [mcs, List.map_cons, List.sum_cons] at h ⊢
    rw [h]; rfl
  | .inr r :: t => by
    have h := mcs_map (ad := ad) t
    simp only [mcs, List.map_cons, List.sum_cons] at h ⊢
    rw [h]; rfl
theorem al_code {y : MethodName} {c1 : ByteArray} {n : Nat} {r : Option FieldType} (h : Cond.code y c1 n r ∈ AL) : GoodIn AL (Cond.code y c1 n r :: AL) := al_good (fun w hw => by
  rcases List.mem_cons.mp hw with rfl | hw
  · exact h
  · exact hw)
theorem z_callV {idx n1 ci d mc ms : Nat} {y : MethodName} {c1 : ByteArray} {rt1 : Option FieldType} {av : List MV} {r : Rf} {ks : List Bool} {PR1 : Option Value → Mm → Prop} {PX1 : String → Mm → Prop}
    (hT : Tri y (.code y c1 n1 rt1) d mc ms sh rs (.inr r :: av) M PR1 PX1) (hd : decode cc pc = .ok (.invokevirtual idx, 3)) (hw : lkV own idx y) (hcd : Cond.code y c1 n1 rt1 ∈ AL) (hr : r ∈ rs) (hk : kd r = .inl (ci, ks)) (hci : ci < 11 ∧ Rc ci = y.cls) (hy : mhOk y av.length = true)
    (hroom : d + 1 ≤ R.frames ∧ 8 + (n1 + 11) + 60 * d ≤ R.locals ∧ cells + mc ≤ R.cells ∧ slots + ms ≤ R.slots) (hst : mcs st ≤ 8) (hstk : stk = av.reverse ++ .inr r :: st)
    (kk : ∀ (v : Option Value) (M1 : Mm), PR1 v M1 → Z own cc nL rt xt nme R Q rs sh (cells + mc) (slots + ms) (pc + 3) ls (v.toList.map Sum.inl ++ st) M1)
    (kx : ∀ (E : String) (M1 : Mm), PX1 E M1 → ZX own cc nL rt xt nme R Q rs sh (cells + mc) (slots + ms) pc ls E M1) : Z own cc nL rt xt nme R Q rs sh cells slots pc ls stk M := by
  intro p l e s m args below meth c D tc ad A H locs lsA C hP hS hl
  obtain ⟨q, -, hq⟩ := wl_at (tc := tc) (ad := ad) (sh := sh) (M := M) hr
  rw [ent_o hk] at hq
  have hts := C.2.2.2.2.1
  obtain ⟨y1, y2, y3⟩ := mhOk_spec hy
  have hrec := va_recv C.2.2.2.2.2.2.2.2.2.1 hP (clC ci hci.1) hq
  rw [hci.2] at hrec
  refine z_run C hS hl (a := (Value.ref (ad r) :: av.map (rv ad)).toArray) (vx_runV (Ts := AL) (As := av.map (rv ad)) (b := ad r) ⟨C.1, C.2.1, C.2.2.1, C.2.2.2.1, hts⟩ (hT l D tc ad H.size)
    ⟨callB_of (n := av.length) hts (al_code hcd) rfl rfl rfl (hts _ hw.2.2.2) (hts _ hw.1) ⟨y1, y2, y3⟩ ⟨hroom.1, hroom.2.1⟩, hts _ hw.2.1, hts _ hw.2.2.1⟩
    ⟨Ps.blind, hrec, C.pre hP hS _⟩ rfl (by rw [List.length_map]) hl.1 ?_ ?_ hd ⟨hroom.2.2.1, hroom.2.2.2⟩) kk kx
  · rw [hstk, List.map_append, List.map_reverse]; rfl
  · have h9 := mcs_map (ad := ad) st
    exact lv_room (by rw [h9]; exact hst)
theorem z_callS {idx n1 d mc ms : Nat} {y : MethodName} {c1 : ByteArray} {rt1 : Option FieldType} {av : List MV} {PR1 : Option Value → Mm → Prop} {PX1 : String → Mm → Prop}
    (hT : Tri y (.code y c1 n1 rt1) d mc ms sh rs av M PR1 PX1) (hd : decode cc pc = .ok (.invokestatic idx, 3)) (hw : lkS own idx y) (hcd : Cond.code y c1 n1 rt1 ∈ AL) (hy : mhOk y av.length = true)
    (hroom : d + 1 ≤ R.frames ∧ 8 + (n1 + 11) + 60 * d ≤ R.locals ∧ cells + mc ≤ R.cells ∧ slots + ms ≤ R.slots) (hst : mcs st ≤ 8) (hstk : stk = av.reverse ++ st)
    (kk : ∀ (v : Option Value) (M1 : Mm), PR1 v M1 → Z own cc nL rt xt nme R Q rs sh (cells + mc) (slots + ms) (pc + 3) ls (v.toList.map Sum.inl ++ st) M1)
    (kx : ∀ (E : String) (M1 : Mm), PX1 E M1 → ZX own cc nL rt xt nme R Q rs sh (cells + mc) (slots + ms) pc ls E M1) : Z own cc nL rt xt nme R Q rs sh cells slots pc ls stk M := by
  intro p l e s m args below meth c D tc ad A H locs lsA C hP hS hl
  have hts := C.2.2.2.2.1
  obtain ⟨y1, y2, y3⟩ := mhOk_spec hy
  refine z_run C hS hl (a := (av.map (rv ad)).toArray) (vx_runS (Ts := AL) (As := av.map (rv ad)) ⟨C.1, C.2.1, C.2.2.1, C.2.2.2.1, hts⟩ (hT l D tc ad H.size)
    ⟨callB_of (n := av.length) hts (al_code hcd) rfl rfl rfl (hts _ hw.2.2) (hts _ hw.1) ⟨y1, y2, y3⟩ ⟨hroom.1, hroom.2.1⟩, hts _ hw.2.1⟩
    ⟨Ps.blind, C.pre hP hS _⟩ rfl (by rw [List.length_map]) hl.1 ?_ ?_ hd ⟨hroom.2.2.1, hroom.2.2.2⟩) kk kx
  · rw [hstk, List.map_append, List.map_reverse]
  · have h9 := mcs_map (ad := ad) st
    exact lv_room (by rw [h9]; exact hst)
theorem Tri.met {y : MethodName} {w0 : Cond} {d mc ms : Nat} {av : List MV} {PR1 : Option Value → Mm → Prop} (h : Tri y w0 d mc ms sh rs av M PR1 (fun _ _ => False)) (l : Launch) (D : va_G) (tc : Nat → ClassId) (ad : Rf → Nat) (sz : Nat) :
    Met l y (w0 :: AL) (rmD d mc ms) (Ps D tc ad l sh M rs sz av) (Qs D tc ad sh rs (Af ad rs sz) PR1) mc ms (Af ad rs sz) := by
  intro p e ha hc hk s m args below hf happ hP hK
  obtain ⟨n, o, h1, h2, h3, h4⟩ := h l D tc ad sz p e ha hc hk s m args below hf happ hP hK
  refine ⟨n, o, h1, h2, h3, ?_⟩
  rcases h4 with h4 | ⟨q, -, E, ce, L, ⟨⟨M1, h5, -⟩, -⟩, -⟩
  · exact h4
  · exact h5.elim
theorem vx_ofRun {p : Program} {l : Launch} {e : Env} {s : State} {m : MethodId} {args : Array Value} {below : List Frame} {meth : Method} {c : Code} {H : Heap} {locs : List Loc} {mc ms : Nat} {g : JFrame} {rest : List Value} {Qa : State → Outcome → State → Prop} {XC : String → State → State → Prop} {free : Addr → Prop} (h : va_Run p l e R s m args below meth c H locs cells slots mc ms g rest Qa free) : vx_Run p l e R s m args below meth c H locs cells slots mc ms g rest Qa XC free :=
  fun T hT X => Or.inl (h T hT X)
theorem C_nw {w : Cond} {l : Launch} {ad : Rf → Nat} {A : Nat → Prop} {s : State} {H : Heap} (h : Fx l ad A s H) (hw : w ∈ nsw) : va_Nw w s := h.2.2.2.2.2.2.2 w hw
/-- a private method of a nest mate -/
theorem z_callVN {idx n1 ci d mc ms : Nat} {y : MethodName} {host : String} {c1 : ByteArray} {rt1 : Option FieldType} {av : List MV} {r : Rf} {ks : List Bool} {PR1 : Option Value → Mm → Prop}
    (hT : Tri y (.code y c1 n1 rt1) d mc ms sh rs (.inr r :: av) M PR1 (fun _ _ => False)) (hd : decode cc pc = .ok (.invokevirtual idx, 3)) (hw : lkN own idx y host) (hsl : Cond.selects y.cls y y ∈ AL) (hcd : Cond.code y c1 n1 rt1 ∈ AL) (hr : r ∈ rs) (hk : kd r = .inl (ci, ks)) (hci : ci < 11 ∧ Rc ci = y.cls) (hy : mhOk y av.length = true)
    (hroom : d + 1 ≤ R.frames ∧ 8 + (n1 + 11) + 60 * d ≤ R.locals ∧ cells + mc ≤ R.cells ∧ slots + ms ≤ R.slots) (hst : mcs st ≤ 8) (hstk : stk = av.reverse ++ .inr r :: st)
    (kk : ∀ (v : Option Value) (M1 : Mm), PR1 v M1 → Z own cc nL rt xt nme R Q rs sh (cells + mc) (slots + ms) (pc + 3) ls (v.toList.map Sum.inl ++ st) M1) : Z own cc nL rt xt nme R Q rs sh cells slots pc ls stk M := by
  intro p l e s m args below meth c D tc ad A H locs lsA C hP hS hl
  obtain ⟨q, -, hq⟩ := wl_at (tc := tc) (ad := ad) (sh := sh) (M := M) hr
  rw [ent_o hk] at hq
  have hts := C.2.2.2.2.1
  obtain ⟨y1, y2, y3⟩ := mhOk_spec hy
  have hrec := va_recv C.2.2.2.2.2.2.2.2.2.1 hP (clC ci hci.1) hq
  rw [hci.2] at hrec
  refine z_run C hS hl (PX1 := fun _ _ => False) (a := (Value.ref (ad r) :: av.map (rv ad)).toArray) (vx_ofRun (va_runVN (Ts := AL) (host := host) (C := y.cls) (As := av.map (rv ad)) (b := ad r) ⟨C.1, C.2.1, C.2.2.1, C.2.2.2.1, hts⟩ (hT.met l D tc ad H.size)
    ⟨va_cnB av.length hts (al_code hcd) rfl rfl rfl (C_nw C.2.2.2.2.2.2.2.2.2.2.2.1 (nst_in _ hw.1)) (hts _ hw.2.2) ⟨y1, y2, y3⟩ ⟨hroom.1, hroom.2.1⟩, hts _ hw.2.1, hts _ hsl⟩
    ⟨Ps.blind, hrec, C.pre hP hS _⟩ rfl (by rw [List.length_map]) hl.1 ?_ ?_ hd ⟨hroom.2.2.1, hroom.2.2.2⟩)) kk (fun _ _ h => h.elim)
  · rw [hstk, List.map_append, List.map_reverse]; rfl
  · have h9 := mcs_map (ad := ad) st
    exact lv_room (by rw [h9]; exact hst)
theorem z_callSN {idx n1 d mc ms : Nat} {y : MethodName} {host : String} {c1 : ByteArray} {rt1 : Option FieldType} {av : List MV} {PR1 : Option Value → Mm → Prop}
    (hT : Tri y (.code y c1 n1 rt1) d mc ms sh rs av M PR1 (fun _ _ => False)) (hd : decode cc pc = .ok (.invokestatic idx, 3)) (hw : lkM own idx y host) (hcd : Cond.code y c1 n1 rt1 ∈ AL) (hy : mhOk y av.length = true)
    (hroom : d + 1 ≤ R.frames ∧ 8 + (n1 + 11) + 60 * d ≤ R.locals ∧ cells + mc ≤ R.cells ∧ slots + ms ≤ R.slots) (hst : mcs st ≤ 8) (hstk : stk = av.reverse ++ st)
    (kk : ∀ (v : Option Value) (M1 : Mm), PR1 v M1 → Z own cc nL rt xt nme R Q rs sh (cells + mc) (slots + ms) (pc + 3) ls (v.toList.map Sum.inl ++ st) M1) : Z own cc nL rt xt nme R Q rs sh cells slots pc ls stk M := by
  intro p l e s m args below meth c D tc ad A H locs lsA C hP hS hl
  have hts := C.2.2.2.2.1
  obtain ⟨y1, y2, y3⟩ := mhOk_spec hy
  refine z_run C hS hl (PX1 := fun _ _ => False) (a := (av.map (rv ad)).toArray) (vx_ofRun (va_runSN (Ts := AL) (host := host) (As := av.map (rv ad)) ⟨C.1, C.2.1, C.2.2.1, C.2.2.2.1, hts⟩ (hT.met l D tc ad H.size)
    ⟨va_cnB av.length hts (al_code hcd) rfl rfl rfl (C_nw C.2.2.2.2.2.2.2.2.2.2.2.1 (nst_in _ hw.1)) (hts _ hw.2.2) ⟨y1, y2, y3⟩ ⟨hroom.1, hroom.2.1⟩, hts _ hw.2.1, trivial⟩
    ⟨Ps.blind, C.pre hP hS _⟩ rfl (by rw [List.length_map]) hl.1 ?_ ?_ hd ⟨hroom.2.2.1, hroom.2.2.2⟩)) kk (fun _ _ h => h.elim)
  · rw [hstk, List.map_append, List.map_reverse]
  · have h9 := mcs_map (ad := ad) st
    exact lv_room (by rw [h9]; exact hst)
end ZC
/-! the things that there are once all is built -/
def allR : List Rf := [(0, 0, 0), (1, 0, 0), (1, 1, 0), (2, 0, 0), (2, 1, 0), (3, 0, 0), (4, 0, 0), (4, 1, 0), (4, 2, 0), (4, 3, 0), (5, 0, 0), (6, 0, 0), (7, 0, 0), (8, 0, 0), (8, 1, 0), (8, 2, 0), (8, 3, 0), (14, 0, 0), (15, 0, 0), (16, 0, 0), (17, 0, 0), (18, 0, 0), (20, 0, 0), (21, 0, 0), (22, 0, 0)] ++
  ((List.range 12).map (fun a => (19, a, 0)) ++ (List.range 12).flatMap (fun i => (9, i, 0) :: (10, i, 0) :: (11, i, 0) :: (12, i, 0) :: (List.range 12).map (fun t => (13, i, t))))
theorem allR_nd : allR.Nodup := by decide +kernel
def SH : Sh := fun r j => match r.1 with
  | 0 => ([some (1, 0, 0), some (1, 1, 0), some (3, 0, 0), some (5, 0, 0), some (6, 0, 0), some (7, 0, 0), some (9, 0, 0), some (9, 1, 0), some (14, 0, 0), some (16, 0, 0), some (17, 0, 0)] : List (Option Rf)).getD j none
  | 1 => some (2, r.2.1, 0)
  | 3 => ([some (1, 0, 0), some (4, 0, 0), some (4, 1, 0), some (4, 2, 0), some (4, 3, 0)] : List (Option Rf)).getD j none
  | 5 => ([some (3, 0, 0), some (9, 1, 0)] : List (Option Rf)).getD j none
  | 6 => ([some (3, 0, 0), some (7, 0, 0)] : List (Option Rf)).getD j none
  | 7 => some (8, j, 0)
  | 9 => match j with
    | 0 => some (10, r.2.1, 0)
    | _ => some (12, r.2.1, 0)
  | 10 => some (11, r.2.1, 0)
  | 12 => some (13, r.2.1, j)
  | 14 => some (15, 0, 0)
  | 15 => some (9, 2 + j, 0)
  | 16 => some (9, 10 + j, 0)
  | 18 => ([some (19, 0, 0), some (19, 1, 0), some (19, 2, 0), some (19, 3, 0), some (19, 4, 0), some (19, 5, 0), some (20, 0, 0), none, none, some (19, 6, 0), none, none, none, none, none, none, none, none, none, some (19, 7, 0), some (19, 8, 0), some (19, 9, 0), some (19, 10, 0), none, none, none, some (19, 11, 0)] : List (Option Rf)).getD j none
  | _ => none
theorem m9 : ∀ i, i < 12 → (9, i, 0) ∈ allR := by decide +kernel
theorem m10 : ∀ i, i < 12 → (10, i, 0) ∈ allR := by decide +kernel
theorem m11 : ∀ i, i < 12 → (11, i, 0) ∈ allR := by decide +kernel
theorem m12 : ∀ i, i < 12 → (12, i, 0) ∈ allR := by decide +kernel
theorem m13 : ∀ i, i < 12 → ∀ t, t < 12 → (13, i, t) ∈ allR := by decide +kernel
theorem m19 : ∀ i, i < 12 → (19, i, 0) ∈ allR := by decide +kernel
theorem m1 : ∀ i, i < 2 → (1, i, 0) ∈ allR := by decide +kernel
theorem m2 : ∀ i, i < 2 → (2, i, 0) ∈ allR := by decide +kernel
theorem m8 : ∀ i, i < 4 → (8, i, 0) ∈ allR := by decide +kernel
theorem m4 : ∀ i, i < 4 → (4, i, 0) ∈ allR := by decide +kernel
end
section
/-! contracts that say: the answer is this, the things are then so -/
abbrev TF (y : MethodName) (c1 : ByteArray) (n1 : Nat) (rt1 : Option FieldType) (d : Nat) (av : List MV) (M : Mm) (v0 : Option Value) (M2 : Mm) : Prop := Tri y (.code y c1 n1 rt1) d 0 0 SH allR av M (fun v M' => v = v0 ∧ M' = M2) (fun _ _ => False)
theorem it_t {α : Type} {c : Prop} {dc : Decidable c} {a b r : α} (h : (@ite α c dc a b) = r) (hc : c) : a = r := by rw [if_pos hc] at h; exact h
theorem it_f {α : Type} {c : Prop} {dc : Decidable c} {a b r : α} (h : (@ite α c dc a b) = r) (hc : ¬ c) : b = r := by rw [if_neg hc] at h; exact h
theorem chk {α : Type} {c : Prop} {dc : Decidable c} {b : Option α} {r : α} (h : (@ite (Option α) c dc none b) = some r) : ¬ c ∧ b = some r := by
  by_cases hc : c
  · rw [if_pos hc] at h; cases h
  · rw [if_neg hc] at h; exact ⟨hc, h⟩
theorem chk2 {α : Type} {c : Prop} {dc : Decidable c} {b : Option α} {r : α} (h : (@ite (Option α) c dc b none) = some r) : c ∧ b = some r := by
  by_cases hc : c
  · rw [if_pos hc] at h; exact ⟨hc, h⟩
  · rw [if_neg hc] at h; cases h
theorem bnd {α β : Type} {o : Option α} {k : α → Option β} {r : β} (h : o.bind k = some r) : ∃ q, o = some q ∧ k q = some r := by
  cases o with
  | none => cases h
  | some q => exact ⟨q, rfl, h⟩
theorem ltN {i : Int32} {n : Nat} (h : ¬ (i < 0 ∨ n ≤ i.toNatClampNeg)) : i.toNatClampNeg < n := Nat.lt_of_not_le fun h2 => h (Or.inr h2)
theorem ltA {i : Int32} {n a b : Nat} (h : ¬ (i < 0 ∨ n ≤ i.toNatClampNeg)) (hb : (a + n).ble b = true) : a + i.toNatClampNeg < b := by
  have h1 := ltN h
  have h2 := Nat.le_of_ble_eq_true hb
  omega
def bz (v : Int32) : Int32 := v &&& 1
theorem bz_ok (v : Int32) : narrow .boolean (.int v) = .int (bz v) := rfl
theorem bz0 : narrow .boolean (.int 0) = .int 0 := rfl
theorem bz1 : narrow .boolean (.int 1) = .int 1 := rfl
theorem gp1 {M : Mm} {r : Rf} {j : Nat} {v : Int32} : (putI M r j v).1 r j = v := by simp [putI]
theorem gp2 {M : Mm} {r : Rf} {j : Nat} {v : Int64} : (putL M r j v).2 r j = v := by simp [putL]
def mc (v : MV) : Nat := match v with
  | .inl x => x.category
  | .inr _ => 1
def els : List MV → List (Option MV)
  | [] => []
  | v :: t => match mc v with
    | 2 => some v :: none :: els t
    | _ => some v :: els t
theorem mc_rv (ad : Rf → Nat) (v : MV) : (rv ad v).category = mc v := by cases v <;> rfl
theorem els_2 {v : MV} {t : List MV} (h : mc v = 2) : els (v :: t) = some v :: none :: els t := by
  rw [els, h]; rfl
theorem els_1 {v : MV} {t : List MV} (h : ¬ mc v = 2) : els (v :: t) = some v :: els t := by
  rw [els]
  split
  · rename_i h2; exact absurd h2 h
  · rfl
theorem els_len (ad : Rf → Nat) : ∀ av : List MV, (lg_sl (av.map (rv ad))).length = (els av).length
  | [] => rfl
  | v :: t => by
    have ih := els_len ad t
    have h2 : lg_sl ((v :: t).map (rv ad)) = (if (rv ad v).category = 2 then [Slot.val (rv ad v), .second] else [.val (rv ad v)]) ++ lg_sl (t.map (rv ad)) := by simp [lg_sl]
    rw [h2, List.length_append, ih, mc_rv ad v]
    by_cases h3 : mc v = 2
    · rw [if_pos h3, els_2 h3]; simp; omega
    · rw [if_neg h3, els_1 h3]; simp; omega
theorem els_at (ad : Rf → Nat) : ∀ (av : List MV) (k i : Nat) (v : MV), (els av)[i]? = some (some v) → (k + i, rv ad v) ∈ lv_args k (av.map (rv ad))
  | [], _, _, _, h => by simp [els] at h
  | w :: t, k, i, v, h => by
    have hm := mc_rv ad w
    rw [List.map_cons, lv_args, hm]
    by_cases h3 : mc w = 2
    · rw [els_2 h3] at h
      rw [if_pos h3]
      match i, h with
      | 0, h => simp at h; subst h; exact List.mem_cons_self
      | 1, h => simp at h
      | i + 2, h =>
        have := els_at ad t (k + 2) i v (by simpa using h)
        rw [show k + 2 + i = k + (i + 2) by omega] at this
        exact List.mem_cons_of_mem _ this
    · rw [els_1 h3] at h
      rw [if_neg h3]
      match i, h with
      | 0, h => simp at h; subst h; exact List.mem_cons_self
      | i + 1, h =>
        have := els_at ad t (k + 1) i v (by simpa using h)
        rw [show k + 1 + i = k + (i + 1) by omega] at this
        exact List.mem_cons_of_mem _ this
theorem els_pad (ad : Rf → Nat) {av : List MV} {n i : Nat} {v : MV} (h : (els av ++ List.replicate n none)[i]? = some (some v)) : (i, rv ad v) ∈ lv_args 0 (av.map (rv ad)) := by
  rw [List.getElem?_append] at h
  split at h
  · have := els_at ad av 0 i v h
    rwa [Nat.zero_add] at this
  · rw [List.getElem?_replicate] at h
    split at h <;> cases h
theorem TF.go {y : MethodName} {own nme : String} {cc : ByteArray} {nL : Nat} {rt : Option FieldType} {d : Nat} {av : List MV} {M M2 : Mm} {v0 : Option Value} {ls : List (Option MV)} {n : Nat}
    (hy : plainFor y = true) (ho : y.cls = own) (hm : y.name = nme) (hls : els av ++ List.replicate n none = ls) (hn : (els av).length.ble nL = true)
    (k : Z own cc nL rt [] nme (rmD d 0 0) (QM SH allR 0 0 (fun v M' => v = v0 ∧ M' = M2) (fun _ _ => False)) allR SH 0 0 0 ls [] M) : TF y cc nL rt d av M v0 M2 :=
  Tri.of hy ho hm ls (fun ad => ⟨by rw [els_len]; exact Nat.le_of_ble_eq_true hn, fun i v h => els_pad ad (n := n) (by rw [hls]; exact h)⟩) k
def okO (r : Rf) (y : MethodName) : Bool := match kd r with
  | .inl (ci, _) => decide (ci < 11) && (Rc ci == y.cls)
  | .inr _ => false
theorem okO_spec {r : Rf} {y : MethodName} (h : okO r y = true) : ∃ (ci : Nat) (ks : List Bool), kd r = .inl (ci, ks) ∧ (ci < 11 ∧ Rc ci = y.cls) := by
  unfold okO at h
  split at h
  · rename_i ci ks hk
    simp only [Bool.and_eq_true, decide_eq_true_eq, beq_iff_eq] at h
    exact ⟨ci, ks, hk, h⟩
  · cases h
def rmk (d n1 : Nat) (R : Room) (cells slots : Nat) : Bool := (d + 1).ble R.frames && (8 + (n1 + 11) + 60 * d).ble R.locals && cells.ble R.cells && slots.ble R.slots
theorem rmk_spec {d n1 : Nat} {R : Room} {cells slots : Nat} (h : rmk d n1 R cells slots = true) : d + 1 ≤ R.frames ∧ 8 + (n1 + 11) + 60 * d ≤ R.locals ∧ cells + 0 ≤ R.cells ∧ slots + 0 ≤ R.slots := by
  simp only [rmk, Bool.and_eq_true] at h
  exact ⟨Nat.le_of_ble_eq_true h.1.1.1, Nat.le_of_ble_eq_true h.1.1.2, Nat.le_of_ble_eq_true h.1.2, Nat.le_of_ble_eq_true h.2⟩
theorem tswo {x : Int32} {lo hi : Int} (h : ∀ k : Int, lo ≤ k → k ≤ hi → ¬ x.toInt = k) : x.toInt < lo ∨ hi < x.toInt := by
  by_cases h1 : x.toInt < lo
  · exact Or.inl h1
  · by_cases h2 : hi < x.toInt
    · exact Or.inr h2
    · exact absurd rfl (h x.toInt (by omega) (by omega))
/-- the length of a String constant, and a sign of it -/
def slen (j : Nat) : Int32 := Int32.ofNat (sby j).length
def sch (j : Nat) (i : Int32) : Option Int32 := if i < 0 ∨ (sby j).length ≤ i.toNatClampNeg then none else some ((sby j).getD i.toNatClampNeg 0)
/-- how many loops are run at most -/
def NF : Nat := 5000
theorem iinc_k {n : Int} {v x : Int32} (h : Int32.ofInt n = v) : x + Int32.ofInt n = x + v := by rw [h]
theorem rmk_d {d n1 D : Nat} (h1 : d + 1 ≤ D) (h2 : n1.ble 41 = true) : rmk d n1 (rmD D 0 0) 0 0 = true := by
  have h3 := Nat.le_of_ble_eq_true h2
  simp only [rmk, rmD, Bool.and_eq_true, Nat.ble_eq]
  omega
theorem mk0 : (0, 0, 0) ∈ allR := by decide +kernel
theorem mk3 : (3, 0, 0) ∈ allR := by decide +kernel
theorem mk5 : (5, 0, 0) ∈ allR := by decide +kernel
theorem mk6 : (6, 0, 0) ∈ allR := by decide +kernel
theorem mk7 : (7, 0, 0) ∈ allR := by decide +kernel
theorem mk14 : (14, 0, 0) ∈ allR := by decide +kernel
theorem mk15 : (15, 0, 0) ∈ allR := by decide +kernel
theorem mk16 : (16, 0, 0) ∈ allR := by decide +kernel
theorem mk17 : (17, 0, 0) ∈ allR := by decide +kernel
theorem mk18 : (18, 0, 0) ∈ allR := by decide +kernel
theorem mk20 : (20, 0, 0) ∈ allR := by decide +kernel
theorem mk21 : (21, 0, 0) ∈ allR := by decide +kernel
theorem mk22 : (22, 0, 0) ∈ allR := by decide +kernel
theorem ac_ml : Cond.methodLink RX3 31 arraycopyName ∈ AL := al_mem 541 (by decide +kernel) (by decide +kernel)
theorem ac_nat : Cond.native arraycopyName ∈ AL := al_mem 543 (by decide +kernel) (by decide +kernel)
theorem ac_sta : Cond.static arraycopyName ∈ AL := al_mem 542 (by decide +kernel) (by decide +kernel)
theorem ac_ini : Cond.initialized "java/lang/System" ∈ AL := al_mem 85 (by decide +kernel) (by decide +kernel)
theorem sel_X4_runPart : Cond.selects yX4_runPart.cls yX4_runPart yX4_runPart ∈ AL := al_mem 3 (by decide +kernel) (by decide +kernel)
def bl (i : Nat) : Nat := if i = 0 then 800 else 64

section ZF
variable {own : String} {cc : ByteArray} {nL : Nat} {rt : Option FieldType} {xt : List ExceptionTableEntry} {nme : String} {R : Room} {Q : QF} {cells slots pc : Nat} {ls : List (Option MV)} {st stk : List MV} {M M2 : Mm}
theorem z_fVi {x : Int32} {idx n1 d n : Nat} {y : MethodName} {c1 : ByteArray} {rt1 : Option FieldType} {av : List MV} {r : Rf} (hT : TF y c1 n1 rt1 d (.inr r :: av) M (some (.int x)) M2) (hd : decode cc pc = .ok (.invokevirtual idx, 3)) (hw : lkV own idx y) (hcd : Cond.code y c1 n1 rt1 ∈ AL) (hr : r ∈ allR) (hk : okO r y = true) (hn : av.length = n) (hy : mhOk y n = true) (hrm : rmk d n1 R cells slots = true) (hst : (mcs st).ble 8 = true) (hstk : stk = av.reverse ++ .inr r :: st)
    (kk : Z own cc nL rt xt nme R Q allR SH cells slots (pc + 3) ls (.inl (.int x) :: st) M2) : Z own cc nL rt xt nme R Q allR SH cells slots pc ls stk M := by
  obtain ⟨ci, ks, h1, h2⟩ := okO_spec hk
  subst hn
  refine z_callV hT hd hw hcd hr h1 h2 hy (rmk_spec hrm) (Nat.le_of_ble_eq_true hst) hstk (fun v M1 h => ?_) (fun E M1 h => h.elim)
  obtain ⟨rfl, rfl⟩ := h
  exact kk
theorem z_fSi {x : Int32} {idx n1 d n : Nat} {y : MethodName} {c1 : ByteArray} {rt1 : Option FieldType} {av : List MV} (hT : TF y c1 n1 rt1 d av M (some (.int x)) M2) (hd : decode cc pc = .ok (.invokestatic idx, 3)) (hw : lkS own idx y) (hcd : Cond.code y c1 n1 rt1 ∈ AL) (hn : av.length = n) (hy : mhOk y n = true) (hrm : rmk d n1 R cells slots = true) (hst : (mcs st).ble 8 = true) (hstk : stk = av.reverse ++ st)
    (kk : Z own cc nL rt xt nme R Q allR SH cells slots (pc + 3) ls (.inl (.int x) :: st) M2) : Z own cc nL rt xt nme R Q allR SH cells slots pc ls stk M := by
  subst hn
  refine z_callS hT hd hw hcd hy (rmk_spec hrm) (Nat.le_of_ble_eq_true hst) hstk (fun v M1 h => ?_) (fun E M1 h => h.elim)
  obtain ⟨rfl, rfl⟩ := h
  exact kk
theorem z_fVNi {x : Int32} {idx n1 d n : Nat} {y : MethodName} {host : String} {c1 : ByteArray} {rt1 : Option FieldType} {av : List MV} {r : Rf} (hT : TF y c1 n1 rt1 d (.inr r :: av) M (some (.int x)) M2) (hd : decode cc pc = .ok (.invokevirtual idx, 3)) (hw : lkN own idx y host) (hsl : Cond.selects y.cls y y ∈ AL) (hcd : Cond.code y c1 n1 rt1 ∈ AL) (hr : r ∈ allR) (hk : okO r y = true) (hn : av.length = n) (hy : mhOk y n = true) (hrm : rmk d n1 R cells slots = true) (hst : (mcs st).ble 8 = true) (hstk : stk = av.reverse ++ .inr r :: st)
    (kk : Z own cc nL rt xt nme R Q allR SH cells slots (pc + 3) ls (.inl (.int x) :: st) M2) : Z own cc nL rt xt nme R Q allR SH cells slots pc ls stk M := by
  obtain ⟨ci, ks, h1, h2⟩ := okO_spec hk
  subst hn
  refine z_callVN hT hd hw hsl hcd hr h1 h2 hy (rmk_spec hrm) (Nat.le_of_ble_eq_true hst) hstk (fun v M1 h => ?_)
  obtain ⟨rfl, rfl⟩ := h
  exact kk
theorem z_fSNi {x : Int32} {idx n1 d n : Nat} {y : MethodName} {host : String} {c1 : ByteArray} {rt1 : Option FieldType} {av : List MV} (hT : TF y c1 n1 rt1 d av M (some (.int x)) M2) (hd : decode cc pc = .ok (.invokestatic idx, 3)) (hw : lkM own idx y host) (hcd : Cond.code y c1 n1 rt1 ∈ AL) (hn : av.length = n) (hy : mhOk y n = true) (hrm : rmk d n1 R cells slots = true) (hst : (mcs st).ble 8 = true) (hstk : stk = av.reverse ++ st)
    (kk : Z own cc nL rt xt nme R Q allR SH cells slots (pc + 3) ls (.inl (.int x) :: st) M2) : Z own cc nL rt xt nme R Q allR SH cells slots pc ls stk M := by
  subst hn
  refine z_callSN hT hd hw hcd hy (rmk_spec hrm) (Nat.le_of_ble_eq_true hst) hstk (fun v M1 h => ?_)
  obtain ⟨rfl, rfl⟩ := h
  exact kk
theorem z_fVl {x : Int64} {idx n1 d n : Nat} {y : MethodName} {c1 : ByteArray} {rt1 : Option FieldType} {av : List MV} {r : Rf} (hT : TF y c1 n1 rt1 d (.inr r :: av) M (some (.long x)) M2) (hd : decode cc pc = .ok (.invokevirtual idx, 3)) (hw : lkV own idx y) (hcd : Cond.code y c1 n1 rt1 ∈ AL) (hr : r ∈ allR) (hk : okO r y = true) (hn : av.length = n) (hy : mhOk y n = true) (hrm : rmk d n1 R cells slots = true) (hst : (mcs st).ble 8 = true) (hstk : stk = av.reverse ++ .inr r :: st)
    (kk : Z own cc nL rt xt nme R Q allR SH cells slots (pc + 3) ls (.inl (.long x) :: st) M2) : Z own cc nL rt xt nme R Q allR SH cells slots pc ls stk M := by
  obtain ⟨ci, ks, h1, h2⟩ := okO_spec hk
  subst hn
  refine z_callV hT hd hw hcd hr h1 h2 hy (rmk_spec hrm) (Nat.le_of_ble_eq_true hst) hstk (fun v M1 h => ?_) (fun E M1 h => h.elim)
  obtain ⟨rfl, rfl⟩ := h
  exact kk
theorem z_fSl {x : Int64} {idx n1 d n : Nat} {y : MethodName} {c1 : ByteArray} {rt1 : Option FieldType} {av : List MV} (hT : TF y c1 n1 rt1 d av M (some (.long x)) M2) (hd : decode cc pc = .ok (.invokestatic idx, 3)) (hw : lkS own idx y) (hcd : Cond.code y c1 n1 rt1 ∈ AL) (hn : av.length = n) (hy : mhOk y n = true) (hrm : rmk d n1 R cells slots = true) (hst : (mcs st).ble 8 = true) (hstk : stk = av.reverse ++ st)
    (kk : Z own cc nL rt xt nme R Q allR SH cells slots (pc + 3) ls (.inl (.long x) :: st) M2) : Z own cc nL rt xt nme R Q allR SH cells slots pc ls stk M := by
  subst hn
  refine z_callS hT hd hw hcd hy (rmk_spec hrm) (Nat.le_of_ble_eq_true hst) hstk (fun v M1 h => ?_) (fun E M1 h => h.elim)
  obtain ⟨rfl, rfl⟩ := h
  exact kk
theorem z_fVNl {x : Int64} {idx n1 d n : Nat} {y : MethodName} {host : String} {c1 : ByteArray} {rt1 : Option FieldType} {av : List MV} {r : Rf} (hT : TF y c1 n1 rt1 d (.inr r :: av) M (some (.long x)) M2) (hd : decode cc pc = .ok (.invokevirtual idx, 3)) (hw : lkN own idx y host) (hsl : Cond.selects y.cls y y ∈ AL) (hcd : Cond.code y c1 n1 rt1 ∈ AL) (hr : r ∈ allR) (hk : okO r y = true) (hn : av.length = n) (hy : mhOk y n = true) (hrm : rmk d n1 R cells slots = true) (hst : (mcs st).ble 8 = true) (hstk : stk = av.reverse ++ .inr r :: st)
    (kk : Z own cc nL rt xt nme R Q allR SH cells slots (pc + 3) ls (.inl (.long x) :: st) M2) : Z own cc nL rt xt nme R Q allR SH cells slots pc ls stk M := by
  obtain ⟨ci, ks, h1, h2⟩ := okO_spec hk
  subst hn
  refine z_callVN hT hd hw hsl hcd hr h1 h2 hy (rmk_spec hrm) (Nat.le_of_ble_eq_true hst) hstk (fun v M1 h => ?_)
  obtain ⟨rfl, rfl⟩ := h
  exact kk
theorem z_fSNl {x : Int64} {idx n1 d n : Nat} {y : MethodName} {host : String} {c1 : ByteArray} {rt1 : Option FieldType} {av : List MV} (hT : TF y c1 n1 rt1 d av M (some (.long x)) M2) (hd : decode cc pc = .ok (.invokestatic idx, 3)) (hw : lkM own idx y host) (hcd : Cond.code y c1 n1 rt1 ∈ AL) (hn : av.length = n) (hy : mhOk y n = true) (hrm : rmk d n1 R cells slots = true) (hst : (mcs st).ble 8 = true) (hstk : stk = av.reverse ++ st)
    (kk : Z own cc nL rt xt nme R Q allR SH cells slots (pc + 3) ls (.inl (.long x) :: st) M2) : Z own cc nL rt xt nme R Q allR SH cells slots pc ls stk M := by
  subst hn
  refine z_callSN hT hd hw hcd hy (rmk_spec hrm) (Nat.le_of_ble_eq_true hst) hstk (fun v M1 h => ?_)
  obtain ⟨rfl, rfl⟩ := h
  exact kk
theorem z_fVd {x : UInt64} {idx n1 d n : Nat} {y : MethodName} {c1 : ByteArray} {rt1 : Option FieldType} {av : List MV} {r : Rf} (hT : TF y c1 n1 rt1 d (.inr r :: av) M (some (.double x)) M2) (hd : decode cc pc = .ok (.invokevirtual idx, 3)) (hw : lkV own idx y) (hcd : Cond.code y c1 n1 rt1 ∈ AL) (hr : r ∈ allR) (hk : okO r y = true) (hn : av.length = n) (hy : mhOk y n = true) (hrm : rmk d n1 R cells slots = true) (hst : (mcs st).ble 8 = true) (hstk : stk = av.reverse ++ .inr r :: st)
    (kk : Z own cc nL rt xt nme R Q allR SH cells slots (pc + 3) ls (.inl (.double x) :: st) M2) : Z own cc nL rt xt nme R Q allR SH cells slots pc ls stk M := by
  obtain ⟨ci, ks, h1, h2⟩ := okO_spec hk
  subst hn
  refine z_callV hT hd hw hcd hr h1 h2 hy (rmk_spec hrm) (Nat.le_of_ble_eq_true hst) hstk (fun v M1 h => ?_) (fun E M1 h => h.elim)
  obtain ⟨rfl, rfl⟩ := h
  exact kk
theorem z_fSd {x : UInt64} {idx n1 d n : Nat} {y : MethodName} {c1 : ByteArray} {rt1 : Option FieldType} {av : List MV} (hT : TF y c1 n1 rt1 d av M (some (.double x)) M2) (hd : decode cc pc = .ok (.invokestatic idx, 3)) (hw : lkS own idx y) (hcd : Cond.code y c1 n1 rt1 ∈ AL) (hn : av.length = n) (hy : mhOk y n = true) (hrm : rmk d n1 R cells slots = true) (hst : (mcs st).ble 8 = true) (hstk : stk = av.reverse ++ st)
    (kk : Z own cc nL rt xt nme R Q allR SH cells slots (pc + 3) ls (.inl (.double x) :: st) M2) : Z own cc nL rt xt nme R Q allR SH cells slots pc ls stk M := by
  subst hn
  refine z_callS hT hd hw hcd hy (rmk_spec hrm) (Nat.le_of_ble_eq_true hst) hstk (fun v M1 h => ?_) (fun E M1 h => h.elim)
  obtain ⟨rfl, rfl⟩ := h
  exact kk
theorem z_fVNd {x : UInt64} {idx n1 d n : Nat} {y : MethodName} {host : String} {c1 : ByteArray} {rt1 : Option FieldType} {av : List MV} {r : Rf} (hT : TF y c1 n1 rt1 d (.inr r :: av) M (some (.double x)) M2) (hd : decode cc pc = .ok (.invokevirtual idx, 3)) (hw : lkN own idx y host) (hsl : Cond.selects y.cls y y ∈ AL) (hcd : Cond.code y c1 n1 rt1 ∈ AL) (hr : r ∈ allR) (hk : okO r y = true) (hn : av.length = n) (hy : mhOk y n = true) (hrm : rmk d n1 R cells slots = true) (hst : (mcs st).ble 8 = true) (hstk : stk = av.reverse ++ .inr r :: st)
    (kk : Z own cc nL rt xt nme R Q allR SH cells slots (pc + 3) ls (.inl (.double x) :: st) M2) : Z own cc nL rt xt nme R Q allR SH cells slots pc ls stk M := by
  obtain ⟨ci, ks, h1, h2⟩ := okO_spec hk
  subst hn
  refine z_callVN hT hd hw hsl hcd hr h1 h2 hy (rmk_spec hrm) (Nat.le_of_ble_eq_true hst) hstk (fun v M1 h => ?_)
  obtain ⟨rfl, rfl⟩ := h
  exact kk
theorem z_fSNd {x : UInt64} {idx n1 d n : Nat} {y : MethodName} {host : String} {c1 : ByteArray} {rt1 : Option FieldType} {av : List MV} (hT : TF y c1 n1 rt1 d av M (some (.double x)) M2) (hd : decode cc pc = .ok (.invokestatic idx, 3)) (hw : lkM own idx y host) (hcd : Cond.code y c1 n1 rt1 ∈ AL) (hn : av.length = n) (hy : mhOk y n = true) (hrm : rmk d n1 R cells slots = true) (hst : (mcs st).ble 8 = true) (hstk : stk = av.reverse ++ st)
    (kk : Z own cc nL rt xt nme R Q allR SH cells slots (pc + 3) ls (.inl (.double x) :: st) M2) : Z own cc nL rt xt nme R Q allR SH cells slots pc ls stk M := by
  subst hn
  refine z_callSN hT hd hw hcd hy (rmk_spec hrm) (Nat.le_of_ble_eq_true hst) hstk (fun v M1 h => ?_)
  obtain ⟨rfl, rfl⟩ := h
  exact kk
theorem z_fVf {x : UInt32} {idx n1 d n : Nat} {y : MethodName} {c1 : ByteArray} {rt1 : Option FieldType} {av : List MV} {r : Rf} (hT : TF y c1 n1 rt1 d (.inr r :: av) M (some (.float x)) M2) (hd : decode cc pc = .ok (.invokevirtual idx, 3)) (hw : lkV own idx y) (hcd : Cond.code y c1 n1 rt1 ∈ AL) (hr : r ∈ allR) (hk : okO r y = true) (hn : av.length = n) (hy : mhOk y n = true) (hrm : rmk d n1 R cells slots = true) (hst : (mcs st).ble 8 = true) (hstk : stk = av.reverse ++ .inr r :: st)
    (kk : Z own cc nL rt xt nme R Q allR SH cells slots (pc + 3) ls (.inl (.float x) :: st) M2) : Z own cc nL rt xt nme R Q allR SH cells slots pc ls stk M := by
  obtain ⟨ci, ks, h1, h2⟩ := okO_spec hk
  subst hn
  refine z_callV hT hd hw hcd hr h1 h2 hy (rmk_spec hrm) (Nat.le_of_ble_eq_true hst) hstk (fun v M1 h => ?_) (fun E M1 h => h.elim)
  obtain ⟨rfl, rfl⟩ := h
  exact kk
theorem z_fSf {x : UInt32} {idx n1 d n : Nat} {y : MethodName} {c1 : ByteArray} {rt1 : Option FieldType} {av : List MV} (hT : TF y c1 n1 rt1 d av M (some (.float x)) M2) (hd : decode cc pc = .ok (.invokestatic idx, 3)) (hw : lkS own idx y) (hcd : Cond.code y c1 n1 rt1 ∈ AL) (hn : av.length = n) (hy : mhOk y n = true) (hrm : rmk d n1 R cells slots = true) (hst : (mcs st).ble 8 = true) (hstk : stk = av.reverse ++ st)
    (kk : Z own cc nL rt xt nme R Q allR SH cells slots (pc + 3) ls (.inl (.float x) :: st) M2) : Z own cc nL rt xt nme R Q allR SH cells slots pc ls stk M := by
  subst hn
  refine z_callS hT hd hw hcd hy (rmk_spec hrm) (Nat.le_of_ble_eq_true hst) hstk (fun v M1 h => ?_) (fun E M1 h => h.elim)
  obtain ⟨rfl, rfl⟩ := h
  exact kk
theorem z_fVNf {x : UInt32} {idx n1 d n : Nat} {y : MethodName} {host : String} {c1 : ByteArray} {rt1 : Option FieldType} {av : List MV} {r : Rf} (hT : TF y c1 n1 rt1 d (.inr r :: av) M (some (.float x)) M2) (hd : decode cc pc = .ok (.invokevirtual idx, 3)) (hw : lkN own idx y host) (hsl : Cond.selects y.cls y y ∈ AL) (hcd : Cond.code y c1 n1 rt1 ∈ AL) (hr : r ∈ allR) (hk : okO r y = true) (hn : av.length = n) (hy : mhOk y n = true) (hrm : rmk d n1 R cells slots = true) (hst : (mcs st).ble 8 = true) (hstk : stk = av.reverse ++ .inr r :: st)
    (kk : Z own cc nL rt xt nme R Q allR SH cells slots (pc + 3) ls (.inl (.float x) :: st) M2) : Z own cc nL rt xt nme R Q allR SH cells slots pc ls stk M := by
  obtain ⟨ci, ks, h1, h2⟩ := okO_spec hk
  subst hn
  refine z_callVN hT hd hw hsl hcd hr h1 h2 hy (rmk_spec hrm) (Nat.le_of_ble_eq_true hst) hstk (fun v M1 h => ?_)
  obtain ⟨rfl, rfl⟩ := h
  exact kk
theorem z_fSNf {x : UInt32} {idx n1 d n : Nat} {y : MethodName} {host : String} {c1 : ByteArray} {rt1 : Option FieldType} {av : List MV} (hT : TF y c1 n1 rt1 d av M (some (.float x)) M2) (hd : decode cc pc = .ok (.invokestatic idx, 3)) (hw : lkM own idx y host) (hcd : Cond.code y c1 n1 rt1 ∈ AL) (hn : av.length = n) (hy : mhOk y n = true) (hrm : rmk d n1 R cells slots = true) (hst : (mcs st).ble 8 = true) (hstk : stk = av.reverse ++ st)
    (kk : Z own cc nL rt xt nme R Q allR SH cells slots (pc + 3) ls (.inl (.float x) :: st) M2) : Z own cc nL rt xt nme R Q allR SH cells slots pc ls stk M := by
  subst hn
  refine z_callSN hT hd hw hcd hy (rmk_spec hrm) (Nat.le_of_ble_eq_true hst) hstk (fun v M1 h => ?_)
  obtain ⟨rfl, rfl⟩ := h
  exact kk
theorem z_fVv  {idx n1 d n : Nat} {y : MethodName} {c1 : ByteArray} {rt1 : Option FieldType} {av : List MV} {r : Rf} (hT : TF y c1 n1 rt1 d (.inr r :: av) M (none) M2) (hd : decode cc pc = .ok (.invokevirtual idx, 3)) (hw : lkV own idx y) (hcd : Cond.code y c1 n1 rt1 ∈ AL) (hr : r ∈ allR) (hk : okO r y = true) (hn : av.length = n) (hy : mhOk y n = true) (hrm : rmk d n1 R cells slots = true) (hst : (mcs st).ble 8 = true) (hstk : stk = av.reverse ++ .inr r :: st)
    (kk : Z own cc nL rt xt nme R Q allR SH cells slots (pc + 3) ls (st) M2) : Z own cc nL rt xt nme R Q allR SH cells slots pc ls stk M := by
  obtain ⟨ci, ks, h1, h2⟩ := okO_spec hk
  subst hn
  refine z_callV hT hd hw hcd hr h1 h2 hy (rmk_spec hrm) (Nat.le_of_ble_eq_true hst) hstk (fun v M1 h => ?_) (fun E M1 h => h.elim)
  obtain ⟨rfl, rfl⟩ := h
  exact kk
theorem z_fSv  {idx n1 d n : Nat} {y : MethodName} {c1 : ByteArray} {rt1 : Option FieldType} {av : List MV} (hT : TF y c1 n1 rt1 d av M (none) M2) (hd : decode cc pc = .ok (.invokestatic idx, 3)) (hw : lkS own idx y) (hcd : Cond.code y c1 n1 rt1 ∈ AL) (hn : av.length = n) (hy : mhOk y n = true) (hrm : rmk d n1 R cells slots = true) (hst : (mcs st).ble 8 = true) (hstk : stk = av.reverse ++ st)
    (kk : Z own cc nL rt xt nme R Q allR SH cells slots (pc + 3) ls (st) M2) : Z own cc nL rt xt nme R Q allR SH cells slots pc ls stk M := by
  subst hn
  refine z_callS hT hd hw hcd hy (rmk_spec hrm) (Nat.le_of_ble_eq_true hst) hstk (fun v M1 h => ?_) (fun E M1 h => h.elim)
  obtain ⟨rfl, rfl⟩ := h
  exact kk
theorem z_fVNv  {idx n1 d n : Nat} {y : MethodName} {host : String} {c1 : ByteArray} {rt1 : Option FieldType} {av : List MV} {r : Rf} (hT : TF y c1 n1 rt1 d (.inr r :: av) M (none) M2) (hd : decode cc pc = .ok (.invokevirtual idx, 3)) (hw : lkN own idx y host) (hsl : Cond.selects y.cls y y ∈ AL) (hcd : Cond.code y c1 n1 rt1 ∈ AL) (hr : r ∈ allR) (hk : okO r y = true) (hn : av.length = n) (hy : mhOk y n = true) (hrm : rmk d n1 R cells slots = true) (hst : (mcs st).ble 8 = true) (hstk : stk = av.reverse ++ .inr r :: st)
    (kk : Z own cc nL rt xt nme R Q allR SH cells slots (pc + 3) ls (st) M2) : Z own cc nL rt xt nme R Q allR SH cells slots pc ls stk M := by
  obtain ⟨ci, ks, h1, h2⟩ := okO_spec hk
  subst hn
  refine z_callVN hT hd hw hsl hcd hr h1 h2 hy (rmk_spec hrm) (Nat.le_of_ble_eq_true hst) hstk (fun v M1 h => ?_)
  obtain ⟨rfl, rfl⟩ := h
  exact kk
theorem z_fSNv  {idx n1 d n : Nat} {y : MethodName} {host : String} {c1 : ByteArray} {rt1 : Option FieldType} {av : List MV} (hT : TF y c1 n1 rt1 d av M (none) M2) (hd : decode cc pc = .ok (.invokestatic idx, 3)) (hw : lkM own idx y host) (hcd : Cond.code y c1 n1 rt1 ∈ AL) (hn : av.length = n) (hy : mhOk y n = true) (hrm : rmk d n1 R cells slots = true) (hst : (mcs st).ble 8 = true) (hstk : stk = av.reverse ++ st)
    (kk : Z own cc nL rt xt nme R Q allR SH cells slots (pc + 3) ls (st) M2) : Z own cc nL rt xt nme R Q allR SH cells slots pc ls stk M := by
  subst hn
  refine z_callSN hT hd hw hcd hy (rmk_spec hrm) (Nat.le_of_ble_eq_true hst) hstk (fun v M1 h => ?_)
  obtain ⟨rfl, rfl⟩ := h
  exact kk
theorem z_acopyl {idx : Nat} {r1 r2 : Rf} {n1 n2 : Nat} {sp dp n : Int32} (hd : decode cc pc = .ok (.invokestatic idx, 3)) (hml : Cond.methodLink own idx arraycopyName ∈ AL) (hnat : Cond.native arraycopyName ∈ AL) (hsta : Cond.static arraycopyName ∈ AL) (hini : Cond.initialized "java/lang/System" ∈ AL)
    (hr1 : r1 ∈ allR) (hr2 : r2 ∈ allR) (hk1 : kd r1 = .inr (2, n1)) (hk2 : kd r2 = .inr (2, n2)) (h1 : ¬ sp < 0) (h2 : ¬ dp < 0) (h3 : ¬ n < 0) (h4 : sp.toNatClampNeg + n.toNatClampNeg ≤ n1) (h5 : dp.toNatClampNeg + n.toNatClampNeg ≤ n2)
    (hR : 1 ≤ R.frames ∧ mcs st + (nativeFrameWords "java/lang/System" "arraycopy" 5 + 11) ≤ R.locals)
    (kk : Z own cc nL rt xt nme R Q allR SH cells slots (pc + 3) ls st (M.1, fun r j => if r = r2 then va_cpy (M.2 r1) (M.2 r2) sp.toNatClampNeg dp.toNatClampNeg n.toNatClampNeg j else M.2 r j)) : Z own cc nL rt xt nme R Q allR SH cells slots pc ls (.inl (.int n) :: .inl (.int dp) :: .inr r2 :: .inl (.int sp) :: .inr r1 :: st) M := by
  intro p l e s m args below meth c D tc ad A H locs lsA C hP hS hl
  obtain ⟨q1, -, hq1⟩ := wl_at (tc := tc) (ad := ad) (sh := SH) (M := M) hr1
  obtain ⟨q2, hq0, hq2⟩ := wl_at (tc := tc) (ad := ad) (sh := SH) (M := M) hr2
  have he1 : ∀ M : Mm, ent tc ad SH M r1 = .inl (tc 2, n1, .inr (.inl (M.2 r1))) := fun M => by unfold ent; rw [hk1]
  have he2 : ∀ M : Mm, ent tc ad SH M r2 = .inl (tc 2, n2, .inr (.inl (M.2 r2))) := fun M => by unfold ent; rw [hk2]
  rw [he1] at hq1
  rw [he2] at hq2
  have hts := C.2.2.2.2.1
  refine va_copyl C.1 C.2.1 (C.2.2.1.trans hl.1.symm) C.2.2.2.1 (hts _ hml) (hts _ hnat) (hts _ hsta) (hts _ hini) C.2.2.2.2.2.2.2.2.2.1 hP (Wd.D allR_nd C SH M) hS q1 q2 2 2 hq1 hq2 rfl rfl rfl h1 h2 h3 h4 h5 (fun i _ => rfl) hR.1 (by rw [mcs_map]; exact hR.2) hd (fun H1 locs1 hP1 _ hS1 => ?_)
  rw [wl_set (M := M) (M' := (M.1, fun r j => if r = r2 then va_cpy (M.2 r1) (M.2 r2) sp.toNatClampNeg dp.toNatClampNeg n.toNatClampNeg j else M.2 r j)) allR_nd hq0 (by rw [he2]; simp) (fun r' h => ent_other rfl (by funext j; simp [h]))] at hP1
  exact kk p l e s m args below meth c D tc ad A H1 locs1 lsA C hP1 hS1 hl
theorem z_fgt {i : Nat} {rs : List Rf} {sh : Sh} (k : Z own cc nL rt xt nme R Q rs sh cells slots pc (ls.set i none) st M) : Z own cc nL rt xt nme R Q rs sh cells slots pc ls st M := by
  intro p l e s m args below meth c D tc ad A H locs lsA C hP hS hl
  refine k p l e s m args below meth c D tc ad A H locs lsA C hP hS ⟨hl.1, hl.2.1, fun j v hj => hl.2.2 j v ?_⟩
  rw [List.getElem?_set] at hj
  split at hj
  · split at hj <;> cases hj
  · exact hj
/-- a method of String, of a constant -/
theorem z_callT {idx n1 d j : Nat} {y : MethodName} {c1 : ByteArray} {rt1 : Option FieldType} {av : List MV} {v0 : Option Value} (hT : TF y c1 n1 rt1 d (.inr (30, j, 0) :: av) M v0 M2) (hd : decode cc pc = .ok (.invokevirtual idx, 3)) (hw : lkV own idx y) (hcd : Cond.code y c1 n1 rt1 ∈ AL) (hj : j < 22) (hyc : y.cls = "java/lang/String") (hy : mhOk y av.length = true)
    (hrm : rmk d n1 R cells slots = true) (hst : (mcs st).ble 8 = true) (hstk : stk = av.reverse ++ .inr (30, j, 0) :: st)
    (kk : Z own cc nL rt xt nme R Q allR SH cells slots (pc + 3) ls (v0.toList.map Sum.inl ++ st) M2) : Z own cc nL rt xt nme R Q allR SH cells slots pc ls stk M := by
  intro p l e s m args below meth c D tc ad A H locs lsA C hP hS hl
  have hts := C.2.2.2.2.1
  have hroom := rmk_spec hrm
  obtain ⟨y1, y2, y3⟩ := mhOk_spec hy
  obtain ⟨cell, g1, g2, g3, -⟩ := ((C.2.2.2.2.2.2.2.2.2.2.2.1.2.1 j hj).1).kept hS.2.1
  rw [← hyc] at g3
  refine z_run (st := st) C hS hl (PR1 := fun v M9 => v = v0 ∧ M9 = M2) (PX1 := fun _ _ => False) (a := (Value.ref (ad (30, j, 0)) :: av.map (rv ad)).toArray) (vx_runV (Ts := AL) (As := av.map (rv ad)) (b := ad (30, j, 0)) ⟨C.1, C.2.1, C.2.2.1, C.2.2.2.1, hts⟩ (hT l D tc ad H.size)
    ⟨callB_of (n := av.length) hts (al_code hcd) rfl rfl rfl (hts _ hw.2.2.2) (hts _ hw.1) ⟨y1, y2, y3⟩ ⟨hroom.1, hroom.2.1⟩, hts _ hw.2.1, hts _ hw.2.2.1⟩
    ⟨Ps.blind, ⟨cell, g1, g2, g3⟩, C.pre hP hS _⟩ rfl (by rw [List.length_map]) hl.1 ?_ ?_ hd ⟨hroom.2.2.1, hroom.2.2.2⟩) (fun v M1 h => by obtain ⟨rfl, rfl⟩ := h; exact kk) (fun _ _ h => h.elim)
  · rw [hstk, List.map_append, List.map_reverse]; rfl
  · have h9 := mcs_map (ad := ad) st
    exact lv_room (by rw [h9]; exact Nat.le_of_ble_eq_true hst)
theorem z_fTi {x : Int32} {idx n1 d j n : Nat} {y : MethodName} {c1 : ByteArray} {rt1 : Option FieldType} {av : List MV} (hT : TF y c1 n1 rt1 d (.inr (30, j, 0) :: av) M (some (.int x)) M2) (hd : decode cc pc = .ok (.invokevirtual idx, 3)) (hw : lkV own idx y) (hcd : Cond.code y c1 n1 rt1 ∈ AL) (hj : j < 22) (hn : av.length = n) (hy : (mhOk y n && (y.cls == "java/lang/String")) = true)
    (hrm : rmk d n1 R cells slots = true) (hst : (mcs st).ble 8 = true) (hstk : stk = av.reverse ++ .inr (30, j, 0) :: st)
    (kk : Z own cc nL rt xt nme R Q allR SH cells slots (pc + 3) ls (.inl (.int x) :: st) M2) : Z own cc nL rt xt nme R Q allR SH cells slots pc ls stk M := by
  subst hn
  simp only [Bool.and_eq_true, beq_iff_eq] at hy
  exact z_callT hT hd hw hcd hj hy.2 hy.1 hrm hst hstk kk
theorem S_length (M : Mm) (j : Nat) (hj : j < 22) : TF yJ0_length_8abf5 cJ0_length_8abf5 1 (some .int) 6 [.inr (30, j, 0)] M (some (.int (slen j))) M := sorry
theorem S_charAt (M : Mm) (j : Nat) (i : Int32) (hj : j < 22) {q : Int32} (h : sch j i = some q) : TF yJ0_charAt_5068e cJ0_charAt_5068e 2 (some .char) 6 [.inr (30, j, 0), .inl (.int i)] M (some (.int q)) M := sorry
def dbits (x : UInt64) : Int64 := if Op.cmpValue (FP.dcmp x x) .l = 0 then x.toInt64 else 9221120237041090560
theorem S_dbits (M : Mm) (x : UInt64) : TF yJxe99ae_doubleToLongBits_ccdee cJxe99ae_doubleToLongBits_ccdee 2 (some .long) 2 [.inl (.double x)] M (some (.long (dbits x))) M := sorry

end ZF
end
section
theorem kb_m11 : (Int8.ofInt (-11)).toInt32 = (-11 : Int32) := by decide
theorem kb_m3 : (Int8.ofInt (-3)).toInt32 = (-3 : Int32) := by decide
theorem kb_10 : (Int8.ofInt (10)).toInt32 = (10 : Int32) := by decide
theorem kb_100 : (Int8.ofInt (100)).toInt32 = (100 : Int32) := by decide
theorem kb_11 : (Int8.ofInt (11)).toInt32 = (11 : Int32) := by decide
theorem kb_12 : (Int8.ofInt (12)).toInt32 = (12 : Int32) := by decide
theorem kb_120 : (Int8.ofInt (120)).toInt32 = (120 : Int32) := by decide
theorem kb_122 : (Int8.ofInt (122)).toInt32 = (122 : Int32) := by decide
theorem kb_127 : (Int8.ofInt (127)).toInt32 = (127 : Int32) := by decide
theorem kb_16 : (Int8.ofInt (16)).toInt32 = (16 : Int32) := by decide
theorem kb_20 : (Int8.ofInt (20)).toInt32 = (20 : Int32) := by decide
theorem kb_24 : (Int8.ofInt (24)).toInt32 = (24 : Int32) := by decide
theorem kb_30 : (Int8.ofInt (30)).toInt32 = (30 : Int32) := by decide
theorem kb_32 : (Int8.ofInt (32)).toInt32 = (32 : Int32) := by decide
theorem kb_33 : (Int8.ofInt (33)).toInt32 = (33 : Int32) := by decide
theorem kb_35 : (Int8.ofInt (35)).toInt32 = (35 : Int32) := by decide
theorem kb_40 : (Int8.ofInt (40)).toInt32 = (40 : Int32) := by decide
theorem kb_41 : (Int8.ofInt (41)).toInt32 = (41 : Int32) := by decide
theorem kb_45 : (Int8.ofInt (45)).toInt32 = (45 : Int32) := by decide
theorem kb_48 : (Int8.ofInt (48)).toInt32 = (48 : Int32) := by decide
theorem kb_52 : (Int8.ofInt (52)).toInt32 = (52 : Int32) := by decide
theorem kb_57 : (Int8.ofInt (57)).toInt32 = (57 : Int32) := by decide
theorem kb_59 : (Int8.ofInt (59)).toInt32 = (59 : Int32) := by decide
theorem kb_6 : (Int8.ofInt (6)).toInt32 = (6 : Int32) := by decide
theorem kb_60 : (Int8.ofInt (60)).toInt32 = (60 : Int32) := by decide
theorem kb_63 : (Int8.ofInt (63)).toInt32 = (63 : Int32) := by decide
theorem kb_64 : (Int8.ofInt (64)).toInt32 = (64 : Int32) := by decide
theorem kb_7 : (Int8.ofInt (7)).toInt32 = (7 : Int32) := by decide
theorem kb_8 : (Int8.ofInt (8)).toInt32 = (8 : Int32) := by decide
theorem kb_88 : (Int8.ofInt (88)).toInt32 = (88 : Int32) := by decide
theorem kb_9 : (Int8.ofInt (9)).toInt32 = (9 : Int32) := by decide
theorem kb_90 : (Int8.ofInt (90)).toInt32 = (90 : Int32) := by decide
theorem kb_97 : (Int8.ofInt (97)).toInt32 = (97 : Int32) := by decide
theorem kb_99 : (Int8.ofInt (99)).toInt32 = (99 : Int32) := by decide
theorem kc_m1 : Int32.ofInt (-1) = (-1 : Int32) := by decide
theorem kc_m8 : Int32.ofInt (-8) = (-8 : Int32) := by decide
theorem kc_0 : Int32.ofInt (0) = (0 : Int32) := by decide
theorem kc_1 : Int32.ofInt (1) = (1 : Int32) := by decide
theorem kc_2 : Int32.ofInt (2) = (2 : Int32) := by decide
theorem kc_3 : Int32.ofInt (3) = (3 : Int32) := by decide
theorem kc_4 : Int32.ofInt (4) = (4 : Int32) := by decide
theorem kc_5 : Int32.ofInt (5) = (5 : Int32) := by decide
theorem ks_10000 : (Int16.ofInt (10000)).toInt32 = (10000 : Int32) := by decide
theorem ks_1023 : (Int16.ofInt (1023)).toInt32 = (1023 : Int32) := by decide
theorem ks_1960 : (Int16.ofInt (1960)).toInt32 = (1960 : Int32) := by decide
theorem ks_255 : (Int16.ofInt (255)).toInt32 = (255 : Int32) := by decide
theorem ks_280 : (Int16.ofInt (280)).toInt32 = (280 : Int32) := by decide
theorem ks_300 : (Int16.ofInt (300)).toInt32 = (300 : Int32) := by decide
theorem ks_800 : (Int16.ofInt (800)).toInt32 = (800 : Int32) := by decide
theorem ks_999 : (Int16.ofInt (999)).toInt32 = (999 : Int32) := by decide
theorem sw_RX10_171 : (RX10, 171, "tooth", 2) ∈ stt := by decide +kernel
theorem sw_RX10_183 : (RX10, 183, "pin", 3) ∈ stt := by decide +kernel
theorem sw_RX10_188 : (RX10, 188, "box", 1) ∈ stt := by decide +kernel
theorem sw_RX10_203 : (RX10, 203, "unpin", 4) ∈ stt := by decide +kernel
theorem sw_RX10_205 : (RX10, 205, "gap", 5) ∈ stt := by decide +kernel
theorem sw_RX10_207 : (RX10, 207, "bend", 6) ∈ stt := by decide +kernel
theorem sw_RX10_209 : (RX10, 209, "mend", 7) ∈ stt := by decide +kernel
theorem sw_RX10_211 : (RX10, 211, "vane", 8) ∈ stt := by decide +kernel
theorem sw_RX10_213 : (RX10, 213, "wind", 9) ∈ stt := by decide +kernel
theorem sw_RX10_215 : (RX10, 215, "tune", 10) ∈ stt := by decide +kernel
theorem sw_RX10_217 : (RX10, 217, "play", 11) ∈ stt := by decide +kernel
theorem sw_RX10_219 : (RX10, 219, "repeat", 12) ∈ stt := by decide +kernel
theorem sw_RX10_227 : (RX10, 227, "up", 13) ∈ stt := by decide +kernel
theorem sw_RX10_229 : (RX10, 229, "down", 14) ∈ stt := by decide +kernel
theorem sw_RX5_80 : (RX5, 80, "pin", 3) ∈ stt := by decide +kernel
theorem sw_RX5_86 : (RX5, 86, "unpin", 4) ∈ stt := by decide +kernel
theorem sw_RX5_88 : (RX5, 88, "gap", 5) ∈ stt := by decide +kernel
theorem sw_RX5_90 : (RX5, 90, "bend", 6) ∈ stt := by decide +kernel
theorem sw_RX5_92 : (RX5, 92, "mend", 7) ∈ stt := by decide +kernel
theorem sw_RX5_94 : (RX5, 94, "vane", 8) ∈ stt := by decide +kernel
theorem sw_RX5_96 : (RX5, 96, "wind", 9) ∈ stt := by decide +kernel
theorem sw_RX5_98 : (RX5, 98, "tune", 10) ∈ stt := by decide +kernel
theorem sw_RX5_100 : (RX5, 100, "play", 11) ∈ stt := by decide +kernel
theorem sw_RX5_102 : (RX5, 102, "repeat", 12) ∈ stt := by decide +kernel
theorem sw_RX5_114 : (RX5, 114, "up", 13) ∈ stt := by decide +kernel
theorem sw_RX5_116 : (RX5, 116, "down", 14) ∈ stt := by decide +kernel
theorem sw_RX6_31 : (RX6, 31, "tooth", 2) ∈ stt := by decide +kernel
theorem sw_RX6_37 : (RX6, 37, "pin", 3) ∈ stt := by decide +kernel
theorem sw_RX6_48 : (RX6, 48, "box", 1) ∈ stt := by decide +kernel
theorem dJ7_fill_d0a16_0 : decode cJ7_fill_d0a16 0 = .ok (.iconst 0, 1) := by decide +kernel
theorem dJ7_fill_d0a16_1 : decode cJ7_fill_d0a16 1 = .ok (.istore_n 3, 1) := by decide +kernel
theorem dJ7_fill_d0a16_2 : decode cJ7_fill_d0a16 2 = .ok (.aload_n 0, 1) := by decide +kernel
theorem dJ7_fill_d0a16_3 : decode cJ7_fill_d0a16 3 = .ok (.arraylength, 1) := by decide +kernel
theorem dJ7_fill_d0a16_4 : decode cJ7_fill_d0a16 4 = .ok (.istore 4, 2) := by decide +kernel
theorem dJ7_fill_d0a16_6 : decode cJ7_fill_d0a16 6 = .ok (.iload_n 3, 1) := by decide +kernel
theorem dJ7_fill_d0a16_7 : decode cJ7_fill_d0a16 7 = .ok (.iload 4, 2) := by decide +kernel
theorem dJ7_fill_d0a16_9 : decode cJ7_fill_d0a16 9 = .ok (.if_icmp .ge 13, 3) := by decide +kernel
theorem dJ7_fill_d0a16_12 : decode cJ7_fill_d0a16 12 = .ok (.aload_n 0, 1) := by decide +kernel
theorem dJ7_fill_d0a16_13 : decode cJ7_fill_d0a16 13 = .ok (.iload_n 3, 1) := by decide +kernel
theorem dJ7_fill_d0a16_14 : decode cJ7_fill_d0a16 14 = .ok (.lload_n 1, 1) := by decide +kernel
theorem dJ7_fill_d0a16_15 : decode cJ7_fill_d0a16 15 = .ok (.lastore, 1) := by decide +kernel
theorem dJ7_fill_d0a16_16 : decode cJ7_fill_d0a16 16 = .ok (.iinc 3 1, 3) := by decide +kernel
theorem dJ7_fill_d0a16_19 : decode cJ7_fill_d0a16 19 = .ok (.goto (-13), 3) := by decide +kernel
theorem dJ7_fill_d0a16_22 : decode cJ7_fill_d0a16 22 = .ok (.return_, 1) := by decide +kernel
def fJ7_fill_d0a16_L6 (j1 : Nat) (c1 : Int64) (c4 : Int32) (K : Int32 → Mm → Option Mm) : Nat → Int32 → Mm → Option Mm
  | 0, _, _ => none
  | n + 1, v3, M => if c4 ≤ v3 then K v3 M else if v3 < 0 ∨ 36 ≤ v3.toNatClampNeg then none else fJ7_fill_d0a16_L6 j1 c1 c4 K n (v3 + (1 : Int32)) (putL M (11, j1, 0) v3.toNatClampNeg c1)
def fJ7_fill_d0a16 (M : Mm) (j1 : Nat) (x2 : Int64) : Option Mm := fJ7_fill_d0a16_L6 j1 x2 (36 : Int32) (fun w3 M4 => some M4) NF (0 : Int32) M
set_option maxRecDepth 20000 in
set_option maxHeartbeats 2000000 in
theorem sJ7_fill_d0a16_L6 (j1 : Nat) (c1 : Int64) (c4 : Int32) (hj1 : j1 < 12) {res : Mm} {K : Int32 → Mm → Option Mm} : ∀ (n : Nat) (v3 : Int32) (M : Mm), fJ7_fill_d0a16_L6 j1 c1 c4 K n v3 M = some res →
    (∀ (v3 : Int32) (M : Mm), K v3 M = some res → Z RJ7 cJ7_fill_d0a16 5 none [] "fill" (rmD 0 0 0) (QM SH allR 0 0 (fun v M9 => v = none ∧ M9 = res) (fun _ _ => False)) allR SH 0 0 22 [some (.inr (11, j1, 0)), some (.inl (.long c1)), none, some (.inl (.int v3)), some (.inl (.int c4))] [] M) → Z RJ7 cJ7_fill_d0a16 5 none [] "fill" (rmD 0 0 0) (QM SH allR 0 0 (fun v M9 => v = none ∧ M9 = res) (fun _ _ => False)) allR SH 0 0 6 [some (.inr (11, j1, 0)), some (.inl (.long c1)), none, some (.inl (.int v3)), some (.inl (.int c4))] [] M := by
  intro n
  induction n with
  | zero => intro v3 M h; cases h
  | succ n ih =>
    intro v3 M h hK
    rw [fJ7_fill_d0a16_L6] at h
    refine z_iload_n (i := 3) dJ7_fill_d0a16_6 rfl rfl ?_
    refine z_iload (i := 4) dJ7_fill_d0a16_7 rfl ?_
    refine z_icmp_ge (tgt := 22) dJ7_fill_d0a16_9 rfl (fun hc1 => ?_) (fun hc1 => ?_)
    · have h := it_t h hc1
      exact hK _ _ h
    · have h := it_f h hc1
      refine z_aload_n (i := 0) dJ7_fill_d0a16_12 rfl rfl ?_
      refine z_iload_n (i := 3) dJ7_fill_d0a16_13 rfl rfl ?_
      refine z_lload_n (i := 1) dJ7_fill_d0a16_14 rfl rfl ?_
      obtain ⟨hc2, h⟩ := chk h
      refine z_last (j := v3.toNatClampNeg) allR_nd dJ7_fill_d0a16_15 (m11 _ hj1) rfl hc2 rfl ?_
      refine z_iinc (i := 3) (v := (v3 + (1 : Int32))) dJ7_fill_d0a16_16 rfl (iinc_k kc_1) (Nat.le_of_ble_eq_true rfl) rfl ?_
      refine z_goto (tgt := 6) dJ7_fill_d0a16_19 rfl ?_
      exact ih _ _ h hK
set_option maxRecDepth 20000 in
set_option maxHeartbeats 2000000 in
theorem sJ7_fill_d0a16 (M : Mm) (j1 : Nat) (x2 : Int64) (hj1 : j1 < 12) {res : Mm} (h : fJ7_fill_d0a16 M j1 x2 = some res) : TF yJ7_fill_d0a16 cJ7_fill_d0a16 5 none 0 [.inr (11, j1, 0), .inl (.long x2)] M (none) res := by
  rw [fJ7_fill_d0a16] at h
  refine TF.go (n := 2) (ls := [some (.inr (11, j1, 0)), some (.inl (.long x2)), none, none, none]) rfl rfl rfl rfl rfl ?_
  refine z_iconst (v := (0 : Int32)) dJ7_fill_d0a16_0 kc_0 ?_
  refine z_istore_n (i := 3) dJ7_fill_d0a16_1 rfl (Nat.le_of_ble_eq_true rfl) rfl ?_
  refine z_aload_n (i := 0) dJ7_fill_d0a16_2 rfl rfl ?_
  refine z_alen (v := (36 : Int32)) dJ7_fill_d0a16_3 (m11 _ hj1) rfl (Nat.le_of_ble_eq_true rfl) (by decide) ?_
  refine z_istore (i := 4) dJ7_fill_d0a16_4 (Nat.le_of_ble_eq_true rfl) rfl ?_
  refine sJ7_fill_d0a16_L6 j1 x2 (36 : Int32) hj1 NF _ _ h (fun w3 M4 h => ?_)
  cases h
  exact z_vret dJ7_fill_d0a16_22 rfl (Nat.le_refl _) (Nat.le_refl _) ⟨rfl, rfl⟩
theorem dX3_begin_0 : decode cX3_begin 0 = .ok (.aload_n 0, 1) := by decide +kernel
theorem dX3_begin_1 : decode cX3_begin 1 = .ok (.iload_n 1, 1) := by decide +kernel
theorem dX3_begin_2 : decode cX3_begin 2 = .ok (.putfield 15, 3) := by decide +kernel
theorem dX3_begin_5 : decode cX3_begin 5 = .ok (.aload_n 0, 1) := by decide +kernel
theorem dX3_begin_6 : decode cX3_begin 6 = .ok (.iconst 0, 1) := by decide +kernel
theorem dX3_begin_7 : decode cX3_begin 7 = .ok (.putfield 19, 3) := by decide +kernel
theorem dX3_begin_10 : decode cX3_begin 10 = .ok (.aload_n 0, 1) := by decide +kernel
theorem dX3_begin_11 : decode cX3_begin 11 = .ok (.iconst 0, 1) := by decide +kernel
theorem dX3_begin_12 : decode cX3_begin 12 = .ok (.putfield 22, 3) := by decide +kernel
theorem dX3_begin_15 : decode cX3_begin 15 = .ok (.aload_n 0, 1) := by decide +kernel
theorem dX3_begin_16 : decode cX3_begin 16 = .ok (.getfield 9, 3) := by decide +kernel
theorem dX3_begin_19 : decode cX3_begin 19 = .ok (.lconst 0, 1) := by decide +kernel
theorem dX3_begin_20 : decode cX3_begin 20 = .ok (.invokestatic 25, 3) := by decide +kernel
theorem dX3_begin_23 : decode cX3_begin 23 = .ok (.return_, 1) := by decide +kernel
def fX3_begin (M : Mm) (i : Nat) (x1 : Int32) : Option Mm := (fJ7_fill_d0a16 (putI (putI (putI M (10, i, 0) 1 x1) (10, i, 0) 2 (0 : Int32)) (10, i, 0) 3 (0 : Int32)) i (0 : Int64)).bind fun q1 => some q1
set_option maxRecDepth 20000 in
set_option maxHeartbeats 2000000 in
theorem sX3_begin (M : Mm) (i : Nat) (x1 : Int32) (hi : i < 12) {res : Mm} (h : fX3_begin M i x1 = some res) : TF yX3_begin cX3_begin 2 none 1 [.inr (10, i, 0), .inl (.int x1)] M (none) res := by
  rw [fX3_begin] at h
  refine TF.go (n := 0) (ls := [some (.inr (10, i, 0)), some (.inl (.int x1))]) rfl rfl rfl rfl rfl ?_
  refine z_aload_n (i := 0) dX3_begin_0 rfl rfl ?_
  refine z_iload_n (i := 1) dX3_begin_1 rfl rfl ?_
  refine z_putI allR_nd dX3_begin_2 fl_X3_15 (m10 _ hi) rfl rfl ?_
  refine z_aload_n (i := 0) dX3_begin_5 rfl rfl ?_
  refine z_iconst (v := (0 : Int32)) dX3_begin_6 kc_0 ?_
  refine z_putI allR_nd dX3_begin_7 fl_X3_19 (m10 _ hi) rfl rfl ?_
  refine z_aload_n (i := 0) dX3_begin_10 rfl rfl ?_
  refine z_iconst (v := (0 : Int32)) dX3_begin_11 kc_0 ?_
  refine z_putI allR_nd dX3_begin_12 fl_X3_22 (m10 _ hi) rfl rfl ?_
  refine z_aload_n (i := 0) dX3_begin_15 rfl rfl ?_
  refine z_getR (r' := (11, i, 0)) dX3_begin_16 fl_X3_9 (m10 _ hi) rfl rfl ?_
  refine z_lconst (v := (0 : Int64)) dX3_begin_19 (by decide) ?_
  obtain ⟨q1, hq2, h⟩ := bnd h
  refine z_fSv (sJ7_fill_d0a16 (putI (putI (putI M (10, i, 0) 1 x1) (10, i, 0) 2 (0 : Int32)) (10, i, 0) 3 (0 : Int32)) i (0 : Int64) hi hq2) dX3_begin_20 ml_X3_25 cd_J7_fill_d0a16 rfl rfl rfl rfl rfl ?_
  cases h
  exact z_vret dX3_begin_23 rfl (Nat.le_refl _) (Nat.le_refl _) ⟨rfl, rfl⟩
theorem dX0_begin_0 : decode cX0_begin 0 = .ok (.aload_n 0, 1) := by decide +kernel
theorem dX0_begin_1 : decode cX0_begin 1 = .ok (.getfield 12, 3) := by decide +kernel
theorem dX0_begin_4 : decode cX0_begin 4 = .ok (.iload_n 1, 1) := by decide +kernel
theorem dX0_begin_5 : decode cX0_begin 5 = .ok (.invokevirtual 25, 3) := by decide +kernel
theorem dX0_begin_8 : decode cX0_begin 8 = .ok (.aload_n 0, 1) := by decide +kernel
theorem dX0_begin_9 : decode cX0_begin 9 = .ok (.iconst 0, 1) := by decide +kernel
theorem dX0_begin_10 : decode cX0_begin 10 = .ok (.putfield 29, 3) := by decide +kernel
theorem dX0_begin_13 : decode cX0_begin 13 = .ok (.aload_n 0, 1) := by decide +kernel
theorem dX0_begin_14 : decode cX0_begin 14 = .ok (.iload_n 2, 1) := by decide +kernel
theorem dX0_begin_15 : decode cX0_begin 15 = .ok (.putfield 33, 3) := by decide +kernel
theorem dX0_begin_18 : decode cX0_begin 18 = .ok (.aload_n 0, 1) := by decide +kernel
theorem dX0_begin_19 : decode cX0_begin 19 = .ok (.iload_n 3, 1) := by decide +kernel
theorem dX0_begin_20 : decode cX0_begin 20 = .ok (.putfield 36, 3) := by decide +kernel
theorem dX0_begin_23 : decode cX0_begin 23 = .ok (.aload_n 0, 1) := by decide +kernel
theorem dX0_begin_24 : decode cX0_begin 24 = .ok (.iconst 0, 1) := by decide +kernel
theorem dX0_begin_25 : decode cX0_begin 25 = .ok (.putfield 39, 3) := by decide +kernel
theorem dX0_begin_28 : decode cX0_begin 28 = .ok (.aload_n 0, 1) := by decide +kernel
theorem dX0_begin_29 : decode cX0_begin 29 = .ok (.iconst 0, 1) := by decide +kernel
theorem dX0_begin_30 : decode cX0_begin 30 = .ok (.putfield 42, 3) := by decide +kernel
theorem dX0_begin_33 : decode cX0_begin 33 = .ok (.aload_n 0, 1) := by decide +kernel
theorem dX0_begin_34 : decode cX0_begin 34 = .ok (.iconst 0, 1) := by decide +kernel
theorem dX0_begin_35 : decode cX0_begin 35 = .ok (.putfield 45, 3) := by decide +kernel
theorem dX0_begin_38 : decode cX0_begin 38 = .ok (.aload_n 0, 1) := by decide +kernel
theorem dX0_begin_39 : decode cX0_begin 39 = .ok (.iconst 0, 1) := by decide +kernel
theorem dX0_begin_40 : decode cX0_begin 40 = .ok (.putfield 48, 3) := by decide +kernel
theorem dX0_begin_43 : decode cX0_begin 43 = .ok (.aload_n 0, 1) := by decide +kernel
theorem dX0_begin_44 : decode cX0_begin 44 = .ok (.iconst 0, 1) := by decide +kernel
theorem dX0_begin_45 : decode cX0_begin 45 = .ok (.putfield 51, 3) := by decide +kernel
theorem dX0_begin_48 : decode cX0_begin 48 = .ok (.return_, 1) := by decide +kernel
def fX0_begin (M : Mm) (i : Nat) (x1 : Int32) (x2 : Int32) (x3 : Int32) : Option Mm := (fX3_begin M i x1).bind fun q1 => some (putI (putI (putI (putI (putI (putI (putI (putI q1 (9, i, 0) 2 (0 : Int32)) (9, i, 0) 3 x2) (9, i, 0) 4 x3) (9, i, 0) 5 (0 : Int32)) (9, i, 0) 6 (0 : Int32)) (9, i, 0) 7 (0 : Int32)) (9, i, 0) 8 (0 : Int32)) (9, i, 0) 9 (0 : Int32))
set_option maxRecDepth 20000 in
set_option maxHeartbeats 2000000 in
theorem sX0_begin (M : Mm) (i : Nat) (x1 : Int32) (x2 : Int32) (x3 : Int32) (hi : i < 12) {res : Mm} (h : fX0_begin M i x1 x2 x3 = some res) : TF yX0_begin cX0_begin 4 none 2 [.inr (9, i, 0), .inl (.int x1), .inl (.int x2), .inl (.int x3)] M (none) res := by
  rw [fX0_begin] at h
  refine TF.go (n := 0) (ls := [some (.inr (9, i, 0)), some (.inl (.int x1)), some (.inl (.int x2)), some (.inl (.int x3))]) rfl rfl rfl rfl rfl ?_
  refine z_aload_n (i := 0) dX0_begin_0 rfl rfl ?_
  refine z_getR (r' := (10, i, 0)) dX0_begin_1 fl_X0_12 (m9 _ hi) rfl rfl ?_
  refine z_iload_n (i := 1) dX0_begin_4 rfl rfl ?_
  obtain ⟨q1, hq2, h⟩ := bnd h
  refine z_fVv (sX3_begin M i x1 hi hq2) dX0_begin_5 ml_X0_25 cd_X3_begin (m10 _ hi) rfl rfl rfl rfl rfl rfl ?_
  refine z_aload_n (i := 0) dX0_begin_8 rfl rfl ?_
  refine z_iconst (v := (0 : Int32)) dX0_begin_9 kc_0 ?_
  refine z_putI allR_nd dX0_begin_10 fl_X0_29 (m9 _ hi) rfl rfl ?_
  refine z_aload_n (i := 0) dX0_begin_13 rfl rfl ?_
  refine z_iload_n (i := 2) dX0_begin_14 rfl rfl ?_
  refine z_putI allR_nd dX0_begin_15 fl_X0_33 (m9 _ hi) rfl rfl ?_
  refine z_aload_n (i := 0) dX0_begin_18 rfl rfl ?_
  refine z_iload_n (i := 3) dX0_begin_19 rfl rfl ?_
  refine z_putI allR_nd dX0_begin_20 fl_X0_36 (m9 _ hi) rfl rfl ?_
  refine z_aload_n (i := 0) dX0_begin_23 rfl rfl ?_
  refine z_iconst (v := (0 : Int32)) dX0_begin_24 kc_0 ?_
  refine z_putI allR_nd dX0_begin_25 fl_X0_39 (m9 _ hi) rfl rfl ?_
  refine z_aload_n (i := 0) dX0_begin_28 rfl rfl ?_
  refine z_iconst (v := (0 : Int32)) dX0_begin_29 kc_0 ?_
  refine z_putI allR_nd dX0_begin_30 fl_X0_42 (m9 _ hi) rfl rfl ?_
  refine z_aload_n (i := 0) dX0_begin_33 rfl rfl ?_
  refine z_iconst (v := (0 : Int32)) dX0_begin_34 kc_0 ?_
  refine z_putI allR_nd dX0_begin_35 fl_X0_45 (m9 _ hi) rfl rfl ?_
  refine z_aload_n (i := 0) dX0_begin_38 rfl rfl ?_
  refine z_iconst (v := (0 : Int32)) dX0_begin_39 kc_0 ?_
  refine z_putI allR_nd dX0_begin_40 fl_X0_48 (m9 _ hi) rfl rfl ?_
  refine z_aload_n (i := 0) dX0_begin_43 rfl rfl ?_
  refine z_iconst (v := (0 : Int32)) dX0_begin_44 kc_0 ?_
  refine z_putI allR_nd dX0_begin_45 fl_X0_51 (m9 _ hi) rfl rfl ?_
  cases h
  exact z_vret dX0_begin_48 rfl (Nat.le_refl _) (Nat.le_refl _) ⟨rfl, rfl⟩
theorem dX8_renew_0 : decode cX8_renew 0 = .ok (.aload_n 0, 1) := by decide +kernel
theorem dX8_renew_1 : decode cX8_renew 1 = .ok (.iconst 0, 1) := by decide +kernel
theorem dX8_renew_2 : decode cX8_renew 2 = .ok (.putfield 24, 3) := by decide +kernel
theorem dX8_renew_5 : decode cX8_renew 5 = .ok (.aload_n 0, 1) := by decide +kernel
theorem dX8_renew_6 : decode cX8_renew 6 = .ok (.iconst 0, 1) := by decide +kernel
theorem dX8_renew_7 : decode cX8_renew 7 = .ok (.putfield 27, 3) := by decide +kernel
theorem dX8_renew_10 : decode cX8_renew 10 = .ok (.aload_n 0, 1) := by decide +kernel
theorem dX8_renew_11 : decode cX8_renew 11 = .ok (.bipush 99, 2) := by decide +kernel
theorem dX8_renew_13 : decode cX8_renew 13 = .ok (.putfield 30, 3) := by decide +kernel
theorem dX8_renew_16 : decode cX8_renew 16 = .ok (.return_, 1) := by decide +kernel
def fX8_renew (M : Mm) (i : Nat) (t : Nat) : Mm := (putI (putI (putI M (13, i, t) 1 (0 : Int32)) (13, i, t) 4 (0 : Int32)) (13, i, t) 5 (99 : Int32))
set_option maxRecDepth 20000 in
set_option maxHeartbeats 2000000 in
theorem tX8_renew (M : Mm) (i : Nat) (t : Nat) (hi : i < 12) (ht : t < 12) {res : Mm} (h : fX8_renew M i t = res) : TF yX8_renew cX8_renew 1 none 0 [.inr (13, i, t)] M (none) res := by
  rw [fX8_renew] at h
  refine TF.go (n := 0) (ls := [some (.inr (13, i, t))]) rfl rfl rfl rfl rfl ?_
  refine z_aload_n (i := 0) dX8_renew_0 rfl rfl ?_
  refine z_iconst (v := (0 : Int32)) dX8_renew_1 kc_0 ?_
  refine z_putI allR_nd dX8_renew_2 fl_X8_24 (m13 _ hi _ ht) rfl rfl ?_
  refine z_aload_n (i := 0) dX8_renew_5 rfl rfl ?_
  refine z_iconst (v := (0 : Int32)) dX8_renew_6 kc_0 ?_
  refine z_putI allR_nd dX8_renew_7 fl_X8_27 (m13 _ hi _ ht) rfl rfl ?_
  refine z_aload_n (i := 0) dX8_renew_10 rfl rfl ?_
  refine z_bipush (v := (99 : Int32)) dX8_renew_11 kb_99 ?_
  refine z_putI allR_nd dX8_renew_13 fl_X8_30 (m13 _ hi _ ht) rfl rfl ?_
  subst h
  exact z_vret dX8_renew_16 rfl (Nat.le_refl _) (Nat.le_refl _) ⟨rfl, rfl⟩
theorem sX8_renew (M : Mm) (i : Nat) (t : Nat) (hi : i < 12) (ht : t < 12) : TF yX8_renew cX8_renew 1 none 0 [.inr (13, i, t)] M (none) (fX8_renew M i t) := tX8_renew M i t hi ht rfl
theorem dX8_begin_0 : decode cX8_begin 0 = .ok (.aload_n 0, 1) := by decide +kernel
theorem dX8_begin_1 : decode cX8_begin 1 = .ok (.iload_n 1, 1) := by decide +kernel
theorem dX8_begin_2 : decode cX8_begin 2 = .ok (.putfield 9, 3) := by decide +kernel
theorem dX8_begin_5 : decode cX8_begin 5 = .ok (.aload_n 0, 1) := by decide +kernel
theorem dX8_begin_6 : decode cX8_begin 6 = .ok (.iload_n 2, 1) := by decide +kernel
theorem dX8_begin_7 : decode cX8_begin 7 = .ok (.putfield 15, 3) := by decide +kernel
theorem dX8_begin_10 : decode cX8_begin 10 = .ok (.aload_n 0, 1) := by decide +kernel
theorem dX8_begin_11 : decode cX8_begin 11 = .ok (.iload_n 3, 1) := by decide +kernel
theorem dX8_begin_12 : decode cX8_begin 12 = .ok (.putfield 18, 3) := by decide +kernel
theorem dX8_begin_15 : decode cX8_begin 15 = .ok (.aload_n 0, 1) := by decide +kernel
theorem dX8_begin_16 : decode cX8_begin 16 = .ok (.invokevirtual 21, 3) := by decide +kernel
theorem dX8_begin_19 : decode cX8_begin 19 = .ok (.return_, 1) := by decide +kernel
def fX8_begin (M : Mm) (i : Nat) (t : Nat) (x1 : Int32) (x2 : Int32) (x3 : Int32) : Mm := (fX8_renew (putI (putI (putI M (13, i, t) 0 x1) (13, i, t) 2 x2) (13, i, t) 3 x3) i t)
set_option maxRecDepth 20000 in
set_option maxHeartbeats 2000000 in
theorem tX8_begin (M : Mm) (i : Nat) (t : Nat) (x1 : Int32) (x2 : Int32) (x3 : Int32) (hi : i < 12) (ht : t < 12) {res : Mm} (h : fX8_begin M i t x1 x2 x3 = res) : TF yX8_begin cX8_begin 4 none 1 [.inr (13, i, t), .inl (.int x1), .inl (.int x2), .inl (.int x3)] M (none) res := by
  rw [fX8_begin] at h
  refine TF.go (n := 0) (ls := [some (.inr (13, i, t)), some (.inl (.int x1)), some (.inl (.int x2)), some (.inl (.int x3))]) rfl rfl rfl rfl rfl ?_
  refine z_aload_n (i := 0) dX8_begin_0 rfl rfl ?_
  refine z_iload_n (i := 1) dX8_begin_1 rfl rfl ?_
  refine z_putI allR_nd dX8_begin_2 fl_X8_9 (m13 _ hi _ ht) rfl rfl ?_
  refine z_aload_n (i := 0) dX8_begin_5 rfl rfl ?_
  refine z_iload_n (i := 2) dX8_begin_6 rfl rfl ?_
  refine z_putI allR_nd dX8_begin_7 fl_X8_15 (m13 _ hi _ ht) rfl rfl ?_
  refine z_aload_n (i := 0) dX8_begin_10 rfl rfl ?_
  refine z_iload_n (i := 3) dX8_begin_11 rfl rfl ?_
  refine z_putI allR_nd dX8_begin_12 fl_X8_18 (m13 _ hi _ ht) rfl rfl ?_
  refine z_aload_n (i := 0) dX8_begin_15 rfl rfl ?_
  refine z_fVv (sX8_renew (putI (putI (putI M (13, i, t) 0 x1) (13, i, t) 2 x2) (13, i, t) 3 x3) i t hi ht) dX8_begin_16 ml_X8_21 cd_X8_renew (m13 _ hi _ ht) rfl rfl rfl rfl rfl rfl ?_
  subst h
  exact z_vret dX8_begin_19 rfl (Nat.le_refl _) (Nat.le_refl _) ⟨rfl, rfl⟩
theorem sX8_begin (M : Mm) (i : Nat) (t : Nat) (x1 : Int32) (x2 : Int32) (x3 : Int32) (hi : i < 12) (ht : t < 12) : TF yX8_begin cX8_begin 4 none 1 [.inr (13, i, t), .inl (.int x1), .inl (.int x2), .inl (.int x3)] M (none) (fX8_begin M i t x1 x2 x3) := tX8_begin M i t x1 x2 x3 hi ht rfl
theorem dX0_putTooth_0 : decode cX0_putTooth 0 = .ok (.aload_n 0, 1) := by decide +kernel
theorem dX0_putTooth_1 : decode cX0_putTooth 1 = .ok (.getfield 29, 3) := by decide +kernel
theorem dX0_putTooth_4 : decode cX0_putTooth 4 = .ok (.ifCond .lt 37, 3) := by decide +kernel
theorem dX0_putTooth_7 : decode cX0_putTooth 7 = .ok (.aload_n 0, 1) := by decide +kernel
theorem dX0_putTooth_8 : decode cX0_putTooth 8 = .ok (.getfield 29, 3) := by decide +kernel
theorem dX0_putTooth_11 : decode cX0_putTooth 11 = .ok (.bipush 12, 2) := by decide +kernel
theorem dX0_putTooth_13 : decode cX0_putTooth 13 = .ok (.if_icmp .ge 28, 3) := by decide +kernel
theorem dX0_putTooth_16 : decode cX0_putTooth 16 = .ok (.aload_n 0, 1) := by decide +kernel
theorem dX0_putTooth_17 : decode cX0_putTooth 17 = .ok (.getfield 20, 3) := by decide +kernel
theorem dX0_putTooth_20 : decode cX0_putTooth 20 = .ok (.aload_n 0, 1) := by decide +kernel
theorem dX0_putTooth_21 : decode cX0_putTooth 21 = .ok (.getfield 29, 3) := by decide +kernel
theorem dX0_putTooth_24 : decode cX0_putTooth 24 = .ok (.aaload, 1) := by decide +kernel
theorem dX0_putTooth_25 : decode cX0_putTooth 25 = .ok (.iload_n 1, 1) := by decide +kernel
theorem dX0_putTooth_26 : decode cX0_putTooth 26 = .ok (.iload_n 2, 1) := by decide +kernel
theorem dX0_putTooth_27 : decode cX0_putTooth 27 = .ok (.iload_n 3, 1) := by decide +kernel
theorem dX0_putTooth_28 : decode cX0_putTooth 28 = .ok (.invokevirtual 54, 3) := by decide +kernel
theorem dX0_putTooth_31 : decode cX0_putTooth 31 = .ok (.aload_n 0, 1) := by decide +kernel
theorem dX0_putTooth_32 : decode cX0_putTooth 32 = .ok (.dup, 1) := by decide +kernel
theorem dX0_putTooth_33 : decode cX0_putTooth 33 = .ok (.getfield 29, 3) := by decide +kernel
theorem dX0_putTooth_36 : decode cX0_putTooth 36 = .ok (.iconst 1, 1) := by decide +kernel
theorem dX0_putTooth_37 : decode cX0_putTooth 37 = .ok (.iadd, 1) := by decide +kernel
theorem dX0_putTooth_38 : decode cX0_putTooth 38 = .ok (.putfield 29, 3) := by decide +kernel
theorem dX0_putTooth_41 : decode cX0_putTooth 41 = .ok (.return_, 1) := by decide +kernel
def fX0_putTooth (M : Mm) (i : Nat) (x1 : Int32) (x2 : Int32) (x3 : Int32) : Option Mm := if (M.1 (9, i, 0) 2) < 0 then some M else if (12 : Int32) ≤ (M.1 (9, i, 0) 2) then some M else if (M.1 (9, i, 0) 2) < 0 ∨ 12 ≤ (M.1 (9, i, 0) 2).toNatClampNeg then none else some (putI (fX8_begin M i (M.1 (9, i, 0) 2).toNatClampNeg x1 x2 x3) (9, i, 0) 2 (((fX8_begin M i (M.1 (9, i, 0) 2).toNatClampNeg x1 x2 x3).1 (9, i, 0) 2) + (1 : Int32)))
set_option maxRecDepth 20000 in
set_option maxHeartbeats 2000000 in
theorem sX0_putTooth (M : Mm) (i : Nat) (x1 : Int32) (x2 : Int32) (x3 : Int32) (hi : i < 12) {res : Mm} (h : fX0_putTooth M i x1 x2 x3 = some res) : TF yX0_putTooth cX0_putTooth 4 none 2 [.inr (9, i, 0), .inl (.int x1), .inl (.int x2), .inl (.int x3)] M (none) res := by
  rw [fX0_putTooth] at h
  refine TF.go (n := 0) (ls := [some (.inr (9, i, 0)), some (.inl (.int x1)), some (.inl (.int x2)), some (.inl (.int x3))]) rfl rfl rfl rfl rfl ?_
  refine z_aload_n (i := 0) dX0_putTooth_0 rfl rfl ?_
  refine z_getI (x := (M.1 (9, i, 0) 2)) dX0_putTooth_1 fl_X0_29 (m9 _ hi) rfl rfl ?_
  refine z_if_lt (tgt := 41) dX0_putTooth_4 rfl (fun hc1 => ?_) (fun hc1 => ?_)
  · have h := it_t h hc1
    cases h
    exact z_vret dX0_putTooth_41 rfl (Nat.le_refl _) (Nat.le_refl _) ⟨rfl, rfl⟩
  · have h := it_f h hc1
    refine z_aload_n (i := 0) dX0_putTooth_7 rfl rfl ?_
    refine z_getI (x := (M.1 (9, i, 0) 2)) dX0_putTooth_8 fl_X0_29 (m9 _ hi) rfl rfl ?_
    refine z_bipush (v := (12 : Int32)) dX0_putTooth_11 kb_12 ?_
    refine z_icmp_ge (tgt := 41) dX0_putTooth_13 rfl (fun hc2 => ?_) (fun hc2 => ?_)
    · have h := it_t h hc2
      cases h
      exact z_vret dX0_putTooth_41 rfl (Nat.le_refl _) (Nat.le_refl _) ⟨rfl, rfl⟩
    · have h := it_f h hc2
      refine z_aload_n (i := 0) dX0_putTooth_16 rfl rfl ?_
      refine z_getR (r' := (12, i, 0)) dX0_putTooth_17 fl_X0_20 (m9 _ hi) rfl rfl ?_
      refine z_aload_n (i := 0) dX0_putTooth_20 rfl rfl ?_
      refine z_getI (x := (M.1 (9, i, 0) 2)) dX0_putTooth_21 fl_X0_29 (m9 _ hi) rfl rfl ?_
      obtain ⟨hc3, h⟩ := chk h
      refine z_aald (t := 0) (r' := (13, i, (M.1 (9, i, 0) 2).toNatClampNeg)) dX0_putTooth_24 (m12 _ hi) rfl (Nat.le_of_ble_eq_true rfl) hc3 rfl ?_
      refine z_iload_n (i := 1) dX0_putTooth_25 rfl rfl ?_
      refine z_iload_n (i := 2) dX0_putTooth_26 rfl rfl ?_
      refine z_iload_n (i := 3) dX0_putTooth_27 rfl rfl ?_
      refine z_fVv (sX8_begin M i (M.1 (9, i, 0) 2).toNatClampNeg x1 x2 x3 hi (ltN hc3)) dX0_putTooth_28 ml_X0_54 cd_X8_begin (m13 _ hi _ (ltN hc3)) rfl rfl rfl rfl rfl rfl ?_
      refine z_aload_n (i := 0) dX0_putTooth_31 rfl rfl ?_
      refine z_dup dX0_putTooth_32 rfl ?_
      refine z_getI (x := ((fX8_begin M i (M.1 (9, i, 0) 2).toNatClampNeg x1 x2 x3).1 (9, i, 0) 2)) dX0_putTooth_33 fl_X0_29 (m9 _ hi) rfl rfl ?_
      refine z_iconst (v := (1 : Int32)) dX0_putTooth_36 kc_1 ?_
      refine z_iadd dX0_putTooth_37 ?_
      refine z_putI allR_nd dX0_putTooth_38 fl_X0_29 (m9 _ hi) rfl rfl ?_
      cases h
      exact z_vret dX0_putTooth_41 rfl (Nat.le_refl _) (Nat.le_refl _) ⟨rfl, rfl⟩
theorem dX3_copyFrom_0 : decode cX3_copyFrom 0 = .ok (.aload_n 1, 1) := by decide +kernel
theorem dX3_copyFrom_1 : decode cX3_copyFrom 1 = .ok (.getfield 9, 3) := by decide +kernel
theorem dX3_copyFrom_4 : decode cX3_copyFrom 4 = .ok (.iconst 0, 1) := by decide +kernel
theorem dX3_copyFrom_5 : decode cX3_copyFrom 5 = .ok (.aload_n 0, 1) := by decide +kernel
theorem dX3_copyFrom_6 : decode cX3_copyFrom 6 = .ok (.getfield 9, 3) := by decide +kernel
theorem dX3_copyFrom_9 : decode cX3_copyFrom 9 = .ok (.iconst 0, 1) := by decide +kernel
theorem dX3_copyFrom_10 : decode cX3_copyFrom 10 = .ok (.aload_n 0, 1) := by decide +kernel
theorem dX3_copyFrom_11 : decode cX3_copyFrom 11 = .ok (.getfield 9, 3) := by decide +kernel
theorem dX3_copyFrom_14 : decode cX3_copyFrom 14 = .ok (.arraylength, 1) := by decide +kernel
theorem dX3_copyFrom_15 : decode cX3_copyFrom 15 = .ok (.invokestatic 31, 3) := by decide +kernel
theorem dX3_copyFrom_18 : decode cX3_copyFrom 18 = .ok (.aload_n 0, 1) := by decide +kernel
theorem dX3_copyFrom_19 : decode cX3_copyFrom 19 = .ok (.aload_n 1, 1) := by decide +kernel
theorem dX3_copyFrom_20 : decode cX3_copyFrom 20 = .ok (.getfield 15, 3) := by decide +kernel
theorem dX3_copyFrom_23 : decode cX3_copyFrom 23 = .ok (.putfield 15, 3) := by decide +kernel
theorem dX3_copyFrom_26 : decode cX3_copyFrom 26 = .ok (.aload_n 0, 1) := by decide +kernel
theorem dX3_copyFrom_27 : decode cX3_copyFrom 27 = .ok (.aload_n 1, 1) := by decide +kernel
theorem dX3_copyFrom_28 : decode cX3_copyFrom 28 = .ok (.getfield 19, 3) := by decide +kernel
theorem dX3_copyFrom_31 : decode cX3_copyFrom 31 = .ok (.putfield 19, 3) := by decide +kernel
theorem dX3_copyFrom_34 : decode cX3_copyFrom 34 = .ok (.aload_n 0, 1) := by decide +kernel
theorem dX3_copyFrom_35 : decode cX3_copyFrom 35 = .ok (.aload_n 1, 1) := by decide +kernel
theorem dX3_copyFrom_36 : decode cX3_copyFrom 36 = .ok (.getfield 22, 3) := by decide +kernel
theorem dX3_copyFrom_39 : decode cX3_copyFrom 39 = .ok (.putfield 22, 3) := by decide +kernel
theorem dX3_copyFrom_42 : decode cX3_copyFrom 42 = .ok (.return_, 1) := by decide +kernel
def fX3_copyFrom (M : Mm) (i : Nat) (j1 : Nat) : Mm := (putI (putI (putI (M.1, fun r j => if r = (11, i, 0) then va_cpy (M.2 (11, j1, 0)) (M.2 (11, i, 0)) 0 0 36 j else M.2 r j) (10, i, 0) 1 ((M.1, fun r j => if r = (11, i, 0) then va_cpy (M.2 (11, j1, 0)) (M.2 (11, i, 0)) 0 0 36 j else M.2 r j).1 (10, j1, 0) 1)) (10, i, 0) 2 ((M.1, fun r j => if r = (11, i, 0) then va_cpy (M.2 (11, j1, 0)) (M.2 (11, i, 0)) 0 0 36 j else M.2 r j).1 (10, j1, 0) 2)) (10, i, 0) 3 ((M.1, fun r j => if r = (11, i, 0) then va_cpy (M.2 (11, j1, 0)) (M.2 (11, i, 0)) 0 0 36 j else M.2 r j).1 (10, j1, 0) 3))
set_option maxRecDepth 20000 in
set_option maxHeartbeats 2000000 in
theorem tX3_copyFrom (M : Mm) (i : Nat) (j1 : Nat) (hi : i < 12) (hj1 : j1 < 12) {res : Mm} (h : fX3_copyFrom M i j1 = res) : TF yX3_copyFrom cX3_copyFrom 2 none 1 [.inr (10, i, 0), .inr (10, j1, 0)] M (none) res := by
  rw [fX3_copyFrom] at h
  refine TF.go (n := 0) (ls := [some (.inr (10, i, 0)), some (.inr (10, j1, 0))]) rfl rfl rfl rfl rfl ?_
  refine z_aload_n (i := 1) dX3_copyFrom_0 rfl rfl ?_
  refine z_getR (r' := (11, j1, 0)) dX3_copyFrom_1 fl_X3_9 (m10 _ hj1) rfl rfl ?_
  refine z_iconst (v := (0 : Int32)) dX3_copyFrom_4 kc_0 ?_
  refine z_aload_n (i := 0) dX3_copyFrom_5 rfl rfl ?_
  refine z_getR (r' := (11, i, 0)) dX3_copyFrom_6 fl_X3_9 (m10 _ hi) rfl rfl ?_
  refine z_iconst (v := (0 : Int32)) dX3_copyFrom_9 kc_0 ?_
  refine z_aload_n (i := 0) dX3_copyFrom_10 rfl rfl ?_
  refine z_getR (r' := (11, i, 0)) dX3_copyFrom_11 fl_X3_9 (m10 _ hi) rfl rfl ?_
  refine z_alen (v := (36 : Int32)) dX3_copyFrom_14 (m11 _ hi) rfl (Nat.le_of_ble_eq_true rfl) (by decide) ?_
  refine z_acopyl dX3_copyFrom_15 ac_ml ac_nat ac_sta ac_ini (m11 _ hj1) (m11 _ hi) rfl rfl (by decide) (by decide) (by decide) (by decide) (by decide) ⟨Nat.le_of_ble_eq_true rfl, Nat.le_of_ble_eq_true rfl⟩ ?_
  refine z_aload_n (i := 0) dX3_copyFrom_18 rfl rfl ?_
  refine z_aload_n (i := 1) dX3_copyFrom_19 rfl rfl ?_
  refine z_getI (x := ((M.1, fun r j => if r = (11, i, 0) then va_cpy (M.2 (11, j1, 0)) (M.2 (11, i, 0)) 0 0 36 j else M.2 r j).1 (10, j1, 0) 1)) dX3_copyFrom_20 fl_X3_15 (m10 _ hj1) rfl rfl ?_
  refine z_putI allR_nd dX3_copyFrom_23 fl_X3_15 (m10 _ hi) rfl rfl ?_
  refine z_aload_n (i := 0) dX3_copyFrom_26 rfl rfl ?_
  refine z_aload_n (i := 1) dX3_copyFrom_27 rfl rfl ?_
  refine z_getI (x := ((M.1, fun r j => if r = (11, i, 0) then va_cpy (M.2 (11, j1, 0)) (M.2 (11, i, 0)) 0 0 36 j else M.2 r j).1 (10, j1, 0) 2)) dX3_copyFrom_28 fl_X3_19 (m10 _ hj1) rfl rfl ?_
  refine z_putI allR_nd dX3_copyFrom_31 fl_X3_19 (m10 _ hi) rfl rfl ?_
  refine z_aload_n (i := 0) dX3_copyFrom_34 rfl rfl ?_
  refine z_aload_n (i := 1) dX3_copyFrom_35 rfl rfl ?_
  refine z_getI (x := ((M.1, fun r j => if r = (11, i, 0) then va_cpy (M.2 (11, j1, 0)) (M.2 (11, i, 0)) 0 0 36 j else M.2 r j).1 (10, j1, 0) 3)) dX3_copyFrom_36 fl_X3_22 (m10 _ hj1) rfl rfl ?_
  refine z_putI allR_nd dX3_copyFrom_39 fl_X3_22 (m10 _ hi) rfl rfl ?_
  subst h
  exact z_vret dX3_copyFrom_42 rfl (Nat.le_refl _) (Nat.le_refl _) ⟨rfl, rfl⟩
theorem sX3_copyFrom (M : Mm) (i : Nat) (j1 : Nat) (hi : i < 12) (hj1 : j1 < 12) : TF yX3_copyFrom cX3_copyFrom 2 none 1 [.inr (10, i, 0), .inr (10, j1, 0)] M (none) (fX3_copyFrom M i j1) := tX3_copyFrom M i j1 hi hj1 rfl
theorem dX8_copyFrom_0 : decode cX8_copyFrom 0 = .ok (.aload_n 0, 1) := by decide +kernel
theorem dX8_copyFrom_1 : decode cX8_copyFrom 1 = .ok (.aload_n 1, 1) := by decide +kernel
theorem dX8_copyFrom_2 : decode cX8_copyFrom 2 = .ok (.getfield 9, 3) := by decide +kernel
theorem dX8_copyFrom_5 : decode cX8_copyFrom 5 = .ok (.putfield 9, 3) := by decide +kernel
theorem dX8_copyFrom_8 : decode cX8_copyFrom 8 = .ok (.aload_n 0, 1) := by decide +kernel
theorem dX8_copyFrom_9 : decode cX8_copyFrom 9 = .ok (.aload_n 1, 1) := by decide +kernel
theorem dX8_copyFrom_10 : decode cX8_copyFrom 10 = .ok (.getfield 24, 3) := by decide +kernel
theorem dX8_copyFrom_13 : decode cX8_copyFrom 13 = .ok (.putfield 24, 3) := by decide +kernel
theorem dX8_copyFrom_16 : decode cX8_copyFrom 16 = .ok (.aload_n 0, 1) := by decide +kernel
theorem dX8_copyFrom_17 : decode cX8_copyFrom 17 = .ok (.aload_n 1, 1) := by decide +kernel
theorem dX8_copyFrom_18 : decode cX8_copyFrom 18 = .ok (.getfield 15, 3) := by decide +kernel
theorem dX8_copyFrom_21 : decode cX8_copyFrom 21 = .ok (.putfield 15, 3) := by decide +kernel
theorem dX8_copyFrom_24 : decode cX8_copyFrom 24 = .ok (.aload_n 0, 1) := by decide +kernel
theorem dX8_copyFrom_25 : decode cX8_copyFrom 25 = .ok (.aload_n 1, 1) := by decide +kernel
theorem dX8_copyFrom_26 : decode cX8_copyFrom 26 = .ok (.getfield 18, 3) := by decide +kernel
theorem dX8_copyFrom_29 : decode cX8_copyFrom 29 = .ok (.putfield 18, 3) := by decide +kernel
theorem dX8_copyFrom_32 : decode cX8_copyFrom 32 = .ok (.aload_n 0, 1) := by decide +kernel
theorem dX8_copyFrom_33 : decode cX8_copyFrom 33 = .ok (.aload_n 1, 1) := by decide +kernel
theorem dX8_copyFrom_34 : decode cX8_copyFrom 34 = .ok (.getfield 27, 3) := by decide +kernel
theorem dX8_copyFrom_37 : decode cX8_copyFrom 37 = .ok (.putfield 27, 3) := by decide +kernel
theorem dX8_copyFrom_40 : decode cX8_copyFrom 40 = .ok (.aload_n 0, 1) := by decide +kernel
theorem dX8_copyFrom_41 : decode cX8_copyFrom 41 = .ok (.aload_n 1, 1) := by decide +kernel
theorem dX8_copyFrom_42 : decode cX8_copyFrom 42 = .ok (.getfield 30, 3) := by decide +kernel
theorem dX8_copyFrom_45 : decode cX8_copyFrom 45 = .ok (.putfield 30, 3) := by decide +kernel
theorem dX8_copyFrom_48 : decode cX8_copyFrom 48 = .ok (.return_, 1) := by decide +kernel
def fX8_copyFrom (M : Mm) (i : Nat) (t : Nat) (j1 : Nat) (u1 : Nat) : Mm := (putI (putI (putI (putI (putI (putI M (13, i, t) 0 (M.1 (13, j1, u1) 0)) (13, i, t) 1 (M.1 (13, j1, u1) 1)) (13, i, t) 2 (M.1 (13, j1, u1) 2)) (13, i, t) 3 (M.1 (13, j1, u1) 3)) (13, i, t) 4 (M.1 (13, j1, u1) 4)) (13, i, t) 5 (M.1 (13, j1, u1) 5))
set_option maxRecDepth 20000 in
set_option maxHeartbeats 2000000 in
theorem tX8_copyFrom (M : Mm) (i : Nat) (t : Nat) (j1 : Nat) (u1 : Nat) (hi : i < 12) (ht : t < 12) (hj1 : j1 < 12) (hu1 : u1 < 12) {res : Mm} (h : fX8_copyFrom M i t j1 u1 = res) : TF yX8_copyFrom cX8_copyFrom 2 none 0 [.inr (13, i, t), .inr (13, j1, u1)] M (none) res := by
  rw [fX8_copyFrom] at h
  refine TF.go (n := 0) (ls := [some (.inr (13, i, t)), some (.inr (13, j1, u1))]) rfl rfl rfl rfl rfl ?_
  refine z_aload_n (i := 0) dX8_copyFrom_0 rfl rfl ?_
  refine z_aload_n (i := 1) dX8_copyFrom_1 rfl rfl ?_
  refine z_getI (x := (M.1 (13, j1, u1) 0)) dX8_copyFrom_2 fl_X8_9 (m13 _ hj1 _ hu1) rfl rfl ?_
  refine z_putI allR_nd dX8_copyFrom_5 fl_X8_9 (m13 _ hi _ ht) rfl rfl ?_
  refine z_aload_n (i := 0) dX8_copyFrom_8 rfl rfl ?_
  refine z_aload_n (i := 1) dX8_copyFrom_9 rfl rfl ?_
  refine z_getI (x := (M.1 (13, j1, u1) 1)) dX8_copyFrom_10 fl_X8_24 (m13 _ hj1 _ hu1) rfl rfl ?_
  refine z_putI allR_nd dX8_copyFrom_13 fl_X8_24 (m13 _ hi _ ht) rfl rfl ?_
  refine z_aload_n (i := 0) dX8_copyFrom_16 rfl rfl ?_
  refine z_aload_n (i := 1) dX8_copyFrom_17 rfl rfl ?_
  refine z_getI (x := (M.1 (13, j1, u1) 2)) dX8_copyFrom_18 fl_X8_15 (m13 _ hj1 _ hu1) rfl rfl ?_
  refine z_putI allR_nd dX8_copyFrom_21 fl_X8_15 (m13 _ hi _ ht) rfl rfl ?_
  refine z_aload_n (i := 0) dX8_copyFrom_24 rfl rfl ?_
  refine z_aload_n (i := 1) dX8_copyFrom_25 rfl rfl ?_
  refine z_getI (x := (M.1 (13, j1, u1) 3)) dX8_copyFrom_26 fl_X8_18 (m13 _ hj1 _ hu1) rfl rfl ?_
  refine z_putI allR_nd dX8_copyFrom_29 fl_X8_18 (m13 _ hi _ ht) rfl rfl ?_
  refine z_aload_n (i := 0) dX8_copyFrom_32 rfl rfl ?_
  refine z_aload_n (i := 1) dX8_copyFrom_33 rfl rfl ?_
  refine z_getI (x := (M.1 (13, j1, u1) 4)) dX8_copyFrom_34 fl_X8_27 (m13 _ hj1 _ hu1) rfl rfl ?_
  refine z_putI allR_nd dX8_copyFrom_37 fl_X8_27 (m13 _ hi _ ht) rfl rfl ?_
  refine z_aload_n (i := 0) dX8_copyFrom_40 rfl rfl ?_
  refine z_aload_n (i := 1) dX8_copyFrom_41 rfl rfl ?_
  refine z_getI (x := (M.1 (13, j1, u1) 5)) dX8_copyFrom_42 fl_X8_30 (m13 _ hj1 _ hu1) rfl rfl ?_
  refine z_putI allR_nd dX8_copyFrom_45 fl_X8_30 (m13 _ hi _ ht) rfl rfl ?_
  subst h
  exact z_vret dX8_copyFrom_48 rfl (Nat.le_refl _) (Nat.le_refl _) ⟨rfl, rfl⟩
theorem sX8_copyFrom (M : Mm) (i : Nat) (t : Nat) (j1 : Nat) (u1 : Nat) (hi : i < 12) (ht : t < 12) (hj1 : j1 < 12) (hu1 : u1 < 12) : TF yX8_copyFrom cX8_copyFrom 2 none 0 [.inr (13, i, t), .inr (13, j1, u1)] M (none) (fX8_copyFrom M i t j1 u1) := tX8_copyFrom M i t j1 u1 hi ht hj1 hu1 rfl
theorem dX0_copyFrom_0 : decode cX0_copyFrom 0 = .ok (.aload_n 0, 1) := by decide +kernel
theorem dX0_copyFrom_1 : decode cX0_copyFrom 1 = .ok (.getfield 12, 3) := by decide +kernel
theorem dX0_copyFrom_4 : decode cX0_copyFrom 4 = .ok (.aload_n 1, 1) := by decide +kernel
theorem dX0_copyFrom_5 : decode cX0_copyFrom 5 = .ok (.getfield 12, 3) := by decide +kernel
theorem dX0_copyFrom_8 : decode cX0_copyFrom 8 = .ok (.invokevirtual 57, 3) := by decide +kernel
theorem dX0_copyFrom_11 : decode cX0_copyFrom 11 = .ok (.iconst 0, 1) := by decide +kernel
theorem dX0_copyFrom_12 : decode cX0_copyFrom 12 = .ok (.istore_n 2, 1) := by decide +kernel
theorem dX0_copyFrom_13 : decode cX0_copyFrom 13 = .ok (.iload_n 2, 1) := by decide +kernel
theorem dX0_copyFrom_14 : decode cX0_copyFrom 14 = .ok (.bipush 12, 2) := by decide +kernel
theorem dX0_copyFrom_16 : decode cX0_copyFrom 16 = .ok (.if_icmp .ge 24, 3) := by decide +kernel
theorem dX0_copyFrom_19 : decode cX0_copyFrom 19 = .ok (.aload_n 0, 1) := by decide +kernel
theorem dX0_copyFrom_20 : decode cX0_copyFrom 20 = .ok (.getfield 20, 3) := by decide +kernel
theorem dX0_copyFrom_23 : decode cX0_copyFrom 23 = .ok (.iload_n 2, 1) := by decide +kernel
theorem dX0_copyFrom_24 : decode cX0_copyFrom 24 = .ok (.aaload, 1) := by decide +kernel
theorem dX0_copyFrom_25 : decode cX0_copyFrom 25 = .ok (.aload_n 1, 1) := by decide +kernel
theorem dX0_copyFrom_26 : decode cX0_copyFrom 26 = .ok (.getfield 20, 3) := by decide +kernel
theorem dX0_copyFrom_29 : decode cX0_copyFrom 29 = .ok (.iload_n 2, 1) := by decide +kernel
theorem dX0_copyFrom_30 : decode cX0_copyFrom 30 = .ok (.aaload, 1) := by decide +kernel
theorem dX0_copyFrom_31 : decode cX0_copyFrom 31 = .ok (.invokevirtual 61, 3) := by decide +kernel
theorem dX0_copyFrom_34 : decode cX0_copyFrom 34 = .ok (.iinc 2 1, 3) := by decide +kernel
theorem dX0_copyFrom_37 : decode cX0_copyFrom 37 = .ok (.goto (-24), 3) := by decide +kernel
theorem dX0_copyFrom_40 : decode cX0_copyFrom 40 = .ok (.aload_n 0, 1) := by decide +kernel
theorem dX0_copyFrom_41 : decode cX0_copyFrom 41 = .ok (.aload_n 1, 1) := by decide +kernel
theorem dX0_copyFrom_42 : decode cX0_copyFrom 42 = .ok (.getfield 29, 3) := by decide +kernel
theorem dX0_copyFrom_45 : decode cX0_copyFrom 45 = .ok (.putfield 29, 3) := by decide +kernel
theorem dX0_copyFrom_48 : decode cX0_copyFrom 48 = .ok (.aload_n 0, 1) := by decide +kernel
theorem dX0_copyFrom_49 : decode cX0_copyFrom 49 = .ok (.aload_n 1, 1) := by decide +kernel
theorem dX0_copyFrom_50 : decode cX0_copyFrom 50 = .ok (.getfield 33, 3) := by decide +kernel
theorem dX0_copyFrom_53 : decode cX0_copyFrom 53 = .ok (.putfield 33, 3) := by decide +kernel
theorem dX0_copyFrom_56 : decode cX0_copyFrom 56 = .ok (.aload_n 0, 1) := by decide +kernel
theorem dX0_copyFrom_57 : decode cX0_copyFrom 57 = .ok (.aload_n 1, 1) := by decide +kernel
theorem dX0_copyFrom_58 : decode cX0_copyFrom 58 = .ok (.getfield 36, 3) := by decide +kernel
theorem dX0_copyFrom_61 : decode cX0_copyFrom 61 = .ok (.putfield 36, 3) := by decide +kernel
theorem dX0_copyFrom_64 : decode cX0_copyFrom 64 = .ok (.aload_n 0, 1) := by decide +kernel
theorem dX0_copyFrom_65 : decode cX0_copyFrom 65 = .ok (.aload_n 1, 1) := by decide +kernel
theorem dX0_copyFrom_66 : decode cX0_copyFrom 66 = .ok (.getfield 39, 3) := by decide +kernel
theorem dX0_copyFrom_69 : decode cX0_copyFrom 69 = .ok (.putfield 39, 3) := by decide +kernel
theorem dX0_copyFrom_72 : decode cX0_copyFrom 72 = .ok (.aload_n 0, 1) := by decide +kernel
theorem dX0_copyFrom_73 : decode cX0_copyFrom 73 = .ok (.aload_n 1, 1) := by decide +kernel
theorem dX0_copyFrom_74 : decode cX0_copyFrom 74 = .ok (.getfield 42, 3) := by decide +kernel
theorem dX0_copyFrom_77 : decode cX0_copyFrom 77 = .ok (.putfield 42, 3) := by decide +kernel
theorem dX0_copyFrom_80 : decode cX0_copyFrom 80 = .ok (.aload_n 0, 1) := by decide +kernel
theorem dX0_copyFrom_81 : decode cX0_copyFrom 81 = .ok (.aload_n 1, 1) := by decide +kernel
theorem dX0_copyFrom_82 : decode cX0_copyFrom 82 = .ok (.getfield 45, 3) := by decide +kernel
theorem dX0_copyFrom_85 : decode cX0_copyFrom 85 = .ok (.putfield 45, 3) := by decide +kernel
theorem dX0_copyFrom_88 : decode cX0_copyFrom 88 = .ok (.aload_n 0, 1) := by decide +kernel
theorem dX0_copyFrom_89 : decode cX0_copyFrom 89 = .ok (.aload_n 1, 1) := by decide +kernel
theorem dX0_copyFrom_90 : decode cX0_copyFrom 90 = .ok (.getfield 48, 3) := by decide +kernel
theorem dX0_copyFrom_93 : decode cX0_copyFrom 93 = .ok (.putfield 48, 3) := by decide +kernel
theorem dX0_copyFrom_96 : decode cX0_copyFrom 96 = .ok (.aload_n 0, 1) := by decide +kernel
theorem dX0_copyFrom_97 : decode cX0_copyFrom 97 = .ok (.aload_n 1, 1) := by decide +kernel
theorem dX0_copyFrom_98 : decode cX0_copyFrom 98 = .ok (.getfield 51, 3) := by decide +kernel
theorem dX0_copyFrom_101 : decode cX0_copyFrom 101 = .ok (.putfield 51, 3) := by decide +kernel
theorem dX0_copyFrom_104 : decode cX0_copyFrom 104 = .ok (.return_, 1) := by decide +kernel
def fX0_copyFrom_L13 (i : Nat) (j1 : Nat) (K : Int32 → Mm → Option Mm) : Nat → Int32 → Mm → Option Mm
  | 0, _, _ => none
  | n + 1, v2, M => if (12 : Int32) ≤ v2 then K v2 M else if v2 < 0 ∨ 12 ≤ v2.toNatClampNeg then none else if v2 < 0 ∨ 12 ≤ v2.toNatClampNeg then none else fX0_copyFrom_L13 i j1 K n (v2 + (1 : Int32)) (fX8_copyFrom M i v2.toNatClampNeg j1 v2.toNatClampNeg)
def fX0_copyFrom (M : Mm) (i : Nat) (j1 : Nat) : Option Mm := fX0_copyFrom_L13 i j1 (fun w4 M5 => some (putI (putI (putI (putI (putI (putI (putI (putI M5 (9, i, 0) 2 (M5.1 (9, j1, 0) 2)) (9, i, 0) 3 (M5.1 (9, j1, 0) 3)) (9, i, 0) 4 (M5.1 (9, j1, 0) 4)) (9, i, 0) 5 (M5.1 (9, j1, 0) 5)) (9, i, 0) 6 (M5.1 (9, j1, 0) 6)) (9, i, 0) 7 (M5.1 (9, j1, 0) 7)) (9, i, 0) 8 (M5.1 (9, j1, 0) 8)) (9, i, 0) 9 (M5.1 (9, j1, 0) 9))) NF (0 : Int32) (fX3_copyFrom M i j1)
set_option maxRecDepth 20000 in
set_option maxHeartbeats 2000000 in
theorem sX0_copyFrom_L13 (i : Nat) (j1 : Nat) (hi : i < 12) (hj1 : j1 < 12) {res : Mm} {K : Int32 → Mm → Option Mm} : ∀ (n : Nat) (v2 : Int32) (M : Mm), fX0_copyFrom_L13 i j1 K n v2 M = some res →
    (∀ (v2 : Int32) (M : Mm), K v2 M = some res → Z RX0 cX0_copyFrom 3 none [] "copyFrom" (rmD 2 0 0) (QM SH allR 0 0 (fun v M9 => v = none ∧ M9 = res) (fun _ _ => False)) allR SH 0 0 40 [some (.inr (9, i, 0)), some (.inr (9, j1, 0)), some (.inl (.int v2))] [] M) → Z RX0 cX0_copyFrom 3 none [] "copyFrom" (rmD 2 0 0) (QM SH allR 0 0 (fun v M9 => v = none ∧ M9 = res) (fun _ _ => False)) allR SH 0 0 13 [some (.inr (9, i, 0)), some (.inr (9, j1, 0)), some (.inl (.int v2))] [] M := by
  intro n
  induction n with
  | zero => intro v2 M h; cases h
  | succ n ih =>
    intro v2 M h hK
    rw [fX0_copyFrom_L13] at h
    refine z_iload_n (i := 2) dX0_copyFrom_13 rfl rfl ?_
    refine z_bipush (v := (12 : Int32)) dX0_copyFrom_14 kb_12 ?_
    refine z_icmp_ge (tgt := 40) dX0_copyFrom_16 rfl (fun hc1 => ?_) (fun hc1 => ?_)
    · have h := it_t h hc1
      exact hK _ _ h
    · have h := it_f h hc1
      refine z_aload_n (i := 0) dX0_copyFrom_19 rfl rfl ?_
      refine z_getR (r' := (12, i, 0)) dX0_copyFrom_20 fl_X0_20 (m9 _ hi) rfl rfl ?_
      refine z_iload_n (i := 2) dX0_copyFrom_23 rfl rfl ?_
      obtain ⟨hc2, h⟩ := chk h
      refine z_aald (t := 0) (r' := (13, i, v2.toNatClampNeg)) dX0_copyFrom_24 (m12 _ hi) rfl (Nat.le_of_ble_eq_true rfl) hc2 rfl ?_
      refine z_aload_n (i := 1) dX0_copyFrom_25 rfl rfl ?_
      refine z_getR (r' := (12, j1, 0)) dX0_copyFrom_26 fl_X0_20 (m9 _ hj1) rfl rfl ?_
      refine z_iload_n (i := 2) dX0_copyFrom_29 rfl rfl ?_
      obtain ⟨hc3, h⟩ := chk h
      refine z_aald (t := 0) (r' := (13, j1, v2.toNatClampNeg)) dX0_copyFrom_30 (m12 _ hj1) rfl (Nat.le_of_ble_eq_true rfl) hc3 rfl ?_
      refine z_fVv (sX8_copyFrom M i v2.toNatClampNeg j1 v2.toNatClampNeg hi (ltN hc2) hj1 (ltN hc3)) dX0_copyFrom_31 ml_X0_61 cd_X8_copyFrom (m13 _ hi _ (ltN hc2)) rfl rfl rfl rfl rfl rfl ?_
      refine z_iinc (i := 2) (v := (v2 + (1 : Int32))) dX0_copyFrom_34 rfl (iinc_k kc_1) (Nat.le_of_ble_eq_true rfl) rfl ?_
      refine z_goto (tgt := 13) dX0_copyFrom_37 rfl ?_
      exact ih _ _ h hK
set_option maxRecDepth 20000 in
set_option maxHeartbeats 2000000 in
theorem sX0_copyFrom (M : Mm) (i : Nat) (j1 : Nat) (hi : i < 12) (hj1 : j1 < 12) {res : Mm} (h : fX0_copyFrom M i j1 = some res) : TF yX0_copyFrom cX0_copyFrom 3 none 2 [.inr (9, i, 0), .inr (9, j1, 0)] M (none) res := by
  rw [fX0_copyFrom] at h
  refine TF.go (n := 1) (ls := [some (.inr (9, i, 0)), some (.inr (9, j1, 0)), none]) rfl rfl rfl rfl rfl ?_
  refine z_aload_n (i := 0) dX0_copyFrom_0 rfl rfl ?_
  refine z_getR (r' := (10, i, 0)) dX0_copyFrom_1 fl_X0_12 (m9 _ hi) rfl rfl ?_
  refine z_aload_n (i := 1) dX0_copyFrom_4 rfl rfl ?_
  refine z_getR (r' := (10, j1, 0)) dX0_copyFrom_5 fl_X0_12 (m9 _ hj1) rfl rfl ?_
  refine z_fVv (sX3_copyFrom M i j1 hi hj1) dX0_copyFrom_8 ml_X0_57 cd_X3_copyFrom (m10 _ hi) rfl rfl rfl rfl rfl rfl ?_
  refine z_iconst (v := (0 : Int32)) dX0_copyFrom_11 kc_0 ?_
  refine z_istore_n (i := 2) dX0_copyFrom_12 rfl (Nat.le_of_ble_eq_true rfl) rfl ?_
  refine sX0_copyFrom_L13 i j1 hi hj1 NF _ _ h (fun w4 M5 h => ?_)
  refine z_aload_n (i := 0) dX0_copyFrom_40 rfl rfl ?_
  refine z_aload_n (i := 1) dX0_copyFrom_41 rfl rfl ?_
  refine z_getI (x := (M5.1 (9, j1, 0) 2)) dX0_copyFrom_42 fl_X0_29 (m9 _ hj1) rfl rfl ?_
  refine z_putI allR_nd dX0_copyFrom_45 fl_X0_29 (m9 _ hi) rfl rfl ?_
  refine z_aload_n (i := 0) dX0_copyFrom_48 rfl rfl ?_
  refine z_aload_n (i := 1) dX0_copyFrom_49 rfl rfl ?_
  refine z_getI (x := (M5.1 (9, j1, 0) 3)) dX0_copyFrom_50 fl_X0_33 (m9 _ hj1) rfl rfl ?_
  refine z_putI allR_nd dX0_copyFrom_53 fl_X0_33 (m9 _ hi) rfl rfl ?_
  refine z_aload_n (i := 0) dX0_copyFrom_56 rfl rfl ?_
  refine z_aload_n (i := 1) dX0_copyFrom_57 rfl rfl ?_
  refine z_getI (x := (M5.1 (9, j1, 0) 4)) dX0_copyFrom_58 fl_X0_36 (m9 _ hj1) rfl rfl ?_
  refine z_putI allR_nd dX0_copyFrom_61 fl_X0_36 (m9 _ hi) rfl rfl ?_
  refine z_aload_n (i := 0) dX0_copyFrom_64 rfl rfl ?_
  refine z_aload_n (i := 1) dX0_copyFrom_65 rfl rfl ?_
  refine z_getI (x := (M5.1 (9, j1, 0) 5)) dX0_copyFrom_66 fl_X0_39 (m9 _ hj1) rfl rfl ?_
  refine z_putI allR_nd dX0_copyFrom_69 fl_X0_39 (m9 _ hi) rfl rfl ?_
  refine z_aload_n (i := 0) dX0_copyFrom_72 rfl rfl ?_
  refine z_aload_n (i := 1) dX0_copyFrom_73 rfl rfl ?_
  refine z_getI (x := (M5.1 (9, j1, 0) 6)) dX0_copyFrom_74 fl_X0_42 (m9 _ hj1) rfl rfl ?_
  refine z_putI allR_nd dX0_copyFrom_77 fl_X0_42 (m9 _ hi) rfl rfl ?_
  refine z_aload_n (i := 0) dX0_copyFrom_80 rfl rfl ?_
  refine z_aload_n (i := 1) dX0_copyFrom_81 rfl rfl ?_
  refine z_getI (x := (M5.1 (9, j1, 0) 7)) dX0_copyFrom_82 fl_X0_45 (m9 _ hj1) rfl rfl ?_
  refine z_putI allR_nd dX0_copyFrom_85 fl_X0_45 (m9 _ hi) rfl rfl ?_
  refine z_aload_n (i := 0) dX0_copyFrom_88 rfl rfl ?_
  refine z_aload_n (i := 1) dX0_copyFrom_89 rfl rfl ?_
  refine z_getI (x := (M5.1 (9, j1, 0) 8)) dX0_copyFrom_90 fl_X0_48 (m9 _ hj1) rfl rfl ?_
  refine z_putI allR_nd dX0_copyFrom_93 fl_X0_48 (m9 _ hi) rfl rfl ?_
  refine z_aload_n (i := 0) dX0_copyFrom_96 rfl rfl ?_
  refine z_aload_n (i := 1) dX0_copyFrom_97 rfl rfl ?_
  refine z_getI (x := (M5.1 (9, j1, 0) 9)) dX0_copyFrom_98 fl_X0_51 (m9 _ hj1) rfl rfl ?_
  refine z_putI allR_nd dX0_copyFrom_101 fl_X0_51 (m9 _ hi) rfl rfl ?_
  cases h
  exact z_vret dX0_copyFrom_104 rfl (Nat.le_refl _) (Nat.le_refl _) ⟨rfl, rfl⟩
theorem dX0_tuneFault_0 : decode cX0_tuneFault 0 = .ok (.iload_n 1, 1) := by decide +kernel
theorem dX0_tuneFault_1 : decode cX0_tuneFault 1 = .ok (.ifCond .lt 8, 3) := by decide +kernel
theorem dX0_tuneFault_4 : decode cX0_tuneFault 4 = .ok (.iload_n 1, 1) := by decide +kernel
theorem dX0_tuneFault_5 : decode cX0_tuneFault 5 = .ok (.iconst 3, 1) := by decide +kernel
theorem dX0_tuneFault_6 : decode cX0_tuneFault 6 = .ok (.if_icmp .lt 7, 3) := by decide +kernel
theorem dX0_tuneFault_9 : decode cX0_tuneFault 9 = .ok (.iconst 1, 1) := by decide +kernel
theorem dX0_tuneFault_10 : decode cX0_tuneFault 10 = .ok (.goto 4, 3) := by decide +kernel
theorem dX0_tuneFault_13 : decode cX0_tuneFault 13 = .ok (.iconst 0, 1) := by decide +kernel
theorem dX0_tuneFault_14 : decode cX0_tuneFault 14 = .ok (.ireturn, 1) := by decide +kernel
def fX0_tuneFault (M : Mm) (i : Nat) (x1 : Int32) : Int32 := if x1 < 0 then (1 : Int32) else if x1 < (3 : Int32) then (0 : Int32) else (1 : Int32)
set_option maxRecDepth 20000 in
set_option maxHeartbeats 2000000 in
theorem tX0_tuneFault (M : Mm) (i : Nat) (x1 : Int32) (hi : i < 12) {res : Int32} (h : fX0_tuneFault M i x1 = res) : TF yX0_tuneFault cX0_tuneFault 2 (some .int) 0 [.inr (9, i, 0), .inl (.int x1)] M (some (.int res)) M := by
  rw [fX0_tuneFault] at h
  refine TF.go (n := 0) (ls := [some (.inr (9, i, 0)), some (.inl (.int x1))]) rfl rfl rfl rfl rfl ?_
  refine z_iload_n (i := 1) dX0_tuneFault_0 rfl rfl ?_
  refine z_if_lt (tgt := 9) dX0_tuneFault_1 rfl (fun hc1 => ?_) (fun hc1 => ?_)
  · have h := it_t h hc1
    refine z_iconst (v := (1 : Int32)) dX0_tuneFault_9 kc_1 ?_
    refine z_goto (tgt := 14) dX0_tuneFault_10 rfl ?_
    subst h
    exact z_iret dX0_tuneFault_14 rfl rfl (Nat.le_refl _) (Nat.le_refl _) ⟨rfl, rfl⟩
  · have h := it_f h hc1
    refine z_iload_n (i := 1) dX0_tuneFault_4 rfl rfl ?_
    refine z_iconst (v := (3 : Int32)) dX0_tuneFault_5 kc_3 ?_
    refine z_icmp_lt (tgt := 13) dX0_tuneFault_6 rfl (fun hc2 => ?_) (fun hc2 => ?_)
    · have h := it_t h hc2
      refine z_iconst (v := (0 : Int32)) dX0_tuneFault_13 kc_0 ?_
      subst h
      exact z_iret dX0_tuneFault_14 rfl rfl (Nat.le_refl _) (Nat.le_refl _) ⟨rfl, rfl⟩
    · have h := it_f h hc2
      refine z_iconst (v := (1 : Int32)) dX0_tuneFault_9 kc_1 ?_
      refine z_goto (tgt := 14) dX0_tuneFault_10 rfl ?_
      subst h
      exact z_iret dX0_tuneFault_14 rfl rfl (Nat.le_refl _) (Nat.le_refl _) ⟨rfl, rfl⟩
theorem sX0_tuneFault (M : Mm) (i : Nat) (x1 : Int32) (hi : i < 12) : TF yX0_tuneFault cX0_tuneFault 2 (some .int) 0 [.inr (9, i, 0), .inl (.int x1)] M (some (.int (fX0_tuneFault M i x1))) M := tX0_tuneFault M i x1 hi rfl
theorem dX0_toothFault_0 : decode cX0_toothFault 0 = .ok (.iload_n 1, 1) := by decide +kernel
theorem dX0_toothFault_1 : decode cX0_toothFault 1 = .ok (.ifCond .lt 11, 3) := by decide +kernel
theorem dX0_toothFault_4 : decode cX0_toothFault 4 = .ok (.iload_n 1, 1) := by decide +kernel
theorem dX0_toothFault_5 : decode cX0_toothFault 5 = .ok (.aload_n 0, 1) := by decide +kernel
theorem dX0_toothFault_6 : decode cX0_toothFault 6 = .ok (.getfield 29, 3) := by decide +kernel
theorem dX0_toothFault_9 : decode cX0_toothFault 9 = .ok (.if_icmp .lt 7, 3) := by decide +kernel
theorem dX0_toothFault_12 : decode cX0_toothFault 12 = .ok (.iconst 1, 1) := by decide +kernel
theorem dX0_toothFault_13 : decode cX0_toothFault 13 = .ok (.goto 4, 3) := by decide +kernel
theorem dX0_toothFault_16 : decode cX0_toothFault 16 = .ok (.iconst 0, 1) := by decide +kernel
theorem dX0_toothFault_17 : decode cX0_toothFault 17 = .ok (.ireturn, 1) := by decide +kernel
def fX0_toothFault (M : Mm) (i : Nat) (x1 : Int32) : Int32 := if x1 < 0 then (1 : Int32) else if x1 < (M.1 (9, i, 0) 2) then (0 : Int32) else (1 : Int32)
set_option maxRecDepth 20000 in
set_option maxHeartbeats 2000000 in
theorem tX0_toothFault (M : Mm) (i : Nat) (x1 : Int32) (hi : i < 12) {res : Int32} (h : fX0_toothFault M i x1 = res) : TF yX0_toothFault cX0_toothFault 2 (some .int) 0 [.inr (9, i, 0), .inl (.int x1)] M (some (.int res)) M := by
  rw [fX0_toothFault] at h
  refine TF.go (n := 0) (ls := [some (.inr (9, i, 0)), some (.inl (.int x1))]) rfl rfl rfl rfl rfl ?_
  refine z_iload_n (i := 1) dX0_toothFault_0 rfl rfl ?_
  refine z_if_lt (tgt := 12) dX0_toothFault_1 rfl (fun hc1 => ?_) (fun hc1 => ?_)
  · have h := it_t h hc1
    refine z_iconst (v := (1 : Int32)) dX0_toothFault_12 kc_1 ?_
    refine z_goto (tgt := 17) dX0_toothFault_13 rfl ?_
    subst h
    exact z_iret dX0_toothFault_17 rfl rfl (Nat.le_refl _) (Nat.le_refl _) ⟨rfl, rfl⟩
  · have h := it_f h hc1
    refine z_iload_n (i := 1) dX0_toothFault_4 rfl rfl ?_
    refine z_aload_n (i := 0) dX0_toothFault_5 rfl rfl ?_
    refine z_getI (x := (M.1 (9, i, 0) 2)) dX0_toothFault_6 fl_X0_29 (m9 _ hi) rfl rfl ?_
    refine z_icmp_lt (tgt := 16) dX0_toothFault_9 rfl (fun hc2 => ?_) (fun hc2 => ?_)
    · have h := it_t h hc2
      refine z_iconst (v := (0 : Int32)) dX0_toothFault_16 kc_0 ?_
      subst h
      exact z_iret dX0_toothFault_17 rfl rfl (Nat.le_refl _) (Nat.le_refl _) ⟨rfl, rfl⟩
    · have h := it_f h hc2
      refine z_iconst (v := (1 : Int32)) dX0_toothFault_12 kc_1 ?_
      refine z_goto (tgt := 17) dX0_toothFault_13 rfl ?_
      subst h
      exact z_iret dX0_toothFault_17 rfl rfl (Nat.le_refl _) (Nat.le_refl _) ⟨rfl, rfl⟩
theorem sX0_toothFault (M : Mm) (i : Nat) (x1 : Int32) (hi : i < 12) : TF yX0_toothFault cX0_toothFault 2 (some .int) 0 [.inr (9, i, 0), .inl (.int x1)] M (some (.int (fX0_toothFault M i x1))) M := tX0_toothFault M i x1 hi rfl
theorem dX0_stepFault_0 : decode cX0_stepFault 0 = .ok (.iload_n 1, 1) := by decide +kernel
theorem dX0_stepFault_1 : decode cX0_stepFault 1 = .ok (.ifCond .lt 14, 3) := by decide +kernel
theorem dX0_stepFault_4 : decode cX0_stepFault 4 = .ok (.iload_n 1, 1) := by decide +kernel
theorem dX0_stepFault_5 : decode cX0_stepFault 5 = .ok (.aload_n 0, 1) := by decide +kernel
theorem dX0_stepFault_6 : decode cX0_stepFault 6 = .ok (.getfield 12, 3) := by decide +kernel
theorem dX0_stepFault_9 : decode cX0_stepFault 9 = .ok (.getfield 64, 3) := by decide +kernel
theorem dX0_stepFault_12 : decode cX0_stepFault 12 = .ok (.if_icmp .lt 7, 3) := by decide +kernel
theorem dX0_stepFault_15 : decode cX0_stepFault 15 = .ok (.iconst 1, 1) := by decide +kernel
theorem dX0_stepFault_16 : decode cX0_stepFault 16 = .ok (.goto 4, 3) := by decide +kernel
theorem dX0_stepFault_19 : decode cX0_stepFault 19 = .ok (.iconst 0, 1) := by decide +kernel
theorem dX0_stepFault_20 : decode cX0_stepFault 20 = .ok (.ireturn, 1) := by decide +kernel
def fX0_stepFault (M : Mm) (i : Nat) (x1 : Int32) : Int32 := if x1 < 0 then (1 : Int32) else if x1 < (M.1 (10, i, 0) 1) then (0 : Int32) else (1 : Int32)
set_option maxRecDepth 20000 in
set_option maxHeartbeats 2000000 in
theorem tX0_stepFault (M : Mm) (i : Nat) (x1 : Int32) (hi : i < 12) {res : Int32} (h : fX0_stepFault M i x1 = res) : TF yX0_stepFault cX0_stepFault 2 (some .int) 0 [.inr (9, i, 0), .inl (.int x1)] M (some (.int res)) M := by
  rw [fX0_stepFault] at h
  refine TF.go (n := 0) (ls := [some (.inr (9, i, 0)), some (.inl (.int x1))]) rfl rfl rfl rfl rfl ?_
  refine z_iload_n (i := 1) dX0_stepFault_0 rfl rfl ?_
  refine z_if_lt (tgt := 15) dX0_stepFault_1 rfl (fun hc1 => ?_) (fun hc1 => ?_)
  · have h := it_t h hc1
    refine z_iconst (v := (1 : Int32)) dX0_stepFault_15 kc_1 ?_
    refine z_goto (tgt := 20) dX0_stepFault_16 rfl ?_
    subst h
    exact z_iret dX0_stepFault_20 rfl rfl (Nat.le_refl _) (Nat.le_refl _) ⟨rfl, rfl⟩
  · have h := it_f h hc1
    refine z_iload_n (i := 1) dX0_stepFault_4 rfl rfl ?_
    refine z_aload_n (i := 0) dX0_stepFault_5 rfl rfl ?_
    refine z_getR (r' := (10, i, 0)) dX0_stepFault_6 fl_X0_12 (m9 _ hi) rfl rfl ?_
    refine z_getI (x := (M.1 (10, i, 0) 1)) dX0_stepFault_9 fl_X0_64 (m10 _ hi) rfl rfl ?_
    refine z_icmp_lt (tgt := 19) dX0_stepFault_12 rfl (fun hc2 => ?_) (fun hc2 => ?_)
    · have h := it_t h hc2
      refine z_iconst (v := (0 : Int32)) dX0_stepFault_19 kc_0 ?_
      subst h
      exact z_iret dX0_stepFault_20 rfl rfl (Nat.le_refl _) (Nat.le_refl _) ⟨rfl, rfl⟩
    · have h := it_f h hc2
      refine z_iconst (v := (1 : Int32)) dX0_stepFault_15 kc_1 ?_
      refine z_goto (tgt := 20) dX0_stepFault_16 rfl ?_
      subst h
      exact z_iret dX0_stepFault_20 rfl rfl (Nat.le_refl _) (Nat.le_refl _) ⟨rfl, rfl⟩
theorem sX0_stepFault (M : Mm) (i : Nat) (x1 : Int32) (hi : i < 12) : TF yX0_stepFault cX0_stepFault 2 (some .int) 0 [.inr (9, i, 0), .inl (.int x1)] M (some (.int (fX0_stepFault M i x1))) M := tX0_stepFault M i x1 hi rfl
theorem dJ9_max_7cf53_0 : decode cJ9_max_7cf53 0 = .ok (.iload_n 0, 1) := by decide +kernel
theorem dJ9_max_7cf53_1 : decode cJ9_max_7cf53 1 = .ok (.iload_n 1, 1) := by decide +kernel
theorem dJ9_max_7cf53_2 : decode cJ9_max_7cf53 2 = .ok (.if_icmp .lt 7, 3) := by decide +kernel
theorem dJ9_max_7cf53_5 : decode cJ9_max_7cf53 5 = .ok (.iload_n 0, 1) := by decide +kernel
theorem dJ9_max_7cf53_6 : decode cJ9_max_7cf53 6 = .ok (.goto 4, 3) := by decide +kernel
theorem dJ9_max_7cf53_9 : decode cJ9_max_7cf53 9 = .ok (.iload_n 1, 1) := by decide +kernel
theorem dJ9_max_7cf53_10 : decode cJ9_max_7cf53 10 = .ok (.ireturn, 1) := by decide +kernel
def fJ9_max_7cf53 (M : Mm) (x1 : Int32) (x2 : Int32) : Int32 := if x1 < x2 then x2 else x1
set_option maxRecDepth 20000 in
set_option maxHeartbeats 2000000 in
theorem tJ9_max_7cf53 (M : Mm) (x1 : Int32) (x2 : Int32) {res : Int32} (h : fJ9_max_7cf53 M x1 x2 = res) : TF yJ9_max_7cf53 cJ9_max_7cf53 2 (some .int) 0 [.inl (.int x1), .inl (.int x2)] M (some (.int res)) M := by
  rw [fJ9_max_7cf53] at h
  refine TF.go (n := 0) (ls := [some (.inl (.int x1)), some (.inl (.int x2))]) (by decide +kernel) rfl rfl rfl rfl ?_
  refine z_iload_n (i := 0) dJ9_max_7cf53_0 rfl rfl ?_
  refine z_iload_n (i := 1) dJ9_max_7cf53_1 rfl rfl ?_
  refine z_icmp_lt (tgt := 9) dJ9_max_7cf53_2 rfl (fun hc1 => ?_) (fun hc1 => ?_)
  · have h := it_t h hc1
    refine z_iload_n (i := 1) dJ9_max_7cf53_9 rfl rfl ?_
    subst h
    exact z_iret dJ9_max_7cf53_10 rfl rfl (Nat.le_refl _) (Nat.le_refl _) ⟨rfl, rfl⟩
  · have h := it_f h hc1
    refine z_iload_n (i := 0) dJ9_max_7cf53_5 rfl rfl ?_
    refine z_goto (tgt := 10) dJ9_max_7cf53_6 rfl ?_
    subst h
    exact z_iret dJ9_max_7cf53_10 rfl rfl (Nat.le_refl _) (Nat.le_refl _) ⟨rfl, rfl⟩
theorem sJ9_max_7cf53 (M : Mm) (x1 : Int32) (x2 : Int32) : TF yJ9_max_7cf53 cJ9_max_7cf53 2 (some .int) 0 [.inl (.int x1), .inl (.int x2)] M (some (.int (fJ9_max_7cf53 M x1 x2))) M := tJ9_max_7cf53 M x1 x2  rfl
theorem dX0_placeFault_0 : decode cX0_placeFault 0 = .ok (.aload_n 0, 1) := by decide +kernel
theorem dX0_placeFault_1 : decode cX0_placeFault 1 = .ok (.iload_n 1, 1) := by decide +kernel
theorem dX0_placeFault_2 : decode cX0_placeFault 2 = .ok (.invokevirtual 67, 3) := by decide +kernel
theorem dX0_placeFault_5 : decode cX0_placeFault 5 = .ok (.aload_n 0, 1) := by decide +kernel
theorem dX0_placeFault_6 : decode cX0_placeFault 6 = .ok (.iload_n 2, 1) := by decide +kernel
theorem dX0_placeFault_7 : decode cX0_placeFault 7 = .ok (.invokevirtual 71, 3) := by decide +kernel
theorem dX0_placeFault_10 : decode cX0_placeFault 10 = .ok (.aload_n 0, 1) := by decide +kernel
theorem dX0_placeFault_11 : decode cX0_placeFault 11 = .ok (.iload_n 3, 1) := by decide +kernel
theorem dX0_placeFault_12 : decode cX0_placeFault 12 = .ok (.invokevirtual 74, 3) := by decide +kernel
theorem dX0_placeFault_15 : decode cX0_placeFault 15 = .ok (.invokestatic 77, 3) := by decide +kernel
theorem dX0_placeFault_18 : decode cX0_placeFault 18 = .ok (.invokestatic 77, 3) := by decide +kernel
theorem dX0_placeFault_21 : decode cX0_placeFault 21 = .ok (.ireturn, 1) := by decide +kernel
def fX0_placeFault (M : Mm) (i : Nat) (x1 : Int32) (x2 : Int32) (x3 : Int32) : Int32 := (fJ9_max_7cf53 M (fX0_tuneFault M i x1) (fJ9_max_7cf53 M (fX0_toothFault M i x2) (fX0_stepFault M i x3)))
set_option maxRecDepth 20000 in
set_option maxHeartbeats 2000000 in
theorem tX0_placeFault (M : Mm) (i : Nat) (x1 : Int32) (x2 : Int32) (x3 : Int32) (hi : i < 12) {res : Int32} (h : fX0_placeFault M i x1 x2 x3 = res) : TF yX0_placeFault cX0_placeFault 4 (some .int) 1 [.inr (9, i, 0), .inl (.int x1), .inl (.int x2), .inl (.int x3)] M (some (.int res)) M := by
  rw [fX0_placeFault] at h
  refine TF.go (n := 0) (ls := [some (.inr (9, i, 0)), some (.inl (.int x1)), some (.inl (.int x2)), some (.inl (.int x3))]) rfl rfl rfl rfl rfl ?_
  refine z_aload_n (i := 0) dX0_placeFault_0 rfl rfl ?_
  refine z_iload_n (i := 1) dX0_placeFault_1 rfl rfl ?_
  refine z_fVi (sX0_tuneFault M i x1 hi) dX0_placeFault_2 ml_X0_67 cd_X0_tuneFault (m9 _ hi) rfl rfl rfl rfl rfl rfl ?_
  refine z_aload_n (i := 0) dX0_placeFault_5 rfl rfl ?_
  refine z_iload_n (i := 2) dX0_placeFault_6 rfl rfl ?_
  refine z_fVi (sX0_toothFault M i x2 hi) dX0_placeFault_7 ml_X0_71 cd_X0_toothFault (m9 _ hi) rfl rfl rfl rfl rfl rfl ?_
  refine z_aload_n (i := 0) dX0_placeFault_10 rfl rfl ?_
  refine z_iload_n (i := 3) dX0_placeFault_11 rfl rfl ?_
  refine z_fVi (sX0_stepFault M i x3 hi) dX0_placeFault_12 ml_X0_74 cd_X0_stepFault (m9 _ hi) rfl rfl rfl rfl rfl rfl ?_
  refine z_fSi (sJ9_max_7cf53 M (fX0_toothFault M i x2) (fX0_stepFault M i x3)) dX0_placeFault_15 ml_X0_77 cd_J9_max_7cf53 rfl rfl rfl rfl rfl ?_
  refine z_fSi (sJ9_max_7cf53 M (fX0_tuneFault M i x1) (fJ9_max_7cf53 M (fX0_toothFault M i x2) (fX0_stepFault M i x3))) dX0_placeFault_18 ml_X0_77 cd_J9_max_7cf53 rfl rfl rfl rfl rfl ?_
  subst h
  exact z_iret dX0_placeFault_21 rfl rfl (Nat.le_refl _) (Nat.le_refl _) ⟨rfl, rfl⟩
theorem sX0_placeFault (M : Mm) (i : Nat) (x1 : Int32) (x2 : Int32) (x3 : Int32) (hi : i < 12) : TF yX0_placeFault cX0_placeFault 4 (some .int) 1 [.inr (9, i, 0), .inl (.int x1), .inl (.int x2), .inl (.int x3)] M (some (.int (fX0_placeFault M i x1 x2 x3))) M := tX0_placeFault M i x1 x2 x3 hi rfl
end
section
theorem dX3_hasPin_0 : decode cX3_hasPin 0 = .ok (.iload_n 1, 1) := by decide +kernel
theorem dX3_hasPin_1 : decode cX3_hasPin 1 = .ok (.ifCond .lt 42, 3) := by decide +kernel
theorem dX3_hasPin_4 : decode cX3_hasPin 4 = .ok (.iload_n 1, 1) := by decide +kernel
theorem dX3_hasPin_5 : decode cX3_hasPin 5 = .ok (.iconst 3, 1) := by decide +kernel
theorem dX3_hasPin_6 : decode cX3_hasPin 6 = .ok (.if_icmp .ge 37, 3) := by decide +kernel
theorem dX3_hasPin_9 : decode cX3_hasPin 9 = .ok (.iload_n 2, 1) := by decide +kernel
theorem dX3_hasPin_10 : decode cX3_hasPin 10 = .ok (.ifCond .lt 33, 3) := by decide +kernel
theorem dX3_hasPin_13 : decode cX3_hasPin 13 = .ok (.iload_n 2, 1) := by decide +kernel
theorem dX3_hasPin_14 : decode cX3_hasPin 14 = .ok (.bipush 12, 2) := by decide +kernel
theorem dX3_hasPin_16 : decode cX3_hasPin 16 = .ok (.if_icmp .ge 27, 3) := by decide +kernel
theorem dX3_hasPin_19 : decode cX3_hasPin 19 = .ok (.aload_n 0, 1) := by decide +kernel
theorem dX3_hasPin_20 : decode cX3_hasPin 20 = .ok (.getfield 9, 3) := by decide +kernel
theorem dX3_hasPin_23 : decode cX3_hasPin 23 = .ok (.iload_n 1, 1) := by decide +kernel
theorem dX3_hasPin_24 : decode cX3_hasPin 24 = .ok (.bipush 12, 2) := by decide +kernel
theorem dX3_hasPin_26 : decode cX3_hasPin 26 = .ok (.imul, 1) := by decide +kernel
theorem dX3_hasPin_27 : decode cX3_hasPin 27 = .ok (.iload_n 2, 1) := by decide +kernel
theorem dX3_hasPin_28 : decode cX3_hasPin 28 = .ok (.iadd, 1) := by decide +kernel
theorem dX3_hasPin_29 : decode cX3_hasPin 29 = .ok (.laload, 1) := by decide +kernel
theorem dX3_hasPin_30 : decode cX3_hasPin 30 = .ok (.iload_n 3, 1) := by decide +kernel
theorem dX3_hasPin_31 : decode cX3_hasPin 31 = .ok (.lushr, 1) := by decide +kernel
theorem dX3_hasPin_32 : decode cX3_hasPin 32 = .ok (.lconst 1, 1) := by decide +kernel
theorem dX3_hasPin_33 : decode cX3_hasPin 33 = .ok (.land, 1) := by decide +kernel
theorem dX3_hasPin_34 : decode cX3_hasPin 34 = .ok (.lconst 0, 1) := by decide +kernel
theorem dX3_hasPin_35 : decode cX3_hasPin 35 = .ok (.lcmp, 1) := by decide +kernel
theorem dX3_hasPin_36 : decode cX3_hasPin 36 = .ok (.ifCond .eq 7, 3) := by decide +kernel
theorem dX3_hasPin_39 : decode cX3_hasPin 39 = .ok (.iconst 1, 1) := by decide +kernel
theorem dX3_hasPin_40 : decode cX3_hasPin 40 = .ok (.goto 4, 3) := by decide +kernel
theorem dX3_hasPin_43 : decode cX3_hasPin 43 = .ok (.iconst 0, 1) := by decide +kernel
theorem dX3_hasPin_44 : decode cX3_hasPin 44 = .ok (.ireturn, 1) := by decide +kernel
def fX3_hasPin (M : Mm) (i : Nat) (x1 : Int32) (x2 : Int32) (x3 : Int32) : Option Int32 := if x1 < 0 then some (0 : Int32) else if (3 : Int32) ≤ x1 then some (0 : Int32) else if x2 < 0 then some (0 : Int32) else if (12 : Int32) ≤ x2 then some (0 : Int32) else if ((x1 * (12 : Int32)) + x2) < 0 ∨ 36 ≤ ((x1 * (12 : Int32)) + x2).toNatClampNeg then none else if (lg_cmp ((((M.2 (11, i, 0) ((x1 * (12 : Int32)) + x2).toNatClampNeg).toUInt64 >>> (x3.toInt64.toUInt64 &&& Int64.toUInt64 63)).toInt64) &&& (1 : Int64)) (0 : Int64)) = 0 then some (0 : Int32) else some (1 : Int32)
set_option maxRecDepth 20000 in
set_option maxHeartbeats 2000000 in
theorem sX3_hasPin (M : Mm) (i : Nat) (x1 : Int32) (x2 : Int32) (x3 : Int32) (hi : i < 12) {res : Int32} (h : fX3_hasPin M i x1 x2 x3 = some res) : TF yX3_hasPin cX3_hasPin 4 (some .boolean) 0 [.inr (10, i, 0), .inl (.int x1), .inl (.int x2), .inl (.int x3)] M (some (.int res)) M := by
  rw [fX3_hasPin] at h
  refine TF.go (n := 0) (ls := [some (.inr (10, i, 0)), some (.inl (.int x1)), some (.inl (.int x2)), some (.inl (.int x3))]) rfl rfl rfl rfl rfl ?_
  refine z_iload_n (i := 1) dX3_hasPin_0 rfl rfl ?_
  refine z_if_lt (tgt := 43) dX3_hasPin_1 rfl (fun hc1 => ?_) (fun hc1 => ?_)
  · have h := it_t h hc1
    refine z_iconst (v := (0 : Int32)) dX3_hasPin_43 kc_0 ?_
    cases h
    exact z_iret dX3_hasPin_44 rfl rfl (Nat.le_refl _) (Nat.le_refl _) ⟨rfl, rfl⟩
  · have h := it_f h hc1
    refine z_iload_n (i := 1) dX3_hasPin_4 rfl rfl ?_
    refine z_iconst (v := (3 : Int32)) dX3_hasPin_5 kc_3 ?_
    refine z_icmp_ge (tgt := 43) dX3_hasPin_6 rfl (fun hc2 => ?_) (fun hc2 => ?_)
    · have h := it_t h hc2
      refine z_iconst (v := (0 : Int32)) dX3_hasPin_43 kc_0 ?_
      cases h
      exact z_iret dX3_hasPin_44 rfl rfl (Nat.le_refl _) (Nat.le_refl _) ⟨rfl, rfl⟩
    · have h := it_f h hc2
      refine z_iload_n (i := 2) dX3_hasPin_9 rfl rfl ?_
      refine z_if_lt (tgt := 43) dX3_hasPin_10 rfl (fun hc3 => ?_) (fun hc3 => ?_)
      · have h := it_t h hc3
        refine z_iconst (v := (0 : Int32)) dX3_hasPin_43 kc_0 ?_
        cases h
        exact z_iret dX3_hasPin_44 rfl rfl (Nat.le_refl _) (Nat.le_refl _) ⟨rfl, rfl⟩
      · have h := it_f h hc3
        refine z_iload_n (i := 2) dX3_hasPin_13 rfl rfl ?_
        refine z_bipush (v := (12 : Int32)) dX3_hasPin_14 kb_12 ?_
        refine z_icmp_ge (tgt := 43) dX3_hasPin_16 rfl (fun hc4 => ?_) (fun hc4 => ?_)
        · have h := it_t h hc4
          refine z_iconst (v := (0 : Int32)) dX3_hasPin_43 kc_0 ?_
          cases h
          exact z_iret dX3_hasPin_44 rfl rfl (Nat.le_refl _) (Nat.le_refl _) ⟨rfl, rfl⟩
        · have h := it_f h hc4
          refine z_aload_n (i := 0) dX3_hasPin_19 rfl rfl ?_
          refine z_getR (r' := (11, i, 0)) dX3_hasPin_20 fl_X3_9 (m10 _ hi) rfl rfl ?_
          refine z_iload_n (i := 1) dX3_hasPin_23 rfl rfl ?_
          refine z_bipush (v := (12 : Int32)) dX3_hasPin_24 kb_12 ?_
          refine z_imul dX3_hasPin_26 ?_
          refine z_iload_n (i := 2) dX3_hasPin_27 rfl rfl ?_
          refine z_iadd dX3_hasPin_28 ?_
          obtain ⟨hc5, h⟩ := chk h
          refine z_lald (x := (M.2 (11, i, 0) ((x1 * (12 : Int32)) + x2).toNatClampNeg)) dX3_hasPin_29 (m11 _ hi) rfl hc5 rfl ?_
          refine z_iload_n (i := 3) dX3_hasPin_30 rfl rfl ?_
          refine z_lushr dX3_hasPin_31 ?_
          refine z_lconst (v := (1 : Int64)) dX3_hasPin_32 (by decide) ?_
          refine z_land dX3_hasPin_33 ?_
          refine z_lconst (v := (0 : Int64)) dX3_hasPin_34 (by decide) ?_
          refine z_lcmp dX3_hasPin_35 ?_
          refine z_if_eq (tgt := 43) dX3_hasPin_36 rfl (fun hc6 => ?_) (fun hc6 => ?_)
          · have h := it_t h hc6
            refine z_iconst (v := (0 : Int32)) dX3_hasPin_43 kc_0 ?_
            cases h
            exact z_iret dX3_hasPin_44 rfl rfl (Nat.le_refl _) (Nat.le_refl _) ⟨rfl, rfl⟩
          · have h := it_f h hc6
            refine z_iconst (v := (1 : Int32)) dX3_hasPin_39 kc_1 ?_
            refine z_goto (tgt := 44) dX3_hasPin_40 rfl ?_
            cases h
            exact z_iret dX3_hasPin_44 rfl rfl (Nat.le_refl _) (Nat.le_refl _) ⟨rfl, rfl⟩
theorem dX0_putPinFault_0 : decode cX0_putPinFault 0 = .ok (.aload_n 0, 1) := by decide +kernel
theorem dX0_putPinFault_1 : decode cX0_putPinFault 1 = .ok (.iload_n 1, 1) := by decide +kernel
theorem dX0_putPinFault_2 : decode cX0_putPinFault 2 = .ok (.iload_n 2, 1) := by decide +kernel
theorem dX0_putPinFault_3 : decode cX0_putPinFault 3 = .ok (.iload_n 3, 1) := by decide +kernel
theorem dX0_putPinFault_4 : decode cX0_putPinFault 4 = .ok (.invokevirtual 83, 3) := by decide +kernel
theorem dX0_putPinFault_7 : decode cX0_putPinFault 7 = .ok (.ifCond .eq 5, 3) := by decide +kernel
theorem dX0_putPinFault_10 : decode cX0_putPinFault 10 = .ok (.iconst 1, 1) := by decide +kernel
theorem dX0_putPinFault_11 : decode cX0_putPinFault 11 = .ok (.ireturn, 1) := by decide +kernel
theorem dX0_putPinFault_12 : decode cX0_putPinFault 12 = .ok (.aload_n 0, 1) := by decide +kernel
theorem dX0_putPinFault_13 : decode cX0_putPinFault 13 = .ok (.getfield 12, 3) := by decide +kernel
theorem dX0_putPinFault_16 : decode cX0_putPinFault 16 = .ok (.iload_n 1, 1) := by decide +kernel
theorem dX0_putPinFault_17 : decode cX0_putPinFault 17 = .ok (.iload_n 2, 1) := by decide +kernel
theorem dX0_putPinFault_18 : decode cX0_putPinFault 18 = .ok (.iload_n 3, 1) := by decide +kernel
theorem dX0_putPinFault_19 : decode cX0_putPinFault 19 = .ok (.invokevirtual 87, 3) := by decide +kernel
theorem dX0_putPinFault_22 : decode cX0_putPinFault 22 = .ok (.ifCond .eq 7, 3) := by decide +kernel
theorem dX0_putPinFault_25 : decode cX0_putPinFault 25 = .ok (.iconst 3, 1) := by decide +kernel
theorem dX0_putPinFault_26 : decode cX0_putPinFault 26 = .ok (.goto 4, 3) := by decide +kernel
theorem dX0_putPinFault_29 : decode cX0_putPinFault 29 = .ok (.iconst 0, 1) := by decide +kernel
theorem dX0_putPinFault_30 : decode cX0_putPinFault 30 = .ok (.ireturn, 1) := by decide +kernel
def fX0_putPinFault (M : Mm) (i : Nat) (x1 : Int32) (x2 : Int32) (x3 : Int32) : Option Int32 := if (fX0_placeFault M i x1 x2 x3) = 0 then ((fX3_hasPin M i x1 x2 x3).bind fun q2 => if q2 = 0 then some (0 : Int32) else some (3 : Int32)) else some (1 : Int32)
set_option maxRecDepth 20000 in
set_option maxHeartbeats 2000000 in
theorem sX0_putPinFault (M : Mm) (i : Nat) (x1 : Int32) (x2 : Int32) (x3 : Int32) (hi : i < 12) {res : Int32} (h : fX0_putPinFault M i x1 x2 x3 = some res) : TF yX0_putPinFault cX0_putPinFault 4 (some .int) 2 [.inr (9, i, 0), .inl (.int x1), .inl (.int x2), .inl (.int x3)] M (some (.int res)) M := by
  rw [fX0_putPinFault] at h
  refine TF.go (n := 0) (ls := [some (.inr (9, i, 0)), some (.inl (.int x1)), some (.inl (.int x2)), some (.inl (.int x3))]) rfl rfl rfl rfl rfl ?_
  refine z_aload_n (i := 0) dX0_putPinFault_0 rfl rfl ?_
  refine z_iload_n (i := 1) dX0_putPinFault_1 rfl rfl ?_
  refine z_iload_n (i := 2) dX0_putPinFault_2 rfl rfl ?_
  refine z_iload_n (i := 3) dX0_putPinFault_3 rfl rfl ?_
  refine z_fVi (sX0_placeFault M i x1 x2 x3 hi) dX0_putPinFault_4 ml_X0_83 cd_X0_placeFault (m9 _ hi) rfl rfl rfl rfl rfl rfl ?_
  refine z_if_eq (tgt := 12) dX0_putPinFault_7 rfl (fun hc1 => ?_) (fun hc1 => ?_)
  · have h := it_t h hc1
    refine z_aload_n (i := 0) dX0_putPinFault_12 rfl rfl ?_
    refine z_getR (r' := (10, i, 0)) dX0_putPinFault_13 fl_X0_12 (m9 _ hi) rfl rfl ?_
    refine z_iload_n (i := 1) dX0_putPinFault_16 rfl rfl ?_
    refine z_iload_n (i := 2) dX0_putPinFault_17 rfl rfl ?_
    refine z_iload_n (i := 3) dX0_putPinFault_18 rfl rfl ?_
    obtain ⟨q2, hq3, h⟩ := bnd h
    refine z_fVi (sX3_hasPin M i x1 x2 x3 hi hq3) dX0_putPinFault_19 ml_X0_87 cd_X3_hasPin (m10 _ hi) rfl rfl rfl rfl rfl rfl ?_
    refine z_if_eq (tgt := 29) dX0_putPinFault_22 rfl (fun hc4 => ?_) (fun hc4 => ?_)
    · have h := it_t h hc4
      refine z_iconst (v := (0 : Int32)) dX0_putPinFault_29 kc_0 ?_
      cases h
      exact z_iret dX0_putPinFault_30 rfl rfl (Nat.le_refl _) (Nat.le_refl _) ⟨rfl, rfl⟩
    · have h := it_f h hc4
      refine z_iconst (v := (3 : Int32)) dX0_putPinFault_25 kc_3 ?_
      refine z_goto (tgt := 30) dX0_putPinFault_26 rfl ?_
      cases h
      exact z_iret dX0_putPinFault_30 rfl rfl (Nat.le_refl _) (Nat.le_refl _) ⟨rfl, rfl⟩
  · have h := it_f h hc1
    refine z_iconst (v := (1 : Int32)) dX0_putPinFault_10 kc_1 ?_
    cases h
    exact z_iret dX0_putPinFault_11 rfl rfl (Nat.le_refl _) (Nat.le_refl _) ⟨rfl, rfl⟩
theorem dX0_takePinFault_0 : decode cX0_takePinFault 0 = .ok (.aload_n 0, 1) := by decide +kernel
theorem dX0_takePinFault_1 : decode cX0_takePinFault 1 = .ok (.iload_n 1, 1) := by decide +kernel
theorem dX0_takePinFault_2 : decode cX0_takePinFault 2 = .ok (.iload_n 2, 1) := by decide +kernel
theorem dX0_takePinFault_3 : decode cX0_takePinFault 3 = .ok (.iload_n 3, 1) := by decide +kernel
theorem dX0_takePinFault_4 : decode cX0_takePinFault 4 = .ok (.invokevirtual 83, 3) := by decide +kernel
theorem dX0_takePinFault_7 : decode cX0_takePinFault 7 = .ok (.ifCond .eq 5, 3) := by decide +kernel
theorem dX0_takePinFault_10 : decode cX0_takePinFault 10 = .ok (.iconst 1, 1) := by decide +kernel
theorem dX0_takePinFault_11 : decode cX0_takePinFault 11 = .ok (.ireturn, 1) := by decide +kernel
theorem dX0_takePinFault_12 : decode cX0_takePinFault 12 = .ok (.aload_n 0, 1) := by decide +kernel
theorem dX0_takePinFault_13 : decode cX0_takePinFault 13 = .ok (.getfield 12, 3) := by decide +kernel
theorem dX0_takePinFault_16 : decode cX0_takePinFault 16 = .ok (.iload_n 1, 1) := by decide +kernel
theorem dX0_takePinFault_17 : decode cX0_takePinFault 17 = .ok (.iload_n 2, 1) := by decide +kernel
theorem dX0_takePinFault_18 : decode cX0_takePinFault 18 = .ok (.iload_n 3, 1) := by decide +kernel
theorem dX0_takePinFault_19 : decode cX0_takePinFault 19 = .ok (.invokevirtual 87, 3) := by decide +kernel
theorem dX0_takePinFault_22 : decode cX0_takePinFault 22 = .ok (.ifCond .eq 7, 3) := by decide +kernel
theorem dX0_takePinFault_25 : decode cX0_takePinFault 25 = .ok (.iconst 0, 1) := by decide +kernel
theorem dX0_takePinFault_26 : decode cX0_takePinFault 26 = .ok (.goto 4, 3) := by decide +kernel
theorem dX0_takePinFault_29 : decode cX0_takePinFault 29 = .ok (.iconst 3, 1) := by decide +kernel
theorem dX0_takePinFault_30 : decode cX0_takePinFault 30 = .ok (.ireturn, 1) := by decide +kernel
def fX0_takePinFault (M : Mm) (i : Nat) (x1 : Int32) (x2 : Int32) (x3 : Int32) : Option Int32 := if (fX0_placeFault M i x1 x2 x3) = 0 then ((fX3_hasPin M i x1 x2 x3).bind fun q2 => if q2 = 0 then some (3 : Int32) else some (0 : Int32)) else some (1 : Int32)
set_option maxRecDepth 20000 in
set_option maxHeartbeats 2000000 in
theorem sX0_takePinFault (M : Mm) (i : Nat) (x1 : Int32) (x2 : Int32) (x3 : Int32) (hi : i < 12) {res : Int32} (h : fX0_takePinFault M i x1 x2 x3 = some res) : TF yX0_takePinFault cX0_takePinFault 4 (some .int) 2 [.inr (9, i, 0), .inl (.int x1), .inl (.int x2), .inl (.int x3)] M (some (.int res)) M := by
  rw [fX0_takePinFault] at h
  refine TF.go (n := 0) (ls := [some (.inr (9, i, 0)), some (.inl (.int x1)), some (.inl (.int x2)), some (.inl (.int x3))]) rfl rfl rfl rfl rfl ?_
  refine z_aload_n (i := 0) dX0_takePinFault_0 rfl rfl ?_
  refine z_iload_n (i := 1) dX0_takePinFault_1 rfl rfl ?_
  refine z_iload_n (i := 2) dX0_takePinFault_2 rfl rfl ?_
  refine z_iload_n (i := 3) dX0_takePinFault_3 rfl rfl ?_
  refine z_fVi (sX0_placeFault M i x1 x2 x3 hi) dX0_takePinFault_4 ml_X0_83 cd_X0_placeFault (m9 _ hi) rfl rfl rfl rfl rfl rfl ?_
  refine z_if_eq (tgt := 12) dX0_takePinFault_7 rfl (fun hc1 => ?_) (fun hc1 => ?_)
  · have h := it_t h hc1
    refine z_aload_n (i := 0) dX0_takePinFault_12 rfl rfl ?_
    refine z_getR (r' := (10, i, 0)) dX0_takePinFault_13 fl_X0_12 (m9 _ hi) rfl rfl ?_
    refine z_iload_n (i := 1) dX0_takePinFault_16 rfl rfl ?_
    refine z_iload_n (i := 2) dX0_takePinFault_17 rfl rfl ?_
    refine z_iload_n (i := 3) dX0_takePinFault_18 rfl rfl ?_
    obtain ⟨q2, hq3, h⟩ := bnd h
    refine z_fVi (sX3_hasPin M i x1 x2 x3 hi hq3) dX0_takePinFault_19 ml_X0_87 cd_X3_hasPin (m10 _ hi) rfl rfl rfl rfl rfl rfl ?_
    refine z_if_eq (tgt := 29) dX0_takePinFault_22 rfl (fun hc4 => ?_) (fun hc4 => ?_)
    · have h := it_t h hc4
      refine z_iconst (v := (3 : Int32)) dX0_takePinFault_29 kc_3 ?_
      cases h
      exact z_iret dX0_takePinFault_30 rfl rfl (Nat.le_refl _) (Nat.le_refl _) ⟨rfl, rfl⟩
    · have h := it_f h hc4
      refine z_iconst (v := (0 : Int32)) dX0_takePinFault_25 kc_0 ?_
      refine z_goto (tgt := 30) dX0_takePinFault_26 rfl ?_
      cases h
      exact z_iret dX0_takePinFault_30 rfl rfl (Nat.le_refl _) (Nat.le_refl _) ⟨rfl, rfl⟩
  · have h := it_f h hc1
    refine z_iconst (v := (1 : Int32)) dX0_takePinFault_10 kc_1 ?_
    cases h
    exact z_iret dX0_takePinFault_11 rfl rfl (Nat.le_refl _) (Nat.le_refl _) ⟨rfl, rfl⟩
theorem dX3_holds_0 : decode cX3_holds 0 = .ok (.iload_n 0, 1) := by decide +kernel
theorem dX3_holds_1 : decode cX3_holds 1 = .ok (.ifCond .lt 22, 3) := by decide +kernel
theorem dX3_holds_4 : decode cX3_holds 4 = .ok (.iload_n 0, 1) := by decide +kernel
theorem dX3_holds_5 : decode cX3_holds 5 = .ok (.iconst 3, 1) := by decide +kernel
theorem dX3_holds_6 : decode cX3_holds 6 = .ok (.if_icmp .ge 17, 3) := by decide +kernel
theorem dX3_holds_9 : decode cX3_holds 9 = .ok (.iload_n 1, 1) := by decide +kernel
theorem dX3_holds_10 : decode cX3_holds 10 = .ok (.ifCond .lt 13, 3) := by decide +kernel
theorem dX3_holds_13 : decode cX3_holds 13 = .ok (.iload_n 1, 1) := by decide +kernel
theorem dX3_holds_14 : decode cX3_holds 14 = .ok (.bipush 12, 2) := by decide +kernel
theorem dX3_holds_16 : decode cX3_holds 16 = .ok (.if_icmp .ge 7, 3) := by decide +kernel
theorem dX3_holds_19 : decode cX3_holds 19 = .ok (.iconst 1, 1) := by decide +kernel
theorem dX3_holds_20 : decode cX3_holds 20 = .ok (.goto 4, 3) := by decide +kernel
theorem dX3_holds_23 : decode cX3_holds 23 = .ok (.iconst 0, 1) := by decide +kernel
theorem dX3_holds_24 : decode cX3_holds 24 = .ok (.ireturn, 1) := by decide +kernel
def fX3_holds (M : Mm) (x1 : Int32) (x2 : Int32) : Int32 := if x1 < 0 then (0 : Int32) else if (3 : Int32) ≤ x1 then (0 : Int32) else if x2 < 0 then (0 : Int32) else if (12 : Int32) ≤ x2 then (0 : Int32) else (1 : Int32)
set_option maxRecDepth 20000 in
set_option maxHeartbeats 2000000 in
theorem tX3_holds (M : Mm) (x1 : Int32) (x2 : Int32) {res : Int32} (h : fX3_holds M x1 x2 = res) : TF yX3_holds cX3_holds 2 (some .boolean) 0 [.inl (.int x1), .inl (.int x2)] M (some (.int res)) M := by
  rw [fX3_holds] at h
  refine TF.go (n := 0) (ls := [some (.inl (.int x1)), some (.inl (.int x2))]) rfl rfl rfl rfl rfl ?_
  refine z_iload_n (i := 0) dX3_holds_0 rfl rfl ?_
  refine z_if_lt (tgt := 23) dX3_holds_1 rfl (fun hc1 => ?_) (fun hc1 => ?_)
  · have h := it_t h hc1
    refine z_iconst (v := (0 : Int32)) dX3_holds_23 kc_0 ?_
    subst h
    exact z_iret dX3_holds_24 rfl rfl (Nat.le_refl _) (Nat.le_refl _) ⟨rfl, rfl⟩
  · have h := it_f h hc1
    refine z_iload_n (i := 0) dX3_holds_4 rfl rfl ?_
    refine z_iconst (v := (3 : Int32)) dX3_holds_5 kc_3 ?_
    refine z_icmp_ge (tgt := 23) dX3_holds_6 rfl (fun hc2 => ?_) (fun hc2 => ?_)
    · have h := it_t h hc2
      refine z_iconst (v := (0 : Int32)) dX3_holds_23 kc_0 ?_
      subst h
      exact z_iret dX3_holds_24 rfl rfl (Nat.le_refl _) (Nat.le_refl _) ⟨rfl, rfl⟩
    · have h := it_f h hc2
      refine z_iload_n (i := 1) dX3_holds_9 rfl rfl ?_
      refine z_if_lt (tgt := 23) dX3_holds_10 rfl (fun hc3 => ?_) (fun hc3 => ?_)
      · have h := it_t h hc3
        refine z_iconst (v := (0 : Int32)) dX3_holds_23 kc_0 ?_
        subst h
        exact z_iret dX3_holds_24 rfl rfl (Nat.le_refl _) (Nat.le_refl _) ⟨rfl, rfl⟩
      · have h := it_f h hc3
        refine z_iload_n (i := 1) dX3_holds_13 rfl rfl ?_
        refine z_bipush (v := (12 : Int32)) dX3_holds_14 kb_12 ?_
        refine z_icmp_ge (tgt := 23) dX3_holds_16 rfl (fun hc4 => ?_) (fun hc4 => ?_)
        · have h := it_t h hc4
          refine z_iconst (v := (0 : Int32)) dX3_holds_23 kc_0 ?_
          subst h
          exact z_iret dX3_holds_24 rfl rfl (Nat.le_refl _) (Nat.le_refl _) ⟨rfl, rfl⟩
        · have h := it_f h hc4
          refine z_iconst (v := (1 : Int32)) dX3_holds_19 kc_1 ?_
          refine z_goto (tgt := 24) dX3_holds_20 rfl ?_
          subst h
          exact z_iret dX3_holds_24 rfl rfl (Nat.le_refl _) (Nat.le_refl _) ⟨rfl, rfl⟩
theorem sX3_holds (M : Mm) (x1 : Int32) (x2 : Int32) : TF yX3_holds cX3_holds 2 (some .boolean) 0 [.inl (.int x1), .inl (.int x2)] M (some (.int (fX3_holds M x1 x2))) M := tX3_holds M x1 x2  rfl
theorem dX3_row_0 : decode cX3_row 0 = .ok (.iload_n 1, 1) := by decide +kernel
theorem dX3_row_1 : decode cX3_row 1 = .ok (.iload_n 2, 1) := by decide +kernel
theorem dX3_row_2 : decode cX3_row 2 = .ok (.invokestatic 37, 3) := by decide +kernel
theorem dX3_row_5 : decode cX3_row 5 = .ok (.ifCond .eq 17, 3) := by decide +kernel
theorem dX3_row_8 : decode cX3_row 8 = .ok (.aload_n 0, 1) := by decide +kernel
theorem dX3_row_9 : decode cX3_row 9 = .ok (.getfield 9, 3) := by decide +kernel
theorem dX3_row_12 : decode cX3_row 12 = .ok (.iload_n 1, 1) := by decide +kernel
theorem dX3_row_13 : decode cX3_row 13 = .ok (.bipush 12, 2) := by decide +kernel
theorem dX3_row_15 : decode cX3_row 15 = .ok (.imul, 1) := by decide +kernel
theorem dX3_row_16 : decode cX3_row 16 = .ok (.iload_n 2, 1) := by decide +kernel
theorem dX3_row_17 : decode cX3_row 17 = .ok (.iadd, 1) := by decide +kernel
theorem dX3_row_18 : decode cX3_row 18 = .ok (.laload, 1) := by decide +kernel
theorem dX3_row_19 : decode cX3_row 19 = .ok (.goto 4, 3) := by decide +kernel
theorem dX3_row_22 : decode cX3_row 22 = .ok (.lconst 0, 1) := by decide +kernel
theorem dX3_row_23 : decode cX3_row 23 = .ok (.lreturn, 1) := by decide +kernel
def fX3_row (M : Mm) (i : Nat) (x1 : Int32) (x2 : Int32) : Option Int64 := if (fX3_holds M x1 x2) = 0 then some (0 : Int64) else if ((x1 * (12 : Int32)) + x2) < 0 ∨ 36 ≤ ((x1 * (12 : Int32)) + x2).toNatClampNeg then none else some (M.2 (11, i, 0) ((x1 * (12 : Int32)) + x2).toNatClampNeg)
set_option maxRecDepth 20000 in
set_option maxHeartbeats 2000000 in
theorem sX3_row (M : Mm) (i : Nat) (x1 : Int32) (x2 : Int32) (hi : i < 12) {res : Int64} (h : fX3_row M i x1 x2 = some res) : TF yX3_row cX3_row 3 (some .long) 1 [.inr (10, i, 0), .inl (.int x1), .inl (.int x2)] M (some (.long res)) M := by
  rw [fX3_row] at h
  refine TF.go (n := 0) (ls := [some (.inr (10, i, 0)), some (.inl (.int x1)), some (.inl (.int x2))]) rfl rfl rfl rfl rfl ?_
  refine z_iload_n (i := 1) dX3_row_0 rfl rfl ?_
  refine z_iload_n (i := 2) dX3_row_1 rfl rfl ?_
  refine z_fSi (sX3_holds M x1 x2) dX3_row_2 ml_X3_37 cd_X3_holds rfl rfl rfl rfl rfl ?_
  refine z_if_eq (tgt := 22) dX3_row_5 rfl (fun hc1 => ?_) (fun hc1 => ?_)
  · have h := it_t h hc1
    refine z_lconst (v := (0 : Int64)) dX3_row_22 (by decide) ?_
    cases h
    exact z_lret dX3_row_23 rfl (Nat.le_refl _) (Nat.le_refl _) ⟨rfl, rfl⟩
  · have h := it_f h hc1
    refine z_aload_n (i := 0) dX3_row_8 rfl rfl ?_
    refine z_getR (r' := (11, i, 0)) dX3_row_9 fl_X3_9 (m10 _ hi) rfl rfl ?_
    refine z_iload_n (i := 1) dX3_row_12 rfl rfl ?_
    refine z_bipush (v := (12 : Int32)) dX3_row_13 kb_12 ?_
    refine z_imul dX3_row_15 ?_
    refine z_iload_n (i := 2) dX3_row_16 rfl rfl ?_
    refine z_iadd dX3_row_17 ?_
    obtain ⟨hc2, h⟩ := chk h
    refine z_lald (x := (M.2 (11, i, 0) ((x1 * (12 : Int32)) + x2).toNatClampNeg)) dX3_row_18 (m11 _ hi) rfl hc2 rfl ?_
    refine z_goto (tgt := 23) dX3_row_19 rfl ?_
    cases h
    exact z_lret dX3_row_23 rfl (Nat.le_refl _) (Nat.le_refl _) ⟨rfl, rfl⟩
theorem dX0_movePinsFault_0 : decode cX0_movePinsFault 0 = .ok (.iconst 0, 1) := by decide +kernel
theorem dX0_movePinsFault_1 : decode cX0_movePinsFault 1 = .ok (.istore_n 3, 1) := by decide +kernel
theorem dX0_movePinsFault_2 : decode cX0_movePinsFault 2 = .ok (.iload_n 3, 1) := by decide +kernel
theorem dX0_movePinsFault_3 : decode cX0_movePinsFault 3 = .ok (.aload_n 0, 1) := by decide +kernel
theorem dX0_movePinsFault_4 : decode cX0_movePinsFault 4 = .ok (.getfield 29, 3) := by decide +kernel
theorem dX0_movePinsFault_7 : decode cX0_movePinsFault 7 = .ok (.if_icmp .ge 35, 3) := by decide +kernel
theorem dX0_movePinsFault_10 : decode cX0_movePinsFault 10 = .ok (.aload_n 0, 1) := by decide +kernel
theorem dX0_movePinsFault_11 : decode cX0_movePinsFault 11 = .ok (.getfield 12, 3) := by decide +kernel
theorem dX0_movePinsFault_14 : decode cX0_movePinsFault 14 = .ok (.iload_n 1, 1) := by decide +kernel
theorem dX0_movePinsFault_15 : decode cX0_movePinsFault 15 = .ok (.iload_n 3, 1) := by decide +kernel
theorem dX0_movePinsFault_16 : decode cX0_movePinsFault 16 = .ok (.invokevirtual 91, 3) := by decide +kernel
theorem dX0_movePinsFault_19 : decode cX0_movePinsFault 19 = .ok (.lconst 0, 1) := by decide +kernel
theorem dX0_movePinsFault_20 : decode cX0_movePinsFault 20 = .ok (.lcmp, 1) := by decide +kernel
theorem dX0_movePinsFault_21 : decode cX0_movePinsFault 21 = .ok (.ifCond .eq 15, 3) := by decide +kernel
theorem dX0_movePinsFault_24 : decode cX0_movePinsFault 24 = .ok (.aload_n 0, 1) := by decide +kernel
theorem dX0_movePinsFault_25 : decode cX0_movePinsFault 25 = .ok (.iload_n 3, 1) := by decide +kernel
theorem dX0_movePinsFault_26 : decode cX0_movePinsFault 26 = .ok (.iload_n 2, 1) := by decide +kernel
theorem dX0_movePinsFault_27 : decode cX0_movePinsFault 27 = .ok (.iadd, 1) := by decide +kernel
theorem dX0_movePinsFault_28 : decode cX0_movePinsFault 28 = .ok (.invokevirtual 71, 3) := by decide +kernel
theorem dX0_movePinsFault_31 : decode cX0_movePinsFault 31 = .ok (.ifCond .eq 5, 3) := by decide +kernel
theorem dX0_movePinsFault_34 : decode cX0_movePinsFault 34 = .ok (.iconst 3, 1) := by decide +kernel
theorem dX0_movePinsFault_35 : decode cX0_movePinsFault 35 = .ok (.ireturn, 1) := by decide +kernel
theorem dX0_movePinsFault_36 : decode cX0_movePinsFault 36 = .ok (.iinc 3 1, 3) := by decide +kernel
theorem dX0_movePinsFault_39 : decode cX0_movePinsFault 39 = .ok (.goto (-37), 3) := by decide +kernel
theorem dX0_movePinsFault_42 : decode cX0_movePinsFault 42 = .ok (.iconst 0, 1) := by decide +kernel
theorem dX0_movePinsFault_43 : decode cX0_movePinsFault 43 = .ok (.ireturn, 1) := by decide +kernel
def fX0_movePinsFault_L2 (M : Mm) (i : Nat) (c1 : Int32) (c2 : Int32) (K : Int32 → Option Int32) : Nat → Int32 → Option Int32
  | 0, _ => none
  | n + 1, v3 => if (M.1 (9, i, 0) 2) ≤ v3 then K v3 else (fX3_row M i c1 v3).bind fun q2 => if (lg_cmp q2 (0 : Int64)) = 0 then fX0_movePinsFault_L2 M i c1 c2 K n (v3 + (1 : Int32)) else if (fX0_toothFault M i (v3 + c2)) = 0 then fX0_movePinsFault_L2 M i c1 c2 K n (v3 + (1 : Int32)) else some (3 : Int32)
def fX0_movePinsFault (M : Mm) (i : Nat) (x1 : Int32) (x2 : Int32) : Option Int32 := fX0_movePinsFault_L2 M i x1 x2 (fun w6 => some (0 : Int32)) NF (0 : Int32)
set_option maxRecDepth 20000 in
set_option maxHeartbeats 2000000 in
theorem sX0_movePinsFault_L2 (M : Mm) (i : Nat) (c1 : Int32) (c2 : Int32) (hi : i < 12) {res : Int32} {K : Int32 → Option Int32} : ∀ (n : Nat) (v3 : Int32), fX0_movePinsFault_L2 M i c1 c2 K n v3 = some res →
    (∀ (v3 : Int32), K v3 = some res → Z RX0 cX0_movePinsFault 4 (some .int) [] "movePinsFault" (rmD 2 0 0) (QM SH allR 0 0 (fun v M9 => v = some (.int res) ∧ M9 = M) (fun _ _ => False)) allR SH 0 0 42 [some (.inr (9, i, 0)), some (.inl (.int c1)), some (.inl (.int c2)), some (.inl (.int v3))] [] M) → Z RX0 cX0_movePinsFault 4 (some .int) [] "movePinsFault" (rmD 2 0 0) (QM SH allR 0 0 (fun v M9 => v = some (.int res) ∧ M9 = M) (fun _ _ => False)) allR SH 0 0 2 [some (.inr (9, i, 0)), some (.inl (.int c1)), some (.inl (.int c2)), some (.inl (.int v3))] [] M := by
  intro n
  induction n with
  | zero => intro v3 h; cases h
  | succ n ih =>
    intro v3 h hK
    rw [fX0_movePinsFault_L2] at h
    refine z_iload_n (i := 3) dX0_movePinsFault_2 rfl rfl ?_
    refine z_aload_n (i := 0) dX0_movePinsFault_3 rfl rfl ?_
    refine z_getI (x := (M.1 (9, i, 0) 2)) dX0_movePinsFault_4 fl_X0_29 (m9 _ hi) rfl rfl ?_
    refine z_icmp_ge (tgt := 42) dX0_movePinsFault_7 rfl (fun hc1 => ?_) (fun hc1 => ?_)
    · have h := it_t h hc1
      exact hK _ h
    · have h := it_f h hc1
      refine z_aload_n (i := 0) dX0_movePinsFault_10 rfl rfl ?_
      refine z_getR (r' := (10, i, 0)) dX0_movePinsFault_11 fl_X0_12 (m9 _ hi) rfl rfl ?_
      refine z_iload_n (i := 1) dX0_movePinsFault_14 rfl rfl ?_
      refine z_iload_n (i := 3) dX0_movePinsFault_15 rfl rfl ?_
      obtain ⟨q2, hq3, h⟩ := bnd h
      refine z_fVl (sX3_row M i c1 v3 hi hq3) dX0_movePinsFault_16 ml_X0_91 cd_X3_row (m10 _ hi) rfl rfl rfl rfl rfl rfl ?_
      refine z_lconst (v := (0 : Int64)) dX0_movePinsFault_19 (by decide) ?_
      refine z_lcmp dX0_movePinsFault_20 ?_
      refine z_if_eq (tgt := 36) dX0_movePinsFault_21 rfl (fun hc4 => ?_) (fun hc4 => ?_)
      · have h := it_t h hc4
        refine z_iinc (i := 3) (v := (v3 + (1 : Int32))) dX0_movePinsFault_36 rfl (iinc_k kc_1) (Nat.le_of_ble_eq_true rfl) rfl ?_
        refine z_goto (tgt := 2) dX0_movePinsFault_39 rfl ?_
        exact ih _ h hK
      · have h := it_f h hc4
        refine z_aload_n (i := 0) dX0_movePinsFault_24 rfl rfl ?_
        refine z_iload_n (i := 3) dX0_movePinsFault_25 rfl rfl ?_
        refine z_iload_n (i := 2) dX0_movePinsFault_26 rfl rfl ?_
        refine z_iadd dX0_movePinsFault_27 ?_
        refine z_fVi (sX0_toothFault M i (v3 + c2) hi) dX0_movePinsFault_28 ml_X0_71 cd_X0_toothFault (m9 _ hi) rfl rfl rfl rfl rfl rfl ?_
        refine z_if_eq (tgt := 36) dX0_movePinsFault_31 rfl (fun hc5 => ?_) (fun hc5 => ?_)
        · have h := it_t h hc5
          refine z_iinc (i := 3) (v := (v3 + (1 : Int32))) dX0_movePinsFault_36 rfl (iinc_k kc_1) (Nat.le_of_ble_eq_true rfl) rfl ?_
          refine z_goto (tgt := 2) dX0_movePinsFault_39 rfl ?_
          exact ih _ h hK
        · have h := it_f h hc5
          refine z_iconst (v := (3 : Int32)) dX0_movePinsFault_34 kc_3 ?_
          cases h
          exact z_iret dX0_movePinsFault_35 rfl rfl (Nat.le_refl _) (Nat.le_refl _) ⟨rfl, rfl⟩
set_option maxRecDepth 20000 in
set_option maxHeartbeats 2000000 in
theorem sX0_movePinsFault (M : Mm) (i : Nat) (x1 : Int32) (x2 : Int32) (hi : i < 12) {res : Int32} (h : fX0_movePinsFault M i x1 x2 = some res) : TF yX0_movePinsFault cX0_movePinsFault 4 (some .int) 2 [.inr (9, i, 0), .inl (.int x1), .inl (.int x2)] M (some (.int res)) M := by
  rw [fX0_movePinsFault] at h
  refine TF.go (n := 1) (ls := [some (.inr (9, i, 0)), some (.inl (.int x1)), some (.inl (.int x2)), none]) rfl rfl rfl rfl rfl ?_
  refine z_iconst (v := (0 : Int32)) dX0_movePinsFault_0 kc_0 ?_
  refine z_istore_n (i := 3) dX0_movePinsFault_1 rfl (Nat.le_of_ble_eq_true rfl) rfl ?_
  refine sX0_movePinsFault_L2 M i x1 x2 hi NF _ h (fun w6 h => ?_)
  refine z_iconst (v := (0 : Int32)) dX0_movePinsFault_42 kc_0 ?_
  cases h
  exact z_iret dX0_movePinsFault_43 rfl rfl (Nat.le_refl _) (Nat.le_refl _) ⟨rfl, rfl⟩
theorem dX9_rangeFault_0 : decode cX9_rangeFault 0 = .ok (.iload_n 0, 1) := by decide +kernel
theorem dX9_rangeFault_1 : decode cX9_rangeFault 1 = .ok (.iload_n 1, 1) := by decide +kernel
theorem dX9_rangeFault_2 : decode cX9_rangeFault 2 = .ok (.if_icmp .lt 8, 3) := by decide +kernel
theorem dX9_rangeFault_5 : decode cX9_rangeFault 5 = .ok (.iload_n 0, 1) := by decide +kernel
theorem dX9_rangeFault_6 : decode cX9_rangeFault 6 = .ok (.iload_n 2, 1) := by decide +kernel
theorem dX9_rangeFault_7 : decode cX9_rangeFault 7 = .ok (.if_icmp .le 7, 3) := by decide +kernel
theorem dX9_rangeFault_10 : decode cX9_rangeFault 10 = .ok (.iconst 2, 1) := by decide +kernel
theorem dX9_rangeFault_11 : decode cX9_rangeFault 11 = .ok (.goto 4, 3) := by decide +kernel
theorem dX9_rangeFault_14 : decode cX9_rangeFault 14 = .ok (.iconst 0, 1) := by decide +kernel
theorem dX9_rangeFault_15 : decode cX9_rangeFault 15 = .ok (.ireturn, 1) := by decide +kernel
def fX9_rangeFault (M : Mm) (x1 : Int32) (x2 : Int32) (x3 : Int32) : Int32 := if x1 < x2 then (2 : Int32) else if x1 ≤ x3 then (0 : Int32) else (2 : Int32)
set_option maxRecDepth 20000 in
set_option maxHeartbeats 2000000 in
theorem tX9_rangeFault (M : Mm) (x1 : Int32) (x2 : Int32) (x3 : Int32) {res : Int32} (h : fX9_rangeFault M x1 x2 x3 = res) : TF yX9_rangeFault cX9_rangeFault 3 (some .int) 0 [.inl (.int x1), .inl (.int x2), .inl (.int x3)] M (some (.int res)) M := by
  rw [fX9_rangeFault] at h
  refine TF.go (n := 0) (ls := [some (.inl (.int x1)), some (.inl (.int x2)), some (.inl (.int x3))]) rfl rfl rfl rfl rfl ?_
  refine z_iload_n (i := 0) dX9_rangeFault_0 rfl rfl ?_
  refine z_iload_n (i := 1) dX9_rangeFault_1 rfl rfl ?_
  refine z_icmp_lt (tgt := 10) dX9_rangeFault_2 rfl (fun hc1 => ?_) (fun hc1 => ?_)
  · have h := it_t h hc1
    refine z_iconst (v := (2 : Int32)) dX9_rangeFault_10 kc_2 ?_
    refine z_goto (tgt := 15) dX9_rangeFault_11 rfl ?_
    subst h
    exact z_iret dX9_rangeFault_15 rfl rfl (Nat.le_refl _) (Nat.le_refl _) ⟨rfl, rfl⟩
  · have h := it_f h hc1
    refine z_iload_n (i := 0) dX9_rangeFault_5 rfl rfl ?_
    refine z_iload_n (i := 2) dX9_rangeFault_6 rfl rfl ?_
    refine z_icmp_le (tgt := 14) dX9_rangeFault_7 rfl (fun hc2 => ?_) (fun hc2 => ?_)
    · have h := it_t h hc2
      refine z_iconst (v := (0 : Int32)) dX9_rangeFault_14 kc_0 ?_
      subst h
      exact z_iret dX9_rangeFault_15 rfl rfl (Nat.le_refl _) (Nat.le_refl _) ⟨rfl, rfl⟩
    · have h := it_f h hc2
      refine z_iconst (v := (2 : Int32)) dX9_rangeFault_10 kc_2 ?_
      refine z_goto (tgt := 15) dX9_rangeFault_11 rfl ?_
      subst h
      exact z_iret dX9_rangeFault_15 rfl rfl (Nat.le_refl _) (Nat.le_refl _) ⟨rfl, rfl⟩
theorem sX9_rangeFault (M : Mm) (x1 : Int32) (x2 : Int32) (x3 : Int32) : TF yX9_rangeFault cX9_rangeFault 3 (some .int) 0 [.inl (.int x1), .inl (.int x2), .inl (.int x3)] M (some (.int (fX9_rangeFault M x1 x2 x3))) M := tX9_rangeFault M x1 x2 x3  rfl
theorem dX0_gapFault_0 : decode cX0_gapFault 0 = .ok (.aload_n 0, 1) := by decide +kernel
theorem dX0_gapFault_1 : decode cX0_gapFault 1 = .ok (.iload_n 1, 1) := by decide +kernel
theorem dX0_gapFault_2 : decode cX0_gapFault 2 = .ok (.invokevirtual 71, 3) := by decide +kernel
theorem dX0_gapFault_5 : decode cX0_gapFault 5 = .ok (.ifCond .eq 5, 3) := by decide +kernel
theorem dX0_gapFault_8 : decode cX0_gapFault 8 = .ok (.iconst 1, 1) := by decide +kernel
theorem dX0_gapFault_9 : decode cX0_gapFault 9 = .ok (.ireturn, 1) := by decide +kernel
theorem dX0_gapFault_10 : decode cX0_gapFault 10 = .ok (.iload_n 2, 1) := by decide +kernel
theorem dX0_gapFault_11 : decode cX0_gapFault 11 = .ok (.iconst 1, 1) := by decide +kernel
theorem dX0_gapFault_12 : decode cX0_gapFault 12 = .ok (.bipush 9, 2) := by decide +kernel
theorem dX0_gapFault_14 : decode cX0_gapFault 14 = .ok (.invokestatic 95, 3) := by decide +kernel
theorem dX0_gapFault_17 : decode cX0_gapFault 17 = .ok (.ireturn, 1) := by decide +kernel
def fX0_gapFault (M : Mm) (i : Nat) (x1 : Int32) (x2 : Int32) : Int32 := if (fX0_toothFault M i x1) = 0 then (fX9_rangeFault M x2 (1 : Int32) (9 : Int32)) else (1 : Int32)
set_option maxRecDepth 20000 in
set_option maxHeartbeats 2000000 in
theorem tX0_gapFault (M : Mm) (i : Nat) (x1 : Int32) (x2 : Int32) (hi : i < 12) {res : Int32} (h : fX0_gapFault M i x1 x2 = res) : TF yX0_gapFault cX0_gapFault 3 (some .int) 1 [.inr (9, i, 0), .inl (.int x1), .inl (.int x2)] M (some (.int res)) M := by
  rw [fX0_gapFault] at h
  refine TF.go (n := 0) (ls := [some (.inr (9, i, 0)), some (.inl (.int x1)), some (.inl (.int x2))]) rfl rfl rfl rfl rfl ?_
  refine z_aload_n (i := 0) dX0_gapFault_0 rfl rfl ?_
  refine z_iload_n (i := 1) dX0_gapFault_1 rfl rfl ?_
  refine z_fVi (sX0_toothFault M i x1 hi) dX0_gapFault_2 ml_X0_71 cd_X0_toothFault (m9 _ hi) rfl rfl rfl rfl rfl rfl ?_
  refine z_if_eq (tgt := 10) dX0_gapFault_5 rfl (fun hc1 => ?_) (fun hc1 => ?_)
  · have h := it_t h hc1
    refine z_iload_n (i := 2) dX0_gapFault_10 rfl rfl ?_
    refine z_iconst (v := (1 : Int32)) dX0_gapFault_11 kc_1 ?_
    refine z_bipush (v := (9 : Int32)) dX0_gapFault_12 kb_9 ?_
    refine z_fSNi (sX9_rangeFault M x2 (1 : Int32) (9 : Int32)) dX0_gapFault_14 ml_X0_95 cd_X9_rangeFault rfl rfl rfl rfl rfl ?_
    subst h
    exact z_iret dX0_gapFault_17 rfl rfl (Nat.le_refl _) (Nat.le_refl _) ⟨rfl, rfl⟩
  · have h := it_f h hc1
    refine z_iconst (v := (1 : Int32)) dX0_gapFault_8 kc_1 ?_
    subst h
    exact z_iret dX0_gapFault_9 rfl rfl (Nat.le_refl _) (Nat.le_refl _) ⟨rfl, rfl⟩
theorem sX0_gapFault (M : Mm) (i : Nat) (x1 : Int32) (x2 : Int32) (hi : i < 12) : TF yX0_gapFault cX0_gapFault 3 (some .int) 1 [.inr (9, i, 0), .inl (.int x1), .inl (.int x2)] M (some (.int (fX0_gapFault M i x1 x2))) M := tX0_gapFault M i x1 x2 hi rfl
theorem dX8_brokenNow_0 : decode cX8_brokenNow 0 = .ok (.aload_n 0, 1) := by decide +kernel
theorem dX8_brokenNow_1 : decode cX8_brokenNow 1 = .ok (.getfield 27, 3) := by decide +kernel
theorem dX8_brokenNow_4 : decode cX8_brokenNow 4 = .ok (.aload_n 0, 1) := by decide +kernel
theorem dX8_brokenNow_5 : decode cX8_brokenNow 5 = .ok (.getfield 18, 3) := by decide +kernel
theorem dX8_brokenNow_8 : decode cX8_brokenNow 8 = .ok (.if_icmp .lt 7, 3) := by decide +kernel
theorem dX8_brokenNow_11 : decode cX8_brokenNow 11 = .ok (.iconst 1, 1) := by decide +kernel
theorem dX8_brokenNow_12 : decode cX8_brokenNow 12 = .ok (.goto 4, 3) := by decide +kernel
theorem dX8_brokenNow_15 : decode cX8_brokenNow 15 = .ok (.iconst 0, 1) := by decide +kernel
theorem dX8_brokenNow_16 : decode cX8_brokenNow 16 = .ok (.ireturn, 1) := by decide +kernel
def fX8_brokenNow (M : Mm) (i : Nat) (t : Nat) : Int32 := if (M.1 (13, i, t) 4) < (M.1 (13, i, t) 3) then (0 : Int32) else (1 : Int32)
set_option maxRecDepth 20000 in
set_option maxHeartbeats 2000000 in
theorem tX8_brokenNow (M : Mm) (i : Nat) (t : Nat) (hi : i < 12) (ht : t < 12) {res : Int32} (h : fX8_brokenNow M i t = res) : TF yX8_brokenNow cX8_brokenNow 1 (some .boolean) 0 [.inr (13, i, t)] M (some (.int res)) M := by
  rw [fX8_brokenNow] at h
  refine TF.go (n := 0) (ls := [some (.inr (13, i, t))]) rfl rfl rfl rfl rfl ?_
  refine z_aload_n (i := 0) dX8_brokenNow_0 rfl rfl ?_
  refine z_getI (x := (M.1 (13, i, t) 4)) dX8_brokenNow_1 fl_X8_27 (m13 _ hi _ ht) rfl rfl ?_
  refine z_aload_n (i := 0) dX8_brokenNow_4 rfl rfl ?_
  refine z_getI (x := (M.1 (13, i, t) 3)) dX8_brokenNow_5 fl_X8_18 (m13 _ hi _ ht) rfl rfl ?_
  refine z_icmp_lt (tgt := 15) dX8_brokenNow_8 rfl (fun hc1 => ?_) (fun hc1 => ?_)
  · have h := it_t h hc1
    refine z_iconst (v := (0 : Int32)) dX8_brokenNow_15 kc_0 ?_
    subst h
    exact z_iret dX8_brokenNow_16 rfl rfl (Nat.le_refl _) (Nat.le_refl _) ⟨rfl, rfl⟩
  · have h := it_f h hc1
    refine z_iconst (v := (1 : Int32)) dX8_brokenNow_11 kc_1 ?_
    refine z_goto (tgt := 16) dX8_brokenNow_12 rfl ?_
    subst h
    exact z_iret dX8_brokenNow_16 rfl rfl (Nat.le_refl _) (Nat.le_refl _) ⟨rfl, rfl⟩
theorem sX8_brokenNow (M : Mm) (i : Nat) (t : Nat) (hi : i < 12) (ht : t < 12) : TF yX8_brokenNow cX8_brokenNow 1 (some .boolean) 0 [.inr (13, i, t)] M (some (.int (fX8_brokenNow M i t))) M := tX8_brokenNow M i t hi ht rfl
theorem dX0_bendFault_0 : decode cX0_bendFault 0 = .ok (.aload_n 0, 1) := by decide +kernel
theorem dX0_bendFault_1 : decode cX0_bendFault 1 = .ok (.iload_n 1, 1) := by decide +kernel
theorem dX0_bendFault_2 : decode cX0_bendFault 2 = .ok (.invokevirtual 71, 3) := by decide +kernel
theorem dX0_bendFault_5 : decode cX0_bendFault 5 = .ok (.ifCond .eq 5, 3) := by decide +kernel
theorem dX0_bendFault_8 : decode cX0_bendFault 8 = .ok (.iconst 1, 1) := by decide +kernel
theorem dX0_bendFault_9 : decode cX0_bendFault 9 = .ok (.ireturn, 1) := by decide +kernel
theorem dX0_bendFault_10 : decode cX0_bendFault 10 = .ok (.iload_n 2, 1) := by decide +kernel
theorem dX0_bendFault_11 : decode cX0_bendFault 11 = .ok (.ifCond .eq 14, 3) := by decide +kernel
theorem dX0_bendFault_14 : decode cX0_bendFault 14 = .ok (.iload_n 2, 1) := by decide +kernel
theorem dX0_bendFault_15 : decode cX0_bendFault 15 = .ok (.bipush (-3), 2) := by decide +kernel
theorem dX0_bendFault_17 : decode cX0_bendFault 17 = .ok (.if_icmp .lt 8, 3) := by decide +kernel
theorem dX0_bendFault_20 : decode cX0_bendFault 20 = .ok (.iload_n 2, 1) := by decide +kernel
theorem dX0_bendFault_21 : decode cX0_bendFault 21 = .ok (.iconst 3, 1) := by decide +kernel
theorem dX0_bendFault_22 : decode cX0_bendFault 22 = .ok (.if_icmp .le 5, 3) := by decide +kernel
theorem dX0_bendFault_25 : decode cX0_bendFault 25 = .ok (.iconst 2, 1) := by decide +kernel
theorem dX0_bendFault_26 : decode cX0_bendFault 26 = .ok (.ireturn, 1) := by decide +kernel
theorem dX0_bendFault_27 : decode cX0_bendFault 27 = .ok (.aload_n 0, 1) := by decide +kernel
theorem dX0_bendFault_28 : decode cX0_bendFault 28 = .ok (.getfield 20, 3) := by decide +kernel
theorem dX0_bendFault_31 : decode cX0_bendFault 31 = .ok (.iload_n 1, 1) := by decide +kernel
theorem dX0_bendFault_32 : decode cX0_bendFault 32 = .ok (.aaload, 1) := by decide +kernel
theorem dX0_bendFault_33 : decode cX0_bendFault 33 = .ok (.getfield 98, 3) := by decide +kernel
theorem dX0_bendFault_36 : decode cX0_bendFault 36 = .ok (.iload_n 2, 1) := by decide +kernel
theorem dX0_bendFault_37 : decode cX0_bendFault 37 = .ok (.iadd, 1) := by decide +kernel
theorem dX0_bendFault_38 : decode cX0_bendFault 38 = .ok (.istore_n 3, 1) := by decide +kernel
theorem dX0_bendFault_39 : decode cX0_bendFault 39 = .ok (.aload_n 0, 1) := by decide +kernel
theorem dX0_bendFault_40 : decode cX0_bendFault 40 = .ok (.getfield 20, 3) := by decide +kernel
theorem dX0_bendFault_43 : decode cX0_bendFault 43 = .ok (.iload_n 1, 1) := by decide +kernel
theorem dX0_bendFault_44 : decode cX0_bendFault 44 = .ok (.aaload, 1) := by decide +kernel
theorem dX0_bendFault_45 : decode cX0_bendFault 45 = .ok (.invokevirtual 101, 3) := by decide +kernel
theorem dX0_bendFault_48 : decode cX0_bendFault 48 = .ok (.ifCond .ne 14, 3) := by decide +kernel
theorem dX0_bendFault_51 : decode cX0_bendFault 51 = .ok (.iload_n 3, 1) := by decide +kernel
theorem dX0_bendFault_52 : decode cX0_bendFault 52 = .ok (.bipush (-3), 2) := by decide +kernel
theorem dX0_bendFault_54 : decode cX0_bendFault 54 = .ok (.if_icmp .lt 8, 3) := by decide +kernel
theorem dX0_bendFault_57 : decode cX0_bendFault 57 = .ok (.iload_n 3, 1) := by decide +kernel
theorem dX0_bendFault_58 : decode cX0_bendFault 58 = .ok (.iconst 3, 1) := by decide +kernel
theorem dX0_bendFault_59 : decode cX0_bendFault 59 = .ok (.if_icmp .le 7, 3) := by decide +kernel
theorem dX0_bendFault_62 : decode cX0_bendFault 62 = .ok (.iconst 3, 1) := by decide +kernel
theorem dX0_bendFault_63 : decode cX0_bendFault 63 = .ok (.goto 4, 3) := by decide +kernel
theorem dX0_bendFault_66 : decode cX0_bendFault 66 = .ok (.iconst 0, 1) := by decide +kernel
theorem dX0_bendFault_67 : decode cX0_bendFault 67 = .ok (.ireturn, 1) := by decide +kernel
def fX0_bendFault (M : Mm) (i : Nat) (x1 : Int32) (x2 : Int32) : Option Int32 := if (fX0_toothFault M i x1) = 0 then (if x2 = 0 then some (2 : Int32) else if x2 < (-3 : Int32) then some (2 : Int32) else if x2 ≤ (3 : Int32) then (if x1 < 0 ∨ 12 ≤ x1.toNatClampNeg then none else if x1 < 0 ∨ 12 ≤ x1.toNatClampNeg then none else if (fX8_brokenNow M i x1.toNatClampNeg) = 0 then (if ((M.1 (13, i, x1.toNatClampNeg) 1) + x2) < (-3 : Int32) then some (3 : Int32) else if ((M.1 (13, i, x1.toNatClampNeg) 1) + x2) ≤ (3 : Int32) then some (0 : Int32) else some (3 : Int32)) else some (3 : Int32)) else some (2 : Int32)) else some (1 : Int32)
set_option maxRecDepth 20000 in
set_option maxHeartbeats 2000000 in
theorem sX0_bendFault (M : Mm) (i : Nat) (x1 : Int32) (x2 : Int32) (hi : i < 12) {res : Int32} (h : fX0_bendFault M i x1 x2 = some res) : TF yX0_bendFault cX0_bendFault 4 (some .int) 1 [.inr (9, i, 0), .inl (.int x1), .inl (.int x2)] M (some (.int res)) M := by
  rw [fX0_bendFault] at h
  refine TF.go (n := 1) (ls := [some (.inr (9, i, 0)), some (.inl (.int x1)), some (.inl (.int x2)), none]) rfl rfl rfl rfl rfl ?_
  refine z_aload_n (i := 0) dX0_bendFault_0 rfl rfl ?_
  refine z_iload_n (i := 1) dX0_bendFault_1 rfl rfl ?_
  refine z_fVi (sX0_toothFault M i x1 hi) dX0_bendFault_2 ml_X0_71 cd_X0_toothFault (m9 _ hi) rfl rfl rfl rfl rfl rfl ?_
  refine z_if_eq (tgt := 10) dX0_bendFault_5 rfl (fun hc1 => ?_) (fun hc1 => ?_)
  · have h := it_t h hc1
    refine z_iload_n (i := 2) dX0_bendFault_10 rfl rfl ?_
    refine z_if_eq (tgt := 25) dX0_bendFault_11 rfl (fun hc2 => ?_) (fun hc2 => ?_)
    · have h := it_t h hc2
      refine z_iconst (v := (2 : Int32)) dX0_bendFault_25 kc_2 ?_
      cases h
      exact z_iret dX0_bendFault_26 rfl rfl (Nat.le_refl _) (Nat.le_refl _) ⟨rfl, rfl⟩
    · have h := it_f h hc2
      refine z_iload_n (i := 2) dX0_bendFault_14 rfl rfl ?_
      refine z_bipush (v := (-3 : Int32)) dX0_bendFault_15 kb_m3 ?_
      refine z_icmp_lt (tgt := 25) dX0_bendFault_17 rfl (fun hc3 => ?_) (fun hc3 => ?_)
      · have h := it_t h hc3
        refine z_iconst (v := (2 : Int32)) dX0_bendFault_25 kc_2 ?_
        cases h
        exact z_iret dX0_bendFault_26 rfl rfl (Nat.le_refl _) (Nat.le_refl _) ⟨rfl, rfl⟩
      · have h := it_f h hc3
        refine z_iload_n (i := 2) dX0_bendFault_20 rfl rfl ?_
        refine z_iconst (v := (3 : Int32)) dX0_bendFault_21 kc_3 ?_
        refine z_icmp_le (tgt := 27) dX0_bendFault_22 rfl (fun hc4 => ?_) (fun hc4 => ?_)
        · have h := it_t h hc4
          refine z_aload_n (i := 0) dX0_bendFault_27 rfl rfl ?_
          refine z_getR (r' := (12, i, 0)) dX0_bendFault_28 fl_X0_20 (m9 _ hi) rfl rfl ?_
          refine z_iload_n (i := 1) dX0_bendFault_31 rfl rfl ?_
          obtain ⟨hc5, h⟩ := chk h
          refine z_aald (t := 0) (r' := (13, i, x1.toNatClampNeg)) dX0_bendFault_32 (m12 _ hi) rfl (Nat.le_of_ble_eq_true rfl) hc5 rfl ?_
          refine z_getI (x := (M.1 (13, i, x1.toNatClampNeg) 1)) dX0_bendFault_33 fl_X0_98 (m13 _ hi _ (ltN hc5)) rfl rfl ?_
          refine z_iload_n (i := 2) dX0_bendFault_36 rfl rfl ?_
          refine z_iadd dX0_bendFault_37 ?_
          refine z_istore_n (i := 3) dX0_bendFault_38 rfl (Nat.le_of_ble_eq_true rfl) rfl ?_
          refine z_aload_n (i := 0) dX0_bendFault_39 rfl rfl ?_
          refine z_getR (r' := (12, i, 0)) dX0_bendFault_40 fl_X0_20 (m9 _ hi) rfl rfl ?_
          refine z_iload_n (i := 1) dX0_bendFault_43 rfl rfl ?_
          obtain ⟨hc6, h⟩ := chk h
          refine z_aald (t := 0) (r' := (13, i, x1.toNatClampNeg)) dX0_bendFault_44 (m12 _ hi) rfl (Nat.le_of_ble_eq_true rfl) hc6 rfl ?_
          refine z_fVi (sX8_brokenNow M i x1.toNatClampNeg hi (ltN hc6)) dX0_bendFault_45 ml_X0_101 cd_X8_brokenNow (m13 _ hi _ (ltN hc6)) rfl rfl rfl rfl rfl rfl ?_
          refine z_if_ne (tgt := 62) dX0_bendFault_48 rfl (fun hc7 => ?_) (fun hc7 => ?_)
          · have h := it_f h hc7
            refine z_iconst (v := (3 : Int32)) dX0_bendFault_62 kc_3 ?_
            refine z_goto (tgt := 67) dX0_bendFault_63 rfl ?_
            cases h
            exact z_iret dX0_bendFault_67 rfl rfl (Nat.le_refl _) (Nat.le_refl _) ⟨rfl, rfl⟩
          · have h := it_t h hc7
            refine z_iload_n (i := 3) dX0_bendFault_51 rfl rfl ?_
            refine z_bipush (v := (-3 : Int32)) dX0_bendFault_52 kb_m3 ?_
            refine z_icmp_lt (tgt := 62) dX0_bendFault_54 rfl (fun hc8 => ?_) (fun hc8 => ?_)
            · have h := it_t h hc8
              refine z_iconst (v := (3 : Int32)) dX0_bendFault_62 kc_3 ?_
              refine z_goto (tgt := 67) dX0_bendFault_63 rfl ?_
              cases h
              exact z_iret dX0_bendFault_67 rfl rfl (Nat.le_refl _) (Nat.le_refl _) ⟨rfl, rfl⟩
            · have h := it_f h hc8
              refine z_iload_n (i := 3) dX0_bendFault_57 rfl rfl ?_
              refine z_iconst (v := (3 : Int32)) dX0_bendFault_58 kc_3 ?_
              refine z_icmp_le (tgt := 66) dX0_bendFault_59 rfl (fun hc9 => ?_) (fun hc9 => ?_)
              · have h := it_t h hc9
                refine z_iconst (v := (0 : Int32)) dX0_bendFault_66 kc_0 ?_
                cases h
                exact z_iret dX0_bendFault_67 rfl rfl (Nat.le_refl _) (Nat.le_refl _) ⟨rfl, rfl⟩
              · have h := it_f h hc9
                refine z_iconst (v := (3 : Int32)) dX0_bendFault_62 kc_3 ?_
                refine z_goto (tgt := 67) dX0_bendFault_63 rfl ?_
                cases h
                exact z_iret dX0_bendFault_67 rfl rfl (Nat.le_refl _) (Nat.le_refl _) ⟨rfl, rfl⟩
        · have h := it_f h hc4
          refine z_iconst (v := (2 : Int32)) dX0_bendFault_25 kc_2 ?_
          cases h
          exact z_iret dX0_bendFault_26 rfl rfl (Nat.le_refl _) (Nat.le_refl _) ⟨rfl, rfl⟩
  · have h := it_f h hc1
    refine z_iconst (v := (1 : Int32)) dX0_bendFault_8 kc_1 ?_
    cases h
    exact z_iret dX0_bendFault_9 rfl rfl (Nat.le_refl _) (Nat.le_refl _) ⟨rfl, rfl⟩
theorem dX0_windFault_0 : decode cX0_windFault 0 = .ok (.iload_n 1, 1) := by decide +kernel
theorem dX0_windFault_1 : decode cX0_windFault 1 = .ok (.iconst 1, 1) := by decide +kernel
theorem dX0_windFault_2 : decode cX0_windFault 2 = .ok (.if_icmp .lt 9, 3) := by decide +kernel
theorem dX0_windFault_5 : decode cX0_windFault 5 = .ok (.iload_n 1, 1) := by decide +kernel
theorem dX0_windFault_6 : decode cX0_windFault 6 = .ok (.bipush 20, 2) := by decide +kernel
theorem dX0_windFault_8 : decode cX0_windFault 8 = .ok (.if_icmp .le 5, 3) := by decide +kernel
theorem dX0_windFault_11 : decode cX0_windFault 11 = .ok (.iconst 2, 1) := by decide +kernel
theorem dX0_windFault_12 : decode cX0_windFault 12 = .ok (.ireturn, 1) := by decide +kernel
theorem dX0_windFault_13 : decode cX0_windFault 13 = .ok (.aload_n 0, 1) := by decide +kernel
theorem dX0_windFault_14 : decode cX0_windFault 14 = .ok (.getfield 33, 3) := by decide +kernel
theorem dX0_windFault_17 : decode cX0_windFault 17 = .ok (.iload_n 1, 1) := by decide +kernel
theorem dX0_windFault_18 : decode cX0_windFault 18 = .ok (.iadd, 1) := by decide +kernel
theorem dX0_windFault_19 : decode cX0_windFault 19 = .ok (.bipush 20, 2) := by decide +kernel
theorem dX0_windFault_21 : decode cX0_windFault 21 = .ok (.if_icmp .le 7, 3) := by decide +kernel
theorem dX0_windFault_24 : decode cX0_windFault 24 = .ok (.iconst 3, 1) := by decide +kernel
theorem dX0_windFault_25 : decode cX0_windFault 25 = .ok (.goto 4, 3) := by decide +kernel
theorem dX0_windFault_28 : decode cX0_windFault 28 = .ok (.iconst 0, 1) := by decide +kernel
theorem dX0_windFault_29 : decode cX0_windFault 29 = .ok (.ireturn, 1) := by decide +kernel
def fX0_windFault (M : Mm) (i : Nat) (x1 : Int32) : Int32 := if x1 < (1 : Int32) then (2 : Int32) else if x1 ≤ (20 : Int32) then (if ((M.1 (9, i, 0) 3) + x1) ≤ (20 : Int32) then (0 : Int32) else (3 : Int32)) else (2 : Int32)
set_option maxRecDepth 20000 in
set_option maxHeartbeats 2000000 in
theorem tX0_windFault (M : Mm) (i : Nat) (x1 : Int32) (hi : i < 12) {res : Int32} (h : fX0_windFault M i x1 = res) : TF yX0_windFault cX0_windFault 2 (some .int) 0 [.inr (9, i, 0), .inl (.int x1)] M (some (.int res)) M := by
  rw [fX0_windFault] at h
  refine TF.go (n := 0) (ls := [some (.inr (9, i, 0)), some (.inl (.int x1))]) rfl rfl rfl rfl rfl ?_
  refine z_iload_n (i := 1) dX0_windFault_0 rfl rfl ?_
  refine z_iconst (v := (1 : Int32)) dX0_windFault_1 kc_1 ?_
  refine z_icmp_lt (tgt := 11) dX0_windFault_2 rfl (fun hc1 => ?_) (fun hc1 => ?_)
  · have h := it_t h hc1
    refine z_iconst (v := (2 : Int32)) dX0_windFault_11 kc_2 ?_
    subst h
    exact z_iret dX0_windFault_12 rfl rfl (Nat.le_refl _) (Nat.le_refl _) ⟨rfl, rfl⟩
  · have h := it_f h hc1
    refine z_iload_n (i := 1) dX0_windFault_5 rfl rfl ?_
    refine z_bipush (v := (20 : Int32)) dX0_windFault_6 kb_20 ?_
    refine z_icmp_le (tgt := 13) dX0_windFault_8 rfl (fun hc2 => ?_) (fun hc2 => ?_)
    · have h := it_t h hc2
      refine z_aload_n (i := 0) dX0_windFault_13 rfl rfl ?_
      refine z_getI (x := (M.1 (9, i, 0) 3)) dX0_windFault_14 fl_X0_33 (m9 _ hi) rfl rfl ?_
      refine z_iload_n (i := 1) dX0_windFault_17 rfl rfl ?_
      refine z_iadd dX0_windFault_18 ?_
      refine z_bipush (v := (20 : Int32)) dX0_windFault_19 kb_20 ?_
      refine z_icmp_le (tgt := 28) dX0_windFault_21 rfl (fun hc3 => ?_) (fun hc3 => ?_)
      · have h := it_t h hc3
        refine z_iconst (v := (0 : Int32)) dX0_windFault_28 kc_0 ?_
        subst h
        exact z_iret dX0_windFault_29 rfl rfl (Nat.le_refl _) (Nat.le_refl _) ⟨rfl, rfl⟩
      · have h := it_f h hc3
        refine z_iconst (v := (3 : Int32)) dX0_windFault_24 kc_3 ?_
        refine z_goto (tgt := 29) dX0_windFault_25 rfl ?_
        subst h
        exact z_iret dX0_windFault_29 rfl rfl (Nat.le_refl _) (Nat.le_refl _) ⟨rfl, rfl⟩
    · have h := it_f h hc2
      refine z_iconst (v := (2 : Int32)) dX0_windFault_11 kc_2 ?_
      subst h
      exact z_iret dX0_windFault_12 rfl rfl (Nat.le_refl _) (Nat.le_refl _) ⟨rfl, rfl⟩
theorem sX0_windFault (M : Mm) (i : Nat) (x1 : Int32) (hi : i < 12) : TF yX0_windFault cX0_windFault 2 (some .int) 0 [.inr (9, i, 0), .inl (.int x1)] M (some (.int (fX0_windFault M i x1))) M := tX0_windFault M i x1 hi rfl
theorem dX0_playFault_0 : decode cX0_playFault 0 = .ok (.iload_n 1, 1) := by decide +kernel
theorem dX0_playFault_1 : decode cX0_playFault 1 = .ok (.iconst 1, 1) := by decide +kernel
theorem dX0_playFault_2 : decode cX0_playFault 2 = .ok (.if_icmp .lt 10, 3) := by decide +kernel
theorem dX0_playFault_5 : decode cX0_playFault 5 = .ok (.iload_n 1, 1) := by decide +kernel
theorem dX0_playFault_6 : decode cX0_playFault 6 = .ok (.sipush 300, 3) := by decide +kernel
theorem dX0_playFault_9 : decode cX0_playFault 9 = .ok (.if_icmp .le 5, 3) := by decide +kernel
theorem dX0_playFault_12 : decode cX0_playFault 12 = .ok (.iconst 2, 1) := by decide +kernel
theorem dX0_playFault_13 : decode cX0_playFault 13 = .ok (.ireturn, 1) := by decide +kernel
theorem dX0_playFault_14 : decode cX0_playFault 14 = .ok (.aload_n 0, 1) := by decide +kernel
theorem dX0_playFault_15 : decode cX0_playFault 15 = .ok (.getfield 33, 3) := by decide +kernel
theorem dX0_playFault_18 : decode cX0_playFault 18 = .ok (.ifCond .ne 7, 3) := by decide +kernel
theorem dX0_playFault_21 : decode cX0_playFault 21 = .ok (.iconst 3, 1) := by decide +kernel
theorem dX0_playFault_22 : decode cX0_playFault 22 = .ok (.goto 4, 3) := by decide +kernel
theorem dX0_playFault_25 : decode cX0_playFault 25 = .ok (.iconst 0, 1) := by decide +kernel
theorem dX0_playFault_26 : decode cX0_playFault 26 = .ok (.ireturn, 1) := by decide +kernel
def fX0_playFault (M : Mm) (i : Nat) (x1 : Int32) : Int32 := if x1 < (1 : Int32) then (2 : Int32) else if x1 ≤ (300 : Int32) then (if (M.1 (9, i, 0) 3) = 0 then (3 : Int32) else (0 : Int32)) else (2 : Int32)
set_option maxRecDepth 20000 in
set_option maxHeartbeats 2000000 in
theorem tX0_playFault (M : Mm) (i : Nat) (x1 : Int32) (hi : i < 12) {res : Int32} (h : fX0_playFault M i x1 = res) : TF yX0_playFault cX0_playFault 2 (some .int) 0 [.inr (9, i, 0), .inl (.int x1)] M (some (.int res)) M := by
  rw [fX0_playFault] at h
  refine TF.go (n := 0) (ls := [some (.inr (9, i, 0)), some (.inl (.int x1))]) rfl rfl rfl rfl rfl ?_
  refine z_iload_n (i := 1) dX0_playFault_0 rfl rfl ?_
  refine z_iconst (v := (1 : Int32)) dX0_playFault_1 kc_1 ?_
  refine z_icmp_lt (tgt := 12) dX0_playFault_2 rfl (fun hc1 => ?_) (fun hc1 => ?_)
  · have h := it_t h hc1
    refine z_iconst (v := (2 : Int32)) dX0_playFault_12 kc_2 ?_
    subst h
    exact z_iret dX0_playFault_13 rfl rfl (Nat.le_refl _) (Nat.le_refl _) ⟨rfl, rfl⟩
  · have h := it_f h hc1
    refine z_iload_n (i := 1) dX0_playFault_5 rfl rfl ?_
    refine z_sipush (v := (300 : Int32)) dX0_playFault_6 ks_300 ?_
    refine z_icmp_le (tgt := 14) dX0_playFault_9 rfl (fun hc2 => ?_) (fun hc2 => ?_)
    · have h := it_t h hc2
      refine z_aload_n (i := 0) dX0_playFault_14 rfl rfl ?_
      refine z_getI (x := (M.1 (9, i, 0) 3)) dX0_playFault_15 fl_X0_33 (m9 _ hi) rfl rfl ?_
      refine z_if_ne (tgt := 25) dX0_playFault_18 rfl (fun hc3 => ?_) (fun hc3 => ?_)
      · have h := it_f h hc3
        refine z_iconst (v := (0 : Int32)) dX0_playFault_25 kc_0 ?_
        subst h
        exact z_iret dX0_playFault_26 rfl rfl (Nat.le_refl _) (Nat.le_refl _) ⟨rfl, rfl⟩
      · have h := it_t h hc3
        refine z_iconst (v := (3 : Int32)) dX0_playFault_21 kc_3 ?_
        refine z_goto (tgt := 26) dX0_playFault_22 rfl ?_
        subst h
        exact z_iret dX0_playFault_26 rfl rfl (Nat.le_refl _) (Nat.le_refl _) ⟨rfl, rfl⟩
    · have h := it_f h hc2
      refine z_iconst (v := (2 : Int32)) dX0_playFault_12 kc_2 ?_
      subst h
      exact z_iret dX0_playFault_13 rfl rfl (Nat.le_refl _) (Nat.le_refl _) ⟨rfl, rfl⟩
theorem sX0_playFault (M : Mm) (i : Nat) (x1 : Int32) (hi : i < 12) : TF yX0_playFault cX0_playFault 2 (some .int) 0 [.inr (9, i, 0), .inl (.int x1)] M (some (.int (fX0_playFault M i x1))) M := tX0_playFault M i x1 hi rfl
theorem dX0_bendTooth_0 : decode cX0_bendTooth 0 = .ok (.aload_n 0, 1) := by decide +kernel
theorem dX0_bendTooth_1 : decode cX0_bendTooth 1 = .ok (.getfield 20, 3) := by decide +kernel
theorem dX0_bendTooth_4 : decode cX0_bendTooth 4 = .ok (.iload_n 1, 1) := by decide +kernel
theorem dX0_bendTooth_5 : decode cX0_bendTooth 5 = .ok (.aaload, 1) := by decide +kernel
theorem dX0_bendTooth_6 : decode cX0_bendTooth 6 = .ok (.dup, 1) := by decide +kernel
theorem dX0_bendTooth_7 : decode cX0_bendTooth 7 = .ok (.getfield 98, 3) := by decide +kernel
theorem dX0_bendTooth_10 : decode cX0_bendTooth 10 = .ok (.iload_n 2, 1) := by decide +kernel
theorem dX0_bendTooth_11 : decode cX0_bendTooth 11 = .ok (.iadd, 1) := by decide +kernel
theorem dX0_bendTooth_12 : decode cX0_bendTooth 12 = .ok (.putfield 98, 3) := by decide +kernel
theorem dX0_bendTooth_15 : decode cX0_bendTooth 15 = .ok (.aload_n 0, 1) := by decide +kernel
theorem dX0_bendTooth_16 : decode cX0_bendTooth 16 = .ok (.getfield 20, 3) := by decide +kernel
theorem dX0_bendTooth_19 : decode cX0_bendTooth 19 = .ok (.iload_n 1, 1) := by decide +kernel
theorem dX0_bendTooth_20 : decode cX0_bendTooth 20 = .ok (.aaload, 1) := by decide +kernel
theorem dX0_bendTooth_21 : decode cX0_bendTooth 21 = .ok (.dup, 1) := by decide +kernel
theorem dX0_bendTooth_22 : decode cX0_bendTooth 22 = .ok (.getfield 105, 3) := by decide +kernel
theorem dX0_bendTooth_25 : decode cX0_bendTooth 25 = .ok (.iconst 3, 1) := by decide +kernel
theorem dX0_bendTooth_26 : decode cX0_bendTooth 26 = .ok (.iadd, 1) := by decide +kernel
theorem dX0_bendTooth_27 : decode cX0_bendTooth 27 = .ok (.putfield 105, 3) := by decide +kernel
theorem dX0_bendTooth_30 : decode cX0_bendTooth 30 = .ok (.aload_n 0, 1) := by decide +kernel
theorem dX0_bendTooth_31 : decode cX0_bendTooth 31 = .ok (.dup, 1) := by decide +kernel
theorem dX0_bendTooth_32 : decode cX0_bendTooth 32 = .ok (.getfield 48, 3) := by decide +kernel
theorem dX0_bendTooth_35 : decode cX0_bendTooth 35 = .ok (.iconst 1, 1) := by decide +kernel
theorem dX0_bendTooth_36 : decode cX0_bendTooth 36 = .ok (.iadd, 1) := by decide +kernel
theorem dX0_bendTooth_37 : decode cX0_bendTooth 37 = .ok (.putfield 48, 3) := by decide +kernel
theorem dX0_bendTooth_40 : decode cX0_bendTooth 40 = .ok (.return_, 1) := by decide +kernel
def fX0_bendTooth (M : Mm) (i : Nat) (x1 : Int32) (x2 : Int32) : Option Mm := if x1 < 0 ∨ 12 ≤ x1.toNatClampNeg then none else if x1 < 0 ∨ 12 ≤ x1.toNatClampNeg then none else some (putI (putI (putI M (13, i, x1.toNatClampNeg) 1 ((M.1 (13, i, x1.toNatClampNeg) 1) + x2)) (13, i, x1.toNatClampNeg) 4 ((M.1 (13, i, x1.toNatClampNeg) 4) + (3 : Int32))) (9, i, 0) 8 ((M.1 (9, i, 0) 8) + (1 : Int32)))
set_option maxRecDepth 20000 in
set_option maxHeartbeats 2000000 in
theorem sX0_bendTooth (M : Mm) (i : Nat) (x1 : Int32) (x2 : Int32) (hi : i < 12) {res : Mm} (h : fX0_bendTooth M i x1 x2 = some res) : TF yX0_bendTooth cX0_bendTooth 3 none 0 [.inr (9, i, 0), .inl (.int x1), .inl (.int x2)] M (none) res := by
  rw [fX0_bendTooth] at h
  refine TF.go (n := 0) (ls := [some (.inr (9, i, 0)), some (.inl (.int x1)), some (.inl (.int x2))]) rfl rfl rfl rfl rfl ?_
  refine z_aload_n (i := 0) dX0_bendTooth_0 rfl rfl ?_
  refine z_getR (r' := (12, i, 0)) dX0_bendTooth_1 fl_X0_20 (m9 _ hi) rfl rfl ?_
  refine z_iload_n (i := 1) dX0_bendTooth_4 rfl rfl ?_
  obtain ⟨hc1, h⟩ := chk h
  refine z_aald (t := 0) (r' := (13, i, x1.toNatClampNeg)) dX0_bendTooth_5 (m12 _ hi) rfl (Nat.le_of_ble_eq_true rfl) hc1 rfl ?_
  refine z_dup dX0_bendTooth_6 rfl ?_
  refine z_getI (x := (M.1 (13, i, x1.toNatClampNeg) 1)) dX0_bendTooth_7 fl_X0_98 (m13 _ hi _ (ltN hc1)) rfl rfl ?_
  refine z_iload_n (i := 2) dX0_bendTooth_10 rfl rfl ?_
  refine z_iadd dX0_bendTooth_11 ?_
  refine z_putI allR_nd dX0_bendTooth_12 fl_X0_98 (m13 _ hi _ (ltN hc1)) rfl rfl ?_
  refine z_aload_n (i := 0) dX0_bendTooth_15 rfl rfl ?_
  refine z_getR (r' := (12, i, 0)) dX0_bendTooth_16 fl_X0_20 (m9 _ hi) rfl rfl ?_
  refine z_iload_n (i := 1) dX0_bendTooth_19 rfl rfl ?_
  obtain ⟨hc2, h⟩ := chk h
  refine z_aald (t := 0) (r' := (13, i, x1.toNatClampNeg)) dX0_bendTooth_20 (m12 _ hi) rfl (Nat.le_of_ble_eq_true rfl) hc2 rfl ?_
  refine z_dup dX0_bendTooth_21 rfl ?_
  refine z_getI (x := (M.1 (13, i, x1.toNatClampNeg) 4)) dX0_bendTooth_22 fl_X0_105 (m13 _ hi _ (ltN hc2)) rfl rfl ?_
  refine z_iconst (v := (3 : Int32)) dX0_bendTooth_25 kc_3 ?_
  refine z_iadd dX0_bendTooth_26 ?_
  refine z_putI allR_nd dX0_bendTooth_27 fl_X0_105 (m13 _ hi _ (ltN hc2)) rfl rfl ?_
  refine z_aload_n (i := 0) dX0_bendTooth_30 rfl rfl ?_
  refine z_dup dX0_bendTooth_31 rfl ?_
  refine z_getI (x := (M.1 (9, i, 0) 8)) dX0_bendTooth_32 fl_X0_48 (m9 _ hi) rfl rfl ?_
  refine z_iconst (v := (1 : Int32)) dX0_bendTooth_35 kc_1 ?_
  refine z_iadd dX0_bendTooth_36 ?_
  refine z_putI allR_nd dX0_bendTooth_37 fl_X0_48 (m9 _ hi) rfl rfl ?_
  cases h
  exact z_vret dX0_bendTooth_40 rfl (Nat.le_refl _) (Nat.le_refl _) ⟨rfl, rfl⟩
theorem dX0_mendTooth_0 : decode cX0_mendTooth 0 = .ok (.aload_n 0, 1) := by decide +kernel
theorem dX0_mendTooth_1 : decode cX0_mendTooth 1 = .ok (.dup, 1) := by decide +kernel
theorem dX0_mendTooth_2 : decode cX0_mendTooth 2 = .ok (.getfield 51, 3) := by decide +kernel
theorem dX0_mendTooth_5 : decode cX0_mendTooth 5 = .ok (.aload_n 0, 1) := by decide +kernel
theorem dX0_mendTooth_6 : decode cX0_mendTooth 6 = .ok (.getfield 20, 3) := by decide +kernel
theorem dX0_mendTooth_9 : decode cX0_mendTooth 9 = .ok (.iload_n 1, 1) := by decide +kernel
theorem dX0_mendTooth_10 : decode cX0_mendTooth 10 = .ok (.aaload, 1) := by decide +kernel
theorem dX0_mendTooth_11 : decode cX0_mendTooth 11 = .ok (.getfield 105, 3) := by decide +kernel
theorem dX0_mendTooth_14 : decode cX0_mendTooth 14 = .ok (.iadd, 1) := by decide +kernel
theorem dX0_mendTooth_15 : decode cX0_mendTooth 15 = .ok (.putfield 51, 3) := by decide +kernel
theorem dX0_mendTooth_18 : decode cX0_mendTooth 18 = .ok (.aload_n 0, 1) := by decide +kernel
theorem dX0_mendTooth_19 : decode cX0_mendTooth 19 = .ok (.getfield 20, 3) := by decide +kernel
theorem dX0_mendTooth_22 : decode cX0_mendTooth 22 = .ok (.iload_n 1, 1) := by decide +kernel
theorem dX0_mendTooth_23 : decode cX0_mendTooth 23 = .ok (.aaload, 1) := by decide +kernel
theorem dX0_mendTooth_24 : decode cX0_mendTooth 24 = .ok (.invokevirtual 108, 3) := by decide +kernel
theorem dX0_mendTooth_27 : decode cX0_mendTooth 27 = .ok (.return_, 1) := by decide +kernel
def fX0_mendTooth (M : Mm) (i : Nat) (x1 : Int32) : Option Mm := if x1 < 0 ∨ 12 ≤ x1.toNatClampNeg then none else if x1 < 0 ∨ 12 ≤ x1.toNatClampNeg then none else some (fX8_renew (putI M (9, i, 0) 9 ((M.1 (9, i, 0) 9) + (M.1 (13, i, x1.toNatClampNeg) 4))) i x1.toNatClampNeg)
set_option maxRecDepth 20000 in
set_option maxHeartbeats 2000000 in
theorem sX0_mendTooth (M : Mm) (i : Nat) (x1 : Int32) (hi : i < 12) {res : Mm} (h : fX0_mendTooth M i x1 = some res) : TF yX0_mendTooth cX0_mendTooth 2 none 1 [.inr (9, i, 0), .inl (.int x1)] M (none) res := by
  rw [fX0_mendTooth] at h
  refine TF.go (n := 0) (ls := [some (.inr (9, i, 0)), some (.inl (.int x1))]) rfl rfl rfl rfl rfl ?_
  refine z_aload_n (i := 0) dX0_mendTooth_0 rfl rfl ?_
  refine z_dup dX0_mendTooth_1 rfl ?_
  refine z_getI (x := (M.1 (9, i, 0) 9)) dX0_mendTooth_2 fl_X0_51 (m9 _ hi) rfl rfl ?_
  refine z_aload_n (i := 0) dX0_mendTooth_5 rfl rfl ?_
  refine z_getR (r' := (12, i, 0)) dX0_mendTooth_6 fl_X0_20 (m9 _ hi) rfl rfl ?_
  refine z_iload_n (i := 1) dX0_mendTooth_9 rfl rfl ?_
  obtain ⟨hc1, h⟩ := chk h
  refine z_aald (t := 0) (r' := (13, i, x1.toNatClampNeg)) dX0_mendTooth_10 (m12 _ hi) rfl (Nat.le_of_ble_eq_true rfl) hc1 rfl ?_
  refine z_getI (x := (M.1 (13, i, x1.toNatClampNeg) 4)) dX0_mendTooth_11 fl_X0_105 (m13 _ hi _ (ltN hc1)) rfl rfl ?_
  refine z_iadd dX0_mendTooth_14 ?_
  refine z_putI allR_nd dX0_mendTooth_15 fl_X0_51 (m9 _ hi) rfl rfl ?_
  refine z_aload_n (i := 0) dX0_mendTooth_18 rfl rfl ?_
  refine z_getR (r' := (12, i, 0)) dX0_mendTooth_19 fl_X0_20 (m9 _ hi) rfl rfl ?_
  refine z_iload_n (i := 1) dX0_mendTooth_22 rfl rfl ?_
  obtain ⟨hc2, h⟩ := chk h
  refine z_aald (t := 0) (r' := (13, i, x1.toNatClampNeg)) dX0_mendTooth_23 (m12 _ hi) rfl (Nat.le_of_ble_eq_true rfl) hc2 rfl ?_
  refine z_fVv (sX8_renew (putI M (9, i, 0) 9 ((M.1 (9, i, 0) 9) + (M.1 (13, i, x1.toNatClampNeg) 4))) i x1.toNatClampNeg hi (ltN hc2)) dX0_mendTooth_24 ml_X0_108 cd_X8_renew (m13 _ hi _ (ltN hc2)) rfl rfl rfl rfl rfl rfl ?_
  cases h
  exact z_vret dX0_mendTooth_27 rfl (Nat.le_refl _) (Nat.le_refl _) ⟨rfl, rfl⟩
theorem dX8_dampedNow_0 : decode cX8_dampedNow 0 = .ok (.aload_n 0, 1) := by decide +kernel
theorem dX8_dampedNow_1 : decode cX8_dampedNow 1 = .ok (.getfield 30, 3) := by decide +kernel
theorem dX8_dampedNow_4 : decode cX8_dampedNow 4 = .ok (.aload_n 0, 1) := by decide +kernel
theorem dX8_dampedNow_5 : decode cX8_dampedNow 5 = .ok (.getfield 15, 3) := by decide +kernel
theorem dX8_dampedNow_8 : decode cX8_dampedNow 8 = .ok (.if_icmp .lt 7, 3) := by decide +kernel
theorem dX8_dampedNow_11 : decode cX8_dampedNow 11 = .ok (.iconst 1, 1) := by decide +kernel
theorem dX8_dampedNow_12 : decode cX8_dampedNow 12 = .ok (.goto 4, 3) := by decide +kernel
theorem dX8_dampedNow_15 : decode cX8_dampedNow 15 = .ok (.iconst 0, 1) := by decide +kernel
theorem dX8_dampedNow_16 : decode cX8_dampedNow 16 = .ok (.ireturn, 1) := by decide +kernel
def fX8_dampedNow (M : Mm) (i : Nat) (t : Nat) : Int32 := if (M.1 (13, i, t) 5) < (M.1 (13, i, t) 2) then (0 : Int32) else (1 : Int32)
set_option maxRecDepth 20000 in
set_option maxHeartbeats 2000000 in
theorem tX8_dampedNow (M : Mm) (i : Nat) (t : Nat) (hi : i < 12) (ht : t < 12) {res : Int32} (h : fX8_dampedNow M i t = res) : TF yX8_dampedNow cX8_dampedNow 1 (some .boolean) 0 [.inr (13, i, t)] M (some (.int res)) M := by
  rw [fX8_dampedNow] at h
  refine TF.go (n := 0) (ls := [some (.inr (13, i, t))]) rfl rfl rfl rfl rfl ?_
  refine z_aload_n (i := 0) dX8_dampedNow_0 rfl rfl ?_
  refine z_getI (x := (M.1 (13, i, t) 5)) dX8_dampedNow_1 fl_X8_30 (m13 _ hi _ ht) rfl rfl ?_
  refine z_aload_n (i := 0) dX8_dampedNow_4 rfl rfl ?_
  refine z_getI (x := (M.1 (13, i, t) 2)) dX8_dampedNow_5 fl_X8_15 (m13 _ hi _ ht) rfl rfl ?_
  refine z_icmp_lt (tgt := 15) dX8_dampedNow_8 rfl (fun hc1 => ?_) (fun hc1 => ?_)
  · have h := it_t h hc1
    refine z_iconst (v := (0 : Int32)) dX8_dampedNow_15 kc_0 ?_
    subst h
    exact z_iret dX8_dampedNow_16 rfl rfl (Nat.le_refl _) (Nat.le_refl _) ⟨rfl, rfl⟩
  · have h := it_f h hc1
    refine z_iconst (v := (1 : Int32)) dX8_dampedNow_11 kc_1 ?_
    refine z_goto (tgt := 16) dX8_dampedNow_12 rfl ?_
    subst h
    exact z_iret dX8_dampedNow_16 rfl rfl (Nat.le_refl _) (Nat.le_refl _) ⟨rfl, rfl⟩
theorem sX8_dampedNow (M : Mm) (i : Nat) (t : Nat) (hi : i < 12) (ht : t < 12) : TF yX8_dampedNow cX8_dampedNow 1 (some .boolean) 0 [.inr (13, i, t)] M (some (.int (fX8_dampedNow M i t))) M := tX8_dampedNow M i t hi ht rfl
end
section
theorem dX0_soundOf_0 : decode cX0_soundOf 0 = .ok (.aload_n 0, 1) := by decide +kernel
theorem dX0_soundOf_1 : decode cX0_soundOf 1 = .ok (.getfield 12, 3) := by decide +kernel
theorem dX0_soundOf_4 : decode cX0_soundOf 4 = .ok (.aload_n 0, 1) := by decide +kernel
theorem dX0_soundOf_5 : decode cX0_soundOf 5 = .ok (.getfield 12, 3) := by decide +kernel
theorem dX0_soundOf_8 : decode cX0_soundOf 8 = .ok (.getfield 126, 3) := by decide +kernel
theorem dX0_soundOf_11 : decode cX0_soundOf 11 = .ok (.iload_n 1, 1) := by decide +kernel
theorem dX0_soundOf_12 : decode cX0_soundOf 12 = .ok (.aload_n 0, 1) := by decide +kernel
theorem dX0_soundOf_13 : decode cX0_soundOf 13 = .ok (.getfield 12, 3) := by decide +kernel
theorem dX0_soundOf_16 : decode cX0_soundOf 16 = .ok (.getfield 129, 3) := by decide +kernel
theorem dX0_soundOf_19 : decode cX0_soundOf 19 = .ok (.invokevirtual 87, 3) := by decide +kernel
theorem dX0_soundOf_22 : decode cX0_soundOf 22 = .ok (.ifCond .ne 5, 3) := by decide +kernel
theorem dX0_soundOf_25 : decode cX0_soundOf 25 = .ok (.iconst 0, 1) := by decide +kernel
theorem dX0_soundOf_26 : decode cX0_soundOf 26 = .ok (.ireturn, 1) := by decide +kernel
theorem dX0_soundOf_27 : decode cX0_soundOf 27 = .ok (.aload_n 0, 1) := by decide +kernel
theorem dX0_soundOf_28 : decode cX0_soundOf 28 = .ok (.getfield 20, 3) := by decide +kernel
theorem dX0_soundOf_31 : decode cX0_soundOf 31 = .ok (.iload_n 1, 1) := by decide +kernel
theorem dX0_soundOf_32 : decode cX0_soundOf 32 = .ok (.aaload, 1) := by decide +kernel
theorem dX0_soundOf_33 : decode cX0_soundOf 33 = .ok (.invokevirtual 101, 3) := by decide +kernel
theorem dX0_soundOf_36 : decode cX0_soundOf 36 = .ok (.ifCond .eq 5, 3) := by decide +kernel
theorem dX0_soundOf_39 : decode cX0_soundOf 39 = .ok (.iconst 1, 1) := by decide +kernel
theorem dX0_soundOf_40 : decode cX0_soundOf 40 = .ok (.ireturn, 1) := by decide +kernel
theorem dX0_soundOf_41 : decode cX0_soundOf 41 = .ok (.aload_n 0, 1) := by decide +kernel
theorem dX0_soundOf_42 : decode cX0_soundOf 42 = .ok (.getfield 20, 3) := by decide +kernel
theorem dX0_soundOf_45 : decode cX0_soundOf 45 = .ok (.iload_n 1, 1) := by decide +kernel
theorem dX0_soundOf_46 : decode cX0_soundOf 46 = .ok (.aaload, 1) := by decide +kernel
theorem dX0_soundOf_47 : decode cX0_soundOf 47 = .ok (.invokevirtual 132, 3) := by decide +kernel
theorem dX0_soundOf_50 : decode cX0_soundOf 50 = .ok (.ifCond .eq 7, 3) := by decide +kernel
theorem dX0_soundOf_53 : decode cX0_soundOf 53 = .ok (.iconst 2, 1) := by decide +kernel
theorem dX0_soundOf_54 : decode cX0_soundOf 54 = .ok (.goto 4, 3) := by decide +kernel
theorem dX0_soundOf_57 : decode cX0_soundOf 57 = .ok (.iconst 3, 1) := by decide +kernel
theorem dX0_soundOf_58 : decode cX0_soundOf 58 = .ok (.ireturn, 1) := by decide +kernel
def fX0_soundOf (M : Mm) (i : Nat) (x1 : Int32) : Option Int32 := (fX3_hasPin M i (M.1 (10, i, 0) 3) x1 (M.1 (10, i, 0) 2)).bind fun q1 => if q1 = 0 then some (0 : Int32) else if x1 < 0 ∨ 12 ≤ x1.toNatClampNeg then none else if (fX8_brokenNow M i x1.toNatClampNeg) = 0 then (if x1 < 0 ∨ 12 ≤ x1.toNatClampNeg then none else if (fX8_dampedNow M i x1.toNatClampNeg) = 0 then some (3 : Int32) else some (2 : Int32)) else some (1 : Int32)
set_option maxRecDepth 20000 in
set_option maxHeartbeats 2000000 in
theorem sX0_soundOf (M : Mm) (i : Nat) (x1 : Int32) (hi : i < 12) {res : Int32} (h : fX0_soundOf M i x1 = some res) : TF yX0_soundOf cX0_soundOf 2 (some .int) 1 [.inr (9, i, 0), .inl (.int x1)] M (some (.int res)) M := by
  rw [fX0_soundOf] at h
  refine TF.go (n := 0) (ls := [some (.inr (9, i, 0)), some (.inl (.int x1))]) rfl rfl rfl rfl rfl ?_
  refine z_aload_n (i := 0) dX0_soundOf_0 rfl rfl ?_
  refine z_getR (r' := (10, i, 0)) dX0_soundOf_1 fl_X0_12 (m9 _ hi) rfl rfl ?_
  refine z_aload_n (i := 0) dX0_soundOf_4 rfl rfl ?_
  refine z_getR (r' := (10, i, 0)) dX0_soundOf_5 fl_X0_12 (m9 _ hi) rfl rfl ?_
  refine z_getI (x := (M.1 (10, i, 0) 3)) dX0_soundOf_8 fl_X0_126 (m10 _ hi) rfl rfl ?_
  refine z_iload_n (i := 1) dX0_soundOf_11 rfl rfl ?_
  refine z_aload_n (i := 0) dX0_soundOf_12 rfl rfl ?_
  refine z_getR (r' := (10, i, 0)) dX0_soundOf_13 fl_X0_12 (m9 _ hi) rfl rfl ?_
  refine z_getI (x := (M.1 (10, i, 0) 2)) dX0_soundOf_16 fl_X0_129 (m10 _ hi) rfl rfl ?_
  obtain ⟨q1, hq2, h⟩ := bnd h
  refine z_fVi (sX3_hasPin M i (M.1 (10, i, 0) 3) x1 (M.1 (10, i, 0) 2) hi hq2) dX0_soundOf_19 ml_X0_87 cd_X3_hasPin (m10 _ hi) rfl rfl rfl rfl rfl rfl ?_
  refine z_if_ne (tgt := 27) dX0_soundOf_22 rfl (fun hc3 => ?_) (fun hc3 => ?_)
  · have h := it_f h hc3
    refine z_aload_n (i := 0) dX0_soundOf_27 rfl rfl ?_
    refine z_getR (r' := (12, i, 0)) dX0_soundOf_28 fl_X0_20 (m9 _ hi) rfl rfl ?_
    refine z_iload_n (i := 1) dX0_soundOf_31 rfl rfl ?_
    obtain ⟨hc4, h⟩ := chk h
    refine z_aald (t := 0) (r' := (13, i, x1.toNatClampNeg)) dX0_soundOf_32 (m12 _ hi) rfl (Nat.le_of_ble_eq_true rfl) hc4 rfl ?_
    refine z_fVi (sX8_brokenNow M i x1.toNatClampNeg hi (ltN hc4)) dX0_soundOf_33 ml_X0_101 cd_X8_brokenNow (m13 _ hi _ (ltN hc4)) rfl rfl rfl rfl rfl rfl ?_
    refine z_if_eq (tgt := 41) dX0_soundOf_36 rfl (fun hc5 => ?_) (fun hc5 => ?_)
    · have h := it_t h hc5
      refine z_aload_n (i := 0) dX0_soundOf_41 rfl rfl ?_
      refine z_getR (r' := (12, i, 0)) dX0_soundOf_42 fl_X0_20 (m9 _ hi) rfl rfl ?_
      refine z_iload_n (i := 1) dX0_soundOf_45 rfl rfl ?_
      obtain ⟨hc6, h⟩ := chk h
      refine z_aald (t := 0) (r' := (13, i, x1.toNatClampNeg)) dX0_soundOf_46 (m12 _ hi) rfl (Nat.le_of_ble_eq_true rfl) hc6 rfl ?_
      refine z_fVi (sX8_dampedNow M i x1.toNatClampNeg hi (ltN hc6)) dX0_soundOf_47 ml_X0_132 cd_X8_dampedNow (m13 _ hi _ (ltN hc6)) rfl rfl rfl rfl rfl rfl ?_
      refine z_if_eq (tgt := 57) dX0_soundOf_50 rfl (fun hc7 => ?_) (fun hc7 => ?_)
      · have h := it_t h hc7
        refine z_iconst (v := (3 : Int32)) dX0_soundOf_57 kc_3 ?_
        cases h
        exact z_iret dX0_soundOf_58 rfl rfl (Nat.le_refl _) (Nat.le_refl _) ⟨rfl, rfl⟩
      · have h := it_f h hc7
        refine z_iconst (v := (2 : Int32)) dX0_soundOf_53 kc_2 ?_
        refine z_goto (tgt := 58) dX0_soundOf_54 rfl ?_
        cases h
        exact z_iret dX0_soundOf_58 rfl rfl (Nat.le_refl _) (Nat.le_refl _) ⟨rfl, rfl⟩
    · have h := it_f h hc5
      refine z_iconst (v := (1 : Int32)) dX0_soundOf_39 kc_1 ?_
      cases h
      exact z_iret dX0_soundOf_40 rfl rfl (Nat.le_refl _) (Nat.le_refl _) ⟨rfl, rfl⟩
  · have h := it_t h hc3
    refine z_iconst (v := (0 : Int32)) dX0_soundOf_25 kc_0 ?_
    cases h
    exact z_iret dX0_soundOf_26 rfl rfl (Nat.le_refl _) (Nat.le_refl _) ⟨rfl, rfl⟩
theorem dX8_pluck_0 : decode cX8_pluck 0 = .ok (.aload_n 0, 1) := by decide +kernel
theorem dX8_pluck_1 : decode cX8_pluck 1 = .ok (.dup, 1) := by decide +kernel
theorem dX8_pluck_2 : decode cX8_pluck 2 = .ok (.getfield 27, 3) := by decide +kernel
theorem dX8_pluck_5 : decode cX8_pluck 5 = .ok (.iload_n 1, 1) := by decide +kernel
theorem dX8_pluck_6 : decode cX8_pluck 6 = .ok (.iadd, 1) := by decide +kernel
theorem dX8_pluck_7 : decode cX8_pluck 7 = .ok (.putfield 27, 3) := by decide +kernel
theorem dX8_pluck_10 : decode cX8_pluck 10 = .ok (.aload_n 0, 1) := by decide +kernel
theorem dX8_pluck_11 : decode cX8_pluck 11 = .ok (.iconst 0, 1) := by decide +kernel
theorem dX8_pluck_12 : decode cX8_pluck 12 = .ok (.putfield 30, 3) := by decide +kernel
theorem dX8_pluck_15 : decode cX8_pluck 15 = .ok (.return_, 1) := by decide +kernel
def fX8_pluck (M : Mm) (i : Nat) (t : Nat) (x1 : Int32) : Mm := (putI (putI M (13, i, t) 4 ((M.1 (13, i, t) 4) + x1)) (13, i, t) 5 (0 : Int32))
set_option maxRecDepth 20000 in
set_option maxHeartbeats 2000000 in
theorem tX8_pluck (M : Mm) (i : Nat) (t : Nat) (x1 : Int32) (hi : i < 12) (ht : t < 12) {res : Mm} (h : fX8_pluck M i t x1 = res) : TF yX8_pluck cX8_pluck 2 none 0 [.inr (13, i, t), .inl (.int x1)] M (none) res := by
  rw [fX8_pluck] at h
  refine TF.go (n := 0) (ls := [some (.inr (13, i, t)), some (.inl (.int x1))]) rfl rfl rfl rfl rfl ?_
  refine z_aload_n (i := 0) dX8_pluck_0 rfl rfl ?_
  refine z_dup dX8_pluck_1 rfl ?_
  refine z_getI (x := (M.1 (13, i, t) 4)) dX8_pluck_2 fl_X8_27 (m13 _ hi _ ht) rfl rfl ?_
  refine z_iload_n (i := 1) dX8_pluck_5 rfl rfl ?_
  refine z_iadd dX8_pluck_6 ?_
  refine z_putI allR_nd dX8_pluck_7 fl_X8_27 (m13 _ hi _ ht) rfl rfl ?_
  refine z_aload_n (i := 0) dX8_pluck_10 rfl rfl ?_
  refine z_iconst (v := (0 : Int32)) dX8_pluck_11 kc_0 ?_
  refine z_putI allR_nd dX8_pluck_12 fl_X8_30 (m13 _ hi _ ht) rfl rfl ?_
  subst h
  exact z_vret dX8_pluck_15 rfl (Nat.le_refl _) (Nat.le_refl _) ⟨rfl, rfl⟩
theorem sX8_pluck (M : Mm) (i : Nat) (t : Nat) (x1 : Int32) (hi : i < 12) (ht : t < 12) : TF yX8_pluck cX8_pluck 2 none 0 [.inr (13, i, t), .inl (.int x1)] M (none) (fX8_pluck M i t x1) := tX8_pluck M i t x1 hi ht rfl
theorem dJ9_min_7cf53_0 : decode cJ9_min_7cf53 0 = .ok (.iload_n 0, 1) := by decide +kernel
theorem dJ9_min_7cf53_1 : decode cJ9_min_7cf53 1 = .ok (.iload_n 1, 1) := by decide +kernel
theorem dJ9_min_7cf53_2 : decode cJ9_min_7cf53 2 = .ok (.if_icmp .gt 7, 3) := by decide +kernel
theorem dJ9_min_7cf53_5 : decode cJ9_min_7cf53 5 = .ok (.iload_n 0, 1) := by decide +kernel
theorem dJ9_min_7cf53_6 : decode cJ9_min_7cf53 6 = .ok (.goto 4, 3) := by decide +kernel
theorem dJ9_min_7cf53_9 : decode cJ9_min_7cf53 9 = .ok (.iload_n 1, 1) := by decide +kernel
theorem dJ9_min_7cf53_10 : decode cJ9_min_7cf53 10 = .ok (.ireturn, 1) := by decide +kernel
def fJ9_min_7cf53 (M : Mm) (x1 : Int32) (x2 : Int32) : Int32 := if x2 < x1 then x2 else x1
set_option maxRecDepth 20000 in
set_option maxHeartbeats 2000000 in
theorem tJ9_min_7cf53 (M : Mm) (x1 : Int32) (x2 : Int32) {res : Int32} (h : fJ9_min_7cf53 M x1 x2 = res) : TF yJ9_min_7cf53 cJ9_min_7cf53 2 (some .int) 0 [.inl (.int x1), .inl (.int x2)] M (some (.int res)) M := by
  rw [fJ9_min_7cf53] at h
  refine TF.go (n := 0) (ls := [some (.inl (.int x1)), some (.inl (.int x2))]) (by decide +kernel) rfl rfl rfl rfl ?_
  refine z_iload_n (i := 0) dJ9_min_7cf53_0 rfl rfl ?_
  refine z_iload_n (i := 1) dJ9_min_7cf53_1 rfl rfl ?_
  refine z_icmp_gt (tgt := 9) dJ9_min_7cf53_2 rfl (fun hc1 => ?_) (fun hc1 => ?_)
  · have h := it_t h hc1
    refine z_iload_n (i := 1) dJ9_min_7cf53_9 rfl rfl ?_
    subst h
    exact z_iret dJ9_min_7cf53_10 rfl rfl (Nat.le_refl _) (Nat.le_refl _) ⟨rfl, rfl⟩
  · have h := it_f h hc1
    refine z_iload_n (i := 0) dJ9_min_7cf53_5 rfl rfl ?_
    refine z_goto (tgt := 10) dJ9_min_7cf53_6 rfl ?_
    subst h
    exact z_iret dJ9_min_7cf53_10 rfl rfl (Nat.le_refl _) (Nat.le_refl _) ⟨rfl, rfl⟩
theorem sJ9_min_7cf53 (M : Mm) (x1 : Int32) (x2 : Int32) : TF yJ9_min_7cf53 cJ9_min_7cf53 2 (some .int) 0 [.inl (.int x1), .inl (.int x2)] M (some (.int (fJ9_min_7cf53 M x1 x2))) M := tJ9_min_7cf53 M x1 x2  rfl
theorem dX8_passStep_0 : decode cX8_passStep 0 = .ok (.aload_n 0, 1) := by decide +kernel
theorem dX8_passStep_1 : decode cX8_passStep 1 = .ok (.bipush 99, 2) := by decide +kernel
theorem dX8_passStep_3 : decode cX8_passStep 3 = .ok (.aload_n 0, 1) := by decide +kernel
theorem dX8_passStep_4 : decode cX8_passStep 4 = .ok (.getfield 30, 3) := by decide +kernel
theorem dX8_passStep_7 : decode cX8_passStep 7 = .ok (.iconst 1, 1) := by decide +kernel
theorem dX8_passStep_8 : decode cX8_passStep 8 = .ok (.iadd, 1) := by decide +kernel
theorem dX8_passStep_9 : decode cX8_passStep 9 = .ok (.invokestatic 33, 3) := by decide +kernel
theorem dX8_passStep_12 : decode cX8_passStep 12 = .ok (.putfield 30, 3) := by decide +kernel
theorem dX8_passStep_15 : decode cX8_passStep 15 = .ok (.return_, 1) := by decide +kernel
def fX8_passStep (M : Mm) (i : Nat) (t : Nat) : Mm := (putI M (13, i, t) 5 (fJ9_min_7cf53 M (99 : Int32) ((M.1 (13, i, t) 5) + (1 : Int32))))
set_option maxRecDepth 20000 in
set_option maxHeartbeats 2000000 in
theorem tX8_passStep (M : Mm) (i : Nat) (t : Nat) (hi : i < 12) (ht : t < 12) {res : Mm} (h : fX8_passStep M i t = res) : TF yX8_passStep cX8_passStep 1 none 1 [.inr (13, i, t)] M (none) res := by
  rw [fX8_passStep] at h
  refine TF.go (n := 0) (ls := [some (.inr (13, i, t))]) rfl rfl rfl rfl rfl ?_
  refine z_aload_n (i := 0) dX8_passStep_0 rfl rfl ?_
  refine z_bipush (v := (99 : Int32)) dX8_passStep_1 kb_99 ?_
  refine z_aload_n (i := 0) dX8_passStep_3 rfl rfl ?_
  refine z_getI (x := (M.1 (13, i, t) 5)) dX8_passStep_4 fl_X8_30 (m13 _ hi _ ht) rfl rfl ?_
  refine z_iconst (v := (1 : Int32)) dX8_passStep_7 kc_1 ?_
  refine z_iadd dX8_passStep_8 ?_
  refine z_fSi (sJ9_min_7cf53 M (99 : Int32) ((M.1 (13, i, t) 5) + (1 : Int32))) dX8_passStep_9 ml_X8_33 cd_J9_min_7cf53 rfl rfl rfl rfl rfl ?_
  refine z_putI allR_nd dX8_passStep_12 fl_X8_30 (m13 _ hi _ ht) rfl rfl ?_
  subst h
  exact z_vret dX8_passStep_15 rfl (Nat.le_refl _) (Nat.le_refl _) ⟨rfl, rfl⟩
theorem sX8_passStep (M : Mm) (i : Nat) (t : Nat) (hi : i < 12) (ht : t < 12) : TF yX8_passStep cX8_passStep 1 none 1 [.inr (13, i, t)] M (none) (fX8_passStep M i t) := tX8_passStep M i t hi ht rfl
theorem dX3_goOn_0 : decode cX3_goOn 0 = .ok (.aload_n 0, 1) := by decide +kernel
theorem dX3_goOn_1 : decode cX3_goOn 1 = .ok (.dup, 1) := by decide +kernel
theorem dX3_goOn_2 : decode cX3_goOn 2 = .ok (.getfield 19, 3) := by decide +kernel
theorem dX3_goOn_5 : decode cX3_goOn 5 = .ok (.iconst 1, 1) := by decide +kernel
theorem dX3_goOn_6 : decode cX3_goOn 6 = .ok (.iadd, 1) := by decide +kernel
theorem dX3_goOn_7 : decode cX3_goOn 7 = .ok (.putfield 19, 3) := by decide +kernel
theorem dX3_goOn_10 : decode cX3_goOn 10 = .ok (.aload_n 0, 1) := by decide +kernel
theorem dX3_goOn_11 : decode cX3_goOn 11 = .ok (.getfield 19, 3) := by decide +kernel
theorem dX3_goOn_14 : decode cX3_goOn 14 = .ok (.aload_n 0, 1) := by decide +kernel
theorem dX3_goOn_15 : decode cX3_goOn 15 = .ok (.getfield 15, 3) := by decide +kernel
theorem dX3_goOn_18 : decode cX3_goOn 18 = .ok (.if_icmp .ge 5, 3) := by decide +kernel
theorem dX3_goOn_21 : decode cX3_goOn 21 = .ok (.iconst 0, 1) := by decide +kernel
theorem dX3_goOn_22 : decode cX3_goOn 22 = .ok (.ireturn, 1) := by decide +kernel
theorem dX3_goOn_23 : decode cX3_goOn 23 = .ok (.aload_n 0, 1) := by decide +kernel
theorem dX3_goOn_24 : decode cX3_goOn 24 = .ok (.iconst 0, 1) := by decide +kernel
theorem dX3_goOn_25 : decode cX3_goOn 25 = .ok (.putfield 19, 3) := by decide +kernel
theorem dX3_goOn_28 : decode cX3_goOn 28 = .ok (.iconst 1, 1) := by decide +kernel
theorem dX3_goOn_29 : decode cX3_goOn 29 = .ok (.ireturn, 1) := by decide +kernel
def fX3_goOn (M : Mm) (i : Nat) : Option (Int32 × Mm) := if (M.1 (10, i, 0) 1) ≤ ((M.1 (10, i, 0) 2) + (1 : Int32)) then some ((1 : Int32), (putI (putI M (10, i, 0) 2 ((M.1 (10, i, 0) 2) + (1 : Int32))) (10, i, 0) 2 (0 : Int32))) else some ((0 : Int32), (putI M (10, i, 0) 2 ((M.1 (10, i, 0) 2) + (1 : Int32))))
set_option maxRecDepth 20000 in
set_option maxHeartbeats 2000000 in
theorem sX3_goOn (M : Mm) (i : Nat) (hi : i < 12) {res : (Int32 × Mm)} (h : fX3_goOn M i = some res) : TF yX3_goOn cX3_goOn 1 (some .boolean) 0 [.inr (10, i, 0)] M (some (.int res.1)) res.2 := by
  rw [fX3_goOn] at h
  refine TF.go (n := 0) (ls := [some (.inr (10, i, 0))]) rfl rfl rfl rfl rfl ?_
  refine z_aload_n (i := 0) dX3_goOn_0 rfl rfl ?_
  refine z_dup dX3_goOn_1 rfl ?_
  refine z_getI (x := (M.1 (10, i, 0) 2)) dX3_goOn_2 fl_X3_19 (m10 _ hi) rfl rfl ?_
  refine z_iconst (v := (1 : Int32)) dX3_goOn_5 kc_1 ?_
  refine z_iadd dX3_goOn_6 ?_
  refine z_putI allR_nd dX3_goOn_7 fl_X3_19 (m10 _ hi) rfl rfl ?_
  refine z_aload_n (i := 0) dX3_goOn_10 rfl rfl ?_
  refine z_getI (x := ((M.1 (10, i, 0) 2) + (1 : Int32))) dX3_goOn_11 fl_X3_19 (m10 _ hi) rfl (gp1 (M := M) (r := (10, i, 0)) (j := 2) (v := ((M.1 (10, i, 0) 2) + (1 : Int32)))) ?_
  refine z_aload_n (i := 0) dX3_goOn_14 rfl rfl ?_
  refine z_getI (x := (M.1 (10, i, 0) 1)) dX3_goOn_15 fl_X3_15 (m10 _ hi) rfl rfl ?_
  refine z_icmp_ge (tgt := 23) dX3_goOn_18 rfl (fun hc1 => ?_) (fun hc1 => ?_)
  · have h := it_t h hc1
    refine z_aload_n (i := 0) dX3_goOn_23 rfl rfl ?_
    refine z_iconst (v := (0 : Int32)) dX3_goOn_24 kc_0 ?_
    refine z_putI allR_nd dX3_goOn_25 fl_X3_19 (m10 _ hi) rfl rfl ?_
    refine z_iconst (v := (1 : Int32)) dX3_goOn_28 kc_1 ?_
    cases h
    exact z_iret dX3_goOn_29 rfl rfl (Nat.le_refl _) (Nat.le_refl _) ⟨rfl, rfl⟩
  · have h := it_f h hc1
    refine z_iconst (v := (0 : Int32)) dX3_goOn_21 kc_0 ?_
    cases h
    exact z_iret dX3_goOn_22 rfl rfl (Nat.le_refl _) (Nat.le_refl _) ⟨rfl, rfl⟩
theorem dX0_playStep_0 : decode cX0_playStep 0 = .ok (.iconst 0, 1) := by decide +kernel
theorem dX0_playStep_1 : decode cX0_playStep 1 = .ok (.istore_n 1, 1) := by decide +kernel
theorem dX0_playStep_2 : decode cX0_playStep 2 = .ok (.iload_n 1, 1) := by decide +kernel
theorem dX0_playStep_3 : decode cX0_playStep 3 = .ok (.aload_n 0, 1) := by decide +kernel
theorem dX0_playStep_4 : decode cX0_playStep 4 = .ok (.getfield 29, 3) := by decide +kernel
theorem dX0_playStep_7 : decode cX0_playStep 7 = .ok (.if_icmp .ge 68, 3) := by decide +kernel
theorem dX0_playStep_10 : decode cX0_playStep 10 = .ok (.aload_n 0, 1) := by decide +kernel
theorem dX0_playStep_11 : decode cX0_playStep 11 = .ok (.iload_n 1, 1) := by decide +kernel
theorem dX0_playStep_12 : decode cX0_playStep 12 = .ok (.invokevirtual 114, 3) := by decide +kernel
theorem dX0_playStep_15 : decode cX0_playStep 15 = .ok (.istore_n 2, 1) := by decide +kernel
theorem dX0_playStep_16 : decode cX0_playStep 16 = .ok (.iload_n 2, 1) := by decide +kernel
theorem dX0_playStep_17 : decode cX0_playStep 17 = .ok (.iconst 2, 1) := by decide +kernel
theorem dX0_playStep_18 : decode cX0_playStep 18 = .ok (.if_icmp .ne 26, 3) := by decide +kernel
theorem dX0_playStep_21 : decode cX0_playStep 21 = .ok (.aload_n 0, 1) := by decide +kernel
theorem dX0_playStep_22 : decode cX0_playStep 22 = .ok (.dup, 1) := by decide +kernel
theorem dX0_playStep_23 : decode cX0_playStep 23 = .ok (.getfield 39, 3) := by decide +kernel
theorem dX0_playStep_26 : decode cX0_playStep 26 = .ok (.iconst 1, 1) := by decide +kernel
theorem dX0_playStep_27 : decode cX0_playStep 27 = .ok (.iadd, 1) := by decide +kernel
theorem dX0_playStep_28 : decode cX0_playStep 28 = .ok (.putfield 39, 3) := by decide +kernel
theorem dX0_playStep_31 : decode cX0_playStep 31 = .ok (.aload_n 0, 1) := by decide +kernel
theorem dX0_playStep_32 : decode cX0_playStep 32 = .ok (.getfield 20, 3) := by decide +kernel
theorem dX0_playStep_35 : decode cX0_playStep 35 = .ok (.iload_n 1, 1) := by decide +kernel
theorem dX0_playStep_36 : decode cX0_playStep 36 = .ok (.aaload, 1) := by decide +kernel
theorem dX0_playStep_37 : decode cX0_playStep 37 = .ok (.iconst 1, 1) := by decide +kernel
theorem dX0_playStep_38 : decode cX0_playStep 38 = .ok (.invokevirtual 117, 3) := by decide +kernel
theorem dX0_playStep_41 : decode cX0_playStep 41 = .ok (.goto 28, 3) := by decide +kernel
theorem dX0_playStep_44 : decode cX0_playStep 44 = .ok (.iload_n 2, 1) := by decide +kernel
theorem dX0_playStep_45 : decode cX0_playStep 45 = .ok (.iconst 3, 1) := by decide +kernel
theorem dX0_playStep_46 : decode cX0_playStep 46 = .ok (.if_icmp .ne 23, 3) := by decide +kernel
theorem dX0_playStep_49 : decode cX0_playStep 49 = .ok (.aload_n 0, 1) := by decide +kernel
theorem dX0_playStep_50 : decode cX0_playStep 50 = .ok (.dup, 1) := by decide +kernel
theorem dX0_playStep_51 : decode cX0_playStep 51 = .ok (.getfield 42, 3) := by decide +kernel
theorem dX0_playStep_54 : decode cX0_playStep 54 = .ok (.iconst 1, 1) := by decide +kernel
theorem dX0_playStep_55 : decode cX0_playStep 55 = .ok (.iadd, 1) := by decide +kernel
theorem dX0_playStep_56 : decode cX0_playStep 56 = .ok (.putfield 42, 3) := by decide +kernel
theorem dX0_playStep_59 : decode cX0_playStep 59 = .ok (.aload_n 0, 1) := by decide +kernel
theorem dX0_playStep_60 : decode cX0_playStep 60 = .ok (.getfield 20, 3) := by decide +kernel
theorem dX0_playStep_63 : decode cX0_playStep 63 = .ok (.iload_n 1, 1) := by decide +kernel
theorem dX0_playStep_64 : decode cX0_playStep 64 = .ok (.aaload, 1) := by decide +kernel
theorem dX0_playStep_65 : decode cX0_playStep 65 = .ok (.iconst 5, 1) := by decide +kernel
theorem dX0_playStep_66 : decode cX0_playStep 66 = .ok (.invokevirtual 117, 3) := by decide +kernel
theorem dX0_playStep_69 : decode cX0_playStep 69 = .ok (.iinc 1 1, 3) := by decide +kernel
theorem dX0_playStep_72 : decode cX0_playStep 72 = .ok (.goto (-70), 3) := by decide +kernel
theorem dX0_playStep_75 : decode cX0_playStep 75 = .ok (.iconst 0, 1) := by decide +kernel
theorem dX0_playStep_76 : decode cX0_playStep 76 = .ok (.istore_n 1, 1) := by decide +kernel
theorem dX0_playStep_77 : decode cX0_playStep 77 = .ok (.iload_n 1, 1) := by decide +kernel
theorem dX0_playStep_78 : decode cX0_playStep 78 = .ok (.aload_n 0, 1) := by decide +kernel
theorem dX0_playStep_79 : decode cX0_playStep 79 = .ok (.getfield 29, 3) := by decide +kernel
theorem dX0_playStep_82 : decode cX0_playStep 82 = .ok (.if_icmp .ge 18, 3) := by decide +kernel
theorem dX0_playStep_85 : decode cX0_playStep 85 = .ok (.aload_n 0, 1) := by decide +kernel
theorem dX0_playStep_86 : decode cX0_playStep 86 = .ok (.getfield 20, 3) := by decide +kernel
theorem dX0_playStep_89 : decode cX0_playStep 89 = .ok (.iload_n 1, 1) := by decide +kernel
theorem dX0_playStep_90 : decode cX0_playStep 90 = .ok (.aaload, 1) := by decide +kernel
theorem dX0_playStep_91 : decode cX0_playStep 91 = .ok (.invokevirtual 120, 3) := by decide +kernel
theorem dX0_playStep_94 : decode cX0_playStep 94 = .ok (.iinc 1 1, 3) := by decide +kernel
theorem dX0_playStep_97 : decode cX0_playStep 97 = .ok (.goto (-20), 3) := by decide +kernel
theorem dX0_playStep_100 : decode cX0_playStep 100 = .ok (.aload_n 0, 1) := by decide +kernel
theorem dX0_playStep_101 : decode cX0_playStep 101 = .ok (.getfield 12, 3) := by decide +kernel
theorem dX0_playStep_104 : decode cX0_playStep 104 = .ok (.invokevirtual 123, 3) := by decide +kernel
theorem dX0_playStep_107 : decode cX0_playStep 107 = .ok (.ifCond .eq 13, 3) := by decide +kernel
theorem dX0_playStep_110 : decode cX0_playStep 110 = .ok (.aload_n 0, 1) := by decide +kernel
theorem dX0_playStep_111 : decode cX0_playStep 111 = .ok (.dup, 1) := by decide +kernel
theorem dX0_playStep_112 : decode cX0_playStep 112 = .ok (.getfield 33, 3) := by decide +kernel
theorem dX0_playStep_115 : decode cX0_playStep 115 = .ok (.iconst 1, 1) := by decide +kernel
theorem dX0_playStep_116 : decode cX0_playStep 116 = .ok (.isub, 1) := by decide +kernel
theorem dX0_playStep_117 : decode cX0_playStep 117 = .ok (.putfield 33, 3) := by decide +kernel
theorem dX0_playStep_120 : decode cX0_playStep 120 = .ok (.aload_n 0, 1) := by decide +kernel
theorem dX0_playStep_121 : decode cX0_playStep 121 = .ok (.dup, 1) := by decide +kernel
theorem dX0_playStep_122 : decode cX0_playStep 122 = .ok (.getfield 45, 3) := by decide +kernel
theorem dX0_playStep_125 : decode cX0_playStep 125 = .ok (.iconst 1, 1) := by decide +kernel
theorem dX0_playStep_126 : decode cX0_playStep 126 = .ok (.iadd, 1) := by decide +kernel
theorem dX0_playStep_127 : decode cX0_playStep 127 = .ok (.putfield 45, 3) := by decide +kernel
theorem dX0_playStep_130 : decode cX0_playStep 130 = .ok (.return_, 1) := by decide +kernel
def fX0_playStep_L2 (i : Nat) (K : Int32 → Mm → Option Mm) : Nat → Int32 → Mm → Option Mm
  | 0, _, _ => none
  | n + 1, v1, M => if (M.1 (9, i, 0) 2) ≤ v1 then K v1 M else (fX0_soundOf M i v1).bind fun q2 => if q2 = (2 : Int32) then (if v1 < 0 ∨ 12 ≤ v1.toNatClampNeg then none else fX0_playStep_L2 i K n (v1 + (1 : Int32)) (fX8_pluck (putI M (9, i, 0) 5 ((M.1 (9, i, 0) 5) + (1 : Int32))) i v1.toNatClampNeg (1 : Int32))) else if q2 = (3 : Int32) then (if v1 < 0 ∨ 12 ≤ v1.toNatClampNeg then none else fX0_playStep_L2 i K n (v1 + (1 : Int32)) (fX8_pluck (putI M (9, i, 0) 6 ((M.1 (9, i, 0) 6) + (1 : Int32))) i v1.toNatClampNeg (5 : Int32))) else fX0_playStep_L2 i K n (v1 + (1 : Int32)) M
def fX0_playStep_L77 (i : Nat) (K : Int32 → Mm → Option Mm) : Nat → Int32 → Mm → Option Mm
  | 0, _, _ => none
  | n + 1, v1, M => if (M.1 (9, i, 0) 2) ≤ v1 then K v1 M else if v1 < 0 ∨ 12 ≤ v1.toNatClampNeg then none else fX0_playStep_L77 i K n (v1 + (1 : Int32)) (fX8_passStep M i v1.toNatClampNeg)
def fX0_playStep (M : Mm) (i : Nat) : Option Mm := fX0_playStep_L2 i (fun w8 M9 => fX0_playStep_L77 i (fun w12 M13 => (fX3_goOn M13 i).bind fun q14 => if q14.1 = 0 then some (putI q14.2 (9, i, 0) 7 ((q14.2.1 (9, i, 0) 7) + (1 : Int32))) else some (putI (putI q14.2 (9, i, 0) 3 ((q14.2.1 (9, i, 0) 3) - (1 : Int32))) (9, i, 0) 7 ((q14.2.1 (9, i, 0) 7) + (1 : Int32)))) NF (0 : Int32) M9) NF (0 : Int32) M
set_option maxRecDepth 20000 in
set_option maxHeartbeats 2000000 in
theorem sX0_playStep_L2 (i : Nat) (hi : i < 12) {res : Mm} {K : Int32 → Mm → Option Mm} : ∀ (n : Nat) (v1 : Int32) (M : Mm), fX0_playStep_L2 i K n v1 M = some res →
    (∀ (v1 : Int32) (M : Mm), K v1 M = some res → Z RX0 cX0_playStep 3 none [] "playStep" (rmD 2 0 0) (QM SH allR 0 0 (fun v M9 => v = none ∧ M9 = res) (fun _ _ => False)) allR SH 0 0 75 [some (.inr (9, i, 0)), some (.inl (.int v1)), none] [] M) → Z RX0 cX0_playStep 3 none [] "playStep" (rmD 2 0 0) (QM SH allR 0 0 (fun v M9 => v = none ∧ M9 = res) (fun _ _ => False)) allR SH 0 0 2 [some (.inr (9, i, 0)), some (.inl (.int v1)), none] [] M := by
  intro n
  induction n with
  | zero => intro v1 M h; cases h
  | succ n ih =>
    intro v1 M h hK
    rw [fX0_playStep_L2] at h
    refine z_iload_n (i := 1) dX0_playStep_2 rfl rfl ?_
    refine z_aload_n (i := 0) dX0_playStep_3 rfl rfl ?_
    refine z_getI (x := (M.1 (9, i, 0) 2)) dX0_playStep_4 fl_X0_29 (m9 _ hi) rfl rfl ?_
    refine z_icmp_ge (tgt := 75) dX0_playStep_7 rfl (fun hc1 => ?_) (fun hc1 => ?_)
    · have h := it_t h hc1
      exact hK _ _ h
    · have h := it_f h hc1
      refine z_aload_n (i := 0) dX0_playStep_10 rfl rfl ?_
      refine z_iload_n (i := 1) dX0_playStep_11 rfl rfl ?_
      obtain ⟨q2, hq3, h⟩ := bnd h
      refine z_fVi (sX0_soundOf M i v1 hi hq3) dX0_playStep_12 ml_X0_114 cd_X0_soundOf (m9 _ hi) rfl rfl rfl rfl rfl rfl ?_
      refine z_istore_n (i := 2) dX0_playStep_15 rfl (Nat.le_of_ble_eq_true rfl) rfl ?_
      refine z_iload_n (i := 2) dX0_playStep_16 rfl rfl ?_
      refine z_iconst (v := (2 : Int32)) dX0_playStep_17 kc_2 ?_
      refine z_icmp_ne (tgt := 44) dX0_playStep_18 rfl (fun hc4 => ?_) (fun hc4 => ?_)
      · have h := it_f h hc4
        refine z_iload_n (i := 2) dX0_playStep_44 rfl rfl ?_
        refine z_iconst (v := (3 : Int32)) dX0_playStep_45 kc_3 ?_
        refine z_icmp_ne (tgt := 69) dX0_playStep_46 rfl (fun hc5 => ?_) (fun hc5 => ?_)
        · have h := it_f h hc5
          refine z_iinc (i := 1) (v := (v1 + (1 : Int32))) dX0_playStep_69 rfl (iinc_k kc_1) (Nat.le_of_ble_eq_true rfl) rfl ?_
          refine z_goto (tgt := 2) dX0_playStep_72 rfl ?_
          exact ih _ _ h hK
        · have h := it_t h hc5
          refine z_aload_n (i := 0) dX0_playStep_49 rfl rfl ?_
          refine z_dup dX0_playStep_50 rfl ?_
          refine z_getI (x := (M.1 (9, i, 0) 6)) dX0_playStep_51 fl_X0_42 (m9 _ hi) rfl rfl ?_
          refine z_iconst (v := (1 : Int32)) dX0_playStep_54 kc_1 ?_
          refine z_iadd dX0_playStep_55 ?_
          refine z_putI allR_nd dX0_playStep_56 fl_X0_42 (m9 _ hi) rfl rfl ?_
          refine z_aload_n (i := 0) dX0_playStep_59 rfl rfl ?_
          refine z_getR (r' := (12, i, 0)) dX0_playStep_60 fl_X0_20 (m9 _ hi) rfl rfl ?_
          refine z_iload_n (i := 1) dX0_playStep_63 rfl rfl ?_
          obtain ⟨hc6, h⟩ := chk h
          refine z_aald (t := 0) (r' := (13, i, v1.toNatClampNeg)) dX0_playStep_64 (m12 _ hi) rfl (Nat.le_of_ble_eq_true rfl) hc6 rfl ?_
          refine z_iconst (v := (5 : Int32)) dX0_playStep_65 kc_5 ?_
          refine z_fVv (sX8_pluck (putI M (9, i, 0) 6 ((M.1 (9, i, 0) 6) + (1 : Int32))) i v1.toNatClampNeg (5 : Int32) hi (ltN hc6)) dX0_playStep_66 ml_X0_117 cd_X8_pluck (m13 _ hi _ (ltN hc6)) rfl rfl rfl rfl rfl rfl ?_
          refine z_iinc (i := 1) (v := (v1 + (1 : Int32))) dX0_playStep_69 rfl (iinc_k kc_1) (Nat.le_of_ble_eq_true rfl) rfl ?_
          refine z_goto (tgt := 2) dX0_playStep_72 rfl ?_
          exact ih _ _ h hK
      · have h := it_t h hc4
        refine z_aload_n (i := 0) dX0_playStep_21 rfl rfl ?_
        refine z_dup dX0_playStep_22 rfl ?_
        refine z_getI (x := (M.1 (9, i, 0) 5)) dX0_playStep_23 fl_X0_39 (m9 _ hi) rfl rfl ?_
        refine z_iconst (v := (1 : Int32)) dX0_playStep_26 kc_1 ?_
        refine z_iadd dX0_playStep_27 ?_
        refine z_putI allR_nd dX0_playStep_28 fl_X0_39 (m9 _ hi) rfl rfl ?_
        refine z_aload_n (i := 0) dX0_playStep_31 rfl rfl ?_
        refine z_getR (r' := (12, i, 0)) dX0_playStep_32 fl_X0_20 (m9 _ hi) rfl rfl ?_
        refine z_iload_n (i := 1) dX0_playStep_35 rfl rfl ?_
        obtain ⟨hc7, h⟩ := chk h
        refine z_aald (t := 0) (r' := (13, i, v1.toNatClampNeg)) dX0_playStep_36 (m12 _ hi) rfl (Nat.le_of_ble_eq_true rfl) hc7 rfl ?_
        refine z_iconst (v := (1 : Int32)) dX0_playStep_37 kc_1 ?_
        refine z_fVv (sX8_pluck (putI M (9, i, 0) 5 ((M.1 (9, i, 0) 5) + (1 : Int32))) i v1.toNatClampNeg (1 : Int32) hi (ltN hc7)) dX0_playStep_38 ml_X0_117 cd_X8_pluck (m13 _ hi _ (ltN hc7)) rfl rfl rfl rfl rfl rfl ?_
        refine z_goto (tgt := 69) dX0_playStep_41 rfl ?_
        refine z_iinc (i := 1) (v := (v1 + (1 : Int32))) dX0_playStep_69 rfl (iinc_k kc_1) (Nat.le_of_ble_eq_true rfl) rfl ?_
        refine z_goto (tgt := 2) dX0_playStep_72 rfl ?_
        exact ih _ _ h hK
set_option maxRecDepth 20000 in
set_option maxHeartbeats 2000000 in
theorem sX0_playStep_L77 (i : Nat) (hi : i < 12) {res : Mm} {K : Int32 → Mm → Option Mm} : ∀ (n : Nat) (v1 : Int32) (M : Mm), fX0_playStep_L77 i K n v1 M = some res →
    (∀ (v1 : Int32) (M : Mm), K v1 M = some res → Z RX0 cX0_playStep 3 none [] "playStep" (rmD 2 0 0) (QM SH allR 0 0 (fun v M9 => v = none ∧ M9 = res) (fun _ _ => False)) allR SH 0 0 100 [some (.inr (9, i, 0)), some (.inl (.int v1)), none] [] M) → Z RX0 cX0_playStep 3 none [] "playStep" (rmD 2 0 0) (QM SH allR 0 0 (fun v M9 => v = none ∧ M9 = res) (fun _ _ => False)) allR SH 0 0 77 [some (.inr (9, i, 0)), some (.inl (.int v1)), none] [] M := by
  intro n
  induction n with
  | zero => intro v1 M h; cases h
  | succ n ih =>
    intro v1 M h hK
    rw [fX0_playStep_L77] at h
    refine z_iload_n (i := 1) dX0_playStep_77 rfl rfl ?_
    refine z_aload_n (i := 0) dX0_playStep_78 rfl rfl ?_
    refine z_getI (x := (M.1 (9, i, 0) 2)) dX0_playStep_79 fl_X0_29 (m9 _ hi) rfl rfl ?_
    refine z_icmp_ge (tgt := 100) dX0_playStep_82 rfl (fun hc10 => ?_) (fun hc10 => ?_)
    · have h := it_t h hc10
      exact hK _ _ h
    · have h := it_f h hc10
      refine z_aload_n (i := 0) dX0_playStep_85 rfl rfl ?_
      refine z_getR (r' := (12, i, 0)) dX0_playStep_86 fl_X0_20 (m9 _ hi) rfl rfl ?_
      refine z_iload_n (i := 1) dX0_playStep_89 rfl rfl ?_
      obtain ⟨hc11, h⟩ := chk h
      refine z_aald (t := 0) (r' := (13, i, v1.toNatClampNeg)) dX0_playStep_90 (m12 _ hi) rfl (Nat.le_of_ble_eq_true rfl) hc11 rfl ?_
      refine z_fVv (sX8_passStep M i v1.toNatClampNeg hi (ltN hc11)) dX0_playStep_91 ml_X0_120 cd_X8_passStep (m13 _ hi _ (ltN hc11)) rfl rfl rfl rfl rfl rfl ?_
      refine z_iinc (i := 1) (v := (v1 + (1 : Int32))) dX0_playStep_94 rfl (iinc_k kc_1) (Nat.le_of_ble_eq_true rfl) rfl ?_
      refine z_goto (tgt := 77) dX0_playStep_97 rfl ?_
      exact ih _ _ h hK
set_option maxRecDepth 20000 in
set_option maxHeartbeats 2000000 in
theorem sX0_playStep (M : Mm) (i : Nat) (hi : i < 12) {res : Mm} (h : fX0_playStep M i = some res) : TF yX0_playStep cX0_playStep 3 none 2 [.inr (9, i, 0)] M (none) res := by
  rw [fX0_playStep] at h
  refine TF.go (n := 2) (ls := [some (.inr (9, i, 0)), none, none]) rfl rfl rfl rfl rfl ?_
  refine z_iconst (v := (0 : Int32)) dX0_playStep_0 kc_0 ?_
  refine z_istore_n (i := 1) dX0_playStep_1 rfl (Nat.le_of_ble_eq_true rfl) rfl ?_
  refine sX0_playStep_L2 i hi NF _ _ h (fun w8 M9 h => ?_)
  refine z_iconst (v := (0 : Int32)) dX0_playStep_75 kc_0 ?_
  refine z_istore_n (i := 1) dX0_playStep_76 rfl (Nat.le_of_ble_eq_true rfl) rfl ?_
  refine sX0_playStep_L77 i hi NF _ _ h (fun w12 M13 h => ?_)
  refine z_aload_n (i := 0) dX0_playStep_100 rfl rfl ?_
  refine z_getR (r' := (10, i, 0)) dX0_playStep_101 fl_X0_12 (m9 _ hi) rfl rfl ?_
  obtain ⟨q14, hq15, h⟩ := bnd h
  refine z_fVi (sX3_goOn M13 i hi hq15) dX0_playStep_104 ml_X0_123 cd_X3_goOn (m10 _ hi) rfl rfl rfl rfl rfl rfl ?_
  refine z_if_eq (tgt := 120) dX0_playStep_107 rfl (fun hc16 => ?_) (fun hc16 => ?_)
  · have h := it_t h hc16
    refine z_aload_n (i := 0) dX0_playStep_120 rfl rfl ?_
    refine z_dup dX0_playStep_121 rfl ?_
    refine z_getI (x := (q14.2.1 (9, i, 0) 7)) dX0_playStep_122 fl_X0_45 (m9 _ hi) rfl rfl ?_
    refine z_iconst (v := (1 : Int32)) dX0_playStep_125 kc_1 ?_
    refine z_iadd dX0_playStep_126 ?_
    refine z_putI allR_nd dX0_playStep_127 fl_X0_45 (m9 _ hi) rfl rfl ?_
    cases h
    exact z_vret dX0_playStep_130 rfl (Nat.le_refl _) (Nat.le_refl _) ⟨rfl, rfl⟩
  · have h := it_f h hc16
    refine z_aload_n (i := 0) dX0_playStep_110 rfl rfl ?_
    refine z_dup dX0_playStep_111 rfl ?_
    refine z_getI (x := (q14.2.1 (9, i, 0) 3)) dX0_playStep_112 fl_X0_33 (m9 _ hi) rfl rfl ?_
    refine z_iconst (v := (1 : Int32)) dX0_playStep_115 kc_1 ?_
    refine z_isub dX0_playStep_116 ?_
    refine z_putI allR_nd dX0_playStep_117 fl_X0_33 (m9 _ hi) rfl rfl ?_
    refine z_aload_n (i := 0) dX0_playStep_120 rfl rfl ?_
    refine z_dup dX0_playStep_121 rfl ?_
    refine z_getI (x := (q14.2.1 (9, i, 0) 7)) dX0_playStep_122 fl_X0_45 (m9 _ hi) rfl rfl ?_
    refine z_iconst (v := (1 : Int32)) dX0_playStep_125 kc_1 ?_
    refine z_iadd dX0_playStep_126 ?_
    refine z_putI allR_nd dX0_playStep_127 fl_X0_45 (m9 _ hi) rfl rfl ?_
    cases h
    exact z_vret dX0_playStep_130 rfl (Nat.le_refl _) (Nat.le_refl _) ⟨rfl, rfl⟩
theorem dX0_playSteps_0 : decode cX0_playSteps 0 = .ok (.iconst 0, 1) := by decide +kernel
theorem dX0_playSteps_1 : decode cX0_playSteps 1 = .ok (.istore_n 2, 1) := by decide +kernel
theorem dX0_playSteps_2 : decode cX0_playSteps 2 = .ok (.iload_n 2, 1) := by decide +kernel
theorem dX0_playSteps_3 : decode cX0_playSteps 3 = .ok (.iload_n 1, 1) := by decide +kernel
theorem dX0_playSteps_4 : decode cX0_playSteps 4 = .ok (.if_icmp .ge 20, 3) := by decide +kernel
theorem dX0_playSteps_7 : decode cX0_playSteps 7 = .ok (.aload_n 0, 1) := by decide +kernel
theorem dX0_playSteps_8 : decode cX0_playSteps 8 = .ok (.getfield 33, 3) := by decide +kernel
theorem dX0_playSteps_11 : decode cX0_playSteps 11 = .ok (.ifCond .le 13, 3) := by decide +kernel
theorem dX0_playSteps_14 : decode cX0_playSteps 14 = .ok (.aload_n 0, 1) := by decide +kernel
theorem dX0_playSteps_15 : decode cX0_playSteps 15 = .ok (.invokevirtual 111, 3) := by decide +kernel
theorem dX0_playSteps_18 : decode cX0_playSteps 18 = .ok (.iinc 2 1, 3) := by decide +kernel
theorem dX0_playSteps_21 : decode cX0_playSteps 21 = .ok (.goto (-19), 3) := by decide +kernel
theorem dX0_playSteps_24 : decode cX0_playSteps 24 = .ok (.iload_n 2, 1) := by decide +kernel
theorem dX0_playSteps_25 : decode cX0_playSteps 25 = .ok (.ireturn, 1) := by decide +kernel
def fX0_playSteps_L2 (i : Nat) (c1 : Int32) (K : Int32 → Mm → Option (Int32 × Mm)) : Nat → Int32 → Mm → Option (Int32 × Mm)
  | 0, _, _ => none
  | n + 1, v2, M => if c1 ≤ v2 then K v2 M else if (M.1 (9, i, 0) 3) ≤ 0 then K v2 M else (fX0_playStep M i).bind fun q3 => fX0_playSteps_L2 i c1 K n (v2 + (1 : Int32)) q3
def fX0_playSteps (M : Mm) (i : Nat) (x1 : Int32) : Option (Int32 × Mm) := fX0_playSteps_L2 i x1 (fun w5 M6 => some (w5, M6)) NF (0 : Int32) M
set_option maxRecDepth 20000 in
set_option maxHeartbeats 2000000 in
theorem sX0_playSteps_L2 (i : Nat) (c1 : Int32) (hi : i < 12) {res : (Int32 × Mm)} {K : Int32 → Mm → Option (Int32 × Mm)} : ∀ (n : Nat) (v2 : Int32) (M : Mm), fX0_playSteps_L2 i c1 K n v2 M = some res →
    (∀ (v2 : Int32) (M : Mm), K v2 M = some res → Z RX0 cX0_playSteps 3 (some .int) [] "playSteps" (rmD 3 0 0) (QM SH allR 0 0 (fun v M9 => v = some (.int res.1) ∧ M9 = res.2) (fun _ _ => False)) allR SH 0 0 24 [some (.inr (9, i, 0)), some (.inl (.int c1)), some (.inl (.int v2))] [] M) → Z RX0 cX0_playSteps 3 (some .int) [] "playSteps" (rmD 3 0 0) (QM SH allR 0 0 (fun v M9 => v = some (.int res.1) ∧ M9 = res.2) (fun _ _ => False)) allR SH 0 0 2 [some (.inr (9, i, 0)), some (.inl (.int c1)), some (.inl (.int v2))] [] M := by
  intro n
  induction n with
  | zero => intro v2 M h; cases h
  | succ n ih =>
    intro v2 M h hK
    rw [fX0_playSteps_L2] at h
    refine z_iload_n (i := 2) dX0_playSteps_2 rfl rfl ?_
    refine z_iload_n (i := 1) dX0_playSteps_3 rfl rfl ?_
    refine z_icmp_ge (tgt := 24) dX0_playSteps_4 rfl (fun hc1 => ?_) (fun hc1 => ?_)
    · have h := it_t h hc1
      exact hK _ _ h
    · have h := it_f h hc1
      refine z_aload_n (i := 0) dX0_playSteps_7 rfl rfl ?_
      refine z_getI (x := (M.1 (9, i, 0) 3)) dX0_playSteps_8 fl_X0_33 (m9 _ hi) rfl rfl ?_
      refine z_if_le (tgt := 24) dX0_playSteps_11 rfl (fun hc2 => ?_) (fun hc2 => ?_)
      · have h := it_t h hc2
        exact hK _ _ h
      · have h := it_f h hc2
        refine z_aload_n (i := 0) dX0_playSteps_14 rfl rfl ?_
        obtain ⟨q3, hq4, h⟩ := bnd h
        refine z_fVv (sX0_playStep M i hi hq4) dX0_playSteps_15 ml_X0_111 cd_X0_playStep (m9 _ hi) rfl rfl rfl rfl rfl rfl ?_
        refine z_iinc (i := 2) (v := (v2 + (1 : Int32))) dX0_playSteps_18 rfl (iinc_k kc_1) (Nat.le_of_ble_eq_true rfl) rfl ?_
        refine z_goto (tgt := 2) dX0_playSteps_21 rfl ?_
        exact ih _ _ h hK
set_option maxRecDepth 20000 in
set_option maxHeartbeats 2000000 in
theorem sX0_playSteps (M : Mm) (i : Nat) (x1 : Int32) (hi : i < 12) {res : (Int32 × Mm)} (h : fX0_playSteps M i x1 = some res) : TF yX0_playSteps cX0_playSteps 3 (some .int) 3 [.inr (9, i, 0), .inl (.int x1)] M (some (.int res.1)) res.2 := by
  rw [fX0_playSteps] at h
  refine TF.go (n := 1) (ls := [some (.inr (9, i, 0)), some (.inl (.int x1)), none]) rfl rfl rfl rfl rfl ?_
  refine z_iconst (v := (0 : Int32)) dX0_playSteps_0 kc_0 ?_
  refine z_istore_n (i := 2) dX0_playSteps_1 rfl (Nat.le_of_ble_eq_true rfl) rfl ?_
  refine sX0_playSteps_L2 i x1 hi NF _ _ h (fun w5 M6 h => ?_)
  refine z_iload_n (i := 2) dX0_playSteps_24 rfl rfl ?_
  cases h
  exact z_iret dX0_playSteps_25 rfl rfl (Nat.le_refl _) (Nat.le_refl _) ⟨rfl, rfl⟩
theorem dX0_playableSteps_0 : decode cX0_playableSteps 0 = .ok (.aload_n 0, 1) := by decide +kernel
theorem dX0_playableSteps_1 : decode cX0_playableSteps 1 = .ok (.getfield 33, 3) := by decide +kernel
theorem dX0_playableSteps_4 : decode cX0_playableSteps 4 = .ok (.ifCond .ne 7, 3) := by decide +kernel
theorem dX0_playableSteps_7 : decode cX0_playableSteps 7 = .ok (.iconst 0, 1) := by decide +kernel
theorem dX0_playableSteps_8 : decode cX0_playableSteps 8 = .ok (.goto 23, 3) := by decide +kernel
theorem dX0_playableSteps_11 : decode cX0_playableSteps 11 = .ok (.aload_n 0, 1) := by decide +kernel
theorem dX0_playableSteps_12 : decode cX0_playableSteps 12 = .ok (.getfield 33, 3) := by decide +kernel
theorem dX0_playableSteps_15 : decode cX0_playableSteps 15 = .ok (.aload_n 0, 1) := by decide +kernel
theorem dX0_playableSteps_16 : decode cX0_playableSteps 16 = .ok (.getfield 12, 3) := by decide +kernel
theorem dX0_playableSteps_19 : decode cX0_playableSteps 19 = .ok (.getfield 64, 3) := by decide +kernel
theorem dX0_playableSteps_22 : decode cX0_playableSteps 22 = .ok (.imul, 1) := by decide +kernel
theorem dX0_playableSteps_23 : decode cX0_playableSteps 23 = .ok (.aload_n 0, 1) := by decide +kernel
theorem dX0_playableSteps_24 : decode cX0_playableSteps 24 = .ok (.getfield 12, 3) := by decide +kernel
theorem dX0_playableSteps_27 : decode cX0_playableSteps 27 = .ok (.getfield 129, 3) := by decide +kernel
theorem dX0_playableSteps_30 : decode cX0_playableSteps 30 = .ok (.isub, 1) := by decide +kernel
theorem dX0_playableSteps_31 : decode cX0_playableSteps 31 = .ok (.ireturn, 1) := by decide +kernel
def fX0_playableSteps (M : Mm) (i : Nat) : Int32 := if (M.1 (9, i, 0) 3) = 0 then (0 : Int32) else (((M.1 (9, i, 0) 3) * (M.1 (10, i, 0) 1)) - (M.1 (10, i, 0) 2))
set_option maxRecDepth 20000 in
set_option maxHeartbeats 2000000 in
theorem tX0_playableSteps (M : Mm) (i : Nat) (hi : i < 12) {res : Int32} (h : fX0_playableSteps M i = res) : TF yX0_playableSteps cX0_playableSteps 1 (some .int) 0 [.inr (9, i, 0)] M (some (.int res)) M := by
  rw [fX0_playableSteps] at h
  refine TF.go (n := 0) (ls := [some (.inr (9, i, 0))]) rfl rfl rfl rfl rfl ?_
  refine z_aload_n (i := 0) dX0_playableSteps_0 rfl rfl ?_
  refine z_getI (x := (M.1 (9, i, 0) 3)) dX0_playableSteps_1 fl_X0_33 (m9 _ hi) rfl rfl ?_
  refine z_if_ne (tgt := 11) dX0_playableSteps_4 rfl (fun hc1 => ?_) (fun hc1 => ?_)
  · have h := it_f h hc1
    refine z_aload_n (i := 0) dX0_playableSteps_11 rfl rfl ?_
    refine z_getI (x := (M.1 (9, i, 0) 3)) dX0_playableSteps_12 fl_X0_33 (m9 _ hi) rfl rfl ?_
    refine z_aload_n (i := 0) dX0_playableSteps_15 rfl rfl ?_
    refine z_getR (r' := (10, i, 0)) dX0_playableSteps_16 fl_X0_12 (m9 _ hi) rfl rfl ?_
    refine z_getI (x := (M.1 (10, i, 0) 1)) dX0_playableSteps_19 fl_X0_64 (m10 _ hi) rfl rfl ?_
    refine z_imul dX0_playableSteps_22 ?_
    refine z_aload_n (i := 0) dX0_playableSteps_23 rfl rfl ?_
    refine z_getR (r' := (10, i, 0)) dX0_playableSteps_24 fl_X0_12 (m9 _ hi) rfl rfl ?_
    refine z_getI (x := (M.1 (10, i, 0) 2)) dX0_playableSteps_27 fl_X0_129 (m10 _ hi) rfl rfl ?_
    refine z_isub dX0_playableSteps_30 ?_
    subst h
    exact z_iret dX0_playableSteps_31 rfl rfl (Nat.le_refl _) (Nat.le_refl _) ⟨rfl, rfl⟩
  · have h := it_t h hc1
    refine z_iconst (v := (0 : Int32)) dX0_playableSteps_7 kc_0 ?_
    refine z_goto (tgt := 31) dX0_playableSteps_8 rfl ?_
    subst h
    exact z_iret dX0_playableSteps_31 rfl rfl (Nat.le_refl _) (Nat.le_refl _) ⟨rfl, rfl⟩
theorem sX0_playableSteps (M : Mm) (i : Nat) (hi : i < 12) : TF yX0_playableSteps cX0_playableSteps 1 (some .int) 0 [.inr (9, i, 0)] M (some (.int (fX0_playableSteps M i))) M := tX0_playableSteps M i hi rfl
theorem dX0_stepsPerMinute_0 : decode cX0_stepsPerMinute 0 = .ok (.bipush 60, 2) := by decide +kernel
theorem dX0_stepsPerMinute_2 : decode cX0_stepsPerMinute 2 = .ok (.iconst 4, 1) := by decide +kernel
theorem dX0_stepsPerMinute_3 : decode cX0_stepsPerMinute 3 = .ok (.aload_n 0, 1) := by decide +kernel
theorem dX0_stepsPerMinute_4 : decode cX0_stepsPerMinute 4 = .ok (.getfield 33, 3) := by decide +kernel
theorem dX0_stepsPerMinute_7 : decode cX0_stepsPerMinute 7 = .ok (.imul, 1) := by decide +kernel
theorem dX0_stepsPerMinute_8 : decode cX0_stepsPerMinute 8 = .ok (.iadd, 1) := by decide +kernel
theorem dX0_stepsPerMinute_9 : decode cX0_stepsPerMinute 9 = .ok (.bipush 100, 2) := by decide +kernel
theorem dX0_stepsPerMinute_11 : decode cX0_stepsPerMinute 11 = .ok (.aload_n 0, 1) := by decide +kernel
theorem dX0_stepsPerMinute_12 : decode cX0_stepsPerMinute 12 = .ok (.getfield 36, 3) := by decide +kernel
theorem dX0_stepsPerMinute_15 : decode cX0_stepsPerMinute 15 = .ok (.isub, 1) := by decide +kernel
theorem dX0_stepsPerMinute_16 : decode cX0_stepsPerMinute 16 = .ok (.imul, 1) := by decide +kernel
theorem dX0_stepsPerMinute_17 : decode cX0_stepsPerMinute 17 = .ok (.bipush 100, 2) := by decide +kernel
theorem dX0_stepsPerMinute_19 : decode cX0_stepsPerMinute 19 = .ok (.idiv, 1) := by decide +kernel
theorem dX0_stepsPerMinute_20 : decode cX0_stepsPerMinute 20 = .ok (.ireturn, 1) := by decide +kernel
def fX0_stepsPerMinute (M : Mm) (i : Nat) : Int32 := ((((60 : Int32) + ((4 : Int32) * (M.1 (9, i, 0) 3))) * ((100 : Int32) - (M.1 (9, i, 0) 4))) / (100 : Int32))
set_option maxRecDepth 20000 in
set_option maxHeartbeats 2000000 in
theorem tX0_stepsPerMinute (M : Mm) (i : Nat) (hi : i < 12) {res : Int32} (h : fX0_stepsPerMinute M i = res) : TF yX0_stepsPerMinute cX0_stepsPerMinute 1 (some .int) 0 [.inr (9, i, 0)] M (some (.int res)) M := by
  rw [fX0_stepsPerMinute] at h
  refine TF.go (n := 0) (ls := [some (.inr (9, i, 0))]) rfl rfl rfl rfl rfl ?_
  refine z_bipush (v := (60 : Int32)) dX0_stepsPerMinute_0 kb_60 ?_
  refine z_iconst (v := (4 : Int32)) dX0_stepsPerMinute_2 kc_4 ?_
  refine z_aload_n (i := 0) dX0_stepsPerMinute_3 rfl rfl ?_
  refine z_getI (x := (M.1 (9, i, 0) 3)) dX0_stepsPerMinute_4 fl_X0_33 (m9 _ hi) rfl rfl ?_
  refine z_imul dX0_stepsPerMinute_7 ?_
  refine z_iadd dX0_stepsPerMinute_8 ?_
  refine z_bipush (v := (100 : Int32)) dX0_stepsPerMinute_9 kb_100 ?_
  refine z_aload_n (i := 0) dX0_stepsPerMinute_11 rfl rfl ?_
  refine z_getI (x := (M.1 (9, i, 0) 4)) dX0_stepsPerMinute_12 fl_X0_36 (m9 _ hi) rfl rfl ?_
  refine z_isub dX0_stepsPerMinute_15 ?_
  refine z_imul dX0_stepsPerMinute_16 ?_
  refine z_bipush (v := (100 : Int32)) dX0_stepsPerMinute_17 kb_100 ?_
  refine z_idiv dX0_stepsPerMinute_19 (by decide) ?_
  subst h
  exact z_iret dX0_stepsPerMinute_20 rfl rfl (Nat.le_refl _) (Nat.le_refl _) ⟨rfl, rfl⟩
theorem sX0_stepsPerMinute (M : Mm) (i : Nat) (hi : i < 12) : TF yX0_stepsPerMinute cX0_stepsPerMinute 1 (some .int) 0 [.inr (9, i, 0)] M (some (.int (fX0_stepsPerMinute M i))) M := tX0_stepsPerMinute M i hi rfl
theorem dX3_stepsBack_0 : decode cX3_stepsBack 0 = .ok (.iconst 1, 1) := by decide +kernel
theorem dX3_stepsBack_1 : decode cX3_stepsBack 1 = .ok (.istore 4, 2) := by decide +kernel
theorem dX3_stepsBack_3 : decode cX3_stepsBack 3 = .ok (.iload 4, 2) := by decide +kernel
theorem dX3_stepsBack_5 : decode cX3_stepsBack 5 = .ok (.aload_n 0, 1) := by decide +kernel
theorem dX3_stepsBack_6 : decode cX3_stepsBack 6 = .ok (.getfield 15, 3) := by decide +kernel
theorem dX3_stepsBack_9 : decode cX3_stepsBack 9 = .ok (.if_icmp .ge 47, 3) := by decide +kernel
theorem dX3_stepsBack_12 : decode cX3_stepsBack 12 = .ok (.iload_n 3, 1) := by decide +kernel
theorem dX3_stepsBack_13 : decode cX3_stepsBack 13 = .ok (.iload 4, 2) := by decide +kernel
theorem dX3_stepsBack_15 : decode cX3_stepsBack 15 = .ok (.if_icmp .lt 10, 3) := by decide +kernel
theorem dX3_stepsBack_18 : decode cX3_stepsBack 18 = .ok (.iload_n 3, 1) := by decide +kernel
theorem dX3_stepsBack_19 : decode cX3_stepsBack 19 = .ok (.iload 4, 2) := by decide +kernel
theorem dX3_stepsBack_21 : decode cX3_stepsBack 21 = .ok (.isub, 1) := by decide +kernel
theorem dX3_stepsBack_22 : decode cX3_stepsBack 22 = .ok (.goto 12, 3) := by decide +kernel
theorem dX3_stepsBack_25 : decode cX3_stepsBack 25 = .ok (.iload_n 3, 1) := by decide +kernel
theorem dX3_stepsBack_26 : decode cX3_stepsBack 26 = .ok (.iload 4, 2) := by decide +kernel
theorem dX3_stepsBack_28 : decode cX3_stepsBack 28 = .ok (.isub, 1) := by decide +kernel
theorem dX3_stepsBack_29 : decode cX3_stepsBack 29 = .ok (.aload_n 0, 1) := by decide +kernel
theorem dX3_stepsBack_30 : decode cX3_stepsBack 30 = .ok (.getfield 15, 3) := by decide +kernel
theorem dX3_stepsBack_33 : decode cX3_stepsBack 33 = .ok (.iadd, 1) := by decide +kernel
theorem dX3_stepsBack_34 : decode cX3_stepsBack 34 = .ok (.istore 5, 2) := by decide +kernel
theorem dX3_stepsBack_36 : decode cX3_stepsBack 36 = .ok (.aload_n 0, 1) := by decide +kernel
theorem dX3_stepsBack_37 : decode cX3_stepsBack 37 = .ok (.iload_n 1, 1) := by decide +kernel
theorem dX3_stepsBack_38 : decode cX3_stepsBack 38 = .ok (.iload_n 2, 1) := by decide +kernel
theorem dX3_stepsBack_39 : decode cX3_stepsBack 39 = .ok (.iload 5, 2) := by decide +kernel
theorem dX3_stepsBack_41 : decode cX3_stepsBack 41 = .ok (.invokevirtual 57, 3) := by decide +kernel
theorem dX3_stepsBack_44 : decode cX3_stepsBack 44 = .ok (.ifCond .eq 6, 3) := by decide +kernel
theorem dX3_stepsBack_47 : decode cX3_stepsBack 47 = .ok (.iload 4, 2) := by decide +kernel
theorem dX3_stepsBack_49 : decode cX3_stepsBack 49 = .ok (.ireturn, 1) := by decide +kernel
theorem dX3_stepsBack_50 : decode cX3_stepsBack 50 = .ok (.iinc 4 1, 3) := by decide +kernel
theorem dX3_stepsBack_53 : decode cX3_stepsBack 53 = .ok (.goto (-50), 3) := by decide +kernel
theorem dX3_stepsBack_56 : decode cX3_stepsBack 56 = .ok (.aload_n 0, 1) := by decide +kernel
theorem dX3_stepsBack_57 : decode cX3_stepsBack 57 = .ok (.getfield 15, 3) := by decide +kernel
theorem dX3_stepsBack_60 : decode cX3_stepsBack 60 = .ok (.ireturn, 1) := by decide +kernel
def fX3_stepsBack_L3 (M : Mm) (i : Nat) (c1 : Int32) (c2 : Int32) (c3 : Int32) (K : Int32 → Option Int32) : Nat → Int32 → Option Int32
  | 0, _ => none
  | n + 1, v4 => if (M.1 (10, i, 0) 1) ≤ v4 then K v4 else if c3 < v4 then ((fX3_hasPin M i c1 c2 ((c3 - v4) + (M.1 (10, i, 0) 1))).bind fun q3 => if q3 = 0 then fX3_stepsBack_L3 M i c1 c2 c3 K n (v4 + (1 : Int32)) else some v4) else (fX3_hasPin M i c1 c2 (c3 - v4)).bind fun q6 => if q6 = 0 then fX3_stepsBack_L3 M i c1 c2 c3 K n (v4 + (1 : Int32)) else some v4
def fX3_stepsBack (M : Mm) (i : Nat) (x1 : Int32) (x2 : Int32) (x3 : Int32) : Option Int32 := fX3_stepsBack_L3 M i x1 x2 x3 (fun w9 => some (M.1 (10, i, 0) 1)) NF (1 : Int32)
set_option maxRecDepth 20000 in
set_option maxHeartbeats 2000000 in
theorem sX3_stepsBack_L3 (M : Mm) (i : Nat) (c1 : Int32) (c2 : Int32) (c3 : Int32) (hi : i < 12) {res : Int32} {K : Int32 → Option Int32} : ∀ (n : Nat) (v4 : Int32), fX3_stepsBack_L3 M i c1 c2 c3 K n v4 = some res →
    (∀ (v4 : Int32), K v4 = some res → Z RX3 cX3_stepsBack 6 (some .int) [] "stepsBack" (rmD 1 0 0) (QM SH allR 0 0 (fun v M9 => v = some (.int res) ∧ M9 = M) (fun _ _ => False)) allR SH 0 0 56 [some (.inr (10, i, 0)), some (.inl (.int c1)), some (.inl (.int c2)), some (.inl (.int c3)), some (.inl (.int v4)), none] [] M) → Z RX3 cX3_stepsBack 6 (some .int) [] "stepsBack" (rmD 1 0 0) (QM SH allR 0 0 (fun v M9 => v = some (.int res) ∧ M9 = M) (fun _ _ => False)) allR SH 0 0 3 [some (.inr (10, i, 0)), some (.inl (.int c1)), some (.inl (.int c2)), some (.inl (.int c3)), some (.inl (.int v4)), none] [] M := by
  intro n
  induction n with
  | zero => intro v4 h; cases h
  | succ n ih =>
    intro v4 h hK
    rw [fX3_stepsBack_L3] at h
    refine z_iload (i := 4) dX3_stepsBack_3 rfl ?_
    refine z_aload_n (i := 0) dX3_stepsBack_5 rfl rfl ?_
    refine z_getI (x := (M.1 (10, i, 0) 1)) dX3_stepsBack_6 fl_X3_15 (m10 _ hi) rfl rfl ?_
    refine z_icmp_ge (tgt := 56) dX3_stepsBack_9 rfl (fun hc1 => ?_) (fun hc1 => ?_)
    · have h := it_t h hc1
      exact hK _ h
    · have h := it_f h hc1
      refine z_iload_n (i := 3) dX3_stepsBack_12 rfl rfl ?_
      refine z_iload (i := 4) dX3_stepsBack_13 rfl ?_
      refine z_icmp_lt (tgt := 25) dX3_stepsBack_15 rfl (fun hc2 => ?_) (fun hc2 => ?_)
      · have h := it_t h hc2
        refine z_iload_n (i := 3) dX3_stepsBack_25 rfl rfl ?_
        refine z_iload (i := 4) dX3_stepsBack_26 rfl ?_
        refine z_isub dX3_stepsBack_28 ?_
        refine z_aload_n (i := 0) dX3_stepsBack_29 rfl rfl ?_
        refine z_getI (x := (M.1 (10, i, 0) 1)) dX3_stepsBack_30 fl_X3_15 (m10 _ hi) rfl rfl ?_
        refine z_iadd dX3_stepsBack_33 ?_
        refine z_istore (i := 5) dX3_stepsBack_34 (Nat.le_of_ble_eq_true rfl) rfl ?_
        refine z_aload_n (i := 0) dX3_stepsBack_36 rfl rfl ?_
        refine z_iload_n (i := 1) dX3_stepsBack_37 rfl rfl ?_
        refine z_iload_n (i := 2) dX3_stepsBack_38 rfl rfl ?_
        refine z_iload (i := 5) dX3_stepsBack_39 rfl ?_
        obtain ⟨q3, hq4, h⟩ := bnd h
        refine z_fVi (sX3_hasPin M i c1 c2 ((c3 - v4) + (M.1 (10, i, 0) 1)) hi hq4) dX3_stepsBack_41 ml_X3_57 cd_X3_hasPin (m10 _ hi) rfl rfl rfl rfl rfl rfl ?_
        refine z_if_eq (tgt := 50) dX3_stepsBack_44 rfl (fun hc5 => ?_) (fun hc5 => ?_)
        · have h := it_t h hc5
          refine z_iinc (i := 4) (v := (v4 + (1 : Int32))) dX3_stepsBack_50 rfl (iinc_k kc_1) (Nat.le_of_ble_eq_true rfl) rfl ?_
          refine z_goto (tgt := 3) dX3_stepsBack_53 rfl ?_
          exact ih _ h hK
        · have h := it_f h hc5
          refine z_iload (i := 4) dX3_stepsBack_47 rfl ?_
          cases h
          exact z_iret dX3_stepsBack_49 rfl rfl (Nat.le_refl _) (Nat.le_refl _) ⟨rfl, rfl⟩
      · have h := it_f h hc2
        refine z_iload_n (i := 3) dX3_stepsBack_18 rfl rfl ?_
        refine z_iload (i := 4) dX3_stepsBack_19 rfl ?_
        refine z_isub dX3_stepsBack_21 ?_
        refine z_goto (tgt := 34) dX3_stepsBack_22 rfl ?_
        refine z_istore (i := 5) dX3_stepsBack_34 (Nat.le_of_ble_eq_true rfl) rfl ?_
        refine z_aload_n (i := 0) dX3_stepsBack_36 rfl rfl ?_
        refine z_iload_n (i := 1) dX3_stepsBack_37 rfl rfl ?_
        refine z_iload_n (i := 2) dX3_stepsBack_38 rfl rfl ?_
        refine z_iload (i := 5) dX3_stepsBack_39 rfl ?_
        obtain ⟨q6, hq7, h⟩ := bnd h
        refine z_fVi (sX3_hasPin M i c1 c2 (c3 - v4) hi hq7) dX3_stepsBack_41 ml_X3_57 cd_X3_hasPin (m10 _ hi) rfl rfl rfl rfl rfl rfl ?_
        refine z_if_eq (tgt := 50) dX3_stepsBack_44 rfl (fun hc8 => ?_) (fun hc8 => ?_)
        · have h := it_t h hc8
          refine z_iinc (i := 4) (v := (v4 + (1 : Int32))) dX3_stepsBack_50 rfl (iinc_k kc_1) (Nat.le_of_ble_eq_true rfl) rfl ?_
          refine z_goto (tgt := 3) dX3_stepsBack_53 rfl ?_
          exact ih _ h hK
        · have h := it_f h hc8
          refine z_iload (i := 4) dX3_stepsBack_47 rfl ?_
          cases h
          exact z_iret dX3_stepsBack_49 rfl rfl (Nat.le_refl _) (Nat.le_refl _) ⟨rfl, rfl⟩
set_option maxRecDepth 20000 in
set_option maxHeartbeats 2000000 in
theorem sX3_stepsBack (M : Mm) (i : Nat) (x1 : Int32) (x2 : Int32) (x3 : Int32) (hi : i < 12) {res : Int32} (h : fX3_stepsBack M i x1 x2 x3 = some res) : TF yX3_stepsBack cX3_stepsBack 6 (some .int) 1 [.inr (10, i, 0), .inl (.int x1), .inl (.int x2), .inl (.int x3)] M (some (.int res)) M := by
  rw [fX3_stepsBack] at h
  refine TF.go (n := 2) (ls := [some (.inr (10, i, 0)), some (.inl (.int x1)), some (.inl (.int x2)), some (.inl (.int x3)), none, none]) rfl rfl rfl rfl rfl ?_
  refine z_iconst (v := (1 : Int32)) dX3_stepsBack_0 kc_1 ?_
  refine z_istore (i := 4) dX3_stepsBack_1 (Nat.le_of_ble_eq_true rfl) rfl ?_
  refine sX3_stepsBack_L3 M i x1 x2 x3 hi NF _ h (fun w9 h => ?_)
  refine z_aload_n (i := 0) dX3_stepsBack_56 rfl rfl ?_
  refine z_getI (x := (M.1 (10, i, 0) 1)) dX3_stepsBack_57 fl_X3_15 (m10 _ hi) rfl rfl ?_
  cases h
  exact z_iret dX3_stepsBack_60 rfl rfl (Nat.le_refl _) (Nat.le_refl _) ⟨rfl, rfl⟩
theorem dX0_closePinAt_0 : decode cX0_closePinAt 0 = .ok (.aload_n 0, 1) := by decide +kernel
theorem dX0_closePinAt_1 : decode cX0_closePinAt 1 = .ok (.getfield 12, 3) := by decide +kernel
theorem dX0_closePinAt_4 : decode cX0_closePinAt 4 = .ok (.iload_n 1, 1) := by decide +kernel
theorem dX0_closePinAt_5 : decode cX0_closePinAt 5 = .ok (.iload_n 2, 1) := by decide +kernel
theorem dX0_closePinAt_6 : decode cX0_closePinAt 6 = .ok (.iload_n 3, 1) := by decide +kernel
theorem dX0_closePinAt_7 : decode cX0_closePinAt 7 = .ok (.invokevirtual 87, 3) := by decide +kernel
theorem dX0_closePinAt_10 : decode cX0_closePinAt 10 = .ok (.ifCond .eq 29, 3) := by decide +kernel
theorem dX0_closePinAt_13 : decode cX0_closePinAt 13 = .ok (.aload_n 0, 1) := by decide +kernel
theorem dX0_closePinAt_14 : decode cX0_closePinAt 14 = .ok (.getfield 12, 3) := by decide +kernel
theorem dX0_closePinAt_17 : decode cX0_closePinAt 17 = .ok (.iload_n 1, 1) := by decide +kernel
theorem dX0_closePinAt_18 : decode cX0_closePinAt 18 = .ok (.iload_n 2, 1) := by decide +kernel
theorem dX0_closePinAt_19 : decode cX0_closePinAt 19 = .ok (.iload_n 3, 1) := by decide +kernel
theorem dX0_closePinAt_20 : decode cX0_closePinAt 20 = .ok (.invokevirtual 135, 3) := by decide +kernel
theorem dX0_closePinAt_23 : decode cX0_closePinAt 23 = .ok (.aload_n 0, 1) := by decide +kernel
theorem dX0_closePinAt_24 : decode cX0_closePinAt 24 = .ok (.getfield 20, 3) := by decide +kernel
theorem dX0_closePinAt_27 : decode cX0_closePinAt 27 = .ok (.iload_n 2, 1) := by decide +kernel
theorem dX0_closePinAt_28 : decode cX0_closePinAt 28 = .ok (.aaload, 1) := by decide +kernel
theorem dX0_closePinAt_29 : decode cX0_closePinAt 29 = .ok (.getfield 138, 3) := by decide +kernel
theorem dX0_closePinAt_32 : decode cX0_closePinAt 32 = .ok (.if_icmp .ge 7, 3) := by decide +kernel
theorem dX0_closePinAt_35 : decode cX0_closePinAt 35 = .ok (.iconst 1, 1) := by decide +kernel
theorem dX0_closePinAt_36 : decode cX0_closePinAt 36 = .ok (.goto 4, 3) := by decide +kernel
theorem dX0_closePinAt_39 : decode cX0_closePinAt 39 = .ok (.iconst 0, 1) := by decide +kernel
theorem dX0_closePinAt_40 : decode cX0_closePinAt 40 = .ok (.ireturn, 1) := by decide +kernel
def fX0_closePinAt (M : Mm) (i : Nat) (x1 : Int32) (x2 : Int32) (x3 : Int32) : Option Int32 := (fX3_hasPin M i x1 x2 x3).bind fun q1 => if q1 = 0 then some (0 : Int32) else (fX3_stepsBack M i x1 x2 x3).bind fun q4 => if x2 < 0 ∨ 12 ≤ x2.toNatClampNeg then none else if (M.1 (13, i, x2.toNatClampNeg) 2) ≤ q4 then some (0 : Int32) else some (1 : Int32)
set_option maxRecDepth 20000 in
set_option maxHeartbeats 2000000 in
theorem sX0_closePinAt (M : Mm) (i : Nat) (x1 : Int32) (x2 : Int32) (x3 : Int32) (hi : i < 12) {res : Int32} (h : fX0_closePinAt M i x1 x2 x3 = some res) : TF yX0_closePinAt cX0_closePinAt 4 (some .boolean) 2 [.inr (9, i, 0), .inl (.int x1), .inl (.int x2), .inl (.int x3)] M (some (.int res)) M := by
  rw [fX0_closePinAt] at h
  refine TF.go (n := 0) (ls := [some (.inr (9, i, 0)), some (.inl (.int x1)), some (.inl (.int x2)), some (.inl (.int x3))]) rfl rfl rfl rfl rfl ?_
  refine z_aload_n (i := 0) dX0_closePinAt_0 rfl rfl ?_
  refine z_getR (r' := (10, i, 0)) dX0_closePinAt_1 fl_X0_12 (m9 _ hi) rfl rfl ?_
  refine z_iload_n (i := 1) dX0_closePinAt_4 rfl rfl ?_
  refine z_iload_n (i := 2) dX0_closePinAt_5 rfl rfl ?_
  refine z_iload_n (i := 3) dX0_closePinAt_6 rfl rfl ?_
  obtain ⟨q1, hq2, h⟩ := bnd h
  refine z_fVi (sX3_hasPin M i x1 x2 x3 hi hq2) dX0_closePinAt_7 ml_X0_87 cd_X3_hasPin (m10 _ hi) rfl rfl rfl rfl rfl rfl ?_
  refine z_if_eq (tgt := 39) dX0_closePinAt_10 rfl (fun hc3 => ?_) (fun hc3 => ?_)
  · have h := it_t h hc3
    refine z_iconst (v := (0 : Int32)) dX0_closePinAt_39 kc_0 ?_
    cases h
    exact z_iret dX0_closePinAt_40 rfl rfl (Nat.le_refl _) (Nat.le_refl _) ⟨rfl, rfl⟩
  · have h := it_f h hc3
    refine z_aload_n (i := 0) dX0_closePinAt_13 rfl rfl ?_
    refine z_getR (r' := (10, i, 0)) dX0_closePinAt_14 fl_X0_12 (m9 _ hi) rfl rfl ?_
    refine z_iload_n (i := 1) dX0_closePinAt_17 rfl rfl ?_
    refine z_iload_n (i := 2) dX0_closePinAt_18 rfl rfl ?_
    refine z_iload_n (i := 3) dX0_closePinAt_19 rfl rfl ?_
    obtain ⟨q4, hq5, h⟩ := bnd h
    refine z_fVi (sX3_stepsBack M i x1 x2 x3 hi hq5) dX0_closePinAt_20 ml_X0_135 cd_X3_stepsBack (m10 _ hi) rfl rfl rfl rfl rfl rfl ?_
    refine z_aload_n (i := 0) dX0_closePinAt_23 rfl rfl ?_
    refine z_getR (r' := (12, i, 0)) dX0_closePinAt_24 fl_X0_20 (m9 _ hi) rfl rfl ?_
    refine z_iload_n (i := 2) dX0_closePinAt_27 rfl rfl ?_
    obtain ⟨hc6, h⟩ := chk h
    refine z_aald (t := 0) (r' := (13, i, x2.toNatClampNeg)) dX0_closePinAt_28 (m12 _ hi) rfl (Nat.le_of_ble_eq_true rfl) hc6 rfl ?_
    refine z_getI (x := (M.1 (13, i, x2.toNatClampNeg) 2)) dX0_closePinAt_29 fl_X0_138 (m13 _ hi _ (ltN hc6)) rfl rfl ?_
    refine z_icmp_ge (tgt := 39) dX0_closePinAt_32 rfl (fun hc7 => ?_) (fun hc7 => ?_)
    · have h := it_t h hc7
      refine z_iconst (v := (0 : Int32)) dX0_closePinAt_39 kc_0 ?_
      cases h
      exact z_iret dX0_closePinAt_40 rfl rfl (Nat.le_refl _) (Nat.le_refl _) ⟨rfl, rfl⟩
    · have h := it_f h hc7
      refine z_iconst (v := (1 : Int32)) dX0_closePinAt_35 kc_1 ?_
      refine z_goto (tgt := 40) dX0_closePinAt_36 rfl ?_
      cases h
      exact z_iret dX0_closePinAt_40 rfl rfl (Nat.le_refl _) (Nat.le_refl _) ⟨rfl, rfl⟩
theorem dX0_closePinsOf_0 : decode cX0_closePinsOf 0 = .ok (.iconst 0, 1) := by decide +kernel
theorem dX0_closePinsOf_1 : decode cX0_closePinsOf 1 = .ok (.istore_n 2, 1) := by decide +kernel
theorem dX0_closePinsOf_2 : decode cX0_closePinsOf 2 = .ok (.iconst 0, 1) := by decide +kernel
theorem dX0_closePinsOf_3 : decode cX0_closePinsOf 3 = .ok (.istore_n 3, 1) := by decide +kernel
theorem dX0_closePinsOf_4 : decode cX0_closePinsOf 4 = .ok (.iload_n 3, 1) := by decide +kernel
theorem dX0_closePinsOf_5 : decode cX0_closePinsOf 5 = .ok (.aload_n 0, 1) := by decide +kernel
theorem dX0_closePinsOf_6 : decode cX0_closePinsOf 6 = .ok (.getfield 29, 3) := by decide +kernel
theorem dX0_closePinsOf_9 : decode cX0_closePinsOf 9 = .ok (.if_icmp .ge 44, 3) := by decide +kernel
theorem dX0_closePinsOf_12 : decode cX0_closePinsOf 12 = .ok (.iconst 0, 1) := by decide +kernel
theorem dX0_closePinsOf_13 : decode cX0_closePinsOf 13 = .ok (.istore 4, 2) := by decide +kernel
theorem dX0_closePinsOf_15 : decode cX0_closePinsOf 15 = .ok (.iload 4, 2) := by decide +kernel
theorem dX0_closePinsOf_17 : decode cX0_closePinsOf 17 = .ok (.aload_n 0, 1) := by decide +kernel
theorem dX0_closePinsOf_18 : decode cX0_closePinsOf 18 = .ok (.getfield 12, 3) := by decide +kernel
theorem dX0_closePinsOf_21 : decode cX0_closePinsOf 21 = .ok (.getfield 64, 3) := by decide +kernel
theorem dX0_closePinsOf_24 : decode cX0_closePinsOf 24 = .ok (.if_icmp .ge 23, 3) := by decide +kernel
theorem dX0_closePinsOf_27 : decode cX0_closePinsOf 27 = .ok (.aload_n 0, 1) := by decide +kernel
theorem dX0_closePinsOf_28 : decode cX0_closePinsOf 28 = .ok (.iload_n 1, 1) := by decide +kernel
theorem dX0_closePinsOf_29 : decode cX0_closePinsOf 29 = .ok (.iload_n 3, 1) := by decide +kernel
theorem dX0_closePinsOf_30 : decode cX0_closePinsOf 30 = .ok (.iload 4, 2) := by decide +kernel
theorem dX0_closePinsOf_32 : decode cX0_closePinsOf 32 = .ok (.invokevirtual 141, 3) := by decide +kernel
theorem dX0_closePinsOf_35 : decode cX0_closePinsOf 35 = .ok (.ifCond .eq 6, 3) := by decide +kernel
theorem dX0_closePinsOf_38 : decode cX0_closePinsOf 38 = .ok (.iinc 2 1, 3) := by decide +kernel
theorem dX0_closePinsOf_41 : decode cX0_closePinsOf 41 = .ok (.iinc 4 1, 3) := by decide +kernel
theorem dX0_closePinsOf_44 : decode cX0_closePinsOf 44 = .ok (.goto (-29), 3) := by decide +kernel
theorem dX0_closePinsOf_47 : decode cX0_closePinsOf 47 = .ok (.iinc 3 1, 3) := by decide +kernel
theorem dX0_closePinsOf_50 : decode cX0_closePinsOf 50 = .ok (.goto (-46), 3) := by decide +kernel
theorem dX0_closePinsOf_53 : decode cX0_closePinsOf 53 = .ok (.iload_n 2, 1) := by decide +kernel
theorem dX0_closePinsOf_54 : decode cX0_closePinsOf 54 = .ok (.ireturn, 1) := by decide +kernel
def fX0_closePinsOf_L15 (M : Mm) (i : Nat) (c1 : Int32) (c3 : Int32) (K : Int32 → Int32 → Option Int32) : Nat → Int32 → Int32 → Option Int32
  | 0, _, _ => none
  | n + 1, v2, v4 => if (M.1 (10, i, 0) 1) ≤ v4 then K v2 v4 else (fX0_closePinAt M i c1 c3 v4).bind fun q3 => if q3 = 0 then fX0_closePinsOf_L15 M i c1 c3 K n v2 (v4 + (1 : Int32)) else fX0_closePinsOf_L15 M i c1 c3 K n (v2 + (1 : Int32)) (v4 + (1 : Int32))
def fX0_closePinsOf_L4 (M : Mm) (i : Nat) (c1 : Int32) (K : Int32 → Int32 → Option Int32) : Nat → Int32 → Int32 → Option Int32
  | 0, _, _ => none
  | n + 1, v2, v3 => if (M.1 (9, i, 0) 2) ≤ v3 then K v2 v3 else fX0_closePinsOf_L15 M i c1 v3 (fun w6 w7 => fX0_closePinsOf_L4 M i c1 K n w6 (v3 + (1 : Int32))) NF v2 (0 : Int32)
def fX0_closePinsOf (M : Mm) (i : Nat) (x1 : Int32) : Option Int32 := fX0_closePinsOf_L4 M i x1 (fun w8 w9 => some w8) NF (0 : Int32) (0 : Int32)
set_option maxRecDepth 20000 in
set_option maxHeartbeats 2000000 in
theorem sX0_closePinsOf_L15 (M : Mm) (i : Nat) (c1 : Int32) (c3 : Int32) (hi : i < 12) {res : Int32} {K : Int32 → Int32 → Option Int32} : ∀ (n : Nat) (v2 : Int32) (v4 : Int32), fX0_closePinsOf_L15 M i c1 c3 K n v2 v4 = some res →
    (∀ (v2 : Int32) (v4 : Int32), K v2 v4 = some res → Z RX0 cX0_closePinsOf 5 (some .int) [] "closePinsOf" (rmD 3 0 0) (QM SH allR 0 0 (fun v M9 => v = some (.int res) ∧ M9 = M) (fun _ _ => False)) allR SH 0 0 47 [some (.inr (9, i, 0)), some (.inl (.int c1)), some (.inl (.int v2)), some (.inl (.int c3)), some (.inl (.int v4))] [] M) → Z RX0 cX0_closePinsOf 5 (some .int) [] "closePinsOf" (rmD 3 0 0) (QM SH allR 0 0 (fun v M9 => v = some (.int res) ∧ M9 = M) (fun _ _ => False)) allR SH 0 0 15 [some (.inr (9, i, 0)), some (.inl (.int c1)), some (.inl (.int v2)), some (.inl (.int c3)), some (.inl (.int v4))] [] M := by
  intro n
  induction n with
  | zero => intro v2 v4 h; cases h
  | succ n ih =>
    intro v2 v4 h hK
    rw [fX0_closePinsOf_L15] at h
    refine z_iload (i := 4) dX0_closePinsOf_15 rfl ?_
    refine z_aload_n (i := 0) dX0_closePinsOf_17 rfl rfl ?_
    refine z_getR (r' := (10, i, 0)) dX0_closePinsOf_18 fl_X0_12 (m9 _ hi) rfl rfl ?_
    refine z_getI (x := (M.1 (10, i, 0) 1)) dX0_closePinsOf_21 fl_X0_64 (m10 _ hi) rfl rfl ?_
    refine z_icmp_ge (tgt := 47) dX0_closePinsOf_24 rfl (fun hc2 => ?_) (fun hc2 => ?_)
    · have h := it_t h hc2
      exact hK _ _ h
    · have h := it_f h hc2
      refine z_aload_n (i := 0) dX0_closePinsOf_27 rfl rfl ?_
      refine z_iload_n (i := 1) dX0_closePinsOf_28 rfl rfl ?_
      refine z_iload_n (i := 3) dX0_closePinsOf_29 rfl rfl ?_
      refine z_iload (i := 4) dX0_closePinsOf_30 rfl ?_
      obtain ⟨q3, hq4, h⟩ := bnd h
      refine z_fVi (sX0_closePinAt M i c1 c3 v4 hi hq4) dX0_closePinsOf_32 ml_X0_141 cd_X0_closePinAt (m9 _ hi) rfl rfl rfl rfl rfl rfl ?_
      refine z_if_eq (tgt := 41) dX0_closePinsOf_35 rfl (fun hc5 => ?_) (fun hc5 => ?_)
      · have h := it_t h hc5
        refine z_iinc (i := 4) (v := (v4 + (1 : Int32))) dX0_closePinsOf_41 rfl (iinc_k kc_1) (Nat.le_of_ble_eq_true rfl) rfl ?_
        refine z_goto (tgt := 15) dX0_closePinsOf_44 rfl ?_
        exact ih _ _ h hK
      · have h := it_f h hc5
        refine z_iinc (i := 2) (v := (v2 + (1 : Int32))) dX0_closePinsOf_38 rfl (iinc_k kc_1) (Nat.le_of_ble_eq_true rfl) rfl ?_
        refine z_iinc (i := 4) (v := (v4 + (1 : Int32))) dX0_closePinsOf_41 rfl (iinc_k kc_1) (Nat.le_of_ble_eq_true rfl) rfl ?_
        refine z_goto (tgt := 15) dX0_closePinsOf_44 rfl ?_
        exact ih _ _ h hK
set_option maxRecDepth 20000 in
set_option maxHeartbeats 2000000 in
theorem sX0_closePinsOf_L4 (M : Mm) (i : Nat) (c1 : Int32) (hi : i < 12) {res : Int32} {K : Int32 → Int32 → Option Int32} : ∀ (n : Nat) (v2 : Int32) (v3 : Int32), fX0_closePinsOf_L4 M i c1 K n v2 v3 = some res →
    (∀ (v2 : Int32) (v3 : Int32), K v2 v3 = some res → Z RX0 cX0_closePinsOf 5 (some .int) [] "closePinsOf" (rmD 3 0 0) (QM SH allR 0 0 (fun v M9 => v = some (.int res) ∧ M9 = M) (fun _ _ => False)) allR SH 0 0 53 [some (.inr (9, i, 0)), some (.inl (.int c1)), some (.inl (.int v2)), some (.inl (.int v3)), none] [] M) → Z RX0 cX0_closePinsOf 5 (some .int) [] "closePinsOf" (rmD 3 0 0) (QM SH allR 0 0 (fun v M9 => v = some (.int res) ∧ M9 = M) (fun _ _ => False)) allR SH 0 0 4 [some (.inr (9, i, 0)), some (.inl (.int c1)), some (.inl (.int v2)), some (.inl (.int v3)), none] [] M := by
  intro n
  induction n with
  | zero => intro v2 v3 h; cases h
  | succ n ih =>
    intro v2 v3 h hK
    rw [fX0_closePinsOf_L4] at h
    refine z_iload_n (i := 3) dX0_closePinsOf_4 rfl rfl ?_
    refine z_aload_n (i := 0) dX0_closePinsOf_5 rfl rfl ?_
    refine z_getI (x := (M.1 (9, i, 0) 2)) dX0_closePinsOf_6 fl_X0_29 (m9 _ hi) rfl rfl ?_
    refine z_icmp_ge (tgt := 53) dX0_closePinsOf_9 rfl (fun hc1 => ?_) (fun hc1 => ?_)
    · have h := it_t h hc1
      exact hK _ _ h
    · have h := it_f h hc1
      refine z_iconst (v := (0 : Int32)) dX0_closePinsOf_12 kc_0 ?_
      refine z_istore (i := 4) dX0_closePinsOf_13 (Nat.le_of_ble_eq_true rfl) rfl ?_
      refine sX0_closePinsOf_L15 M i c1 v3 hi NF _ _ h (fun w6 w7 h => ?_)
      refine z_iinc (i := 3) (v := (v3 + (1 : Int32))) dX0_closePinsOf_47 rfl (iinc_k kc_1) (Nat.le_of_ble_eq_true rfl) rfl ?_
      refine z_goto (tgt := 4) dX0_closePinsOf_50 rfl ?_
      exact ih _ _ h hK
set_option maxRecDepth 20000 in
set_option maxHeartbeats 2000000 in
theorem sX0_closePinsOf (M : Mm) (i : Nat) (x1 : Int32) (hi : i < 12) {res : Int32} (h : fX0_closePinsOf M i x1 = some res) : TF yX0_closePinsOf cX0_closePinsOf 5 (some .int) 3 [.inr (9, i, 0), .inl (.int x1)] M (some (.int res)) M := by
  rw [fX0_closePinsOf] at h
  refine TF.go (n := 3) (ls := [some (.inr (9, i, 0)), some (.inl (.int x1)), none, none, none]) rfl rfl rfl rfl rfl ?_
  refine z_iconst (v := (0 : Int32)) dX0_closePinsOf_0 kc_0 ?_
  refine z_istore_n (i := 2) dX0_closePinsOf_1 rfl (Nat.le_of_ble_eq_true rfl) rfl ?_
  refine z_iconst (v := (0 : Int32)) dX0_closePinsOf_2 kc_0 ?_
  refine z_istore_n (i := 3) dX0_closePinsOf_3 rfl (Nat.le_of_ble_eq_true rfl) rfl ?_
  refine sX0_closePinsOf_L4 M i x1 hi NF _ _ h (fun w8 w9 h => ?_)
  refine z_iload_n (i := 2) dX0_closePinsOf_53 rfl rfl ?_
  cases h
  exact z_iret dX0_closePinsOf_54 rfl rfl (Nat.le_refl _) (Nat.le_refl _) ⟨rfl, rfl⟩
end
section
theorem dX0_brokenCount_0 : decode cX0_brokenCount 0 = .ok (.iconst 0, 1) := by decide +kernel
theorem dX0_brokenCount_1 : decode cX0_brokenCount 1 = .ok (.istore_n 1, 1) := by decide +kernel
theorem dX0_brokenCount_2 : decode cX0_brokenCount 2 = .ok (.iconst 0, 1) := by decide +kernel
theorem dX0_brokenCount_3 : decode cX0_brokenCount 3 = .ok (.istore_n 2, 1) := by decide +kernel
theorem dX0_brokenCount_4 : decode cX0_brokenCount 4 = .ok (.iload_n 2, 1) := by decide +kernel
theorem dX0_brokenCount_5 : decode cX0_brokenCount 5 = .ok (.aload_n 0, 1) := by decide +kernel
theorem dX0_brokenCount_6 : decode cX0_brokenCount 6 = .ok (.getfield 29, 3) := by decide +kernel
theorem dX0_brokenCount_9 : decode cX0_brokenCount 9 = .ok (.if_icmp .ge 24, 3) := by decide +kernel
theorem dX0_brokenCount_12 : decode cX0_brokenCount 12 = .ok (.aload_n 0, 1) := by decide +kernel
theorem dX0_brokenCount_13 : decode cX0_brokenCount 13 = .ok (.getfield 20, 3) := by decide +kernel
theorem dX0_brokenCount_16 : decode cX0_brokenCount 16 = .ok (.iload_n 2, 1) := by decide +kernel
theorem dX0_brokenCount_17 : decode cX0_brokenCount 17 = .ok (.aaload, 1) := by decide +kernel
theorem dX0_brokenCount_18 : decode cX0_brokenCount 18 = .ok (.invokevirtual 101, 3) := by decide +kernel
theorem dX0_brokenCount_21 : decode cX0_brokenCount 21 = .ok (.ifCond .eq 6, 3) := by decide +kernel
theorem dX0_brokenCount_24 : decode cX0_brokenCount 24 = .ok (.iinc 1 1, 3) := by decide +kernel
theorem dX0_brokenCount_27 : decode cX0_brokenCount 27 = .ok (.iinc 2 1, 3) := by decide +kernel
theorem dX0_brokenCount_30 : decode cX0_brokenCount 30 = .ok (.goto (-26), 3) := by decide +kernel
theorem dX0_brokenCount_33 : decode cX0_brokenCount 33 = .ok (.iload_n 1, 1) := by decide +kernel
theorem dX0_brokenCount_34 : decode cX0_brokenCount 34 = .ok (.ireturn, 1) := by decide +kernel
def fX0_brokenCount_L4 (M : Mm) (i : Nat) (K : Int32 → Int32 → Option Int32) : Nat → Int32 → Int32 → Option Int32
  | 0, _, _ => none
  | n + 1, v1, v2 => if (M.1 (9, i, 0) 2) ≤ v2 then K v1 v2 else if v2 < 0 ∨ 12 ≤ v2.toNatClampNeg then none else if (fX8_brokenNow M i v2.toNatClampNeg) = 0 then fX0_brokenCount_L4 M i K n v1 (v2 + (1 : Int32)) else fX0_brokenCount_L4 M i K n (v1 + (1 : Int32)) (v2 + (1 : Int32))
def fX0_brokenCount (M : Mm) (i : Nat) : Option Int32 := fX0_brokenCount_L4 M i (fun w4 w5 => some w4) NF (0 : Int32) (0 : Int32)
set_option maxRecDepth 20000 in
set_option maxHeartbeats 2000000 in
theorem sX0_brokenCount_L4 (M : Mm) (i : Nat) (hi : i < 12) {res : Int32} {K : Int32 → Int32 → Option Int32} : ∀ (n : Nat) (v1 : Int32) (v2 : Int32), fX0_brokenCount_L4 M i K n v1 v2 = some res →
    (∀ (v1 : Int32) (v2 : Int32), K v1 v2 = some res → Z RX0 cX0_brokenCount 3 (some .int) [] "brokenCount" (rmD 1 0 0) (QM SH allR 0 0 (fun v M9 => v = some (.int res) ∧ M9 = M) (fun _ _ => False)) allR SH 0 0 33 [some (.inr (9, i, 0)), some (.inl (.int v1)), some (.inl (.int v2))] [] M) → Z RX0 cX0_brokenCount 3 (some .int) [] "brokenCount" (rmD 1 0 0) (QM SH allR 0 0 (fun v M9 => v = some (.int res) ∧ M9 = M) (fun _ _ => False)) allR SH 0 0 4 [some (.inr (9, i, 0)), some (.inl (.int v1)), some (.inl (.int v2))] [] M := by
  intro n
  induction n with
  | zero => intro v1 v2 h; cases h
  | succ n ih =>
    intro v1 v2 h hK
    rw [fX0_brokenCount_L4] at h
    refine z_iload_n (i := 2) dX0_brokenCount_4 rfl rfl ?_
    refine z_aload_n (i := 0) dX0_brokenCount_5 rfl rfl ?_
    refine z_getI (x := (M.1 (9, i, 0) 2)) dX0_brokenCount_6 fl_X0_29 (m9 _ hi) rfl rfl ?_
    refine z_icmp_ge (tgt := 33) dX0_brokenCount_9 rfl (fun hc1 => ?_) (fun hc1 => ?_)
    · have h := it_t h hc1
      exact hK _ _ h
    · have h := it_f h hc1
      refine z_aload_n (i := 0) dX0_brokenCount_12 rfl rfl ?_
      refine z_getR (r' := (12, i, 0)) dX0_brokenCount_13 fl_X0_20 (m9 _ hi) rfl rfl ?_
      refine z_iload_n (i := 2) dX0_brokenCount_16 rfl rfl ?_
      obtain ⟨hc2, h⟩ := chk h
      refine z_aald (t := 0) (r' := (13, i, v2.toNatClampNeg)) dX0_brokenCount_17 (m12 _ hi) rfl (Nat.le_of_ble_eq_true rfl) hc2 rfl ?_
      refine z_fVi (sX8_brokenNow M i v2.toNatClampNeg hi (ltN hc2)) dX0_brokenCount_18 ml_X0_101 cd_X8_brokenNow (m13 _ hi _ (ltN hc2)) rfl rfl rfl rfl rfl rfl ?_
      refine z_if_eq (tgt := 27) dX0_brokenCount_21 rfl (fun hc3 => ?_) (fun hc3 => ?_)
      · have h := it_t h hc3
        refine z_iinc (i := 2) (v := (v2 + (1 : Int32))) dX0_brokenCount_27 rfl (iinc_k kc_1) (Nat.le_of_ble_eq_true rfl) rfl ?_
        refine z_goto (tgt := 4) dX0_brokenCount_30 rfl ?_
        exact ih _ _ h hK
      · have h := it_f h hc3
        refine z_iinc (i := 1) (v := (v1 + (1 : Int32))) dX0_brokenCount_24 rfl (iinc_k kc_1) (Nat.le_of_ble_eq_true rfl) rfl ?_
        refine z_iinc (i := 2) (v := (v2 + (1 : Int32))) dX0_brokenCount_27 rfl (iinc_k kc_1) (Nat.le_of_ble_eq_true rfl) rfl ?_
        refine z_goto (tgt := 4) dX0_brokenCount_30 rfl ?_
        exact ih _ _ h hK
set_option maxRecDepth 20000 in
set_option maxHeartbeats 2000000 in
theorem sX0_brokenCount (M : Mm) (i : Nat) (hi : i < 12) {res : Int32} (h : fX0_brokenCount M i = some res) : TF yX0_brokenCount cX0_brokenCount 3 (some .int) 1 [.inr (9, i, 0)] M (some (.int res)) M := by
  rw [fX0_brokenCount] at h
  refine TF.go (n := 2) (ls := [some (.inr (9, i, 0)), none, none]) rfl rfl rfl rfl rfl ?_
  refine z_iconst (v := (0 : Int32)) dX0_brokenCount_0 kc_0 ?_
  refine z_istore_n (i := 1) dX0_brokenCount_1 rfl (Nat.le_of_ble_eq_true rfl) rfl ?_
  refine z_iconst (v := (0 : Int32)) dX0_brokenCount_2 kc_0 ?_
  refine z_istore_n (i := 2) dX0_brokenCount_3 rfl (Nat.le_of_ble_eq_true rfl) rfl ?_
  refine sX0_brokenCount_L4 M i hi NF _ _ h (fun w4 w5 h => ?_)
  refine z_iload_n (i := 1) dX0_brokenCount_33 rfl rfl ?_
  cases h
  exact z_iret dX0_brokenCount_34 rfl rfl (Nat.le_refl _) (Nat.le_refl _) ⟨rfl, rfl⟩
theorem dJ13_bitCount_95d88_0 : decode cJ13_bitCount_95d88 0 = .ok (.lload_n 0, 1) := by decide +kernel
theorem dJ13_bitCount_95d88_1 : decode cJ13_bitCount_95d88 1 = .ok (.lload_n 0, 1) := by decide +kernel
theorem dJ13_bitCount_95d88_2 : decode cJ13_bitCount_95d88 2 = .ok (.iconst 1, 1) := by decide +kernel
theorem dJ13_bitCount_95d88_3 : decode cJ13_bitCount_95d88 3 = .ok (.lushr, 1) := by decide +kernel
theorem dJ13_bitCount_95d88_4 : decode cJ13_bitCount_95d88 4 = .ok (.ldc2_w 314, 3) := by decide +kernel
theorem dJ13_bitCount_95d88_7 : decode cJ13_bitCount_95d88 7 = .ok (.land, 1) := by decide +kernel
theorem dJ13_bitCount_95d88_8 : decode cJ13_bitCount_95d88 8 = .ok (.lsub, 1) := by decide +kernel
theorem dJ13_bitCount_95d88_9 : decode cJ13_bitCount_95d88 9 = .ok (.lstore_n 0, 1) := by decide +kernel
theorem dJ13_bitCount_95d88_10 : decode cJ13_bitCount_95d88 10 = .ok (.lload_n 0, 1) := by decide +kernel
theorem dJ13_bitCount_95d88_11 : decode cJ13_bitCount_95d88 11 = .ok (.ldc2_w 316, 3) := by decide +kernel
theorem dJ13_bitCount_95d88_14 : decode cJ13_bitCount_95d88 14 = .ok (.land, 1) := by decide +kernel
theorem dJ13_bitCount_95d88_15 : decode cJ13_bitCount_95d88 15 = .ok (.lload_n 0, 1) := by decide +kernel
theorem dJ13_bitCount_95d88_16 : decode cJ13_bitCount_95d88 16 = .ok (.iconst 2, 1) := by decide +kernel
theorem dJ13_bitCount_95d88_17 : decode cJ13_bitCount_95d88 17 = .ok (.lushr, 1) := by decide +kernel
theorem dJ13_bitCount_95d88_18 : decode cJ13_bitCount_95d88 18 = .ok (.ldc2_w 316, 3) := by decide +kernel
theorem dJ13_bitCount_95d88_21 : decode cJ13_bitCount_95d88 21 = .ok (.land, 1) := by decide +kernel
theorem dJ13_bitCount_95d88_22 : decode cJ13_bitCount_95d88 22 = .ok (.ladd, 1) := by decide +kernel
theorem dJ13_bitCount_95d88_23 : decode cJ13_bitCount_95d88 23 = .ok (.lstore_n 0, 1) := by decide +kernel
theorem dJ13_bitCount_95d88_24 : decode cJ13_bitCount_95d88 24 = .ok (.lload_n 0, 1) := by decide +kernel
theorem dJ13_bitCount_95d88_25 : decode cJ13_bitCount_95d88 25 = .ok (.lload_n 0, 1) := by decide +kernel
theorem dJ13_bitCount_95d88_26 : decode cJ13_bitCount_95d88 26 = .ok (.iconst 4, 1) := by decide +kernel
theorem dJ13_bitCount_95d88_27 : decode cJ13_bitCount_95d88 27 = .ok (.lushr, 1) := by decide +kernel
theorem dJ13_bitCount_95d88_28 : decode cJ13_bitCount_95d88 28 = .ok (.ladd, 1) := by decide +kernel
theorem dJ13_bitCount_95d88_29 : decode cJ13_bitCount_95d88 29 = .ok (.ldc2_w 318, 3) := by decide +kernel
theorem dJ13_bitCount_95d88_32 : decode cJ13_bitCount_95d88 32 = .ok (.land, 1) := by decide +kernel
theorem dJ13_bitCount_95d88_33 : decode cJ13_bitCount_95d88 33 = .ok (.lstore_n 0, 1) := by decide +kernel
theorem dJ13_bitCount_95d88_34 : decode cJ13_bitCount_95d88 34 = .ok (.lload_n 0, 1) := by decide +kernel
theorem dJ13_bitCount_95d88_35 : decode cJ13_bitCount_95d88 35 = .ok (.lload_n 0, 1) := by decide +kernel
theorem dJ13_bitCount_95d88_36 : decode cJ13_bitCount_95d88 36 = .ok (.bipush 8, 2) := by decide +kernel
theorem dJ13_bitCount_95d88_38 : decode cJ13_bitCount_95d88 38 = .ok (.lushr, 1) := by decide +kernel
theorem dJ13_bitCount_95d88_39 : decode cJ13_bitCount_95d88 39 = .ok (.ladd, 1) := by decide +kernel
theorem dJ13_bitCount_95d88_40 : decode cJ13_bitCount_95d88 40 = .ok (.lstore_n 0, 1) := by decide +kernel
theorem dJ13_bitCount_95d88_41 : decode cJ13_bitCount_95d88 41 = .ok (.lload_n 0, 1) := by decide +kernel
theorem dJ13_bitCount_95d88_42 : decode cJ13_bitCount_95d88 42 = .ok (.lload_n 0, 1) := by decide +kernel
theorem dJ13_bitCount_95d88_43 : decode cJ13_bitCount_95d88 43 = .ok (.bipush 16, 2) := by decide +kernel
theorem dJ13_bitCount_95d88_45 : decode cJ13_bitCount_95d88 45 = .ok (.lushr, 1) := by decide +kernel
theorem dJ13_bitCount_95d88_46 : decode cJ13_bitCount_95d88 46 = .ok (.ladd, 1) := by decide +kernel
theorem dJ13_bitCount_95d88_47 : decode cJ13_bitCount_95d88 47 = .ok (.lstore_n 0, 1) := by decide +kernel
theorem dJ13_bitCount_95d88_48 : decode cJ13_bitCount_95d88 48 = .ok (.lload_n 0, 1) := by decide +kernel
theorem dJ13_bitCount_95d88_49 : decode cJ13_bitCount_95d88 49 = .ok (.lload_n 0, 1) := by decide +kernel
theorem dJ13_bitCount_95d88_50 : decode cJ13_bitCount_95d88 50 = .ok (.bipush 32, 2) := by decide +kernel
theorem dJ13_bitCount_95d88_52 : decode cJ13_bitCount_95d88 52 = .ok (.lushr, 1) := by decide +kernel
theorem dJ13_bitCount_95d88_53 : decode cJ13_bitCount_95d88 53 = .ok (.ladd, 1) := by decide +kernel
theorem dJ13_bitCount_95d88_54 : decode cJ13_bitCount_95d88 54 = .ok (.lstore_n 0, 1) := by decide +kernel
theorem dJ13_bitCount_95d88_55 : decode cJ13_bitCount_95d88 55 = .ok (.lload_n 0, 1) := by decide +kernel
theorem dJ13_bitCount_95d88_56 : decode cJ13_bitCount_95d88 56 = .ok (.l2i, 1) := by decide +kernel
theorem dJ13_bitCount_95d88_57 : decode cJ13_bitCount_95d88 57 = .ok (.bipush 127, 2) := by decide +kernel
theorem dJ13_bitCount_95d88_59 : decode cJ13_bitCount_95d88 59 = .ok (.iand, 1) := by decide +kernel
theorem dJ13_bitCount_95d88_60 : decode cJ13_bitCount_95d88 60 = .ok (.ireturn, 1) := by decide +kernel
def fJ13_bitCount_95d88 (M : Mm) (x1 : Int64) : Int32 := (((((((((x1 - (((x1.toUInt64 >>> ((1 : Int32).toInt64.toUInt64 &&& Int64.toUInt64 63)).toInt64) &&& (6148914691236517205 : Int64))) &&& (3689348814741910323 : Int64)) + ((((x1 - (((x1.toUInt64 >>> ((1 : Int32).toInt64.toUInt64 &&& Int64.toUInt64 63)).toInt64) &&& (6148914691236517205 : Int64))).toUInt64 >>> ((2 : Int32).toInt64.toUInt64 &&& Int64.toUInt64 63)).toInt64) &&& (3689348814741910323 : Int64))) + (((((x1 - (((x1.toUInt64 >>> ((1 : Int32).toInt64.toUInt64 &&& Int64.toUInt64 63)).toInt64) &&& (6148914691236517205 : Int64))) &&& (3689348814741910323 : Int64)) + ((((x1 - (((x1.toUInt64 >>> ((1 : Int32).toInt64.toUInt64 &&& Int64.toUInt64 63)).toInt64) &&& (6148914691236517205 : Int64))).toUInt64 >>> ((2 : Int32).toInt64.toUInt64 &&& Int64.toUInt64 63)).toInt64) &&& (3689348814741910323 : Int64))).toUInt64 >>> ((4 : Int32).toInt64.toUInt64 &&& Int64.toUInt64 63)).toInt64)) &&& (1085102592571150095 : Int64)) + (((((((x1 - (((x1.toUInt64 >>> ((1 : Int32).toInt64.toUInt64 &&& Int64.toUInt64 63)).toInt64) &&& (6148914691236517205 : Int64))) &&& (3689348814741910323 : Int64)) + ((((x1 - (((x1.toUInt64 >>> ((1 : Int32).toInt64.toUInt64 &&& Int64.toUInt64 63)).toInt64) &&& (6148914691236517205 : Int64))).toUInt64 >>> ((2 : Int32).toInt64.toUInt64 &&& Int64.toUInt64 63)).toInt64) &&& (3689348814741910323 : Int64))) + (((((x1 - (((x1.toUInt64 >>> ((1 : Int32).toInt64.toUInt64 &&& Int64.toUInt64 63)).toInt64) &&& (6148914691236517205 : Int64))) &&& (3689348814741910323 : Int64)) + ((((x1 - (((x1.toUInt64 >>> ((1 : Int32).toInt64.toUInt64 &&& Int64.toUInt64 63)).toInt64) &&& (6148914691236517205 : Int64))).toUInt64 >>> ((2 : Int32).toInt64.toUInt64 &&& Int64.toUInt64 63)).toInt64) &&& (3689348814741910323 : Int64))).toUInt64 >>> ((4 : Int32).toInt64.toUInt64 &&& Int64.toUInt64 63)).toInt64)) &&& (1085102592571150095 : Int64)).toUInt64 >>> ((8 : Int32).toInt64.toUInt64 &&& Int64.toUInt64 63)).toInt64)) + ((((((((x1 - (((x1.toUInt64 >>> ((1 : Int32).toInt64.toUInt64 &&& Int64.toUInt64 63)).toInt64) &&& (6148914691236517205 : Int64))) &&& (3689348814741910323 : Int64)) + ((((x1 - (((x1.toUInt64 >>> ((1 : Int32).toInt64.toUInt64 &&& Int64.toUInt64 63)).toInt64) &&& (6148914691236517205 : Int64))).toUInt64 >>> ((2 : Int32).toInt64.toUInt64 &&& Int64.toUInt64 63)).toInt64) &&& (3689348814741910323 : Int64))) + (((((x1 - (((x1.toUInt64 >>> ((1 : Int32).toInt64.toUInt64 &&& Int64.toUInt64 63)).toInt64) &&& (6148914691236517205 : Int64))) &&& (3689348814741910323 : Int64)) + ((((x1 - (((x1.toUInt64 >>> ((1 : Int32).toInt64.toUInt64 &&& Int64.toUInt64 63)).toInt64) &&& (6148914691236517205 : Int64))).toUInt64 >>> ((2 : Int32).toInt64.toUInt64 &&& Int64.toUInt64 63)).toInt64) &&& (3689348814741910323 : Int64))).toUInt64 >>> ((4 : Int32).toInt64.toUInt64 &&& Int64.toUInt64 63)).toInt64)) &&& (1085102592571150095 : Int64)) + (((((((x1 - (((x1.toUInt64 >>> ((1 : Int32).toInt64.toUInt64 &&& Int64.toUInt64 63)).toInt64) &&& (6148914691236517205 : Int64))) &&& (3689348814741910323 : Int64)) + ((((x1 - (((x1.toUInt64 >>> ((1 : Int32).toInt64.toUInt64 &&& Int64.toUInt64 63)).toInt64) &&& (6148914691236517205 : Int64))).toUInt64 >>> ((2 : Int32).toInt64.toUInt64 &&& Int64.toUInt64 63)).toInt64) &&& (3689348814741910323 : Int64))) + (((((x1 - (((x1.toUInt64 >>> ((1 : Int32).toInt64.toUInt64 &&& Int64.toUInt64 63)).toInt64) &&& (6148914691236517205 : Int64))) &&& (3689348814741910323 : Int64)) + ((((x1 - (((x1.toUInt64 >>> ((1 : Int32).toInt64.toUInt64 &&& Int64.toUInt64 63)).toInt64) &&& (6148914691236517205 : Int64))).toUInt64 >>> ((2 : Int32).toInt64.toUInt64 &&& Int64.toUInt64 63)).toInt64) &&& (3689348814741910323 : Int64))).toUInt64 >>> ((4 : Int32).toInt64.toUInt64 &&& Int64.toUInt64 63)).toInt64)) &&& (1085102592571150095 : Int64)).toUInt64 >>> ((8 : Int32).toInt64.toUInt64 &&& Int64.toUInt64 63)).toInt64)).toUInt64 >>> ((16 : Int32).toInt64.toUInt64 &&& Int64.toUInt64 63)).toInt64)) + (((((((((x1 - (((x1.toUInt64 >>> ((1 : Int32).toInt64.toUInt64 &&& Int64.toUInt64 63)).toInt64) &&& (6148914691236517205 : Int64))) &&& (3689348814741910323 : Int64)) + ((((x1 - (((x1.toUInt64 >>> ((1 : Int32).toInt64.toUInt64 &&& Int64.toUInt64 63)).toInt64) &&& (6148914691236517205 : Int64))).toUInt64 >>> ((2 : Int32).toInt64.toUInt64 &&& Int64.toUInt64 63)).toInt64) &&& (3689348814741910323 : Int64))) + (((((x1 - (((x1.toUInt64 >>> ((1 : Int32).toInt64.toUInt64 &&& Int64.toUInt64 63)).toInt64) &&& (6148914691236517205 : Int64))) &&& (3689348814741910323 : Int64)) + ((((x1 - (((x1.toUInt64 >>> ((1 : Int32).toInt64.toUInt64 &&& Int64.toUInt64 63)).toInt64) &&& (6148914691236517205 : Int64))).toUInt64 >>> ((2 : Int32).toInt64.toUInt64 &&& Int64.toUInt64 63)).toInt64) &&& (3689348814741910323 : Int64))).toUInt64 >>> ((4 : Int32).toInt64.toUInt64 &&& Int64.toUInt64 63)).toInt64)) &&& (1085102592571150095 : Int64)) + (((((((x1 - (((x1.toUInt64 >>> ((1 : Int32).toInt64.toUInt64 &&& Int64.toUInt64 63)).toInt64) &&& (6148914691236517205 : Int64))) &&& (3689348814741910323 : Int64)) + ((((x1 - (((x1.toUInt64 >>> ((1 : Int32).toInt64.toUInt64 &&& Int64.toUInt64 63)).toInt64) &&& (6148914691236517205 : Int64))).toUInt64 >>> ((2 : Int32).toInt64.toUInt64 &&& Int64.toUInt64 63)).toInt64) &&& (3689348814741910323 : Int64))) + (((((x1 - (((x1.toUInt64 >>> ((1 : Int32).toInt64.toUInt64 &&& Int64.toUInt64 63)).toInt64) &&& (6148914691236517205 : Int64))) &&& (3689348814741910323 : Int64)) + ((((x1 - (((x1.toUInt64 >>> ((1 : Int32).toInt64.toUInt64 &&& Int64.toUInt64 63)).toInt64) &&& (6148914691236517205 : Int64))).toUInt64 >>> ((2 : Int32).toInt64.toUInt64 &&& Int64.toUInt64 63)).toInt64) &&& (3689348814741910323 : Int64))).toUInt64 >>> ((4 : Int32).toInt64.toUInt64 &&& Int64.toUInt64 63)).toInt64)) &&& (1085102592571150095 : Int64)).toUInt64 >>> ((8 : Int32).toInt64.toUInt64 &&& Int64.toUInt64 63)).toInt64)) + ((((((((x1 - (((x1.toUInt64 >>> ((1 : Int32).toInt64.toUInt64 &&& Int64.toUInt64 63)).toInt64) &&& (6148914691236517205 : Int64))) &&& (3689348814741910323 : Int64)) + ((((x1 - (((x1.toUInt64 >>> ((1 : Int32).toInt64.toUInt64 &&& Int64.toUInt64 63)).toInt64) &&& (6148914691236517205 : Int64))).toUInt64 >>> ((2 : Int32).toInt64.toUInt64 &&& Int64.toUInt64 63)).toInt64) &&& (3689348814741910323 : Int64))) + (((((x1 - (((x1.toUInt64 >>> ((1 : Int32).toInt64.toUInt64 &&& Int64.toUInt64 63)).toInt64) &&& (6148914691236517205 : Int64))) &&& (3689348814741910323 : Int64)) + ((((x1 - (((x1.toUInt64 >>> ((1 : Int32).toInt64.toUInt64 &&& Int64.toUInt64 63)).toInt64) &&& (6148914691236517205 : Int64))).toUInt64 >>> ((2 : Int32).toInt64.toUInt64 &&& Int64.toUInt64 63)).toInt64) &&& (3689348814741910323 : Int64))).toUInt64 >>> ((4 : Int32).toInt64.toUInt64 &&& Int64.toUInt64 63)).toInt64)) &&& (1085102592571150095 : Int64)) + (((((((x1 - (((x1.toUInt64 >>> ((1 : Int32).toInt64.toUInt64 &&& Int64.toUInt64 63)).toInt64) &&& (6148914691236517205 : Int64))) &&& (3689348814741910323 : Int64)) + ((((x1 - (((x1.toUInt64 >>> ((1 : Int32).toInt64.toUInt64 &&& Int64.toUInt64 63)).toInt64) &&& (6148914691236517205 : Int64))).toUInt64 >>> ((2 : Int32).toInt64.toUInt64 &&& Int64.toUInt64 63)).toInt64) &&& (3689348814741910323 : Int64))) + (((((x1 - (((x1.toUInt64 >>> ((1 : Int32).toInt64.toUInt64 &&& Int64.toUInt64 63)).toInt64) &&& (6148914691236517205 : Int64))) &&& (3689348814741910323 : Int64)) + ((((x1 - (((x1.toUInt64 >>> ((1 : Int32).toInt64.toUInt64 &&& Int64.toUInt64 63)).toInt64) &&& (6148914691236517205 : Int64))).toUInt64 >>> ((2 : Int32).toInt64.toUInt64 &&& Int64.toUInt64 63)).toInt64) &&& (3689348814741910323 : Int64))).toUInt64 >>> ((4 : Int32).toInt64.toUInt64 &&& Int64.toUInt64 63)).toInt64)) &&& (1085102592571150095 : Int64)).toUInt64 >>> ((8 : Int32).toInt64.toUInt64 &&& Int64.toUInt64 63)).toInt64)).toUInt64 >>> ((16 : Int32).toInt64.toUInt64 &&& Int64.toUInt64 63)).toInt64)).toUInt64 >>> ((32 : Int32).toInt64.toUInt64 &&& Int64.toUInt64 63)).toInt64)).toInt32 &&& (127 : Int32))
set_option maxRecDepth 20000 in
set_option maxHeartbeats 2000000 in
theorem tJ13_bitCount_95d88 (M : Mm) (x1 : Int64) {res : Int32} (h : fJ13_bitCount_95d88 M x1 = res) : TF yJ13_bitCount_95d88 cJ13_bitCount_95d88 2 (some .int) 0 [.inl (.long x1)] M (some (.int res)) M := by
  rw [fJ13_bitCount_95d88] at h
  refine TF.go (n := 0) (ls := [some (.inl (.long x1)), none]) rfl rfl rfl rfl rfl ?_
  refine z_lload_n (i := 0) dJ13_bitCount_95d88_0 rfl rfl ?_
  refine z_lload_n (i := 0) dJ13_bitCount_95d88_1 rfl rfl ?_
  refine z_iconst (v := (1 : Int32)) dJ13_bitCount_95d88_2 kc_1 ?_
  refine z_lushr dJ13_bitCount_95d88_3 ?_
  refine z_ldc2 (v := (6148914691236517205 : Int64)) dJ13_bitCount_95d88_4 (al_mem 1060 (by decide +kernel) rfl) ?_
  refine z_land dJ13_bitCount_95d88_7 ?_
  refine z_lsub dJ13_bitCount_95d88_8 ?_
  refine z_lstore_n (i := 0) dJ13_bitCount_95d88_9 rfl (Nat.le_of_ble_eq_true rfl) rfl ?_
  refine z_lload_n (i := 0) dJ13_bitCount_95d88_10 rfl rfl ?_
  refine z_ldc2 (v := (3689348814741910323 : Int64)) dJ13_bitCount_95d88_11 (al_mem 1061 (by decide +kernel) rfl) ?_
  refine z_land dJ13_bitCount_95d88_14 ?_
  refine z_lload_n (i := 0) dJ13_bitCount_95d88_15 rfl rfl ?_
  refine z_iconst (v := (2 : Int32)) dJ13_bitCount_95d88_16 kc_2 ?_
  refine z_lushr dJ13_bitCount_95d88_17 ?_
  refine z_ldc2 (v := (3689348814741910323 : Int64)) dJ13_bitCount_95d88_18 (al_mem 1061 (by decide +kernel) rfl) ?_
  refine z_land dJ13_bitCount_95d88_21 ?_
  refine z_ladd dJ13_bitCount_95d88_22 ?_
  refine z_lstore_n (i := 0) dJ13_bitCount_95d88_23 rfl (Nat.le_of_ble_eq_true rfl) rfl ?_
  refine z_lload_n (i := 0) dJ13_bitCount_95d88_24 rfl rfl ?_
  refine z_lload_n (i := 0) dJ13_bitCount_95d88_25 rfl rfl ?_
  refine z_iconst (v := (4 : Int32)) dJ13_bitCount_95d88_26 kc_4 ?_
  refine z_lushr dJ13_bitCount_95d88_27 ?_
  refine z_ladd dJ13_bitCount_95d88_28 ?_
  refine z_ldc2 (v := (1085102592571150095 : Int64)) dJ13_bitCount_95d88_29 (al_mem 1062 (by decide +kernel) rfl) ?_
  refine z_land dJ13_bitCount_95d88_32 ?_
  refine z_lstore_n (i := 0) dJ13_bitCount_95d88_33 rfl (Nat.le_of_ble_eq_true rfl) rfl ?_
  refine z_lload_n (i := 0) dJ13_bitCount_95d88_34 rfl rfl ?_
  refine z_lload_n (i := 0) dJ13_bitCount_95d88_35 rfl rfl ?_
  refine z_bipush (v := (8 : Int32)) dJ13_bitCount_95d88_36 kb_8 ?_
  refine z_lushr dJ13_bitCount_95d88_38 ?_
  refine z_ladd dJ13_bitCount_95d88_39 ?_
  refine z_lstore_n (i := 0) dJ13_bitCount_95d88_40 rfl (Nat.le_of_ble_eq_true rfl) rfl ?_
  refine z_lload_n (i := 0) dJ13_bitCount_95d88_41 rfl rfl ?_
  refine z_lload_n (i := 0) dJ13_bitCount_95d88_42 rfl rfl ?_
  refine z_bipush (v := (16 : Int32)) dJ13_bitCount_95d88_43 kb_16 ?_
  refine z_lushr dJ13_bitCount_95d88_45 ?_
  refine z_ladd dJ13_bitCount_95d88_46 ?_
  refine z_lstore_n (i := 0) dJ13_bitCount_95d88_47 rfl (Nat.le_of_ble_eq_true rfl) rfl ?_
  refine z_lload_n (i := 0) dJ13_bitCount_95d88_48 rfl rfl ?_
  refine z_lload_n (i := 0) dJ13_bitCount_95d88_49 rfl rfl ?_
  refine z_bipush (v := (32 : Int32)) dJ13_bitCount_95d88_50 kb_32 ?_
  refine z_lushr dJ13_bitCount_95d88_52 ?_
  refine z_ladd dJ13_bitCount_95d88_53 ?_
  refine z_lstore_n (i := 0) dJ13_bitCount_95d88_54 rfl (Nat.le_of_ble_eq_true rfl) rfl ?_
  refine z_lload_n (i := 0) dJ13_bitCount_95d88_55 rfl rfl ?_
  refine z_l2i dJ13_bitCount_95d88_56 ?_
  refine z_bipush (v := (127 : Int32)) dJ13_bitCount_95d88_57 kb_127 ?_
  refine z_iand dJ13_bitCount_95d88_59 ?_
  subst h
  exact z_iret dJ13_bitCount_95d88_60 rfl rfl (Nat.le_refl _) (Nat.le_refl _) ⟨rfl, rfl⟩
theorem sJ13_bitCount_95d88 (M : Mm) (x1 : Int64) : TF yJ13_bitCount_95d88 cJ13_bitCount_95d88 2 (some .int) 0 [.inl (.long x1)] M (some (.int (fJ13_bitCount_95d88 M x1))) M := tJ13_bitCount_95d88 M x1  rfl
theorem dX8_pitchNow_0 : decode cX8_pitchNow 0 = .ok (.aload_n 0, 1) := by decide +kernel
theorem dX8_pitchNow_1 : decode cX8_pitchNow 1 = .ok (.getfield 9, 3) := by decide +kernel
theorem dX8_pitchNow_4 : decode cX8_pitchNow 4 = .ok (.aload_n 0, 1) := by decide +kernel
theorem dX8_pitchNow_5 : decode cX8_pitchNow 5 = .ok (.getfield 24, 3) := by decide +kernel
theorem dX8_pitchNow_8 : decode cX8_pitchNow 8 = .ok (.iadd, 1) := by decide +kernel
theorem dX8_pitchNow_9 : decode cX8_pitchNow 9 = .ok (.ireturn, 1) := by decide +kernel
def fX8_pitchNow (M : Mm) (i : Nat) (t : Nat) : Int32 := ((M.1 (13, i, t) 0) + (M.1 (13, i, t) 1))
set_option maxRecDepth 20000 in
set_option maxHeartbeats 2000000 in
theorem tX8_pitchNow (M : Mm) (i : Nat) (t : Nat) (hi : i < 12) (ht : t < 12) {res : Int32} (h : fX8_pitchNow M i t = res) : TF yX8_pitchNow cX8_pitchNow 1 (some .int) 0 [.inr (13, i, t)] M (some (.int res)) M := by
  rw [fX8_pitchNow] at h
  refine TF.go (n := 0) (ls := [some (.inr (13, i, t))]) rfl rfl rfl rfl rfl ?_
  refine z_aload_n (i := 0) dX8_pitchNow_0 rfl rfl ?_
  refine z_getI (x := (M.1 (13, i, t) 0)) dX8_pitchNow_1 fl_X8_9 (m13 _ hi _ ht) rfl rfl ?_
  refine z_aload_n (i := 0) dX8_pitchNow_4 rfl rfl ?_
  refine z_getI (x := (M.1 (13, i, t) 1)) dX8_pitchNow_5 fl_X8_24 (m13 _ hi _ ht) rfl rfl ?_
  refine z_iadd dX8_pitchNow_8 ?_
  subst h
  exact z_iret dX8_pitchNow_9 rfl rfl (Nat.le_refl _) (Nat.le_refl _) ⟨rfl, rfl⟩
theorem sX8_pitchNow (M : Mm) (i : Nat) (t : Nat) (hi : i < 12) (ht : t < 12) : TF yX8_pitchNow cX8_pitchNow 1 (some .int) 0 [.inr (13, i, t)] M (some (.int (fX8_pitchNow M i t))) M := tX8_pitchNow M i t hi ht rfl
theorem dX0_pitchSum_0 : decode cX0_pitchSum 0 = .ok (.iconst 0, 1) := by decide +kernel
theorem dX0_pitchSum_1 : decode cX0_pitchSum 1 = .ok (.istore_n 2, 1) := by decide +kernel
theorem dX0_pitchSum_2 : decode cX0_pitchSum 2 = .ok (.iconst 0, 1) := by decide +kernel
theorem dX0_pitchSum_3 : decode cX0_pitchSum 3 = .ok (.istore_n 3, 1) := by decide +kernel
theorem dX0_pitchSum_4 : decode cX0_pitchSum 4 = .ok (.iload_n 3, 1) := by decide +kernel
theorem dX0_pitchSum_5 : decode cX0_pitchSum 5 = .ok (.aload_n 0, 1) := by decide +kernel
theorem dX0_pitchSum_6 : decode cX0_pitchSum 6 = .ok (.getfield 29, 3) := by decide +kernel
theorem dX0_pitchSum_9 : decode cX0_pitchSum 9 = .ok (.if_icmp .ge 34, 3) := by decide +kernel
theorem dX0_pitchSum_12 : decode cX0_pitchSum 12 = .ok (.iload_n 2, 1) := by decide +kernel
theorem dX0_pitchSum_13 : decode cX0_pitchSum 13 = .ok (.aload_n 0, 1) := by decide +kernel
theorem dX0_pitchSum_14 : decode cX0_pitchSum 14 = .ok (.getfield 12, 3) := by decide +kernel
theorem dX0_pitchSum_17 : decode cX0_pitchSum 17 = .ok (.iload_n 1, 1) := by decide +kernel
theorem dX0_pitchSum_18 : decode cX0_pitchSum 18 = .ok (.iload_n 3, 1) := by decide +kernel
theorem dX0_pitchSum_19 : decode cX0_pitchSum 19 = .ok (.invokevirtual 91, 3) := by decide +kernel
theorem dX0_pitchSum_22 : decode cX0_pitchSum 22 = .ok (.invokestatic 144, 3) := by decide +kernel
theorem dX0_pitchSum_25 : decode cX0_pitchSum 25 = .ok (.aload_n 0, 1) := by decide +kernel
theorem dX0_pitchSum_26 : decode cX0_pitchSum 26 = .ok (.getfield 20, 3) := by decide +kernel
theorem dX0_pitchSum_29 : decode cX0_pitchSum 29 = .ok (.iload_n 3, 1) := by decide +kernel
theorem dX0_pitchSum_30 : decode cX0_pitchSum 30 = .ok (.aaload, 1) := by decide +kernel
theorem dX0_pitchSum_31 : decode cX0_pitchSum 31 = .ok (.invokevirtual 150, 3) := by decide +kernel
theorem dX0_pitchSum_34 : decode cX0_pitchSum 34 = .ok (.imul, 1) := by decide +kernel
theorem dX0_pitchSum_35 : decode cX0_pitchSum 35 = .ok (.iadd, 1) := by decide +kernel
theorem dX0_pitchSum_36 : decode cX0_pitchSum 36 = .ok (.istore_n 2, 1) := by decide +kernel
theorem dX0_pitchSum_37 : decode cX0_pitchSum 37 = .ok (.iinc 3 1, 3) := by decide +kernel
theorem dX0_pitchSum_40 : decode cX0_pitchSum 40 = .ok (.goto (-36), 3) := by decide +kernel
theorem dX0_pitchSum_43 : decode cX0_pitchSum 43 = .ok (.iload_n 2, 1) := by decide +kernel
theorem dX0_pitchSum_44 : decode cX0_pitchSum 44 = .ok (.ireturn, 1) := by decide +kernel
def fX0_pitchSum_L4 (M : Mm) (i : Nat) (c1 : Int32) (K : Int32 → Int32 → Option Int32) : Nat → Int32 → Int32 → Option Int32
  | 0, _, _ => none
  | n + 1, v2, v3 => if (M.1 (9, i, 0) 2) ≤ v3 then K v2 v3 else (fX3_row M i c1 v3).bind fun q2 => if v3 < 0 ∨ 12 ≤ v3.toNatClampNeg then none else fX0_pitchSum_L4 M i c1 K n (v2 + ((fJ13_bitCount_95d88 M q2) * (fX8_pitchNow M i v3.toNatClampNeg))) (v3 + (1 : Int32))
def fX0_pitchSum (M : Mm) (i : Nat) (x1 : Int32) : Option Int32 := fX0_pitchSum_L4 M i x1 (fun w5 w6 => some w5) NF (0 : Int32) (0 : Int32)
set_option maxRecDepth 20000 in
set_option maxHeartbeats 2000000 in
theorem sX0_pitchSum_L4 (M : Mm) (i : Nat) (c1 : Int32) (hi : i < 12) {res : Int32} {K : Int32 → Int32 → Option Int32} : ∀ (n : Nat) (v2 : Int32) (v3 : Int32), fX0_pitchSum_L4 M i c1 K n v2 v3 = some res →
    (∀ (v2 : Int32) (v3 : Int32), K v2 v3 = some res → Z RX0 cX0_pitchSum 4 (some .int) [] "pitchSum" (rmD 2 0 0) (QM SH allR 0 0 (fun v M9 => v = some (.int res) ∧ M9 = M) (fun _ _ => False)) allR SH 0 0 43 [some (.inr (9, i, 0)), some (.inl (.int c1)), some (.inl (.int v2)), some (.inl (.int v3))] [] M) → Z RX0 cX0_pitchSum 4 (some .int) [] "pitchSum" (rmD 2 0 0) (QM SH allR 0 0 (fun v M9 => v = some (.int res) ∧ M9 = M) (fun _ _ => False)) allR SH 0 0 4 [some (.inr (9, i, 0)), some (.inl (.int c1)), some (.inl (.int v2)), some (.inl (.int v3))] [] M := by
  intro n
  induction n with
  | zero => intro v2 v3 h; cases h
  | succ n ih =>
    intro v2 v3 h hK
    rw [fX0_pitchSum_L4] at h
    refine z_iload_n (i := 3) dX0_pitchSum_4 rfl rfl ?_
    refine z_aload_n (i := 0) dX0_pitchSum_5 rfl rfl ?_
    refine z_getI (x := (M.1 (9, i, 0) 2)) dX0_pitchSum_6 fl_X0_29 (m9 _ hi) rfl rfl ?_
    refine z_icmp_ge (tgt := 43) dX0_pitchSum_9 rfl (fun hc1 => ?_) (fun hc1 => ?_)
    · have h := it_t h hc1
      exact hK _ _ h
    · have h := it_f h hc1
      refine z_iload_n (i := 2) dX0_pitchSum_12 rfl rfl ?_
      refine z_aload_n (i := 0) dX0_pitchSum_13 rfl rfl ?_
      refine z_getR (r' := (10, i, 0)) dX0_pitchSum_14 fl_X0_12 (m9 _ hi) rfl rfl ?_
      refine z_iload_n (i := 1) dX0_pitchSum_17 rfl rfl ?_
      refine z_iload_n (i := 3) dX0_pitchSum_18 rfl rfl ?_
      obtain ⟨q2, hq3, h⟩ := bnd h
      refine z_fVl (sX3_row M i c1 v3 hi hq3) dX0_pitchSum_19 ml_X0_91 cd_X3_row (m10 _ hi) rfl rfl rfl rfl rfl rfl ?_
      refine z_fSi (sJ13_bitCount_95d88 M q2) dX0_pitchSum_22 ml_X0_144 cd_J13_bitCount_95d88 rfl rfl rfl rfl rfl ?_
      refine z_aload_n (i := 0) dX0_pitchSum_25 rfl rfl ?_
      refine z_getR (r' := (12, i, 0)) dX0_pitchSum_26 fl_X0_20 (m9 _ hi) rfl rfl ?_
      refine z_iload_n (i := 3) dX0_pitchSum_29 rfl rfl ?_
      obtain ⟨hc4, h⟩ := chk h
      refine z_aald (t := 0) (r' := (13, i, v3.toNatClampNeg)) dX0_pitchSum_30 (m12 _ hi) rfl (Nat.le_of_ble_eq_true rfl) hc4 rfl ?_
      refine z_fVi (sX8_pitchNow M i v3.toNatClampNeg hi (ltN hc4)) dX0_pitchSum_31 ml_X0_150 cd_X8_pitchNow (m13 _ hi _ (ltN hc4)) rfl rfl rfl rfl rfl rfl ?_
      refine z_imul dX0_pitchSum_34 ?_
      refine z_iadd dX0_pitchSum_35 ?_
      refine z_istore_n (i := 2) dX0_pitchSum_36 rfl (Nat.le_of_ble_eq_true rfl) rfl ?_
      refine z_iinc (i := 3) (v := (v3 + (1 : Int32))) dX0_pitchSum_37 rfl (iinc_k kc_1) (Nat.le_of_ble_eq_true rfl) rfl ?_
      refine z_goto (tgt := 4) dX0_pitchSum_40 rfl ?_
      exact ih _ _ h hK
set_option maxRecDepth 20000 in
set_option maxHeartbeats 2000000 in
theorem sX0_pitchSum (M : Mm) (i : Nat) (x1 : Int32) (hi : i < 12) {res : Int32} (h : fX0_pitchSum M i x1 = some res) : TF yX0_pitchSum cX0_pitchSum 4 (some .int) 2 [.inr (9, i, 0), .inl (.int x1)] M (some (.int res)) M := by
  rw [fX0_pitchSum] at h
  refine TF.go (n := 2) (ls := [some (.inr (9, i, 0)), some (.inl (.int x1)), none, none]) rfl rfl rfl rfl rfl ?_
  refine z_iconst (v := (0 : Int32)) dX0_pitchSum_0 kc_0 ?_
  refine z_istore_n (i := 2) dX0_pitchSum_1 rfl (Nat.le_of_ble_eq_true rfl) rfl ?_
  refine z_iconst (v := (0 : Int32)) dX0_pitchSum_2 kc_0 ?_
  refine z_istore_n (i := 3) dX0_pitchSum_3 rfl (Nat.le_of_ble_eq_true rfl) rfl ?_
  refine sX0_pitchSum_L4 M i x1 hi NF _ _ h (fun w5 w6 h => ?_)
  refine z_iload_n (i := 2) dX0_pitchSum_43 rfl rfl ?_
  cases h
  exact z_iret dX0_pitchSum_44 rfl rfl (Nat.le_refl _) (Nat.le_refl _) ⟨rfl, rfl⟩
theorem dJ9_abs_0f7a4_0 : decode cJ9_abs_0f7a4 0 = .ok (.iload_n 0, 1) := by decide +kernel
theorem dJ9_abs_0f7a4_1 : decode cJ9_abs_0f7a4 1 = .ok (.ifCond .ge 8, 3) := by decide +kernel
theorem dJ9_abs_0f7a4_4 : decode cJ9_abs_0f7a4 4 = .ok (.iload_n 0, 1) := by decide +kernel
theorem dJ9_abs_0f7a4_5 : decode cJ9_abs_0f7a4 5 = .ok (.ineg, 1) := by decide +kernel
theorem dJ9_abs_0f7a4_6 : decode cJ9_abs_0f7a4 6 = .ok (.goto 4, 3) := by decide +kernel
theorem dJ9_abs_0f7a4_9 : decode cJ9_abs_0f7a4 9 = .ok (.iload_n 0, 1) := by decide +kernel
theorem dJ9_abs_0f7a4_10 : decode cJ9_abs_0f7a4 10 = .ok (.ireturn, 1) := by decide +kernel
def fJ9_abs_0f7a4 (M : Mm) (x1 : Int32) : Int32 := if 0 ≤ x1 then x1 else (-x1)
set_option maxRecDepth 20000 in
set_option maxHeartbeats 2000000 in
theorem tJ9_abs_0f7a4 (M : Mm) (x1 : Int32) {res : Int32} (h : fJ9_abs_0f7a4 M x1 = res) : TF yJ9_abs_0f7a4 cJ9_abs_0f7a4 1 (some .int) 0 [.inl (.int x1)] M (some (.int res)) M := by
  rw [fJ9_abs_0f7a4] at h
  refine TF.go (n := 0) (ls := [some (.inl (.int x1))]) (by decide +kernel) rfl rfl rfl rfl ?_
  refine z_iload_n (i := 0) dJ9_abs_0f7a4_0 rfl rfl ?_
  refine z_if_ge (tgt := 9) dJ9_abs_0f7a4_1 rfl (fun hc1 => ?_) (fun hc1 => ?_)
  · have h := it_t h hc1
    refine z_iload_n (i := 0) dJ9_abs_0f7a4_9 rfl rfl ?_
    subst h
    exact z_iret dJ9_abs_0f7a4_10 rfl rfl (Nat.le_refl _) (Nat.le_refl _) ⟨rfl, rfl⟩
  · have h := it_f h hc1
    refine z_iload_n (i := 0) dJ9_abs_0f7a4_4 rfl rfl ?_
    refine z_ineg dJ9_abs_0f7a4_5 ?_
    refine z_goto (tgt := 10) dJ9_abs_0f7a4_6 rfl ?_
    subst h
    exact z_iret dJ9_abs_0f7a4_10 rfl rfl (Nat.le_refl _) (Nat.le_refl _) ⟨rfl, rfl⟩
theorem sJ9_abs_0f7a4 (M : Mm) (x1 : Int32) : TF yJ9_abs_0f7a4 cJ9_abs_0f7a4 1 (some .int) 0 [.inl (.int x1)] M (some (.int (fJ9_abs_0f7a4 M x1))) M := tJ9_abs_0f7a4 M x1  rfl
theorem dX0_unexplainedWear_0 : decode cX0_unexplainedWear 0 = .ok (.aload_n 0, 1) := by decide +kernel
theorem dX0_unexplainedWear_1 : decode cX0_unexplainedWear 1 = .ok (.getfield 51, 3) := by decide +kernel
theorem dX0_unexplainedWear_4 : decode cX0_unexplainedWear 4 = .ok (.istore_n 1, 1) := by decide +kernel
theorem dX0_unexplainedWear_5 : decode cX0_unexplainedWear 5 = .ok (.iconst 0, 1) := by decide +kernel
theorem dX0_unexplainedWear_6 : decode cX0_unexplainedWear 6 = .ok (.istore_n 2, 1) := by decide +kernel
theorem dX0_unexplainedWear_7 : decode cX0_unexplainedWear 7 = .ok (.iload_n 2, 1) := by decide +kernel
theorem dX0_unexplainedWear_8 : decode cX0_unexplainedWear 8 = .ok (.aload_n 0, 1) := by decide +kernel
theorem dX0_unexplainedWear_9 : decode cX0_unexplainedWear 9 = .ok (.getfield 29, 3) := by decide +kernel
theorem dX0_unexplainedWear_12 : decode cX0_unexplainedWear 12 = .ok (.if_icmp .ge 21, 3) := by decide +kernel
theorem dX0_unexplainedWear_15 : decode cX0_unexplainedWear 15 = .ok (.iload_n 1, 1) := by decide +kernel
theorem dX0_unexplainedWear_16 : decode cX0_unexplainedWear 16 = .ok (.aload_n 0, 1) := by decide +kernel
theorem dX0_unexplainedWear_17 : decode cX0_unexplainedWear 17 = .ok (.getfield 20, 3) := by decide +kernel
theorem dX0_unexplainedWear_20 : decode cX0_unexplainedWear 20 = .ok (.iload_n 2, 1) := by decide +kernel
theorem dX0_unexplainedWear_21 : decode cX0_unexplainedWear 21 = .ok (.aaload, 1) := by decide +kernel
theorem dX0_unexplainedWear_22 : decode cX0_unexplainedWear 22 = .ok (.getfield 105, 3) := by decide +kernel
theorem dX0_unexplainedWear_25 : decode cX0_unexplainedWear 25 = .ok (.iadd, 1) := by decide +kernel
theorem dX0_unexplainedWear_26 : decode cX0_unexplainedWear 26 = .ok (.istore_n 1, 1) := by decide +kernel
theorem dX0_unexplainedWear_27 : decode cX0_unexplainedWear 27 = .ok (.iinc 2 1, 3) := by decide +kernel
theorem dX0_unexplainedWear_30 : decode cX0_unexplainedWear 30 = .ok (.goto (-23), 3) := by decide +kernel
theorem dX0_unexplainedWear_33 : decode cX0_unexplainedWear 33 = .ok (.iload_n 1, 1) := by decide +kernel
theorem dX0_unexplainedWear_34 : decode cX0_unexplainedWear 34 = .ok (.aload_n 0, 1) := by decide +kernel
theorem dX0_unexplainedWear_35 : decode cX0_unexplainedWear 35 = .ok (.getfield 39, 3) := by decide +kernel
theorem dX0_unexplainedWear_38 : decode cX0_unexplainedWear 38 = .ok (.iconst 1, 1) := by decide +kernel
theorem dX0_unexplainedWear_39 : decode cX0_unexplainedWear 39 = .ok (.imul, 1) := by decide +kernel
theorem dX0_unexplainedWear_40 : decode cX0_unexplainedWear 40 = .ok (.aload_n 0, 1) := by decide +kernel
theorem dX0_unexplainedWear_41 : decode cX0_unexplainedWear 41 = .ok (.getfield 42, 3) := by decide +kernel
theorem dX0_unexplainedWear_44 : decode cX0_unexplainedWear 44 = .ok (.iconst 5, 1) := by decide +kernel
theorem dX0_unexplainedWear_45 : decode cX0_unexplainedWear 45 = .ok (.imul, 1) := by decide +kernel
theorem dX0_unexplainedWear_46 : decode cX0_unexplainedWear 46 = .ok (.iadd, 1) := by decide +kernel
theorem dX0_unexplainedWear_47 : decode cX0_unexplainedWear 47 = .ok (.aload_n 0, 1) := by decide +kernel
theorem dX0_unexplainedWear_48 : decode cX0_unexplainedWear 48 = .ok (.getfield 48, 3) := by decide +kernel
theorem dX0_unexplainedWear_51 : decode cX0_unexplainedWear 51 = .ok (.iconst 3, 1) := by decide +kernel
theorem dX0_unexplainedWear_52 : decode cX0_unexplainedWear 52 = .ok (.imul, 1) := by decide +kernel
theorem dX0_unexplainedWear_53 : decode cX0_unexplainedWear 53 = .ok (.iadd, 1) := by decide +kernel
theorem dX0_unexplainedWear_54 : decode cX0_unexplainedWear 54 = .ok (.isub, 1) := by decide +kernel
theorem dX0_unexplainedWear_55 : decode cX0_unexplainedWear 55 = .ok (.invokestatic 154, 3) := by decide +kernel
theorem dX0_unexplainedWear_58 : decode cX0_unexplainedWear 58 = .ok (.ireturn, 1) := by decide +kernel
def fX0_unexplainedWear_L7 (M : Mm) (i : Nat) (K : Int32 → Int32 → Option Int32) : Nat → Int32 → Int32 → Option Int32
  | 0, _, _ => none
  | n + 1, v1, v2 => if (M.1 (9, i, 0) 2) ≤ v2 then K v1 v2 else if v2 < 0 ∨ 12 ≤ v2.toNatClampNeg then none else fX0_unexplainedWear_L7 M i K n (v1 + (M.1 (13, i, v2.toNatClampNeg) 4)) (v2 + (1 : Int32))
def fX0_unexplainedWear (M : Mm) (i : Nat) : Option Int32 := fX0_unexplainedWear_L7 M i (fun w3 w4 => some (fJ9_abs_0f7a4 M (w3 - ((((M.1 (9, i, 0) 5) * (1 : Int32)) + ((M.1 (9, i, 0) 6) * (5 : Int32))) + ((M.1 (9, i, 0) 8) * (3 : Int32)))))) NF (M.1 (9, i, 0) 9) (0 : Int32)
set_option maxRecDepth 20000 in
set_option maxHeartbeats 2000000 in
theorem sX0_unexplainedWear_L7 (M : Mm) (i : Nat) (hi : i < 12) {res : Int32} {K : Int32 → Int32 → Option Int32} : ∀ (n : Nat) (v1 : Int32) (v2 : Int32), fX0_unexplainedWear_L7 M i K n v1 v2 = some res →
    (∀ (v1 : Int32) (v2 : Int32), K v1 v2 = some res → Z RX0 cX0_unexplainedWear 3 (some .int) [] "unexplainedWear" (rmD 1 0 0) (QM SH allR 0 0 (fun v M9 => v = some (.int res) ∧ M9 = M) (fun _ _ => False)) allR SH 0 0 33 [some (.inr (9, i, 0)), some (.inl (.int v1)), some (.inl (.int v2))] [] M) → Z RX0 cX0_unexplainedWear 3 (some .int) [] "unexplainedWear" (rmD 1 0 0) (QM SH allR 0 0 (fun v M9 => v = some (.int res) ∧ M9 = M) (fun _ _ => False)) allR SH 0 0 7 [some (.inr (9, i, 0)), some (.inl (.int v1)), some (.inl (.int v2))] [] M := by
  intro n
  induction n with
  | zero => intro v1 v2 h; cases h
  | succ n ih =>
    intro v1 v2 h hK
    rw [fX0_unexplainedWear_L7] at h
    refine z_iload_n (i := 2) dX0_unexplainedWear_7 rfl rfl ?_
    refine z_aload_n (i := 0) dX0_unexplainedWear_8 rfl rfl ?_
    refine z_getI (x := (M.1 (9, i, 0) 2)) dX0_unexplainedWear_9 fl_X0_29 (m9 _ hi) rfl rfl ?_
    refine z_icmp_ge (tgt := 33) dX0_unexplainedWear_12 rfl (fun hc1 => ?_) (fun hc1 => ?_)
    · have h := it_t h hc1
      exact hK _ _ h
    · have h := it_f h hc1
      refine z_iload_n (i := 1) dX0_unexplainedWear_15 rfl rfl ?_
      refine z_aload_n (i := 0) dX0_unexplainedWear_16 rfl rfl ?_
      refine z_getR (r' := (12, i, 0)) dX0_unexplainedWear_17 fl_X0_20 (m9 _ hi) rfl rfl ?_
      refine z_iload_n (i := 2) dX0_unexplainedWear_20 rfl rfl ?_
      obtain ⟨hc2, h⟩ := chk h
      refine z_aald (t := 0) (r' := (13, i, v2.toNatClampNeg)) dX0_unexplainedWear_21 (m12 _ hi) rfl (Nat.le_of_ble_eq_true rfl) hc2 rfl ?_
      refine z_getI (x := (M.1 (13, i, v2.toNatClampNeg) 4)) dX0_unexplainedWear_22 fl_X0_105 (m13 _ hi _ (ltN hc2)) rfl rfl ?_
      refine z_iadd dX0_unexplainedWear_25 ?_
      refine z_istore_n (i := 1) dX0_unexplainedWear_26 rfl (Nat.le_of_ble_eq_true rfl) rfl ?_
      refine z_iinc (i := 2) (v := (v2 + (1 : Int32))) dX0_unexplainedWear_27 rfl (iinc_k kc_1) (Nat.le_of_ble_eq_true rfl) rfl ?_
      refine z_goto (tgt := 7) dX0_unexplainedWear_30 rfl ?_
      exact ih _ _ h hK
set_option maxRecDepth 20000 in
set_option maxHeartbeats 2000000 in
theorem sX0_unexplainedWear (M : Mm) (i : Nat) (hi : i < 12) {res : Int32} (h : fX0_unexplainedWear M i = some res) : TF yX0_unexplainedWear cX0_unexplainedWear 3 (some .int) 1 [.inr (9, i, 0)] M (some (.int res)) M := by
  rw [fX0_unexplainedWear] at h
  refine TF.go (n := 2) (ls := [some (.inr (9, i, 0)), none, none]) rfl rfl rfl rfl rfl ?_
  refine z_aload_n (i := 0) dX0_unexplainedWear_0 rfl rfl ?_
  refine z_getI (x := (M.1 (9, i, 0) 9)) dX0_unexplainedWear_1 fl_X0_51 (m9 _ hi) rfl rfl ?_
  refine z_istore_n (i := 1) dX0_unexplainedWear_4 rfl (Nat.le_of_ble_eq_true rfl) rfl ?_
  refine z_iconst (v := (0 : Int32)) dX0_unexplainedWear_5 kc_0 ?_
  refine z_istore_n (i := 2) dX0_unexplainedWear_6 rfl (Nat.le_of_ble_eq_true rfl) rfl ?_
  refine sX0_unexplainedWear_L7 M i hi NF _ _ h (fun w3 w4 h => ?_)
  refine z_iload_n (i := 1) dX0_unexplainedWear_33 rfl rfl ?_
  refine z_aload_n (i := 0) dX0_unexplainedWear_34 rfl rfl ?_
  refine z_getI (x := (M.1 (9, i, 0) 5)) dX0_unexplainedWear_35 fl_X0_39 (m9 _ hi) rfl rfl ?_
  refine z_iconst (v := (1 : Int32)) dX0_unexplainedWear_38 kc_1 ?_
  refine z_imul dX0_unexplainedWear_39 ?_
  refine z_aload_n (i := 0) dX0_unexplainedWear_40 rfl rfl ?_
  refine z_getI (x := (M.1 (9, i, 0) 6)) dX0_unexplainedWear_41 fl_X0_42 (m9 _ hi) rfl rfl ?_
  refine z_iconst (v := (5 : Int32)) dX0_unexplainedWear_44 kc_5 ?_
  refine z_imul dX0_unexplainedWear_45 ?_
  refine z_iadd dX0_unexplainedWear_46 ?_
  refine z_aload_n (i := 0) dX0_unexplainedWear_47 rfl rfl ?_
  refine z_getI (x := (M.1 (9, i, 0) 8)) dX0_unexplainedWear_48 fl_X0_48 (m9 _ hi) rfl rfl ?_
  refine z_iconst (v := (3 : Int32)) dX0_unexplainedWear_51 kc_3 ?_
  refine z_imul dX0_unexplainedWear_52 ?_
  refine z_iadd dX0_unexplainedWear_53 ?_
  refine z_isub dX0_unexplainedWear_54 ?_
  refine z_fSi (sJ9_abs_0f7a4 M (w3 - ((((M.1 (9, i, 0) 5) * (1 : Int32)) + ((M.1 (9, i, 0) 6) * (5 : Int32))) + ((M.1 (9, i, 0) 8) * (3 : Int32))))) dX0_unexplainedWear_55 ml_X0_154 cd_J9_abs_0f7a4 rfl rfl rfl rfl rfl ?_
  cases h
  exact z_iret dX0_unexplainedWear_58 rfl rfl (Nat.le_refl _) (Nat.le_refl _) ⟨rfl, rfl⟩
theorem dX0_brokenTooEarly_0 : decode cX0_brokenTooEarly 0 = .ok (.iconst 0, 1) := by decide +kernel
theorem dX0_brokenTooEarly_1 : decode cX0_brokenTooEarly 1 = .ok (.istore_n 1, 1) := by decide +kernel
theorem dX0_brokenTooEarly_2 : decode cX0_brokenTooEarly 2 = .ok (.iconst 0, 1) := by decide +kernel
theorem dX0_brokenTooEarly_3 : decode cX0_brokenTooEarly 3 = .ok (.istore_n 2, 1) := by decide +kernel
theorem dX0_brokenTooEarly_4 : decode cX0_brokenTooEarly 4 = .ok (.iload_n 2, 1) := by decide +kernel
theorem dX0_brokenTooEarly_5 : decode cX0_brokenTooEarly 5 = .ok (.aload_n 0, 1) := by decide +kernel
theorem dX0_brokenTooEarly_6 : decode cX0_brokenTooEarly 6 = .ok (.getfield 29, 3) := by decide +kernel
theorem dX0_brokenTooEarly_9 : decode cX0_brokenTooEarly 9 = .ok (.if_icmp .ge 45, 3) := by decide +kernel
theorem dX0_brokenTooEarly_12 : decode cX0_brokenTooEarly 12 = .ok (.aload_n 0, 1) := by decide +kernel
theorem dX0_brokenTooEarly_13 : decode cX0_brokenTooEarly 13 = .ok (.getfield 20, 3) := by decide +kernel
theorem dX0_brokenTooEarly_16 : decode cX0_brokenTooEarly 16 = .ok (.iload_n 2, 1) := by decide +kernel
theorem dX0_brokenTooEarly_17 : decode cX0_brokenTooEarly 17 = .ok (.aaload, 1) := by decide +kernel
theorem dX0_brokenTooEarly_18 : decode cX0_brokenTooEarly 18 = .ok (.invokevirtual 101, 3) := by decide +kernel
theorem dX0_brokenTooEarly_21 : decode cX0_brokenTooEarly 21 = .ok (.ifCond .eq 27, 3) := by decide +kernel
theorem dX0_brokenTooEarly_24 : decode cX0_brokenTooEarly 24 = .ok (.aload_n 0, 1) := by decide +kernel
theorem dX0_brokenTooEarly_25 : decode cX0_brokenTooEarly 25 = .ok (.getfield 20, 3) := by decide +kernel
theorem dX0_brokenTooEarly_28 : decode cX0_brokenTooEarly 28 = .ok (.iload_n 2, 1) := by decide +kernel
theorem dX0_brokenTooEarly_29 : decode cX0_brokenTooEarly 29 = .ok (.aaload, 1) := by decide +kernel
theorem dX0_brokenTooEarly_30 : decode cX0_brokenTooEarly 30 = .ok (.getfield 105, 3) := by decide +kernel
theorem dX0_brokenTooEarly_33 : decode cX0_brokenTooEarly 33 = .ok (.aload_n 0, 1) := by decide +kernel
theorem dX0_brokenTooEarly_34 : decode cX0_brokenTooEarly 34 = .ok (.getfield 20, 3) := by decide +kernel
theorem dX0_brokenTooEarly_37 : decode cX0_brokenTooEarly 37 = .ok (.iload_n 2, 1) := by decide +kernel
theorem dX0_brokenTooEarly_38 : decode cX0_brokenTooEarly 38 = .ok (.aaload, 1) := by decide +kernel
theorem dX0_brokenTooEarly_39 : decode cX0_brokenTooEarly 39 = .ok (.getfield 157, 3) := by decide +kernel
theorem dX0_brokenTooEarly_42 : decode cX0_brokenTooEarly 42 = .ok (.if_icmp .ge 6, 3) := by decide +kernel
theorem dX0_brokenTooEarly_45 : decode cX0_brokenTooEarly 45 = .ok (.iinc 1 1, 3) := by decide +kernel
theorem dX0_brokenTooEarly_48 : decode cX0_brokenTooEarly 48 = .ok (.iinc 2 1, 3) := by decide +kernel
theorem dX0_brokenTooEarly_51 : decode cX0_brokenTooEarly 51 = .ok (.goto (-47), 3) := by decide +kernel
theorem dX0_brokenTooEarly_54 : decode cX0_brokenTooEarly 54 = .ok (.iload_n 1, 1) := by decide +kernel
theorem dX0_brokenTooEarly_55 : decode cX0_brokenTooEarly 55 = .ok (.ireturn, 1) := by decide +kernel
def fX0_brokenTooEarly_L4 (M : Mm) (i : Nat) (K : Int32 → Int32 → Option Int32) : Nat → Int32 → Int32 → Option Int32
  | 0, _, _ => none
  | n + 1, v1, v2 => if (M.1 (9, i, 0) 2) ≤ v2 then K v1 v2 else if v2 < 0 ∨ 12 ≤ v2.toNatClampNeg then none else if (fX8_brokenNow M i v2.toNatClampNeg) = 0 then fX0_brokenTooEarly_L4 M i K n v1 (v2 + (1 : Int32)) else if v2 < 0 ∨ 12 ≤ v2.toNatClampNeg then none else if v2 < 0 ∨ 12 ≤ v2.toNatClampNeg then none else if (M.1 (13, i, v2.toNatClampNeg) 3) ≤ (M.1 (13, i, v2.toNatClampNeg) 4) then fX0_brokenTooEarly_L4 M i K n v1 (v2 + (1 : Int32)) else fX0_brokenTooEarly_L4 M i K n (v1 + (1 : Int32)) (v2 + (1 : Int32))
def fX0_brokenTooEarly (M : Mm) (i : Nat) : Option Int32 := fX0_brokenTooEarly_L4 M i (fun w7 w8 => some w7) NF (0 : Int32) (0 : Int32)
set_option maxRecDepth 20000 in
set_option maxHeartbeats 2000000 in
theorem sX0_brokenTooEarly_L4 (M : Mm) (i : Nat) (hi : i < 12) {res : Int32} {K : Int32 → Int32 → Option Int32} : ∀ (n : Nat) (v1 : Int32) (v2 : Int32), fX0_brokenTooEarly_L4 M i K n v1 v2 = some res →
    (∀ (v1 : Int32) (v2 : Int32), K v1 v2 = some res → Z RX0 cX0_brokenTooEarly 3 (some .int) [] "brokenTooEarly" (rmD 1 0 0) (QM SH allR 0 0 (fun v M9 => v = some (.int res) ∧ M9 = M) (fun _ _ => False)) allR SH 0 0 54 [some (.inr (9, i, 0)), some (.inl (.int v1)), some (.inl (.int v2))] [] M) → Z RX0 cX0_brokenTooEarly 3 (some .int) [] "brokenTooEarly" (rmD 1 0 0) (QM SH allR 0 0 (fun v M9 => v = some (.int res) ∧ M9 = M) (fun _ _ => False)) allR SH 0 0 4 [some (.inr (9, i, 0)), some (.inl (.int v1)), some (.inl (.int v2))] [] M := by
  intro n
  induction n with
  | zero => intro v1 v2 h; cases h
  | succ n ih =>
    intro v1 v2 h hK
    rw [fX0_brokenTooEarly_L4] at h
    refine z_iload_n (i := 2) dX0_brokenTooEarly_4 rfl rfl ?_
    refine z_aload_n (i := 0) dX0_brokenTooEarly_5 rfl rfl ?_
    refine z_getI (x := (M.1 (9, i, 0) 2)) dX0_brokenTooEarly_6 fl_X0_29 (m9 _ hi) rfl rfl ?_
    refine z_icmp_ge (tgt := 54) dX0_brokenTooEarly_9 rfl (fun hc1 => ?_) (fun hc1 => ?_)
    · have h := it_t h hc1
      exact hK _ _ h
    · have h := it_f h hc1
      refine z_aload_n (i := 0) dX0_brokenTooEarly_12 rfl rfl ?_
      refine z_getR (r' := (12, i, 0)) dX0_brokenTooEarly_13 fl_X0_20 (m9 _ hi) rfl rfl ?_
      refine z_iload_n (i := 2) dX0_brokenTooEarly_16 rfl rfl ?_
      obtain ⟨hc2, h⟩ := chk h
      refine z_aald (t := 0) (r' := (13, i, v2.toNatClampNeg)) dX0_brokenTooEarly_17 (m12 _ hi) rfl (Nat.le_of_ble_eq_true rfl) hc2 rfl ?_
      refine z_fVi (sX8_brokenNow M i v2.toNatClampNeg hi (ltN hc2)) dX0_brokenTooEarly_18 ml_X0_101 cd_X8_brokenNow (m13 _ hi _ (ltN hc2)) rfl rfl rfl rfl rfl rfl ?_
      refine z_if_eq (tgt := 48) dX0_brokenTooEarly_21 rfl (fun hc3 => ?_) (fun hc3 => ?_)
      · have h := it_t h hc3
        refine z_iinc (i := 2) (v := (v2 + (1 : Int32))) dX0_brokenTooEarly_48 rfl (iinc_k kc_1) (Nat.le_of_ble_eq_true rfl) rfl ?_
        refine z_goto (tgt := 4) dX0_brokenTooEarly_51 rfl ?_
        exact ih _ _ h hK
      · have h := it_f h hc3
        refine z_aload_n (i := 0) dX0_brokenTooEarly_24 rfl rfl ?_
        refine z_getR (r' := (12, i, 0)) dX0_brokenTooEarly_25 fl_X0_20 (m9 _ hi) rfl rfl ?_
        refine z_iload_n (i := 2) dX0_brokenTooEarly_28 rfl rfl ?_
        obtain ⟨hc4, h⟩ := chk h
        refine z_aald (t := 0) (r' := (13, i, v2.toNatClampNeg)) dX0_brokenTooEarly_29 (m12 _ hi) rfl (Nat.le_of_ble_eq_true rfl) hc4 rfl ?_
        refine z_getI (x := (M.1 (13, i, v2.toNatClampNeg) 4)) dX0_brokenTooEarly_30 fl_X0_105 (m13 _ hi _ (ltN hc4)) rfl rfl ?_
        refine z_aload_n (i := 0) dX0_brokenTooEarly_33 rfl rfl ?_
        refine z_getR (r' := (12, i, 0)) dX0_brokenTooEarly_34 fl_X0_20 (m9 _ hi) rfl rfl ?_
        refine z_iload_n (i := 2) dX0_brokenTooEarly_37 rfl rfl ?_
        obtain ⟨hc5, h⟩ := chk h
        refine z_aald (t := 0) (r' := (13, i, v2.toNatClampNeg)) dX0_brokenTooEarly_38 (m12 _ hi) rfl (Nat.le_of_ble_eq_true rfl) hc5 rfl ?_
        refine z_getI (x := (M.1 (13, i, v2.toNatClampNeg) 3)) dX0_brokenTooEarly_39 fl_X0_157 (m13 _ hi _ (ltN hc5)) rfl rfl ?_
        refine z_icmp_ge (tgt := 48) dX0_brokenTooEarly_42 rfl (fun hc6 => ?_) (fun hc6 => ?_)
        · have h := it_t h hc6
          refine z_iinc (i := 2) (v := (v2 + (1 : Int32))) dX0_brokenTooEarly_48 rfl (iinc_k kc_1) (Nat.le_of_ble_eq_true rfl) rfl ?_
          refine z_goto (tgt := 4) dX0_brokenTooEarly_51 rfl ?_
          exact ih _ _ h hK
        · have h := it_f h hc6
          refine z_iinc (i := 1) (v := (v1 + (1 : Int32))) dX0_brokenTooEarly_45 rfl (iinc_k kc_1) (Nat.le_of_ble_eq_true rfl) rfl ?_
          refine z_iinc (i := 2) (v := (v2 + (1 : Int32))) dX0_brokenTooEarly_48 rfl (iinc_k kc_1) (Nat.le_of_ble_eq_true rfl) rfl ?_
          refine z_goto (tgt := 4) dX0_brokenTooEarly_51 rfl ?_
          exact ih _ _ h hK
set_option maxRecDepth 20000 in
set_option maxHeartbeats 2000000 in
theorem sX0_brokenTooEarly (M : Mm) (i : Nat) (hi : i < 12) {res : Int32} (h : fX0_brokenTooEarly M i = some res) : TF yX0_brokenTooEarly cX0_brokenTooEarly 3 (some .int) 1 [.inr (9, i, 0)] M (some (.int res)) M := by
  rw [fX0_brokenTooEarly] at h
  refine TF.go (n := 2) (ls := [some (.inr (9, i, 0)), none, none]) rfl rfl rfl rfl rfl ?_
  refine z_iconst (v := (0 : Int32)) dX0_brokenTooEarly_0 kc_0 ?_
  refine z_istore_n (i := 1) dX0_brokenTooEarly_1 rfl (Nat.le_of_ble_eq_true rfl) rfl ?_
  refine z_iconst (v := (0 : Int32)) dX0_brokenTooEarly_2 kc_0 ?_
  refine z_istore_n (i := 2) dX0_brokenTooEarly_3 rfl (Nat.le_of_ble_eq_true rfl) rfl ?_
  refine sX0_brokenTooEarly_L4 M i hi NF _ _ h (fun w7 w8 h => ?_)
  refine z_iload_n (i := 1) dX0_brokenTooEarly_54 rfl rfl ?_
  cases h
  exact z_iret dX0_brokenTooEarly_55 rfl rfl (Nat.le_refl _) (Nat.le_refl _) ⟨rfl, rfl⟩
theorem dX1_put_0 : decode cX1_put 0 = .ok (.aload_n 0, 1) := by decide +kernel
theorem dX1_put_1 : decode cX1_put 1 = .ok (.getfield 21, 3) := by decide +kernel
theorem dX1_put_4 : decode cX1_put 4 = .ok (.ifCond .lt 35, 3) := by decide +kernel
theorem dX1_put_7 : decode cX1_put 7 = .ok (.aload_n 0, 1) := by decide +kernel
theorem dX1_put_8 : decode cX1_put 8 = .ok (.getfield 21, 3) := by decide +kernel
theorem dX1_put_11 : decode cX1_put 11 = .ok (.aload_n 0, 1) := by decide +kernel
theorem dX1_put_12 : decode cX1_put 12 = .ok (.getfield 15, 3) := by decide +kernel
theorem dX1_put_15 : decode cX1_put 15 = .ok (.arraylength, 1) := by decide +kernel
theorem dX1_put_16 : decode cX1_put 16 = .ok (.if_icmp .ge 23, 3) := by decide +kernel
theorem dX1_put_19 : decode cX1_put 19 = .ok (.aload_n 0, 1) := by decide +kernel
theorem dX1_put_20 : decode cX1_put 20 = .ok (.getfield 15, 3) := by decide +kernel
theorem dX1_put_23 : decode cX1_put 23 = .ok (.aload_n 0, 1) := by decide +kernel
theorem dX1_put_24 : decode cX1_put 24 = .ok (.getfield 21, 3) := by decide +kernel
theorem dX1_put_27 : decode cX1_put 27 = .ok (.iload_n 1, 1) := by decide +kernel
theorem dX1_put_28 : decode cX1_put 28 = .ok (.iastore, 1) := by decide +kernel
theorem dX1_put_29 : decode cX1_put 29 = .ok (.aload_n 0, 1) := by decide +kernel
theorem dX1_put_30 : decode cX1_put 30 = .ok (.dup, 1) := by decide +kernel
theorem dX1_put_31 : decode cX1_put 31 = .ok (.getfield 21, 3) := by decide +kernel
theorem dX1_put_34 : decode cX1_put 34 = .ok (.iconst 1, 1) := by decide +kernel
theorem dX1_put_35 : decode cX1_put 35 = .ok (.iadd, 1) := by decide +kernel
theorem dX1_put_36 : decode cX1_put 36 = .ok (.putfield 21, 3) := by decide +kernel
theorem dX1_put_39 : decode cX1_put 39 = .ok (.return_, 1) := by decide +kernel
def fX1_put (M : Mm) (i : Nat) (x1 : Int32) : Option Mm := if (M.1 (1, i, 0) 1) < 0 then some M else if (Int32.ofNat (bl i)) ≤ (M.1 (1, i, 0) 1) then some M else if (M.1 (1, i, 0) 1) < 0 ∨ (bl i) ≤ (M.1 (1, i, 0) 1).toNatClampNeg then none else some (putI (putI M (2, i, 0) (M.1 (1, i, 0) 1).toNatClampNeg x1) (1, i, 0) 1 ((M.1 (1, i, 0) 1) + (1 : Int32)))
set_option maxRecDepth 20000 in
set_option maxHeartbeats 2000000 in
theorem sX1_put (M : Mm) (i : Nat) (x1 : Int32) (hi : i < 2) {res : Mm} (h : fX1_put M i x1 = some res) : TF yX1_put cX1_put 2 none 0 [.inr (1, i, 0), .inl (.int x1)] M (none) res := by
  rw [fX1_put] at h
  refine TF.go (n := 0) (ls := [some (.inr (1, i, 0)), some (.inl (.int x1))]) rfl rfl rfl rfl rfl ?_
  refine z_aload_n (i := 0) dX1_put_0 rfl rfl ?_
  refine z_getI (x := (M.1 (1, i, 0) 1)) dX1_put_1 fl_X1_21 (m1 _ hi) rfl rfl ?_
  refine z_if_lt (tgt := 39) dX1_put_4 rfl (fun hc1 => ?_) (fun hc1 => ?_)
  · have h := it_t h hc1
    cases h
    exact z_vret dX1_put_39 rfl (Nat.le_refl _) (Nat.le_refl _) ⟨rfl, rfl⟩
  · have h := it_f h hc1
    refine z_aload_n (i := 0) dX1_put_7 rfl rfl ?_
    refine z_getI (x := (M.1 (1, i, 0) 1)) dX1_put_8 fl_X1_21 (m1 _ hi) rfl rfl ?_
    refine z_aload_n (i := 0) dX1_put_11 rfl rfl ?_
    refine z_getR (r' := (2, i, 0)) dX1_put_12 fl_X1_15 (m1 _ hi) rfl rfl ?_
    refine z_alen (v := (Int32.ofNat (bl i))) dX1_put_15 (m2 _ hi) rfl (Nat.le_of_ble_eq_true rfl) rfl ?_
    refine z_icmp_ge (tgt := 39) dX1_put_16 rfl (fun hc2 => ?_) (fun hc2 => ?_)
    · have h := it_t h hc2
      cases h
      exact z_vret dX1_put_39 rfl (Nat.le_refl _) (Nat.le_refl _) ⟨rfl, rfl⟩
    · have h := it_f h hc2
      refine z_aload_n (i := 0) dX1_put_19 rfl rfl ?_
      refine z_getR (r' := (2, i, 0)) dX1_put_20 fl_X1_15 (m1 _ hi) rfl rfl ?_
      refine z_aload_n (i := 0) dX1_put_23 rfl rfl ?_
      refine z_getI (x := (M.1 (1, i, 0) 1)) dX1_put_24 fl_X1_21 (m1 _ hi) rfl rfl ?_
      refine z_iload_n (i := 1) dX1_put_27 rfl rfl ?_
      obtain ⟨hc3, h⟩ := chk h
      refine z_iast (j := (M.1 (1, i, 0) 1).toNatClampNeg) allR_nd dX1_put_28 (m2 _ hi) rfl hc3 rfl ?_
      refine z_aload_n (i := 0) dX1_put_29 rfl rfl ?_
      refine z_dup dX1_put_30 rfl ?_
      refine z_getI (x := (M.1 (1, i, 0) 1)) dX1_put_31 fl_X1_21 (m1 _ hi) rfl rfl ?_
      refine z_iconst (v := (1 : Int32)) dX1_put_34 kc_1 ?_
      refine z_iadd dX1_put_35 ?_
      refine z_putI allR_nd dX1_put_36 fl_X1_21 (m1 _ hi) rfl rfl ?_
      cases h
      exact z_vret dX1_put_39 rfl (Nat.le_refl _) (Nat.le_refl _) ⟨rfl, rfl⟩
end
section
theorem dX1_putNumber_0 : decode cX1_putNumber 0 = .ok (.iload_n 1, 1) := by decide +kernel
theorem dX1_putNumber_1 : decode cX1_putNumber 1 = .ok (.ifCond .ge 8, 3) := by decide +kernel
theorem dX1_putNumber_4 : decode cX1_putNumber 4 = .ok (.iload_n 1, 1) := by decide +kernel
theorem dX1_putNumber_5 : decode cX1_putNumber 5 = .ok (.ineg, 1) := by decide +kernel
theorem dX1_putNumber_6 : decode cX1_putNumber 6 = .ok (.goto 4, 3) := by decide +kernel
theorem dX1_putNumber_9 : decode cX1_putNumber 9 = .ok (.iload_n 1, 1) := by decide +kernel
theorem dX1_putNumber_10 : decode cX1_putNumber 10 = .ok (.istore_n 2, 1) := by decide +kernel
theorem dX1_putNumber_11 : decode cX1_putNumber 11 = .ok (.iload_n 1, 1) := by decide +kernel
theorem dX1_putNumber_12 : decode cX1_putNumber 12 = .ok (.ifCond .ge 9, 3) := by decide +kernel
theorem dX1_putNumber_15 : decode cX1_putNumber 15 = .ok (.aload_n 0, 1) := by decide +kernel
theorem dX1_putNumber_16 : decode cX1_putNumber 16 = .ok (.bipush 45, 2) := by decide +kernel
theorem dX1_putNumber_18 : decode cX1_putNumber 18 = .ok (.invokevirtual 25, 3) := by decide +kernel
theorem dX1_putNumber_21 : decode cX1_putNumber 21 = .ok (.iload_n 2, 1) := by decide +kernel
theorem dX1_putNumber_22 : decode cX1_putNumber 22 = .ok (.bipush 10, 2) := by decide +kernel
theorem dX1_putNumber_24 : decode cX1_putNumber 24 = .ok (.if_icmp .lt 14, 3) := by decide +kernel
theorem dX1_putNumber_27 : decode cX1_putNumber 27 = .ok (.aload_n 0, 1) := by decide +kernel
theorem dX1_putNumber_28 : decode cX1_putNumber 28 = .ok (.bipush 48, 2) := by decide +kernel
theorem dX1_putNumber_30 : decode cX1_putNumber 30 = .ok (.iload_n 2, 1) := by decide +kernel
theorem dX1_putNumber_31 : decode cX1_putNumber 31 = .ok (.bipush 10, 2) := by decide +kernel
theorem dX1_putNumber_33 : decode cX1_putNumber 33 = .ok (.idiv, 1) := by decide +kernel
theorem dX1_putNumber_34 : decode cX1_putNumber 34 = .ok (.iadd, 1) := by decide +kernel
theorem dX1_putNumber_35 : decode cX1_putNumber 35 = .ok (.invokevirtual 25, 3) := by decide +kernel
theorem dX1_putNumber_38 : decode cX1_putNumber 38 = .ok (.aload_n 0, 1) := by decide +kernel
theorem dX1_putNumber_39 : decode cX1_putNumber 39 = .ok (.bipush 48, 2) := by decide +kernel
theorem dX1_putNumber_41 : decode cX1_putNumber 41 = .ok (.iload_n 2, 1) := by decide +kernel
theorem dX1_putNumber_42 : decode cX1_putNumber 42 = .ok (.bipush 10, 2) := by decide +kernel
theorem dX1_putNumber_44 : decode cX1_putNumber 44 = .ok (.irem, 1) := by decide +kernel
theorem dX1_putNumber_45 : decode cX1_putNumber 45 = .ok (.iadd, 1) := by decide +kernel
theorem dX1_putNumber_46 : decode cX1_putNumber 46 = .ok (.invokevirtual 25, 3) := by decide +kernel
theorem dX1_putNumber_49 : decode cX1_putNumber 49 = .ok (.return_, 1) := by decide +kernel
def fX1_putNumber (M : Mm) (i : Nat) (x1 : Int32) : Option Mm := if 0 ≤ x1 then (if 0 ≤ x1 then (if x1 < (10 : Int32) then ((fX1_put M i ((48 : Int32) + (x1 - x1 / (10 : Int32) * (10 : Int32)))).bind fun q4 => some q4) else (fX1_put M i ((48 : Int32) + (x1 / (10 : Int32)))).bind fun q6 => (fX1_put q6 i ((48 : Int32) + (x1 - x1 / (10 : Int32) * (10 : Int32)))).bind fun q8 => some q8) else (fX1_put M i (45 : Int32)).bind fun q10 => if x1 < (10 : Int32) then ((fX1_put q10 i ((48 : Int32) + (x1 - x1 / (10 : Int32) * (10 : Int32)))).bind fun q13 => some q13) else (fX1_put q10 i ((48 : Int32) + (x1 / (10 : Int32)))).bind fun q15 => (fX1_put q15 i ((48 : Int32) + (x1 - x1 / (10 : Int32) * (10 : Int32)))).bind fun q17 => some q17) else if 0 ≤ x1 then (if (-x1) < (10 : Int32) then ((fX1_put M i ((48 : Int32) + ((-x1) - (-x1) / (10 : Int32) * (10 : Int32)))).bind fun q21 => some q21) else (fX1_put M i ((48 : Int32) + ((-x1) / (10 : Int32)))).bind fun q23 => (fX1_put q23 i ((48 : Int32) + ((-x1) - (-x1) / (10 : Int32) * (10 : Int32)))).bind fun q25 => some q25) else (fX1_put M i (45 : Int32)).bind fun q27 => if (-x1) < (10 : Int32) then ((fX1_put q27 i ((48 : Int32) + ((-x1) - (-x1) / (10 : Int32) * (10 : Int32)))).bind fun q30 => some q30) else (fX1_put q27 i ((48 : Int32) + ((-x1) / (10 : Int32)))).bind fun q32 => (fX1_put q32 i ((48 : Int32) + ((-x1) - (-x1) / (10 : Int32) * (10 : Int32)))).bind fun q34 => some q34
set_option maxRecDepth 20000 in
set_option maxHeartbeats 2000000 in
theorem sX1_putNumber (M : Mm) (i : Nat) (x1 : Int32) (hi : i < 2) {res : Mm} (h : fX1_putNumber M i x1 = some res) : TF yX1_putNumber cX1_putNumber 3 none 1 [.inr (1, i, 0), .inl (.int x1)] M (none) res := by
  rw [fX1_putNumber] at h
  refine TF.go (n := 1) (ls := [some (.inr (1, i, 0)), some (.inl (.int x1)), none]) rfl rfl rfl rfl rfl ?_
  refine z_iload_n (i := 1) dX1_putNumber_0 rfl rfl ?_
  refine z_if_ge (tgt := 9) dX1_putNumber_1 rfl (fun hc1 => ?_) (fun hc1 => ?_)
  · have h := it_t h hc1
    refine z_iload_n (i := 1) dX1_putNumber_9 rfl rfl ?_
    refine z_istore_n (i := 2) dX1_putNumber_10 rfl (Nat.le_of_ble_eq_true rfl) rfl ?_
    refine z_iload_n (i := 1) dX1_putNumber_11 rfl rfl ?_
    refine z_if_ge (tgt := 21) dX1_putNumber_12 rfl (fun hc2 => ?_) (fun hc2 => ?_)
    · have h := it_t h hc2
      refine z_iload_n (i := 2) dX1_putNumber_21 rfl rfl ?_
      refine z_bipush (v := (10 : Int32)) dX1_putNumber_22 kb_10 ?_
      refine z_icmp_lt (tgt := 38) dX1_putNumber_24 rfl (fun hc3 => ?_) (fun hc3 => ?_)
      · have h := it_t h hc3
        refine z_aload_n (i := 0) dX1_putNumber_38 rfl rfl ?_
        refine z_bipush (v := (48 : Int32)) dX1_putNumber_39 kb_48 ?_
        refine z_iload_n (i := 2) dX1_putNumber_41 rfl rfl ?_
        refine z_bipush (v := (10 : Int32)) dX1_putNumber_42 kb_10 ?_
        refine z_irem dX1_putNumber_44 (by decide) ?_
        refine z_iadd dX1_putNumber_45 ?_
        obtain ⟨q4, hq5, h⟩ := bnd h
        refine z_fVv (sX1_put M i ((48 : Int32) + (x1 - x1 / (10 : Int32) * (10 : Int32))) hi hq5) dX1_putNumber_46 ml_X1_25 cd_X1_put (m1 _ hi) rfl rfl rfl rfl rfl rfl ?_
        cases h
        exact z_vret dX1_putNumber_49 rfl (Nat.le_refl _) (Nat.le_refl _) ⟨rfl, rfl⟩
      · have h := it_f h hc3
        refine z_aload_n (i := 0) dX1_putNumber_27 rfl rfl ?_
        refine z_bipush (v := (48 : Int32)) dX1_putNumber_28 kb_48 ?_
        refine z_iload_n (i := 2) dX1_putNumber_30 rfl rfl ?_
        refine z_bipush (v := (10 : Int32)) dX1_putNumber_31 kb_10 ?_
        refine z_idiv dX1_putNumber_33 (by decide) ?_
        refine z_iadd dX1_putNumber_34 ?_
        obtain ⟨q6, hq7, h⟩ := bnd h
        refine z_fVv (sX1_put M i ((48 : Int32) + (x1 / (10 : Int32))) hi hq7) dX1_putNumber_35 ml_X1_25 cd_X1_put (m1 _ hi) rfl rfl rfl rfl rfl rfl ?_
        refine z_aload_n (i := 0) dX1_putNumber_38 rfl rfl ?_
        refine z_bipush (v := (48 : Int32)) dX1_putNumber_39 kb_48 ?_
        refine z_iload_n (i := 2) dX1_putNumber_41 rfl rfl ?_
        refine z_bipush (v := (10 : Int32)) dX1_putNumber_42 kb_10 ?_
        refine z_irem dX1_putNumber_44 (by decide) ?_
        refine z_iadd dX1_putNumber_45 ?_
        obtain ⟨q8, hq9, h⟩ := bnd h
        refine z_fVv (sX1_put q6 i ((48 : Int32) + (x1 - x1 / (10 : Int32) * (10 : Int32))) hi hq9) dX1_putNumber_46 ml_X1_25 cd_X1_put (m1 _ hi) rfl rfl rfl rfl rfl rfl ?_
        cases h
        exact z_vret dX1_putNumber_49 rfl (Nat.le_refl _) (Nat.le_refl _) ⟨rfl, rfl⟩
    · have h := it_f h hc2
      refine z_aload_n (i := 0) dX1_putNumber_15 rfl rfl ?_
      refine z_bipush (v := (45 : Int32)) dX1_putNumber_16 kb_45 ?_
      obtain ⟨q10, hq11, h⟩ := bnd h
      refine z_fVv (sX1_put M i (45 : Int32) hi hq11) dX1_putNumber_18 ml_X1_25 cd_X1_put (m1 _ hi) rfl rfl rfl rfl rfl rfl ?_
      refine z_iload_n (i := 2) dX1_putNumber_21 rfl rfl ?_
      refine z_bipush (v := (10 : Int32)) dX1_putNumber_22 kb_10 ?_
      refine z_icmp_lt (tgt := 38) dX1_putNumber_24 rfl (fun hc12 => ?_) (fun hc12 => ?_)
      · have h := it_t h hc12
        refine z_aload_n (i := 0) dX1_putNumber_38 rfl rfl ?_
        refine z_bipush (v := (48 : Int32)) dX1_putNumber_39 kb_48 ?_
        refine z_iload_n (i := 2) dX1_putNumber_41 rfl rfl ?_
        refine z_bipush (v := (10 : Int32)) dX1_putNumber_42 kb_10 ?_
        refine z_irem dX1_putNumber_44 (by decide) ?_
        refine z_iadd dX1_putNumber_45 ?_
        obtain ⟨q13, hq14, h⟩ := bnd h
        refine z_fVv (sX1_put q10 i ((48 : Int32) + (x1 - x1 / (10 : Int32) * (10 : Int32))) hi hq14) dX1_putNumber_46 ml_X1_25 cd_X1_put (m1 _ hi) rfl rfl rfl rfl rfl rfl ?_
        cases h
        exact z_vret dX1_putNumber_49 rfl (Nat.le_refl _) (Nat.le_refl _) ⟨rfl, rfl⟩
      · have h := it_f h hc12
        refine z_aload_n (i := 0) dX1_putNumber_27 rfl rfl ?_
        refine z_bipush (v := (48 : Int32)) dX1_putNumber_28 kb_48 ?_
        refine z_iload_n (i := 2) dX1_putNumber_30 rfl rfl ?_
        refine z_bipush (v := (10 : Int32)) dX1_putNumber_31 kb_10 ?_
        refine z_idiv dX1_putNumber_33 (by decide) ?_
        refine z_iadd dX1_putNumber_34 ?_
        obtain ⟨q15, hq16, h⟩ := bnd h
        refine z_fVv (sX1_put q10 i ((48 : Int32) + (x1 / (10 : Int32))) hi hq16) dX1_putNumber_35 ml_X1_25 cd_X1_put (m1 _ hi) rfl rfl rfl rfl rfl rfl ?_
        refine z_aload_n (i := 0) dX1_putNumber_38 rfl rfl ?_
        refine z_bipush (v := (48 : Int32)) dX1_putNumber_39 kb_48 ?_
        refine z_iload_n (i := 2) dX1_putNumber_41 rfl rfl ?_
        refine z_bipush (v := (10 : Int32)) dX1_putNumber_42 kb_10 ?_
        refine z_irem dX1_putNumber_44 (by decide) ?_
        refine z_iadd dX1_putNumber_45 ?_
        obtain ⟨q17, hq18, h⟩ := bnd h
        refine z_fVv (sX1_put q15 i ((48 : Int32) + (x1 - x1 / (10 : Int32) * (10 : Int32))) hi hq18) dX1_putNumber_46 ml_X1_25 cd_X1_put (m1 _ hi) rfl rfl rfl rfl rfl rfl ?_
        cases h
        exact z_vret dX1_putNumber_49 rfl (Nat.le_refl _) (Nat.le_refl _) ⟨rfl, rfl⟩
  · have h := it_f h hc1
    refine z_iload_n (i := 1) dX1_putNumber_4 rfl rfl ?_
    refine z_ineg dX1_putNumber_5 ?_
    refine z_goto (tgt := 10) dX1_putNumber_6 rfl ?_
    refine z_istore_n (i := 2) dX1_putNumber_10 rfl (Nat.le_of_ble_eq_true rfl) rfl ?_
    refine z_iload_n (i := 1) dX1_putNumber_11 rfl rfl ?_
    refine z_if_ge (tgt := 21) dX1_putNumber_12 rfl (fun hc19 => ?_) (fun hc19 => ?_)
    · have h := it_t h hc19
      refine z_iload_n (i := 2) dX1_putNumber_21 rfl rfl ?_
      refine z_bipush (v := (10 : Int32)) dX1_putNumber_22 kb_10 ?_
      refine z_icmp_lt (tgt := 38) dX1_putNumber_24 rfl (fun hc20 => ?_) (fun hc20 => ?_)
      · have h := it_t h hc20
        refine z_aload_n (i := 0) dX1_putNumber_38 rfl rfl ?_
        refine z_bipush (v := (48 : Int32)) dX1_putNumber_39 kb_48 ?_
        refine z_iload_n (i := 2) dX1_putNumber_41 rfl rfl ?_
        refine z_bipush (v := (10 : Int32)) dX1_putNumber_42 kb_10 ?_
        refine z_irem dX1_putNumber_44 (by decide) ?_
        refine z_iadd dX1_putNumber_45 ?_
        obtain ⟨q21, hq22, h⟩ := bnd h
        refine z_fVv (sX1_put M i ((48 : Int32) + ((-x1) - (-x1) / (10 : Int32) * (10 : Int32))) hi hq22) dX1_putNumber_46 ml_X1_25 cd_X1_put (m1 _ hi) rfl rfl rfl rfl rfl rfl ?_
        cases h
        exact z_vret dX1_putNumber_49 rfl (Nat.le_refl _) (Nat.le_refl _) ⟨rfl, rfl⟩
      · have h := it_f h hc20
        refine z_aload_n (i := 0) dX1_putNumber_27 rfl rfl ?_
        refine z_bipush (v := (48 : Int32)) dX1_putNumber_28 kb_48 ?_
        refine z_iload_n (i := 2) dX1_putNumber_30 rfl rfl ?_
        refine z_bipush (v := (10 : Int32)) dX1_putNumber_31 kb_10 ?_
        refine z_idiv dX1_putNumber_33 (by decide) ?_
        refine z_iadd dX1_putNumber_34 ?_
        obtain ⟨q23, hq24, h⟩ := bnd h
        refine z_fVv (sX1_put M i ((48 : Int32) + ((-x1) / (10 : Int32))) hi hq24) dX1_putNumber_35 ml_X1_25 cd_X1_put (m1 _ hi) rfl rfl rfl rfl rfl rfl ?_
        refine z_aload_n (i := 0) dX1_putNumber_38 rfl rfl ?_
        refine z_bipush (v := (48 : Int32)) dX1_putNumber_39 kb_48 ?_
        refine z_iload_n (i := 2) dX1_putNumber_41 rfl rfl ?_
        refine z_bipush (v := (10 : Int32)) dX1_putNumber_42 kb_10 ?_
        refine z_irem dX1_putNumber_44 (by decide) ?_
        refine z_iadd dX1_putNumber_45 ?_
        obtain ⟨q25, hq26, h⟩ := bnd h
        refine z_fVv (sX1_put q23 i ((48 : Int32) + ((-x1) - (-x1) / (10 : Int32) * (10 : Int32))) hi hq26) dX1_putNumber_46 ml_X1_25 cd_X1_put (m1 _ hi) rfl rfl rfl rfl rfl rfl ?_
        cases h
        exact z_vret dX1_putNumber_49 rfl (Nat.le_refl _) (Nat.le_refl _) ⟨rfl, rfl⟩
    · have h := it_f h hc19
      refine z_aload_n (i := 0) dX1_putNumber_15 rfl rfl ?_
      refine z_bipush (v := (45 : Int32)) dX1_putNumber_16 kb_45 ?_
      obtain ⟨q27, hq28, h⟩ := bnd h
      refine z_fVv (sX1_put M i (45 : Int32) hi hq28) dX1_putNumber_18 ml_X1_25 cd_X1_put (m1 _ hi) rfl rfl rfl rfl rfl rfl ?_
      refine z_iload_n (i := 2) dX1_putNumber_21 rfl rfl ?_
      refine z_bipush (v := (10 : Int32)) dX1_putNumber_22 kb_10 ?_
      refine z_icmp_lt (tgt := 38) dX1_putNumber_24 rfl (fun hc29 => ?_) (fun hc29 => ?_)
      · have h := it_t h hc29
        refine z_aload_n (i := 0) dX1_putNumber_38 rfl rfl ?_
        refine z_bipush (v := (48 : Int32)) dX1_putNumber_39 kb_48 ?_
        refine z_iload_n (i := 2) dX1_putNumber_41 rfl rfl ?_
        refine z_bipush (v := (10 : Int32)) dX1_putNumber_42 kb_10 ?_
        refine z_irem dX1_putNumber_44 (by decide) ?_
        refine z_iadd dX1_putNumber_45 ?_
        obtain ⟨q30, hq31, h⟩ := bnd h
        refine z_fVv (sX1_put q27 i ((48 : Int32) + ((-x1) - (-x1) / (10 : Int32) * (10 : Int32))) hi hq31) dX1_putNumber_46 ml_X1_25 cd_X1_put (m1 _ hi) rfl rfl rfl rfl rfl rfl ?_
        cases h
        exact z_vret dX1_putNumber_49 rfl (Nat.le_refl _) (Nat.le_refl _) ⟨rfl, rfl⟩
      · have h := it_f h hc29
        refine z_aload_n (i := 0) dX1_putNumber_27 rfl rfl ?_
        refine z_bipush (v := (48 : Int32)) dX1_putNumber_28 kb_48 ?_
        refine z_iload_n (i := 2) dX1_putNumber_30 rfl rfl ?_
        refine z_bipush (v := (10 : Int32)) dX1_putNumber_31 kb_10 ?_
        refine z_idiv dX1_putNumber_33 (by decide) ?_
        refine z_iadd dX1_putNumber_34 ?_
        obtain ⟨q32, hq33, h⟩ := bnd h
        refine z_fVv (sX1_put q27 i ((48 : Int32) + ((-x1) / (10 : Int32))) hi hq33) dX1_putNumber_35 ml_X1_25 cd_X1_put (m1 _ hi) rfl rfl rfl rfl rfl rfl ?_
        refine z_aload_n (i := 0) dX1_putNumber_38 rfl rfl ?_
        refine z_bipush (v := (48 : Int32)) dX1_putNumber_39 kb_48 ?_
        refine z_iload_n (i := 2) dX1_putNumber_41 rfl rfl ?_
        refine z_bipush (v := (10 : Int32)) dX1_putNumber_42 kb_10 ?_
        refine z_irem dX1_putNumber_44 (by decide) ?_
        refine z_iadd dX1_putNumber_45 ?_
        obtain ⟨q34, hq35, h⟩ := bnd h
        refine z_fVv (sX1_put q32 i ((48 : Int32) + ((-x1) - (-x1) / (10 : Int32) * (10 : Int32))) hi hq35) dX1_putNumber_46 ml_X1_25 cd_X1_put (m1 _ hi) rfl rfl rfl rfl rfl rfl ?_
        cases h
        exact z_vret dX1_putNumber_49 rfl (Nat.le_refl _) (Nat.le_refl _) ⟨rfl, rfl⟩
theorem dX1_at_0 : decode cX1_at 0 = .ok (.iload_n 1, 1) := by decide +kernel
theorem dX1_at_1 : decode cX1_at 1 = .ok (.ifCond .lt 29, 3) := by decide +kernel
theorem dX1_at_4 : decode cX1_at 4 = .ok (.iload_n 1, 1) := by decide +kernel
theorem dX1_at_5 : decode cX1_at 5 = .ok (.aload_n 0, 1) := by decide +kernel
theorem dX1_at_6 : decode cX1_at 6 = .ok (.getfield 21, 3) := by decide +kernel
theorem dX1_at_9 : decode cX1_at 9 = .ok (.if_icmp .ge 21, 3) := by decide +kernel
theorem dX1_at_12 : decode cX1_at 12 = .ok (.iload_n 1, 1) := by decide +kernel
theorem dX1_at_13 : decode cX1_at 13 = .ok (.aload_n 0, 1) := by decide +kernel
theorem dX1_at_14 : decode cX1_at 14 = .ok (.getfield 15, 3) := by decide +kernel
theorem dX1_at_17 : decode cX1_at 17 = .ok (.arraylength, 1) := by decide +kernel
theorem dX1_at_18 : decode cX1_at 18 = .ok (.if_icmp .ge 12, 3) := by decide +kernel
theorem dX1_at_21 : decode cX1_at 21 = .ok (.aload_n 0, 1) := by decide +kernel
theorem dX1_at_22 : decode cX1_at 22 = .ok (.getfield 15, 3) := by decide +kernel
theorem dX1_at_25 : decode cX1_at 25 = .ok (.iload_n 1, 1) := by decide +kernel
theorem dX1_at_26 : decode cX1_at 26 = .ok (.iaload, 1) := by decide +kernel
theorem dX1_at_27 : decode cX1_at 27 = .ok (.goto 4, 3) := by decide +kernel
theorem dX1_at_30 : decode cX1_at 30 = .ok (.iconst (-1), 1) := by decide +kernel
theorem dX1_at_31 : decode cX1_at 31 = .ok (.ireturn, 1) := by decide +kernel
def fX1_at (M : Mm) (i : Nat) (x1 : Int32) : Option Int32 := if x1 < 0 then some (-1 : Int32) else if (M.1 (1, i, 0) 1) ≤ x1 then some (-1 : Int32) else if (Int32.ofNat (bl i)) ≤ x1 then some (-1 : Int32) else if x1 < 0 ∨ (bl i) ≤ x1.toNatClampNeg then none else some (M.1 (2, i, 0) x1.toNatClampNeg)
set_option maxRecDepth 20000 in
set_option maxHeartbeats 2000000 in
theorem sX1_at (M : Mm) (i : Nat) (x1 : Int32) (hi : i < 2) {res : Int32} (h : fX1_at M i x1 = some res) : TF yX1_at cX1_at 2 (some .int) 0 [.inr (1, i, 0), .inl (.int x1)] M (some (.int res)) M := by
  rw [fX1_at] at h
  refine TF.go (n := 0) (ls := [some (.inr (1, i, 0)), some (.inl (.int x1))]) rfl rfl rfl rfl rfl ?_
  refine z_iload_n (i := 1) dX1_at_0 rfl rfl ?_
  refine z_if_lt (tgt := 30) dX1_at_1 rfl (fun hc1 => ?_) (fun hc1 => ?_)
  · have h := it_t h hc1
    refine z_iconst (v := (-1 : Int32)) dX1_at_30 kc_m1 ?_
    cases h
    exact z_iret dX1_at_31 rfl rfl (Nat.le_refl _) (Nat.le_refl _) ⟨rfl, rfl⟩
  · have h := it_f h hc1
    refine z_iload_n (i := 1) dX1_at_4 rfl rfl ?_
    refine z_aload_n (i := 0) dX1_at_5 rfl rfl ?_
    refine z_getI (x := (M.1 (1, i, 0) 1)) dX1_at_6 fl_X1_21 (m1 _ hi) rfl rfl ?_
    refine z_icmp_ge (tgt := 30) dX1_at_9 rfl (fun hc2 => ?_) (fun hc2 => ?_)
    · have h := it_t h hc2
      refine z_iconst (v := (-1 : Int32)) dX1_at_30 kc_m1 ?_
      cases h
      exact z_iret dX1_at_31 rfl rfl (Nat.le_refl _) (Nat.le_refl _) ⟨rfl, rfl⟩
    · have h := it_f h hc2
      refine z_iload_n (i := 1) dX1_at_12 rfl rfl ?_
      refine z_aload_n (i := 0) dX1_at_13 rfl rfl ?_
      refine z_getR (r' := (2, i, 0)) dX1_at_14 fl_X1_15 (m1 _ hi) rfl rfl ?_
      refine z_alen (v := (Int32.ofNat (bl i))) dX1_at_17 (m2 _ hi) rfl (Nat.le_of_ble_eq_true rfl) rfl ?_
      refine z_icmp_ge (tgt := 30) dX1_at_18 rfl (fun hc3 => ?_) (fun hc3 => ?_)
      · have h := it_t h hc3
        refine z_iconst (v := (-1 : Int32)) dX1_at_30 kc_m1 ?_
        cases h
        exact z_iret dX1_at_31 rfl rfl (Nat.le_refl _) (Nat.le_refl _) ⟨rfl, rfl⟩
      · have h := it_f h hc3
        refine z_aload_n (i := 0) dX1_at_21 rfl rfl ?_
        refine z_getR (r' := (2, i, 0)) dX1_at_22 fl_X1_15 (m1 _ hi) rfl rfl ?_
        refine z_iload_n (i := 1) dX1_at_25 rfl rfl ?_
        obtain ⟨hc4, h⟩ := chk h
        refine z_iald (x := (M.1 (2, i, 0) x1.toNatClampNeg)) dX1_at_26 (m2 _ hi) rfl hc4 rfl ?_
        refine z_goto (tgt := 31) dX1_at_27 rfl ?_
        cases h
        exact z_iret dX1_at_31 rfl rfl (Nat.le_refl _) (Nat.le_refl _) ⟨rfl, rfl⟩
theorem dX2_forgetAll_0 : decode cX2_forgetAll 0 = .ok (.aload_n 0, 1) := by decide +kernel
theorem dX2_forgetAll_1 : decode cX2_forgetAll 1 = .ok (.iconst 0, 1) := by decide +kernel
theorem dX2_forgetAll_2 : decode cX2_forgetAll 2 = .ok (.putfield 16, 3) := by decide +kernel
theorem dX2_forgetAll_5 : decode cX2_forgetAll 5 = .ok (.return_, 1) := by decide +kernel
def fX2_forgetAll (M : Mm) : Mm := (putI M (14, 0, 0) 1 (0 : Int32))
set_option maxRecDepth 20000 in
set_option maxHeartbeats 2000000 in
theorem tX2_forgetAll (M : Mm) {res : Mm} (h : fX2_forgetAll M  = res) : TF yX2_forgetAll cX2_forgetAll 1 none 0 [.inr (14, 0, 0)] M (none) res := by
  rw [fX2_forgetAll] at h
  refine TF.go (n := 0) (ls := [some (.inr (14, 0, 0))]) rfl rfl rfl rfl rfl ?_
  refine z_aload_n (i := 0) dX2_forgetAll_0 rfl rfl ?_
  refine z_iconst (v := (0 : Int32)) dX2_forgetAll_1 kc_0 ?_
  refine z_putI allR_nd dX2_forgetAll_2 fl_X2_16 mk14 rfl rfl ?_
  subst h
  exact z_vret dX2_forgetAll_5 rfl (Nat.le_refl _) (Nat.le_refl _) ⟨rfl, rfl⟩
theorem sX2_forgetAll (M : Mm) : TF yX2_forgetAll cX2_forgetAll 1 none 0 [.inr (14, 0, 0)] M (none) (fX2_forgetAll M ) := tX2_forgetAll M   rfl
theorem dX2_remember_0 : decode cX2_remember 0 = .ok (.aload_n 0, 1) := by decide +kernel
theorem dX2_remember_1 : decode cX2_remember 1 = .ok (.getfield 11, 3) := by decide +kernel
theorem dX2_remember_4 : decode cX2_remember 4 = .ok (.aload_n 0, 1) := by decide +kernel
theorem dX2_remember_5 : decode cX2_remember 5 = .ok (.getfield 20, 3) := by decide +kernel
theorem dX2_remember_8 : decode cX2_remember 8 = .ok (.aaload, 1) := by decide +kernel
theorem dX2_remember_9 : decode cX2_remember 9 = .ok (.aload_n 1, 1) := by decide +kernel
theorem dX2_remember_10 : decode cX2_remember 10 = .ok (.invokevirtual 23, 3) := by decide +kernel
theorem dX2_remember_13 : decode cX2_remember 13 = .ok (.aload_n 0, 1) := by decide +kernel
theorem dX2_remember_14 : decode cX2_remember 14 = .ok (.aload_n 0, 1) := by decide +kernel
theorem dX2_remember_15 : decode cX2_remember 15 = .ok (.getfield 20, 3) := by decide +kernel
theorem dX2_remember_18 : decode cX2_remember 18 = .ok (.bipush 7, 2) := by decide +kernel
theorem dX2_remember_20 : decode cX2_remember 20 = .ok (.if_icmp .ge 12, 3) := by decide +kernel
theorem dX2_remember_23 : decode cX2_remember 23 = .ok (.aload_n 0, 1) := by decide +kernel
theorem dX2_remember_24 : decode cX2_remember 24 = .ok (.getfield 20, 3) := by decide +kernel
theorem dX2_remember_27 : decode cX2_remember 27 = .ok (.iconst 1, 1) := by decide +kernel
theorem dX2_remember_28 : decode cX2_remember 28 = .ok (.iadd, 1) := by decide +kernel
theorem dX2_remember_29 : decode cX2_remember 29 = .ok (.goto 4, 3) := by decide +kernel
theorem dX2_remember_32 : decode cX2_remember 32 = .ok (.iconst 0, 1) := by decide +kernel
theorem dX2_remember_33 : decode cX2_remember 33 = .ok (.putfield 20, 3) := by decide +kernel
theorem dX2_remember_36 : decode cX2_remember 36 = .ok (.aload_n 0, 1) := by decide +kernel
theorem dX2_remember_37 : decode cX2_remember 37 = .ok (.bipush 8, 2) := by decide +kernel
theorem dX2_remember_39 : decode cX2_remember 39 = .ok (.aload_n 0, 1) := by decide +kernel
theorem dX2_remember_40 : decode cX2_remember 40 = .ok (.getfield 16, 3) := by decide +kernel
theorem dX2_remember_43 : decode cX2_remember 43 = .ok (.iconst 1, 1) := by decide +kernel
theorem dX2_remember_44 : decode cX2_remember 44 = .ok (.iadd, 1) := by decide +kernel
theorem dX2_remember_45 : decode cX2_remember 45 = .ok (.invokestatic 27, 3) := by decide +kernel
theorem dX2_remember_48 : decode cX2_remember 48 = .ok (.putfield 16, 3) := by decide +kernel
theorem dX2_remember_51 : decode cX2_remember 51 = .ok (.return_, 1) := by decide +kernel
def fX2_remember (M : Mm) (j1 : Nat) : Option Mm := if (M.1 (14, 0, 0) 2) < 0 ∨ 8 ≤ (M.1 (14, 0, 0) 2).toNatClampNeg then none else (fX0_copyFrom M (2 + (M.1 (14, 0, 0) 2).toNatClampNeg) j1).bind fun q2 => if (7 : Int32) ≤ (q2.1 (14, 0, 0) 2) then some (putI (putI q2 (14, 0, 0) 2 (0 : Int32)) (14, 0, 0) 1 (fJ9_min_7cf53 (putI q2 (14, 0, 0) 2 (0 : Int32)) (8 : Int32) ((q2.1 (14, 0, 0) 1) + (1 : Int32)))) else some (putI (putI q2 (14, 0, 0) 2 ((q2.1 (14, 0, 0) 2) + (1 : Int32))) (14, 0, 0) 1 (fJ9_min_7cf53 (putI q2 (14, 0, 0) 2 ((q2.1 (14, 0, 0) 2) + (1 : Int32))) (8 : Int32) ((q2.1 (14, 0, 0) 1) + (1 : Int32))))
set_option maxRecDepth 20000 in
set_option maxHeartbeats 2000000 in
theorem sX2_remember (M : Mm) (j1 : Nat) (hj1 : j1 < 12) {res : Mm} (h : fX2_remember M j1 = some res) : TF yX2_remember cX2_remember 2 none 3 [.inr (14, 0, 0), .inr (9, j1, 0)] M (none) res := by
  rw [fX2_remember] at h
  refine TF.go (n := 0) (ls := [some (.inr (14, 0, 0)), some (.inr (9, j1, 0))]) rfl rfl rfl rfl rfl ?_
  refine z_aload_n (i := 0) dX2_remember_0 rfl rfl ?_
  refine z_getR (r' := (15, 0, 0)) dX2_remember_1 fl_X2_11 mk14 rfl rfl ?_
  refine z_aload_n (i := 0) dX2_remember_4 rfl rfl ?_
  refine z_getI (x := (M.1 (14, 0, 0) 2)) dX2_remember_5 fl_X2_20 mk14 rfl rfl ?_
  obtain ⟨hc1, h⟩ := chk h
  refine z_aald (t := 1) (r' := (9, (2 + (M.1 (14, 0, 0) 2).toNatClampNeg), 0)) dX2_remember_8 mk15 rfl (Nat.le_of_ble_eq_true rfl) hc1 rfl ?_
  refine z_aload_n (i := 1) dX2_remember_9 rfl rfl ?_
  obtain ⟨q2, hq3, h⟩ := bnd h
  refine z_fVv (sX0_copyFrom M (2 + (M.1 (14, 0, 0) 2).toNatClampNeg) j1 (ltA hc1 rfl) hj1 hq3) dX2_remember_10 ml_X2_23 cd_X0_copyFrom (m9 _ (ltA hc1 rfl)) rfl rfl rfl rfl rfl rfl ?_
  refine z_aload_n (i := 0) dX2_remember_13 rfl rfl ?_
  refine z_aload_n (i := 0) dX2_remember_14 rfl rfl ?_
  refine z_getI (x := (q2.1 (14, 0, 0) 2)) dX2_remember_15 fl_X2_20 mk14 rfl rfl ?_
  refine z_bipush (v := (7 : Int32)) dX2_remember_18 kb_7 ?_
  refine z_icmp_ge (tgt := 32) dX2_remember_20 rfl (fun hc4 => ?_) (fun hc4 => ?_)
  · have h := it_t h hc4
    refine z_iconst (v := (0 : Int32)) dX2_remember_32 kc_0 ?_
    refine z_putI allR_nd dX2_remember_33 fl_X2_20 mk14 rfl rfl ?_
    refine z_aload_n (i := 0) dX2_remember_36 rfl rfl ?_
    refine z_bipush (v := (8 : Int32)) dX2_remember_37 kb_8 ?_
    refine z_aload_n (i := 0) dX2_remember_39 rfl rfl ?_
    refine z_getI (x := (q2.1 (14, 0, 0) 1)) dX2_remember_40 fl_X2_16 mk14 rfl rfl ?_
    refine z_iconst (v := (1 : Int32)) dX2_remember_43 kc_1 ?_
    refine z_iadd dX2_remember_44 ?_
    refine z_fSi (sJ9_min_7cf53 (putI q2 (14, 0, 0) 2 (0 : Int32)) (8 : Int32) ((q2.1 (14, 0, 0) 1) + (1 : Int32))) dX2_remember_45 ml_X2_27 cd_J9_min_7cf53 rfl rfl rfl rfl rfl ?_
    refine z_putI allR_nd dX2_remember_48 fl_X2_16 mk14 rfl rfl ?_
    cases h
    exact z_vret dX2_remember_51 rfl (Nat.le_refl _) (Nat.le_refl _) ⟨rfl, rfl⟩
  · have h := it_f h hc4
    refine z_aload_n (i := 0) dX2_remember_23 rfl rfl ?_
    refine z_getI (x := (q2.1 (14, 0, 0) 2)) dX2_remember_24 fl_X2_20 mk14 rfl rfl ?_
    refine z_iconst (v := (1 : Int32)) dX2_remember_27 kc_1 ?_
    refine z_iadd dX2_remember_28 ?_
    refine z_goto (tgt := 33) dX2_remember_29 rfl ?_
    refine z_putI allR_nd dX2_remember_33 fl_X2_20 mk14 rfl rfl ?_
    refine z_aload_n (i := 0) dX2_remember_36 rfl rfl ?_
    refine z_bipush (v := (8 : Int32)) dX2_remember_37 kb_8 ?_
    refine z_aload_n (i := 0) dX2_remember_39 rfl rfl ?_
    refine z_getI (x := (q2.1 (14, 0, 0) 1)) dX2_remember_40 fl_X2_16 mk14 rfl rfl ?_
    refine z_iconst (v := (1 : Int32)) dX2_remember_43 kc_1 ?_
    refine z_iadd dX2_remember_44 ?_
    refine z_fSi (sJ9_min_7cf53 (putI q2 (14, 0, 0) 2 ((q2.1 (14, 0, 0) 2) + (1 : Int32))) (8 : Int32) ((q2.1 (14, 0, 0) 1) + (1 : Int32))) dX2_remember_45 ml_X2_27 cd_J9_min_7cf53 rfl rfl rfl rfl rfl ?_
    refine z_putI allR_nd dX2_remember_48 fl_X2_16 mk14 rfl rfl ?_
    cases h
    exact z_vret dX2_remember_51 rfl (Nat.le_refl _) (Nat.le_refl _) ⟨rfl, rfl⟩
theorem dX2_takeBack_0 : decode cX2_takeBack 0 = .ok (.aload_n 0, 1) := by decide +kernel
theorem dX2_takeBack_1 : decode cX2_takeBack 1 = .ok (.getfield 16, 3) := by decide +kernel
theorem dX2_takeBack_4 : decode cX2_takeBack 4 = .ok (.ifCond .gt 4, 3) := by decide +kernel
theorem dX2_takeBack_7 : decode cX2_takeBack 7 = .ok (.return_, 1) := by decide +kernel
theorem dX2_takeBack_8 : decode cX2_takeBack 8 = .ok (.aload_n 0, 1) := by decide +kernel
theorem dX2_takeBack_9 : decode cX2_takeBack 9 = .ok (.aload_n 0, 1) := by decide +kernel
theorem dX2_takeBack_10 : decode cX2_takeBack 10 = .ok (.getfield 20, 3) := by decide +kernel
theorem dX2_takeBack_13 : decode cX2_takeBack 13 = .ok (.ifCond .le 12, 3) := by decide +kernel
theorem dX2_takeBack_16 : decode cX2_takeBack 16 = .ok (.aload_n 0, 1) := by decide +kernel
theorem dX2_takeBack_17 : decode cX2_takeBack 17 = .ok (.getfield 20, 3) := by decide +kernel
theorem dX2_takeBack_20 : decode cX2_takeBack 20 = .ok (.iconst 1, 1) := by decide +kernel
theorem dX2_takeBack_21 : decode cX2_takeBack 21 = .ok (.isub, 1) := by decide +kernel
theorem dX2_takeBack_22 : decode cX2_takeBack 22 = .ok (.goto 5, 3) := by decide +kernel
theorem dX2_takeBack_25 : decode cX2_takeBack 25 = .ok (.bipush 7, 2) := by decide +kernel
theorem dX2_takeBack_27 : decode cX2_takeBack 27 = .ok (.putfield 20, 3) := by decide +kernel
theorem dX2_takeBack_30 : decode cX2_takeBack 30 = .ok (.aload_n 1, 1) := by decide +kernel
theorem dX2_takeBack_31 : decode cX2_takeBack 31 = .ok (.aload_n 0, 1) := by decide +kernel
theorem dX2_takeBack_32 : decode cX2_takeBack 32 = .ok (.getfield 11, 3) := by decide +kernel
theorem dX2_takeBack_35 : decode cX2_takeBack 35 = .ok (.aload_n 0, 1) := by decide +kernel
theorem dX2_takeBack_36 : decode cX2_takeBack 36 = .ok (.getfield 20, 3) := by decide +kernel
theorem dX2_takeBack_39 : decode cX2_takeBack 39 = .ok (.aaload, 1) := by decide +kernel
theorem dX2_takeBack_40 : decode cX2_takeBack 40 = .ok (.invokevirtual 23, 3) := by decide +kernel
theorem dX2_takeBack_43 : decode cX2_takeBack 43 = .ok (.aload_n 0, 1) := by decide +kernel
theorem dX2_takeBack_44 : decode cX2_takeBack 44 = .ok (.dup, 1) := by decide +kernel
theorem dX2_takeBack_45 : decode cX2_takeBack 45 = .ok (.getfield 16, 3) := by decide +kernel
theorem dX2_takeBack_48 : decode cX2_takeBack 48 = .ok (.iconst 1, 1) := by decide +kernel
theorem dX2_takeBack_49 : decode cX2_takeBack 49 = .ok (.isub, 1) := by decide +kernel
theorem dX2_takeBack_50 : decode cX2_takeBack 50 = .ok (.putfield 16, 3) := by decide +kernel
theorem dX2_takeBack_53 : decode cX2_takeBack 53 = .ok (.return_, 1) := by decide +kernel
def fX2_takeBack (M : Mm) (j1 : Nat) : Option Mm := if 0 < (M.1 (14, 0, 0) 1) then (if (M.1 (14, 0, 0) 2) ≤ 0 then ((fX0_copyFrom (putI M (14, 0, 0) 2 (7 : Int32)) j1 (2 + (7 : Int32).toNatClampNeg)).bind fun q3 => some (putI q3 (14, 0, 0) 1 ((q3.1 (14, 0, 0) 1) - (1 : Int32)))) else if ((M.1 (14, 0, 0) 2) - (1 : Int32)) < 0 ∨ 8 ≤ ((M.1 (14, 0, 0) 2) - (1 : Int32)).toNatClampNeg then none else (fX0_copyFrom (putI M (14, 0, 0) 2 ((M.1 (14, 0, 0) 2) - (1 : Int32))) j1 (2 + ((M.1 (14, 0, 0) 2) - (1 : Int32)).toNatClampNeg)).bind fun q6 => some (putI q6 (14, 0, 0) 1 ((q6.1 (14, 0, 0) 1) - (1 : Int32)))) else some M
set_option maxRecDepth 20000 in
set_option maxHeartbeats 2000000 in
theorem sX2_takeBack (M : Mm) (j1 : Nat) (hj1 : j1 < 12) {res : Mm} (h : fX2_takeBack M j1 = some res) : TF yX2_takeBack cX2_takeBack 2 none 3 [.inr (14, 0, 0), .inr (9, j1, 0)] M (none) res := by
  rw [fX2_takeBack] at h
  refine TF.go (n := 0) (ls := [some (.inr (14, 0, 0)), some (.inr (9, j1, 0))]) rfl rfl rfl rfl rfl ?_
  refine z_aload_n (i := 0) dX2_takeBack_0 rfl rfl ?_
  refine z_getI (x := (M.1 (14, 0, 0) 1)) dX2_takeBack_1 fl_X2_16 mk14 rfl rfl ?_
  refine z_if_gt (tgt := 8) dX2_takeBack_4 rfl (fun hc1 => ?_) (fun hc1 => ?_)
  · have h := it_t h hc1
    refine z_aload_n (i := 0) dX2_takeBack_8 rfl rfl ?_
    refine z_aload_n (i := 0) dX2_takeBack_9 rfl rfl ?_
    refine z_getI (x := (M.1 (14, 0, 0) 2)) dX2_takeBack_10 fl_X2_20 mk14 rfl rfl ?_
    refine z_if_le (tgt := 25) dX2_takeBack_13 rfl (fun hc2 => ?_) (fun hc2 => ?_)
    · have h := it_t h hc2
      refine z_bipush (v := (7 : Int32)) dX2_takeBack_25 kb_7 ?_
      refine z_putI allR_nd dX2_takeBack_27 fl_X2_20 mk14 rfl rfl ?_
      refine z_aload_n (i := 1) dX2_takeBack_30 rfl rfl ?_
      refine z_aload_n (i := 0) dX2_takeBack_31 rfl rfl ?_
      refine z_getR (r' := (15, 0, 0)) dX2_takeBack_32 fl_X2_11 mk14 rfl rfl ?_
      refine z_aload_n (i := 0) dX2_takeBack_35 rfl rfl ?_
      refine z_getI (x := (7 : Int32)) dX2_takeBack_36 fl_X2_20 mk14 rfl (gp1 (M := M) (r := (14, 0, 0)) (j := 2) (v := (7 : Int32))) ?_
      refine z_aald (t := 1) (r' := (9, (2 + (7 : Int32).toNatClampNeg), 0)) dX2_takeBack_39 mk15 rfl (Nat.le_of_ble_eq_true rfl) (by decide) rfl ?_
      obtain ⟨q3, hq4, h⟩ := bnd h
      refine z_fVv (sX0_copyFrom (putI M (14, 0, 0) 2 (7 : Int32)) j1 (2 + (7 : Int32).toNatClampNeg) hj1 (ltA (show ¬ ((7 : Int32) < 0 ∨ 8 ≤ (7 : Int32).toNatClampNeg) by decide) rfl) hq4) dX2_takeBack_40 ml_X2_23 cd_X0_copyFrom (m9 _ hj1) rfl rfl rfl rfl rfl rfl ?_
      refine z_aload_n (i := 0) dX2_takeBack_43 rfl rfl ?_
      refine z_dup dX2_takeBack_44 rfl ?_
      refine z_getI (x := (q3.1 (14, 0, 0) 1)) dX2_takeBack_45 fl_X2_16 mk14 rfl rfl ?_
      refine z_iconst (v := (1 : Int32)) dX2_takeBack_48 kc_1 ?_
      refine z_isub dX2_takeBack_49 ?_
      refine z_putI allR_nd dX2_takeBack_50 fl_X2_16 mk14 rfl rfl ?_
      cases h
      exact z_vret dX2_takeBack_53 rfl (Nat.le_refl _) (Nat.le_refl _) ⟨rfl, rfl⟩
    · have h := it_f h hc2
      refine z_aload_n (i := 0) dX2_takeBack_16 rfl rfl ?_
      refine z_getI (x := (M.1 (14, 0, 0) 2)) dX2_takeBack_17 fl_X2_20 mk14 rfl rfl ?_
      refine z_iconst (v := (1 : Int32)) dX2_takeBack_20 kc_1 ?_
      refine z_isub dX2_takeBack_21 ?_
      refine z_goto (tgt := 27) dX2_takeBack_22 rfl ?_
      refine z_putI allR_nd dX2_takeBack_27 fl_X2_20 mk14 rfl rfl ?_
      refine z_aload_n (i := 1) dX2_takeBack_30 rfl rfl ?_
      refine z_aload_n (i := 0) dX2_takeBack_31 rfl rfl ?_
      refine z_getR (r' := (15, 0, 0)) dX2_takeBack_32 fl_X2_11 mk14 rfl rfl ?_
      refine z_aload_n (i := 0) dX2_takeBack_35 rfl rfl ?_
      refine z_getI (x := ((M.1 (14, 0, 0) 2) - (1 : Int32))) dX2_takeBack_36 fl_X2_20 mk14 rfl (gp1 (M := M) (r := (14, 0, 0)) (j := 2) (v := ((M.1 (14, 0, 0) 2) - (1 : Int32)))) ?_
      obtain ⟨hc5, h⟩ := chk h
      refine z_aald (t := 1) (r' := (9, (2 + ((M.1 (14, 0, 0) 2) - (1 : Int32)).toNatClampNeg), 0)) dX2_takeBack_39 mk15 rfl (Nat.le_of_ble_eq_true rfl) hc5 rfl ?_
      obtain ⟨q6, hq7, h⟩ := bnd h
      refine z_fVv (sX0_copyFrom (putI M (14, 0, 0) 2 ((M.1 (14, 0, 0) 2) - (1 : Int32))) j1 (2 + ((M.1 (14, 0, 0) 2) - (1 : Int32)).toNatClampNeg) hj1 (ltA hc5 rfl) hq7) dX2_takeBack_40 ml_X2_23 cd_X0_copyFrom (m9 _ hj1) rfl rfl rfl rfl rfl rfl ?_
      refine z_aload_n (i := 0) dX2_takeBack_43 rfl rfl ?_
      refine z_dup dX2_takeBack_44 rfl ?_
      refine z_getI (x := (q6.1 (14, 0, 0) 1)) dX2_takeBack_45 fl_X2_16 mk14 rfl rfl ?_
      refine z_iconst (v := (1 : Int32)) dX2_takeBack_48 kc_1 ?_
      refine z_isub dX2_takeBack_49 ?_
      refine z_putI allR_nd dX2_takeBack_50 fl_X2_16 mk14 rfl rfl ?_
      cases h
      exact z_vret dX2_takeBack_53 rfl (Nat.le_refl _) (Nat.le_refl _) ⟨rfl, rfl⟩
  · have h := it_f h hc1
    cases h
    exact z_vret dX2_takeBack_7 rfl (Nat.le_refl _) (Nat.le_refl _) ⟨rfl, rfl⟩
theorem dX3_setRow_0 : decode cX3_setRow 0 = .ok (.iload_n 1, 1) := by decide +kernel
theorem dX3_setRow_1 : decode cX3_setRow 1 = .ok (.iload_n 2, 1) := by decide +kernel
theorem dX3_setRow_2 : decode cX3_setRow 2 = .ok (.invokestatic 37, 3) := by decide +kernel
theorem dX3_setRow_5 : decode cX3_setRow 5 = .ok (.ifCond .eq 15, 3) := by decide +kernel
theorem dX3_setRow_8 : decode cX3_setRow 8 = .ok (.aload_n 0, 1) := by decide +kernel
theorem dX3_setRow_9 : decode cX3_setRow 9 = .ok (.getfield 9, 3) := by decide +kernel
theorem dX3_setRow_12 : decode cX3_setRow 12 = .ok (.iload_n 1, 1) := by decide +kernel
theorem dX3_setRow_13 : decode cX3_setRow 13 = .ok (.bipush 12, 2) := by decide +kernel
theorem dX3_setRow_15 : decode cX3_setRow 15 = .ok (.imul, 1) := by decide +kernel
theorem dX3_setRow_16 : decode cX3_setRow 16 = .ok (.iload_n 2, 1) := by decide +kernel
theorem dX3_setRow_17 : decode cX3_setRow 17 = .ok (.iadd, 1) := by decide +kernel
theorem dX3_setRow_18 : decode cX3_setRow 18 = .ok (.lload_n 3, 1) := by decide +kernel
theorem dX3_setRow_19 : decode cX3_setRow 19 = .ok (.lastore, 1) := by decide +kernel
theorem dX3_setRow_20 : decode cX3_setRow 20 = .ok (.return_, 1) := by decide +kernel
def fX3_setRow (M : Mm) (i : Nat) (x1 : Int32) (x2 : Int32) (x3 : Int64) : Option Mm := if (fX3_holds M x1 x2) = 0 then some M else if ((x1 * (12 : Int32)) + x2) < 0 ∨ 36 ≤ ((x1 * (12 : Int32)) + x2).toNatClampNeg then none else some (putL M (11, i, 0) ((x1 * (12 : Int32)) + x2).toNatClampNeg x3)
set_option maxRecDepth 20000 in
set_option maxHeartbeats 2000000 in
theorem sX3_setRow (M : Mm) (i : Nat) (x1 : Int32) (x2 : Int32) (x3 : Int64) (hi : i < 12) {res : Mm} (h : fX3_setRow M i x1 x2 x3 = some res) : TF yX3_setRow cX3_setRow 5 none 1 [.inr (10, i, 0), .inl (.int x1), .inl (.int x2), .inl (.long x3)] M (none) res := by
  rw [fX3_setRow] at h
  refine TF.go (n := 0) (ls := [some (.inr (10, i, 0)), some (.inl (.int x1)), some (.inl (.int x2)), some (.inl (.long x3)), none]) rfl rfl rfl rfl rfl ?_
  refine z_iload_n (i := 1) dX3_setRow_0 rfl rfl ?_
  refine z_iload_n (i := 2) dX3_setRow_1 rfl rfl ?_
  refine z_fSi (sX3_holds M x1 x2) dX3_setRow_2 ml_X3_37 cd_X3_holds rfl rfl rfl rfl rfl ?_
  refine z_if_eq (tgt := 20) dX3_setRow_5 rfl (fun hc1 => ?_) (fun hc1 => ?_)
  · have h := it_t h hc1
    cases h
    exact z_vret dX3_setRow_20 rfl (Nat.le_refl _) (Nat.le_refl _) ⟨rfl, rfl⟩
  · have h := it_f h hc1
    refine z_aload_n (i := 0) dX3_setRow_8 rfl rfl ?_
    refine z_getR (r' := (11, i, 0)) dX3_setRow_9 fl_X3_9 (m10 _ hi) rfl rfl ?_
    refine z_iload_n (i := 1) dX3_setRow_12 rfl rfl ?_
    refine z_bipush (v := (12 : Int32)) dX3_setRow_13 kb_12 ?_
    refine z_imul dX3_setRow_15 ?_
    refine z_iload_n (i := 2) dX3_setRow_16 rfl rfl ?_
    refine z_iadd dX3_setRow_17 ?_
    refine z_lload_n (i := 3) dX3_setRow_18 rfl rfl ?_
    obtain ⟨hc2, h⟩ := chk h
    refine z_last (j := ((x1 * (12 : Int32)) + x2).toNatClampNeg) allR_nd dX3_setRow_19 (m11 _ hi) rfl hc2 rfl ?_
    cases h
    exact z_vret dX3_setRow_20 rfl (Nat.le_refl _) (Nat.le_refl _) ⟨rfl, rfl⟩
theorem dX3_putPin_0 : decode cX3_putPin 0 = .ok (.aload_n 0, 1) := by decide +kernel
theorem dX3_putPin_1 : decode cX3_putPin 1 = .ok (.iload_n 1, 1) := by decide +kernel
theorem dX3_putPin_2 : decode cX3_putPin 2 = .ok (.iload_n 2, 1) := by decide +kernel
theorem dX3_putPin_3 : decode cX3_putPin 3 = .ok (.aload_n 0, 1) := by decide +kernel
theorem dX3_putPin_4 : decode cX3_putPin 4 = .ok (.iload_n 1, 1) := by decide +kernel
theorem dX3_putPin_5 : decode cX3_putPin 5 = .ok (.iload_n 2, 1) := by decide +kernel
theorem dX3_putPin_6 : decode cX3_putPin 6 = .ok (.invokevirtual 41, 3) := by decide +kernel
theorem dX3_putPin_9 : decode cX3_putPin 9 = .ok (.lconst 1, 1) := by decide +kernel
theorem dX3_putPin_10 : decode cX3_putPin 10 = .ok (.iload_n 3, 1) := by decide +kernel
theorem dX3_putPin_11 : decode cX3_putPin 11 = .ok (.lshl, 1) := by decide +kernel
theorem dX3_putPin_12 : decode cX3_putPin 12 = .ok (.lor, 1) := by decide +kernel
theorem dX3_putPin_13 : decode cX3_putPin 13 = .ok (.invokevirtual 45, 3) := by decide +kernel
theorem dX3_putPin_16 : decode cX3_putPin 16 = .ok (.return_, 1) := by decide +kernel
def fX3_putPin (M : Mm) (i : Nat) (x1 : Int32) (x2 : Int32) (x3 : Int32) : Option Mm := (fX3_row M i x1 x2).bind fun q1 => (fX3_setRow M i x1 x2 (q1 ||| ((1 : Int64) <<< (x3.toInt64 &&& 63)))).bind fun q3 => some q3
set_option maxRecDepth 20000 in
set_option maxHeartbeats 2000000 in
theorem sX3_putPin (M : Mm) (i : Nat) (x1 : Int32) (x2 : Int32) (x3 : Int32) (hi : i < 12) {res : Mm} (h : fX3_putPin M i x1 x2 x3 = some res) : TF yX3_putPin cX3_putPin 4 none 2 [.inr (10, i, 0), .inl (.int x1), .inl (.int x2), .inl (.int x3)] M (none) res := by
  rw [fX3_putPin] at h
  refine TF.go (n := 0) (ls := [some (.inr (10, i, 0)), some (.inl (.int x1)), some (.inl (.int x2)), some (.inl (.int x3))]) rfl rfl rfl rfl rfl ?_
  refine z_aload_n (i := 0) dX3_putPin_0 rfl rfl ?_
  refine z_iload_n (i := 1) dX3_putPin_1 rfl rfl ?_
  refine z_iload_n (i := 2) dX3_putPin_2 rfl rfl ?_
  refine z_aload_n (i := 0) dX3_putPin_3 rfl rfl ?_
  refine z_iload_n (i := 1) dX3_putPin_4 rfl rfl ?_
  refine z_iload_n (i := 2) dX3_putPin_5 rfl rfl ?_
  obtain ⟨q1, hq2, h⟩ := bnd h
  refine z_fVl (sX3_row M i x1 x2 hi hq2) dX3_putPin_6 ml_X3_41 cd_X3_row (m10 _ hi) rfl rfl rfl rfl rfl rfl ?_
  refine z_lconst (v := (1 : Int64)) dX3_putPin_9 (by decide) ?_
  refine z_iload_n (i := 3) dX3_putPin_10 rfl rfl ?_
  refine z_lshl dX3_putPin_11 ?_
  refine z_lor dX3_putPin_12 ?_
  obtain ⟨q3, hq4, h⟩ := bnd h
  refine z_fVv (sX3_setRow M i x1 x2 (q1 ||| ((1 : Int64) <<< (x3.toInt64 &&& 63))) hi hq4) dX3_putPin_13 ml_X3_45 cd_X3_setRow (m10 _ hi) rfl rfl rfl rfl rfl rfl ?_
  cases h
  exact z_vret dX3_putPin_16 rfl (Nat.le_refl _) (Nat.le_refl _) ⟨rfl, rfl⟩
theorem dX3_takePin_0 : decode cX3_takePin 0 = .ok (.aload_n 0, 1) := by decide +kernel
theorem dX3_takePin_1 : decode cX3_takePin 1 = .ok (.iload_n 1, 1) := by decide +kernel
theorem dX3_takePin_2 : decode cX3_takePin 2 = .ok (.iload_n 2, 1) := by decide +kernel
theorem dX3_takePin_3 : decode cX3_takePin 3 = .ok (.aload_n 0, 1) := by decide +kernel
theorem dX3_takePin_4 : decode cX3_takePin 4 = .ok (.iload_n 1, 1) := by decide +kernel
theorem dX3_takePin_5 : decode cX3_takePin 5 = .ok (.iload_n 2, 1) := by decide +kernel
theorem dX3_takePin_6 : decode cX3_takePin 6 = .ok (.invokevirtual 41, 3) := by decide +kernel
theorem dX3_takePin_9 : decode cX3_takePin 9 = .ok (.lconst 1, 1) := by decide +kernel
theorem dX3_takePin_10 : decode cX3_takePin 10 = .ok (.iload_n 3, 1) := by decide +kernel
theorem dX3_takePin_11 : decode cX3_takePin 11 = .ok (.lshl, 1) := by decide +kernel
theorem dX3_takePin_12 : decode cX3_takePin 12 = .ok (.ldc2_w 49, 3) := by decide +kernel
theorem dX3_takePin_15 : decode cX3_takePin 15 = .ok (.lxor, 1) := by decide +kernel
theorem dX3_takePin_16 : decode cX3_takePin 16 = .ok (.land, 1) := by decide +kernel
theorem dX3_takePin_17 : decode cX3_takePin 17 = .ok (.invokevirtual 45, 3) := by decide +kernel
theorem dX3_takePin_20 : decode cX3_takePin 20 = .ok (.return_, 1) := by decide +kernel
def fX3_takePin (M : Mm) (i : Nat) (x1 : Int32) (x2 : Int32) (x3 : Int32) : Option Mm := (fX3_row M i x1 x2).bind fun q1 => (fX3_setRow M i x1 x2 (q1 &&& (((1 : Int64) <<< (x3.toInt64 &&& 63)) ^^^ (-1 : Int64)))).bind fun q3 => some q3
set_option maxRecDepth 20000 in
set_option maxHeartbeats 2000000 in
theorem sX3_takePin (M : Mm) (i : Nat) (x1 : Int32) (x2 : Int32) (x3 : Int32) (hi : i < 12) {res : Mm} (h : fX3_takePin M i x1 x2 x3 = some res) : TF yX3_takePin cX3_takePin 4 none 2 [.inr (10, i, 0), .inl (.int x1), .inl (.int x2), .inl (.int x3)] M (none) res := by
  rw [fX3_takePin] at h
  refine TF.go (n := 0) (ls := [some (.inr (10, i, 0)), some (.inl (.int x1)), some (.inl (.int x2)), some (.inl (.int x3))]) rfl rfl rfl rfl rfl ?_
  refine z_aload_n (i := 0) dX3_takePin_0 rfl rfl ?_
  refine z_iload_n (i := 1) dX3_takePin_1 rfl rfl ?_
  refine z_iload_n (i := 2) dX3_takePin_2 rfl rfl ?_
  refine z_aload_n (i := 0) dX3_takePin_3 rfl rfl ?_
  refine z_iload_n (i := 1) dX3_takePin_4 rfl rfl ?_
  refine z_iload_n (i := 2) dX3_takePin_5 rfl rfl ?_
  obtain ⟨q1, hq2, h⟩ := bnd h
  refine z_fVl (sX3_row M i x1 x2 hi hq2) dX3_takePin_6 ml_X3_41 cd_X3_row (m10 _ hi) rfl rfl rfl rfl rfl rfl ?_
  refine z_lconst (v := (1 : Int64)) dX3_takePin_9 (by decide) ?_
  refine z_iload_n (i := 3) dX3_takePin_10 rfl rfl ?_
  refine z_lshl dX3_takePin_11 ?_
  refine z_ldc2 (v := (-1 : Int64)) dX3_takePin_12 (al_mem 746 (by decide +kernel) rfl) ?_
  refine z_lxor dX3_takePin_15 ?_
  refine z_land dX3_takePin_16 ?_
  obtain ⟨q3, hq4, h⟩ := bnd h
  refine z_fVv (sX3_setRow M i x1 x2 (q1 &&& (((1 : Int64) <<< (x3.toInt64 &&& 63)) ^^^ (-1 : Int64))) hi hq4) dX3_takePin_17 ml_X3_45 cd_X3_setRow (m10 _ hi) rfl rfl rfl rfl rfl rfl ?_
  cases h
  exact z_vret dX3_takePin_20 rfl (Nat.le_refl _) (Nat.le_refl _) ⟨rfl, rfl⟩
theorem dX3_pinsOf_0 : decode cX3_pinsOf 0 = .ok (.iconst 0, 1) := by decide +kernel
theorem dX3_pinsOf_1 : decode cX3_pinsOf 1 = .ok (.istore_n 2, 1) := by decide +kernel
theorem dX3_pinsOf_2 : decode cX3_pinsOf 2 = .ok (.iconst 0, 1) := by decide +kernel
theorem dX3_pinsOf_3 : decode cX3_pinsOf 3 = .ok (.istore_n 3, 1) := by decide +kernel
theorem dX3_pinsOf_4 : decode cX3_pinsOf 4 = .ok (.iload_n 3, 1) := by decide +kernel
theorem dX3_pinsOf_5 : decode cX3_pinsOf 5 = .ok (.bipush 12, 2) := by decide +kernel
theorem dX3_pinsOf_7 : decode cX3_pinsOf 7 = .ok (.if_icmp .ge 21, 3) := by decide +kernel
theorem dX3_pinsOf_10 : decode cX3_pinsOf 10 = .ok (.iload_n 2, 1) := by decide +kernel
theorem dX3_pinsOf_11 : decode cX3_pinsOf 11 = .ok (.aload_n 0, 1) := by decide +kernel
theorem dX3_pinsOf_12 : decode cX3_pinsOf 12 = .ok (.iload_n 1, 1) := by decide +kernel
theorem dX3_pinsOf_13 : decode cX3_pinsOf 13 = .ok (.iload_n 3, 1) := by decide +kernel
theorem dX3_pinsOf_14 : decode cX3_pinsOf 14 = .ok (.invokevirtual 41, 3) := by decide +kernel
theorem dX3_pinsOf_17 : decode cX3_pinsOf 17 = .ok (.invokestatic 51, 3) := by decide +kernel
theorem dX3_pinsOf_20 : decode cX3_pinsOf 20 = .ok (.iadd, 1) := by decide +kernel
theorem dX3_pinsOf_21 : decode cX3_pinsOf 21 = .ok (.istore_n 2, 1) := by decide +kernel
theorem dX3_pinsOf_22 : decode cX3_pinsOf 22 = .ok (.iinc 3 1, 3) := by decide +kernel
theorem dX3_pinsOf_25 : decode cX3_pinsOf 25 = .ok (.goto (-21), 3) := by decide +kernel
theorem dX3_pinsOf_28 : decode cX3_pinsOf 28 = .ok (.iload_n 2, 1) := by decide +kernel
theorem dX3_pinsOf_29 : decode cX3_pinsOf 29 = .ok (.ireturn, 1) := by decide +kernel
def fX3_pinsOf_L4 (M : Mm) (i : Nat) (c1 : Int32) (K : Int32 → Int32 → Option Int32) : Nat → Int32 → Int32 → Option Int32
  | 0, _, _ => none
  | n + 1, v2, v3 => if (12 : Int32) ≤ v3 then K v2 v3 else (fX3_row M i c1 v3).bind fun q2 => fX3_pinsOf_L4 M i c1 K n (v2 + (fJ13_bitCount_95d88 M q2)) (v3 + (1 : Int32))
def fX3_pinsOf (M : Mm) (i : Nat) (x1 : Int32) : Option Int32 := fX3_pinsOf_L4 M i x1 (fun w4 w5 => some w4) NF (0 : Int32) (0 : Int32)
set_option maxRecDepth 20000 in
set_option maxHeartbeats 2000000 in
theorem sX3_pinsOf_L4 (M : Mm) (i : Nat) (c1 : Int32) (hi : i < 12) {res : Int32} {K : Int32 → Int32 → Option Int32} : ∀ (n : Nat) (v2 : Int32) (v3 : Int32), fX3_pinsOf_L4 M i c1 K n v2 v3 = some res →
    (∀ (v2 : Int32) (v3 : Int32), K v2 v3 = some res → Z RX3 cX3_pinsOf 4 (some .int) [] "pinsOf" (rmD 2 0 0) (QM SH allR 0 0 (fun v M9 => v = some (.int res) ∧ M9 = M) (fun _ _ => False)) allR SH 0 0 28 [some (.inr (10, i, 0)), some (.inl (.int c1)), some (.inl (.int v2)), some (.inl (.int v3))] [] M) → Z RX3 cX3_pinsOf 4 (some .int) [] "pinsOf" (rmD 2 0 0) (QM SH allR 0 0 (fun v M9 => v = some (.int res) ∧ M9 = M) (fun _ _ => False)) allR SH 0 0 4 [some (.inr (10, i, 0)), some (.inl (.int c1)), some (.inl (.int v2)), some (.inl (.int v3))] [] M := by
  intro n
  induction n with
  | zero => intro v2 v3 h; cases h
  | succ n ih =>
    intro v2 v3 h hK
    rw [fX3_pinsOf_L4] at h
    refine z_iload_n (i := 3) dX3_pinsOf_4 rfl rfl ?_
    refine z_bipush (v := (12 : Int32)) dX3_pinsOf_5 kb_12 ?_
    refine z_icmp_ge (tgt := 28) dX3_pinsOf_7 rfl (fun hc1 => ?_) (fun hc1 => ?_)
    · have h := it_t h hc1
      exact hK _ _ h
    · have h := it_f h hc1
      refine z_iload_n (i := 2) dX3_pinsOf_10 rfl rfl ?_
      refine z_aload_n (i := 0) dX3_pinsOf_11 rfl rfl ?_
      refine z_iload_n (i := 1) dX3_pinsOf_12 rfl rfl ?_
      refine z_iload_n (i := 3) dX3_pinsOf_13 rfl rfl ?_
      obtain ⟨q2, hq3, h⟩ := bnd h
      refine z_fVl (sX3_row M i c1 v3 hi hq3) dX3_pinsOf_14 ml_X3_41 cd_X3_row (m10 _ hi) rfl rfl rfl rfl rfl rfl ?_
      refine z_fSi (sJ13_bitCount_95d88 M q2) dX3_pinsOf_17 ml_X3_51 cd_J13_bitCount_95d88 rfl rfl rfl rfl rfl ?_
      refine z_iadd dX3_pinsOf_20 ?_
      refine z_istore_n (i := 2) dX3_pinsOf_21 rfl (Nat.le_of_ble_eq_true rfl) rfl ?_
      refine z_iinc (i := 3) (v := (v3 + (1 : Int32))) dX3_pinsOf_22 rfl (iinc_k kc_1) (Nat.le_of_ble_eq_true rfl) rfl ?_
      refine z_goto (tgt := 4) dX3_pinsOf_25 rfl ?_
      exact ih _ _ h hK
set_option maxRecDepth 20000 in
set_option maxHeartbeats 2000000 in
theorem sX3_pinsOf (M : Mm) (i : Nat) (x1 : Int32) (hi : i < 12) {res : Int32} (h : fX3_pinsOf M i x1 = some res) : TF yX3_pinsOf cX3_pinsOf 4 (some .int) 2 [.inr (10, i, 0), .inl (.int x1)] M (some (.int res)) M := by
  rw [fX3_pinsOf] at h
  refine TF.go (n := 2) (ls := [some (.inr (10, i, 0)), some (.inl (.int x1)), none, none]) rfl rfl rfl rfl rfl ?_
  refine z_iconst (v := (0 : Int32)) dX3_pinsOf_0 kc_0 ?_
  refine z_istore_n (i := 2) dX3_pinsOf_1 rfl (Nat.le_of_ble_eq_true rfl) rfl ?_
  refine z_iconst (v := (0 : Int32)) dX3_pinsOf_2 kc_0 ?_
  refine z_istore_n (i := 3) dX3_pinsOf_3 rfl (Nat.le_of_ble_eq_true rfl) rfl ?_
  refine sX3_pinsOf_L4 M i x1 hi NF _ _ h (fun w4 w5 h => ?_)
  refine z_iload_n (i := 2) dX3_pinsOf_28 rfl rfl ?_
  cases h
  exact z_iret dX3_pinsOf_29 rfl rfl (Nat.le_refl _) (Nat.le_refl _) ⟨rfl, rfl⟩
theorem dX3_teethAt_0 : decode cX3_teethAt 0 = .ok (.iconst 0, 1) := by decide +kernel
theorem dX3_teethAt_1 : decode cX3_teethAt 1 = .ok (.istore_n 3, 1) := by decide +kernel
theorem dX3_teethAt_2 : decode cX3_teethAt 2 = .ok (.iconst 0, 1) := by decide +kernel
theorem dX3_teethAt_3 : decode cX3_teethAt 3 = .ok (.istore 4, 2) := by decide +kernel
theorem dX3_teethAt_5 : decode cX3_teethAt 5 = .ok (.iload 4, 2) := by decide +kernel
theorem dX3_teethAt_7 : decode cX3_teethAt 7 = .ok (.bipush 12, 2) := by decide +kernel
theorem dX3_teethAt_9 : decode cX3_teethAt 9 = .ok (.if_icmp .ge 27, 3) := by decide +kernel
theorem dX3_teethAt_12 : decode cX3_teethAt 12 = .ok (.aload_n 0, 1) := by decide +kernel
theorem dX3_teethAt_13 : decode cX3_teethAt 13 = .ok (.iload_n 1, 1) := by decide +kernel
theorem dX3_teethAt_14 : decode cX3_teethAt 14 = .ok (.iload 4, 2) := by decide +kernel
theorem dX3_teethAt_16 : decode cX3_teethAt 16 = .ok (.iload_n 2, 1) := by decide +kernel
theorem dX3_teethAt_17 : decode cX3_teethAt 17 = .ok (.invokevirtual 57, 3) := by decide +kernel
theorem dX3_teethAt_20 : decode cX3_teethAt 20 = .ok (.ifCond .eq 10, 3) := by decide +kernel
theorem dX3_teethAt_23 : decode cX3_teethAt 23 = .ok (.iload_n 3, 1) := by decide +kernel
theorem dX3_teethAt_24 : decode cX3_teethAt 24 = .ok (.iconst 1, 1) := by decide +kernel
theorem dX3_teethAt_25 : decode cX3_teethAt 25 = .ok (.iload 4, 2) := by decide +kernel
theorem dX3_teethAt_27 : decode cX3_teethAt 27 = .ok (.ishl, 1) := by decide +kernel
theorem dX3_teethAt_28 : decode cX3_teethAt 28 = .ok (.ior, 1) := by decide +kernel
theorem dX3_teethAt_29 : decode cX3_teethAt 29 = .ok (.istore_n 3, 1) := by decide +kernel
theorem dX3_teethAt_30 : decode cX3_teethAt 30 = .ok (.iinc 4 1, 3) := by decide +kernel
theorem dX3_teethAt_33 : decode cX3_teethAt 33 = .ok (.goto (-28), 3) := by decide +kernel
theorem dX3_teethAt_36 : decode cX3_teethAt 36 = .ok (.iload_n 3, 1) := by decide +kernel
theorem dX3_teethAt_37 : decode cX3_teethAt 37 = .ok (.ireturn, 1) := by decide +kernel
def fX3_teethAt_L5 (M : Mm) (i : Nat) (c1 : Int32) (c2 : Int32) (K : Int32 → Int32 → Option Int32) : Nat → Int32 → Int32 → Option Int32
  | 0, _, _ => none
  | n + 1, v3, v4 => if (12 : Int32) ≤ v4 then K v3 v4 else (fX3_hasPin M i c1 v4 c2).bind fun q2 => if q2 = 0 then fX3_teethAt_L5 M i c1 c2 K n v3 (v4 + (1 : Int32)) else fX3_teethAt_L5 M i c1 c2 K n (v3 ||| ((1 : Int32) <<< (v4 &&& 31))) (v4 + (1 : Int32))
def fX3_teethAt (M : Mm) (i : Nat) (x1 : Int32) (x2 : Int32) : Option Int32 := fX3_teethAt_L5 M i x1 x2 (fun w5 w6 => some w5) NF (0 : Int32) (0 : Int32)
set_option maxRecDepth 20000 in
set_option maxHeartbeats 2000000 in
theorem sX3_teethAt_L5 (M : Mm) (i : Nat) (c1 : Int32) (c2 : Int32) (hi : i < 12) {res : Int32} {K : Int32 → Int32 → Option Int32} : ∀ (n : Nat) (v3 : Int32) (v4 : Int32), fX3_teethAt_L5 M i c1 c2 K n v3 v4 = some res →
    (∀ (v3 : Int32) (v4 : Int32), K v3 v4 = some res → Z RX3 cX3_teethAt 5 (some .int) [] "teethAt" (rmD 1 0 0) (QM SH allR 0 0 (fun v M9 => v = some (.int res) ∧ M9 = M) (fun _ _ => False)) allR SH 0 0 36 [some (.inr (10, i, 0)), some (.inl (.int c1)), some (.inl (.int c2)), some (.inl (.int v3)), some (.inl (.int v4))] [] M) → Z RX3 cX3_teethAt 5 (some .int) [] "teethAt" (rmD 1 0 0) (QM SH allR 0 0 (fun v M9 => v = some (.int res) ∧ M9 = M) (fun _ _ => False)) allR SH 0 0 5 [some (.inr (10, i, 0)), some (.inl (.int c1)), some (.inl (.int c2)), some (.inl (.int v3)), some (.inl (.int v4))] [] M := by
  intro n
  induction n with
  | zero => intro v3 v4 h; cases h
  | succ n ih =>
    intro v3 v4 h hK
    rw [fX3_teethAt_L5] at h
    refine z_iload (i := 4) dX3_teethAt_5 rfl ?_
    refine z_bipush (v := (12 : Int32)) dX3_teethAt_7 kb_12 ?_
    refine z_icmp_ge (tgt := 36) dX3_teethAt_9 rfl (fun hc1 => ?_) (fun hc1 => ?_)
    · have h := it_t h hc1
      exact hK _ _ h
    · have h := it_f h hc1
      refine z_aload_n (i := 0) dX3_teethAt_12 rfl rfl ?_
      refine z_iload_n (i := 1) dX3_teethAt_13 rfl rfl ?_
      refine z_iload (i := 4) dX3_teethAt_14 rfl ?_
      refine z_iload_n (i := 2) dX3_teethAt_16 rfl rfl ?_
      obtain ⟨q2, hq3, h⟩ := bnd h
      refine z_fVi (sX3_hasPin M i c1 v4 c2 hi hq3) dX3_teethAt_17 ml_X3_57 cd_X3_hasPin (m10 _ hi) rfl rfl rfl rfl rfl rfl ?_
      refine z_if_eq (tgt := 30) dX3_teethAt_20 rfl (fun hc4 => ?_) (fun hc4 => ?_)
      · have h := it_t h hc4
        refine z_iinc (i := 4) (v := (v4 + (1 : Int32))) dX3_teethAt_30 rfl (iinc_k kc_1) (Nat.le_of_ble_eq_true rfl) rfl ?_
        refine z_goto (tgt := 5) dX3_teethAt_33 rfl ?_
        exact ih _ _ h hK
      · have h := it_f h hc4
        refine z_iload_n (i := 3) dX3_teethAt_23 rfl rfl ?_
        refine z_iconst (v := (1 : Int32)) dX3_teethAt_24 kc_1 ?_
        refine z_iload (i := 4) dX3_teethAt_25 rfl ?_
        refine z_ishl dX3_teethAt_27 ?_
        refine z_ior dX3_teethAt_28 ?_
        refine z_istore_n (i := 3) dX3_teethAt_29 rfl (Nat.le_of_ble_eq_true rfl) rfl ?_
        refine z_iinc (i := 4) (v := (v4 + (1 : Int32))) dX3_teethAt_30 rfl (iinc_k kc_1) (Nat.le_of_ble_eq_true rfl) rfl ?_
        refine z_goto (tgt := 5) dX3_teethAt_33 rfl ?_
        exact ih _ _ h hK
set_option maxRecDepth 20000 in
set_option maxHeartbeats 2000000 in
theorem sX3_teethAt (M : Mm) (i : Nat) (x1 : Int32) (x2 : Int32) (hi : i < 12) {res : Int32} (h : fX3_teethAt M i x1 x2 = some res) : TF yX3_teethAt cX3_teethAt 5 (some .int) 1 [.inr (10, i, 0), .inl (.int x1), .inl (.int x2)] M (some (.int res)) M := by
  rw [fX3_teethAt] at h
  refine TF.go (n := 2) (ls := [some (.inr (10, i, 0)), some (.inl (.int x1)), some (.inl (.int x2)), none, none]) rfl rfl rfl rfl rfl ?_
  refine z_iconst (v := (0 : Int32)) dX3_teethAt_0 kc_0 ?_
  refine z_istore_n (i := 3) dX3_teethAt_1 rfl (Nat.le_of_ble_eq_true rfl) rfl ?_
  refine z_iconst (v := (0 : Int32)) dX3_teethAt_2 kc_0 ?_
  refine z_istore (i := 4) dX3_teethAt_3 (Nat.le_of_ble_eq_true rfl) rfl ?_
  refine sX3_teethAt_L5 M i x1 x2 hi NF _ _ h (fun w5 w6 h => ?_)
  refine z_iload_n (i := 3) dX3_teethAt_36 rfl rfl ?_
  cases h
  exact z_iret dX3_teethAt_37 rfl rfl (Nat.le_refl _) (Nat.le_refl _) ⟨rfl, rfl⟩
theorem dX3_longestRestOf_0 : decode cX3_longestRestOf 0 = .ok (.iconst 0, 1) := by decide +kernel
theorem dX3_longestRestOf_1 : decode cX3_longestRestOf 1 = .ok (.istore_n 2, 1) := by decide +kernel
theorem dX3_longestRestOf_2 : decode cX3_longestRestOf 2 = .ok (.iconst 0, 1) := by decide +kernel
theorem dX3_longestRestOf_3 : decode cX3_longestRestOf 3 = .ok (.istore_n 3, 1) := by decide +kernel
theorem dX3_longestRestOf_4 : decode cX3_longestRestOf 4 = .ok (.iconst 0, 1) := by decide +kernel
theorem dX3_longestRestOf_5 : decode cX3_longestRestOf 5 = .ok (.istore 4, 2) := by decide +kernel
theorem dX3_longestRestOf_7 : decode cX3_longestRestOf 7 = .ok (.iload 4, 2) := by decide +kernel
theorem dX3_longestRestOf_9 : decode cX3_longestRestOf 9 = .ok (.iconst 2, 1) := by decide +kernel
theorem dX3_longestRestOf_10 : decode cX3_longestRestOf 10 = .ok (.aload_n 0, 1) := by decide +kernel
theorem dX3_longestRestOf_11 : decode cX3_longestRestOf 11 = .ok (.getfield 15, 3) := by decide +kernel
theorem dX3_longestRestOf_14 : decode cX3_longestRestOf 14 = .ok (.imul, 1) := by decide +kernel
theorem dX3_longestRestOf_15 : decode cX3_longestRestOf 15 = .ok (.if_icmp .ge 56, 3) := by decide +kernel
theorem dX3_longestRestOf_18 : decode cX3_longestRestOf 18 = .ok (.iload 4, 2) := by decide +kernel
theorem dX3_longestRestOf_20 : decode cX3_longestRestOf 20 = .ok (.aload_n 0, 1) := by decide +kernel
theorem dX3_longestRestOf_21 : decode cX3_longestRestOf 21 = .ok (.getfield 15, 3) := by decide +kernel
theorem dX3_longestRestOf_24 : decode cX3_longestRestOf 24 = .ok (.if_icmp .ge 8, 3) := by decide +kernel
theorem dX3_longestRestOf_27 : decode cX3_longestRestOf 27 = .ok (.iload 4, 2) := by decide +kernel
theorem dX3_longestRestOf_29 : decode cX3_longestRestOf 29 = .ok (.goto 10, 3) := by decide +kernel
theorem dX3_longestRestOf_32 : decode cX3_longestRestOf 32 = .ok (.iload 4, 2) := by decide +kernel
theorem dX3_longestRestOf_34 : decode cX3_longestRestOf 34 = .ok (.aload_n 0, 1) := by decide +kernel
theorem dX3_longestRestOf_35 : decode cX3_longestRestOf 35 = .ok (.getfield 15, 3) := by decide +kernel
theorem dX3_longestRestOf_38 : decode cX3_longestRestOf 38 = .ok (.isub, 1) := by decide +kernel
theorem dX3_longestRestOf_39 : decode cX3_longestRestOf 39 = .ok (.istore 5, 2) := by decide +kernel
theorem dX3_longestRestOf_41 : decode cX3_longestRestOf 41 = .ok (.aload_n 0, 1) := by decide +kernel
theorem dX3_longestRestOf_42 : decode cX3_longestRestOf 42 = .ok (.iload_n 1, 1) := by decide +kernel
theorem dX3_longestRestOf_43 : decode cX3_longestRestOf 43 = .ok (.iload 5, 2) := by decide +kernel
theorem dX3_longestRestOf_45 : decode cX3_longestRestOf 45 = .ok (.invokevirtual 61, 3) := by decide +kernel
theorem dX3_longestRestOf_48 : decode cX3_longestRestOf 48 = .ok (.ifCond .ne 9, 3) := by decide +kernel
theorem dX3_longestRestOf_51 : decode cX3_longestRestOf 51 = .ok (.iload_n 3, 1) := by decide +kernel
theorem dX3_longestRestOf_52 : decode cX3_longestRestOf 52 = .ok (.iconst 1, 1) := by decide +kernel
theorem dX3_longestRestOf_53 : decode cX3_longestRestOf 53 = .ok (.iadd, 1) := by decide +kernel
theorem dX3_longestRestOf_54 : decode cX3_longestRestOf 54 = .ok (.goto 4, 3) := by decide +kernel
theorem dX3_longestRestOf_57 : decode cX3_longestRestOf 57 = .ok (.iconst 0, 1) := by decide +kernel
theorem dX3_longestRestOf_58 : decode cX3_longestRestOf 58 = .ok (.istore_n 3, 1) := by decide +kernel
theorem dX3_longestRestOf_59 : decode cX3_longestRestOf 59 = .ok (.iload_n 2, 1) := by decide +kernel
theorem dX3_longestRestOf_60 : decode cX3_longestRestOf 60 = .ok (.iload_n 3, 1) := by decide +kernel
theorem dX3_longestRestOf_61 : decode cX3_longestRestOf 61 = .ok (.invokestatic 65, 3) := by decide +kernel
theorem dX3_longestRestOf_64 : decode cX3_longestRestOf 64 = .ok (.istore_n 2, 1) := by decide +kernel
theorem dX3_longestRestOf_65 : decode cX3_longestRestOf 65 = .ok (.iinc 4 1, 3) := by decide +kernel
theorem dX3_longestRestOf_68 : decode cX3_longestRestOf 68 = .ok (.goto (-61), 3) := by decide +kernel
theorem dX3_longestRestOf_71 : decode cX3_longestRestOf 71 = .ok (.iload_n 2, 1) := by decide +kernel
theorem dX3_longestRestOf_72 : decode cX3_longestRestOf 72 = .ok (.aload_n 0, 1) := by decide +kernel
theorem dX3_longestRestOf_73 : decode cX3_longestRestOf 73 = .ok (.getfield 15, 3) := by decide +kernel
theorem dX3_longestRestOf_76 : decode cX3_longestRestOf 76 = .ok (.invokestatic 70, 3) := by decide +kernel
theorem dX3_longestRestOf_79 : decode cX3_longestRestOf 79 = .ok (.ireturn, 1) := by decide +kernel
def fX3_longestRestOf_L7 (M : Mm) (i : Nat) (c1 : Int32) (K : Int32 → Int32 → Int32 → Option Int32) : Nat → Int32 → Int32 → Int32 → Option Int32
  | 0, _, _, _ => none
  | n + 1, v2, v3, v4 => if ((2 : Int32) * (M.1 (10, i, 0) 1)) ≤ v4 then K v2 v3 v4 else if (M.1 (10, i, 0) 1) ≤ v4 then ((fX3_teethAt M i c1 (v4 - (M.1 (10, i, 0) 1))).bind fun q3 => if q3 = 0 then fX3_longestRestOf_L7 M i c1 K n (fJ9_max_7cf53 M v2 (v3 + (1 : Int32))) (v3 + (1 : Int32)) (v4 + (1 : Int32)) else fX3_longestRestOf_L7 M i c1 K n (fJ9_max_7cf53 M v2 (0 : Int32)) (0 : Int32) (v4 + (1 : Int32))) else (fX3_teethAt M i c1 v4).bind fun q6 => if q6 = 0 then fX3_longestRestOf_L7 M i c1 K n (fJ9_max_7cf53 M v2 (v3 + (1 : Int32))) (v3 + (1 : Int32)) (v4 + (1 : Int32)) else fX3_longestRestOf_L7 M i c1 K n (fJ9_max_7cf53 M v2 (0 : Int32)) (0 : Int32) (v4 + (1 : Int32))
def fX3_longestRestOf (M : Mm) (i : Nat) (x1 : Int32) : Option Int32 := fX3_longestRestOf_L7 M i x1 (fun w9 w10 w11 => some (fJ9_min_7cf53 M w9 (M.1 (10, i, 0) 1))) NF (0 : Int32) (0 : Int32) (0 : Int32)
set_option maxRecDepth 20000 in
set_option maxHeartbeats 2000000 in
theorem sX3_longestRestOf_L7 (M : Mm) (i : Nat) (c1 : Int32) (hi : i < 12) {res : Int32} {K : Int32 → Int32 → Int32 → Option Int32} : ∀ (n : Nat) (v2 : Int32) (v3 : Int32) (v4 : Int32), fX3_longestRestOf_L7 M i c1 K n v2 v3 v4 = some res →
    (∀ (v2 : Int32) (v3 : Int32) (v4 : Int32), K v2 v3 v4 = some res → Z RX3 cX3_longestRestOf 6 (some .int) [] "longestRestOf" (rmD 2 0 0) (QM SH allR 0 0 (fun v M9 => v = some (.int res) ∧ M9 = M) (fun _ _ => False)) allR SH 0 0 71 [some (.inr (10, i, 0)), some (.inl (.int c1)), some (.inl (.int v2)), some (.inl (.int v3)), some (.inl (.int v4)), none] [] M) → Z RX3 cX3_longestRestOf 6 (some .int) [] "longestRestOf" (rmD 2 0 0) (QM SH allR 0 0 (fun v M9 => v = some (.int res) ∧ M9 = M) (fun _ _ => False)) allR SH 0 0 7 [some (.inr (10, i, 0)), some (.inl (.int c1)), some (.inl (.int v2)), some (.inl (.int v3)), some (.inl (.int v4)), none] [] M := by
  intro n
  induction n with
  | zero => intro v2 v3 v4 h; cases h
  | succ n ih =>
    intro v2 v3 v4 h hK
    rw [fX3_longestRestOf_L7] at h
    refine z_iload (i := 4) dX3_longestRestOf_7 rfl ?_
    refine z_iconst (v := (2 : Int32)) dX3_longestRestOf_9 kc_2 ?_
    refine z_aload_n (i := 0) dX3_longestRestOf_10 rfl rfl ?_
    refine z_getI (x := (M.1 (10, i, 0) 1)) dX3_longestRestOf_11 fl_X3_15 (m10 _ hi) rfl rfl ?_
    refine z_imul dX3_longestRestOf_14 ?_
    refine z_icmp_ge (tgt := 71) dX3_longestRestOf_15 rfl (fun hc1 => ?_) (fun hc1 => ?_)
    · have h := it_t h hc1
      exact hK _ _ _ h
    · have h := it_f h hc1
      refine z_iload (i := 4) dX3_longestRestOf_18 rfl ?_
      refine z_aload_n (i := 0) dX3_longestRestOf_20 rfl rfl ?_
      refine z_getI (x := (M.1 (10, i, 0) 1)) dX3_longestRestOf_21 fl_X3_15 (m10 _ hi) rfl rfl ?_
      refine z_icmp_ge (tgt := 32) dX3_longestRestOf_24 rfl (fun hc2 => ?_) (fun hc2 => ?_)
      · have h := it_t h hc2
        refine z_iload (i := 4) dX3_longestRestOf_32 rfl ?_
        refine z_aload_n (i := 0) dX3_longestRestOf_34 rfl rfl ?_
        refine z_getI (x := (M.1 (10, i, 0) 1)) dX3_longestRestOf_35 fl_X3_15 (m10 _ hi) rfl rfl ?_
        refine z_isub dX3_longestRestOf_38 ?_
        refine z_istore (i := 5) dX3_longestRestOf_39 (Nat.le_of_ble_eq_true rfl) rfl ?_
        refine z_aload_n (i := 0) dX3_longestRestOf_41 rfl rfl ?_
        refine z_iload_n (i := 1) dX3_longestRestOf_42 rfl rfl ?_
        refine z_iload (i := 5) dX3_longestRestOf_43 rfl ?_
        obtain ⟨q3, hq4, h⟩ := bnd h
        refine z_fVi (sX3_teethAt M i c1 (v4 - (M.1 (10, i, 0) 1)) hi hq4) dX3_longestRestOf_45 ml_X3_61 cd_X3_teethAt (m10 _ hi) rfl rfl rfl rfl rfl rfl ?_
        refine z_if_ne (tgt := 57) dX3_longestRestOf_48 rfl (fun hc5 => ?_) (fun hc5 => ?_)
        · have h := it_f h hc5
          refine z_iconst (v := (0 : Int32)) dX3_longestRestOf_57 kc_0 ?_
          refine z_istore_n (i := 3) dX3_longestRestOf_58 rfl (Nat.le_of_ble_eq_true rfl) rfl ?_
          refine z_iload_n (i := 2) dX3_longestRestOf_59 rfl rfl ?_
          refine z_iload_n (i := 3) dX3_longestRestOf_60 rfl rfl ?_
          refine z_fSi (sJ9_max_7cf53 M v2 (0 : Int32)) dX3_longestRestOf_61 ml_X3_65 cd_J9_max_7cf53 rfl rfl rfl rfl rfl ?_
          refine z_istore_n (i := 2) dX3_longestRestOf_64 rfl (Nat.le_of_ble_eq_true rfl) rfl ?_
          refine z_iinc (i := 4) (v := (v4 + (1 : Int32))) dX3_longestRestOf_65 rfl (iinc_k kc_1) (Nat.le_of_ble_eq_true rfl) rfl ?_
          refine z_goto (tgt := 7) dX3_longestRestOf_68 rfl ?_
          exact ih _ _ _ h hK
        · have h := it_t h hc5
          refine z_iload_n (i := 3) dX3_longestRestOf_51 rfl rfl ?_
          refine z_iconst (v := (1 : Int32)) dX3_longestRestOf_52 kc_1 ?_
          refine z_iadd dX3_longestRestOf_53 ?_
          refine z_goto (tgt := 58) dX3_longestRestOf_54 rfl ?_
          refine z_istore_n (i := 3) dX3_longestRestOf_58 rfl (Nat.le_of_ble_eq_true rfl) rfl ?_
          refine z_iload_n (i := 2) dX3_longestRestOf_59 rfl rfl ?_
          refine z_iload_n (i := 3) dX3_longestRestOf_60 rfl rfl ?_
          refine z_fSi (sJ9_max_7cf53 M v2 (v3 + (1 : Int32))) dX3_longestRestOf_61 ml_X3_65 cd_J9_max_7cf53 rfl rfl rfl rfl rfl ?_
          refine z_istore_n (i := 2) dX3_longestRestOf_64 rfl (Nat.le_of_ble_eq_true rfl) rfl ?_
          refine z_iinc (i := 4) (v := (v4 + (1 : Int32))) dX3_longestRestOf_65 rfl (iinc_k kc_1) (Nat.le_of_ble_eq_true rfl) rfl ?_
          refine z_goto (tgt := 7) dX3_longestRestOf_68 rfl ?_
          exact ih _ _ _ h hK
      · have h := it_f h hc2
        refine z_iload (i := 4) dX3_longestRestOf_27 rfl ?_
        refine z_goto (tgt := 39) dX3_longestRestOf_29 rfl ?_
        refine z_istore (i := 5) dX3_longestRestOf_39 (Nat.le_of_ble_eq_true rfl) rfl ?_
        refine z_aload_n (i := 0) dX3_longestRestOf_41 rfl rfl ?_
        refine z_iload_n (i := 1) dX3_longestRestOf_42 rfl rfl ?_
        refine z_iload (i := 5) dX3_longestRestOf_43 rfl ?_
        obtain ⟨q6, hq7, h⟩ := bnd h
        refine z_fVi (sX3_teethAt M i c1 v4 hi hq7) dX3_longestRestOf_45 ml_X3_61 cd_X3_teethAt (m10 _ hi) rfl rfl rfl rfl rfl rfl ?_
        refine z_if_ne (tgt := 57) dX3_longestRestOf_48 rfl (fun hc8 => ?_) (fun hc8 => ?_)
        · have h := it_f h hc8
          refine z_iconst (v := (0 : Int32)) dX3_longestRestOf_57 kc_0 ?_
          refine z_istore_n (i := 3) dX3_longestRestOf_58 rfl (Nat.le_of_ble_eq_true rfl) rfl ?_
          refine z_iload_n (i := 2) dX3_longestRestOf_59 rfl rfl ?_
          refine z_iload_n (i := 3) dX3_longestRestOf_60 rfl rfl ?_
          refine z_fSi (sJ9_max_7cf53 M v2 (0 : Int32)) dX3_longestRestOf_61 ml_X3_65 cd_J9_max_7cf53 rfl rfl rfl rfl rfl ?_
          refine z_istore_n (i := 2) dX3_longestRestOf_64 rfl (Nat.le_of_ble_eq_true rfl) rfl ?_
          refine z_iinc (i := 4) (v := (v4 + (1 : Int32))) dX3_longestRestOf_65 rfl (iinc_k kc_1) (Nat.le_of_ble_eq_true rfl) rfl ?_
          refine z_goto (tgt := 7) dX3_longestRestOf_68 rfl ?_
          exact ih _ _ _ h hK
        · have h := it_t h hc8
          refine z_iload_n (i := 3) dX3_longestRestOf_51 rfl rfl ?_
          refine z_iconst (v := (1 : Int32)) dX3_longestRestOf_52 kc_1 ?_
          refine z_iadd dX3_longestRestOf_53 ?_
          refine z_goto (tgt := 58) dX3_longestRestOf_54 rfl ?_
          refine z_istore_n (i := 3) dX3_longestRestOf_58 rfl (Nat.le_of_ble_eq_true rfl) rfl ?_
          refine z_iload_n (i := 2) dX3_longestRestOf_59 rfl rfl ?_
          refine z_iload_n (i := 3) dX3_longestRestOf_60 rfl rfl ?_
          refine z_fSi (sJ9_max_7cf53 M v2 (v3 + (1 : Int32))) dX3_longestRestOf_61 ml_X3_65 cd_J9_max_7cf53 rfl rfl rfl rfl rfl ?_
          refine z_istore_n (i := 2) dX3_longestRestOf_64 rfl (Nat.le_of_ble_eq_true rfl) rfl ?_
          refine z_iinc (i := 4) (v := (v4 + (1 : Int32))) dX3_longestRestOf_65 rfl (iinc_k kc_1) (Nat.le_of_ble_eq_true rfl) rfl ?_
          refine z_goto (tgt := 7) dX3_longestRestOf_68 rfl ?_
          exact ih _ _ _ h hK
set_option maxRecDepth 20000 in
set_option maxHeartbeats 2000000 in
theorem sX3_longestRestOf (M : Mm) (i : Nat) (x1 : Int32) (hi : i < 12) {res : Int32} (h : fX3_longestRestOf M i x1 = some res) : TF yX3_longestRestOf cX3_longestRestOf 6 (some .int) 2 [.inr (10, i, 0), .inl (.int x1)] M (some (.int res)) M := by
  rw [fX3_longestRestOf] at h
  refine TF.go (n := 4) (ls := [some (.inr (10, i, 0)), some (.inl (.int x1)), none, none, none, none]) rfl rfl rfl rfl rfl ?_
  refine z_iconst (v := (0 : Int32)) dX3_longestRestOf_0 kc_0 ?_
  refine z_istore_n (i := 2) dX3_longestRestOf_1 rfl (Nat.le_of_ble_eq_true rfl) rfl ?_
  refine z_iconst (v := (0 : Int32)) dX3_longestRestOf_2 kc_0 ?_
  refine z_istore_n (i := 3) dX3_longestRestOf_3 rfl (Nat.le_of_ble_eq_true rfl) rfl ?_
  refine z_iconst (v := (0 : Int32)) dX3_longestRestOf_4 kc_0 ?_
  refine z_istore (i := 4) dX3_longestRestOf_5 (Nat.le_of_ble_eq_true rfl) rfl ?_
  refine sX3_longestRestOf_L7 M i x1 hi NF _ _ _ h (fun w9 w10 w11 h => ?_)
  refine z_iload_n (i := 2) dX3_longestRestOf_71 rfl rfl ?_
  refine z_aload_n (i := 0) dX3_longestRestOf_72 rfl rfl ?_
  refine z_getI (x := (M.1 (10, i, 0) 1)) dX3_longestRestOf_73 fl_X3_15 (m10 _ hi) rfl rfl ?_
  refine z_fSi (sJ9_min_7cf53 M w9 (M.1 (10, i, 0) 1)) dX3_longestRestOf_76 ml_X3_70 cd_J9_min_7cf53 rfl rfl rfl rfl rfl ?_
  cases h
  exact z_iret dX3_longestRestOf_79 rfl rfl (Nat.le_refl _) (Nat.le_refl _) ⟨rfl, rfl⟩
end
