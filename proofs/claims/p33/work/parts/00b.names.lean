-- ===== PART A: goes FIRST, ahead of the names: the tables' words, and 'selects' of the private methods out of them =====
/-- a private method of a class that the tables say can be made, by its rows of tables_1 -/
def lw_okq (q : MethodName × Nat) : Prop := (q.1.cls ≠ "java/lang/invoke/MethodHandle" ∧ q.1.cls ≠ "java/lang/invoke/VarHandle") ∧ Cond.instantiable q.1.cls q.2 ∈ tables_1 ∧ Cond.privateMethod q.1 ∈ tables_1 ∧ Cond.instanceMethod q.1 ∈ tables_1
theorem lw_p0 : lw_okq (⟨"Chipcardhouse$Script", "tokenFrom", "(I)I"⟩, 4) := ⟨⟨by decide +kernel, by decide +kernel⟩, List.mem_of_getElem? (i := 46) (by decide +kernel), List.mem_of_getElem? (i := 246) (by decide +kernel), List.mem_of_getElem? (i := 247) (by decide +kernel)⟩
theorem lw_p1 : lw_okq (⟨"Chipcardhouse$Script", "rowFrom", "(ICC)I"⟩, 4) := ⟨⟨by decide +kernel, by decide +kernel⟩, List.mem_of_getElem? (i := 46) (by decide +kernel), List.mem_of_getElem? (i := 250) (by decide +kernel), List.mem_of_getElem? (i := 251) (by decide +kernel)⟩
theorem lw_p2 : lw_okq (⟨"Chipcardhouse$Script", "commandOf", "(II)I"⟩, 4) := ⟨⟨by decide +kernel, by decide +kernel⟩, List.mem_of_getElem? (i := 46) (by decide +kernel), List.mem_of_getElem? (i := 295) (by decide +kernel), List.mem_of_getElem? (i := 296) (by decide +kernel)⟩
theorem lw_p3 : lw_okq (⟨"Chipcardhouse$Script", "isWord", "(IILjava/lang/String;)Z"⟩, 4) := ⟨⟨by decide +kernel, by decide +kernel⟩, List.mem_of_getElem? (i := 46) (by decide +kernel), List.mem_of_getElem? (i := 320) (by decide +kernel), List.mem_of_getElem? (i := 321) (by decide +kernel)⟩
theorem lw_p4 : lw_okq (⟨"Chipcardhouse$Script", "readNumber", "(I)I"⟩, 4) := ⟨⟨by decide +kernel, by decide +kernel⟩, List.mem_of_getElem? (i := 46) (by decide +kernel), List.mem_of_getElem? (i := 353) (by decide +kernel), List.mem_of_getElem? (i := 354) (by decide +kernel)⟩
theorem lw_p5 : lw_okq (⟨"Chipcardhouse$Script", "readPin", "()I"⟩, 4) := ⟨⟨by decide +kernel, by decide +kernel⟩, List.mem_of_getElem? (i := 46) (by decide +kernel), List.mem_of_getElem? (i := 357) (by decide +kernel), List.mem_of_getElem? (i := 358) (by decide +kernel)⟩
theorem lw_p6 : lw_okq (⟨"Chipcardhouse$Script", "readEnd", "()I"⟩, 4) := ⟨⟨by decide +kernel, by decide +kernel⟩, List.mem_of_getElem? (i := 46) (by decide +kernel), List.mem_of_getElem? (i := 362) (by decide +kernel), List.mem_of_getElem? (i := 363) (by decide +kernel)⟩
theorem lw_p7 : lw_okq (⟨"java/lang/Throwable", "fillInStackTrace", "(I)Ljava/lang/Throwable;"⟩, 6) := ⟨⟨by decide +kernel, by decide +kernel⟩, List.mem_of_getElem? (i := 414) (by decide +kernel), List.mem_of_getElem? (i := 412) (by decide +kernel), List.mem_of_getElem? (i := 413) (by decide +kernel)⟩
theorem lw_p8 : lw_okq (⟨"Chipcardhouse", "refusalOfAccount", "(I)I"⟩, 12) := ⟨⟨by decide +kernel, by decide +kernel⟩, List.mem_of_getElem? (i := 38) (by decide +kernel), List.mem_of_getElem? (i := 489) (by decide +kernel), List.mem_of_getElem? (i := 490) (by decide +kernel)⟩
theorem lw_p9 : lw_okq (⟨"Chipcardhouse", "addAccount", "(I)I"⟩, 12) := ⟨⟨by decide +kernel, by decide +kernel⟩, List.mem_of_getElem? (i := 38) (by decide +kernel), List.mem_of_getElem? (i := 494) (by decide +kernel), List.mem_of_getElem? (i := 495) (by decide +kernel)⟩
theorem lw_p10 : lw_okq (⟨"java/util/ArrayList", "add", "(Ljava/lang/Object;[Ljava/lang/Object;I)V"⟩, 3) := ⟨⟨by decide +kernel, by decide +kernel⟩, List.mem_of_getElem? (i := 120) (by decide +kernel), List.mem_of_getElem? (i := 526) (by decide +kernel), List.mem_of_getElem? (i := 527) (by decide +kernel)⟩
theorem lw_p11 : lw_okq (⟨"java/util/ArrayList", "grow", "()[Ljava/lang/Object;"⟩, 3) := ⟨⟨by decide +kernel, by decide +kernel⟩, List.mem_of_getElem? (i := 120) (by decide +kernel), List.mem_of_getElem? (i := 530) (by decide +kernel), List.mem_of_getElem? (i := 531) (by decide +kernel)⟩
theorem lw_p12 : lw_okq (⟨"java/util/ArrayList", "grow", "(I)[Ljava/lang/Object;"⟩, 3) := ⟨⟨by decide +kernel, by decide +kernel⟩, List.mem_of_getElem? (i := 120) (by decide +kernel), List.mem_of_getElem? (i := 534) (by decide +kernel), List.mem_of_getElem? (i := 535) (by decide +kernel)⟩
theorem lw_p13 : lw_okq (⟨"Chipcardhouse", "refusalOfShop", "(II)I"⟩, 12) := ⟨⟨by decide +kernel, by decide +kernel⟩, List.mem_of_getElem? (i := 38) (by decide +kernel), List.mem_of_getElem? (i := 588) (by decide +kernel), List.mem_of_getElem? (i := 589) (by decide +kernel)⟩
theorem lw_p14 : lw_okq (⟨"Chipcardhouse", "addShop", "(II)I"⟩, 12) := ⟨⟨by decide +kernel, by decide +kernel⟩, List.mem_of_getElem? (i := 38) (by decide +kernel), List.mem_of_getElem? (i := 593) (by decide +kernel), List.mem_of_getElem? (i := 594) (by decide +kernel)⟩
theorem lw_p15 : lw_okq (⟨"Chipcardhouse", "refusalOfCard", "(IIII)I"⟩, 12) := ⟨⟨by decide +kernel, by decide +kernel⟩, List.mem_of_getElem? (i := 38) (by decide +kernel), List.mem_of_getElem? (i := 688) (by decide +kernel), List.mem_of_getElem? (i := 689) (by decide +kernel)⟩
def lw_privs_1 : List (MethodName × Nat) := [(⟨"Chipcardhouse$Script", "tokenFrom", "(I)I"⟩, 4), (⟨"Chipcardhouse$Script", "rowFrom", "(ICC)I"⟩, 4), (⟨"Chipcardhouse$Script", "commandOf", "(II)I"⟩, 4), (⟨"Chipcardhouse$Script", "isWord", "(IILjava/lang/String;)Z"⟩, 4), (⟨"Chipcardhouse$Script", "readNumber", "(I)I"⟩, 4), (⟨"Chipcardhouse$Script", "readPin", "()I"⟩, 4), (⟨"Chipcardhouse$Script", "readEnd", "()I"⟩, 4), (⟨"java/lang/Throwable", "fillInStackTrace", "(I)Ljava/lang/Throwable;"⟩, 6), (⟨"Chipcardhouse", "refusalOfAccount", "(I)I"⟩, 12), (⟨"Chipcardhouse", "addAccount", "(I)I"⟩, 12), (⟨"java/util/ArrayList", "add", "(Ljava/lang/Object;[Ljava/lang/Object;I)V"⟩, 3), (⟨"java/util/ArrayList", "grow", "()[Ljava/lang/Object;"⟩, 3), (⟨"java/util/ArrayList", "grow", "(I)[Ljava/lang/Object;"⟩, 3), (⟨"Chipcardhouse", "refusalOfShop", "(II)I"⟩, 12), (⟨"Chipcardhouse", "addShop", "(II)I"⟩, 12), (⟨"Chipcardhouse", "refusalOfCard", "(IIII)I"⟩, 12)]
theorem lw_r1 : ∀ q ∈ lw_privs_1, lw_okq q := List.forall_mem_cons.mpr ⟨lw_p0, List.forall_mem_cons.mpr ⟨lw_p1, List.forall_mem_cons.mpr ⟨lw_p2, List.forall_mem_cons.mpr ⟨lw_p3, List.forall_mem_cons.mpr ⟨lw_p4, List.forall_mem_cons.mpr ⟨lw_p5, List.forall_mem_cons.mpr ⟨lw_p6, List.forall_mem_cons.mpr ⟨lw_p7, List.forall_mem_cons.mpr ⟨lw_p8, List.forall_mem_cons.mpr ⟨lw_p9, List.forall_mem_cons.mpr ⟨lw_p10, List.forall_mem_cons.mpr ⟨lw_p11, List.forall_mem_cons.mpr ⟨lw_p12, List.forall_mem_cons.mpr ⟨lw_p13, List.forall_mem_cons.mpr ⟨lw_p14, List.forall_mem_cons.mpr ⟨lw_p15, fun _ h => absurd h List.not_mem_nil⟩⟩⟩⟩⟩⟩⟩⟩⟩⟩⟩⟩⟩⟩⟩⟩
theorem lw_p16 : lw_okq (⟨"Chipcardhouse", "addCard", "(IIII)I"⟩, 12) := ⟨⟨by decide +kernel, by decide +kernel⟩, List.mem_of_getElem? (i := 38) (by decide +kernel), List.mem_of_getElem? (i := 693) (by decide +kernel), List.mem_of_getElem? (i := 694) (by decide +kernel)⟩
theorem lw_p17 : lw_okq (⟨"Chipcardhouse", "refusalOfHouse", "(III)I"⟩, 12) := ⟨⟨by decide +kernel, by decide +kernel⟩, List.mem_of_getElem? (i := 38) (by decide +kernel), List.mem_of_getElem? (i := 791) (by decide +kernel), List.mem_of_getElem? (i := 792) (by decide +kernel)⟩
theorem lw_p18 : lw_okq (⟨"Chipcardhouse", "changeHouse", "(III)I"⟩, 12) := ⟨⟨by decide +kernel, by decide +kernel⟩, List.mem_of_getElem? (i := 38) (by decide +kernel), List.mem_of_getElem? (i := 795) (by decide +kernel), List.mem_of_getElem? (i := 796) (by decide +kernel)⟩
theorem lw_p19 : lw_okq (⟨"Chipcardhouse", "refusalOfPay", "(IIII)I"⟩, 12) := ⟨⟨by decide +kernel, by decide +kernel⟩, List.mem_of_getElem? (i := 38) (by decide +kernel), List.mem_of_getElem? (i := 803) (by decide +kernel), List.mem_of_getElem? (i := 804) (by decide +kernel)⟩
theorem lw_p20 : lw_okq (⟨"Chipcardhouse", "payAt", "(IIII)I"⟩, 12) := ⟨⟨by decide +kernel, by decide +kernel⟩, List.mem_of_getElem? (i := 38) (by decide +kernel), List.mem_of_getElem? (i := 807) (by decide +kernel), List.mem_of_getElem? (i := 808) (by decide +kernel)⟩
theorem lw_p21 : lw_okq (⟨"Chipcardhouse$Payment", "fill", "(LChipcardhouse$Message;)LChipcardhouse$Message;"⟩, 12) := ⟨⟨by decide +kernel, by decide +kernel⟩, List.mem_of_getElem? (i := 819) (by decide +kernel), List.mem_of_getElem? (i := 1016) (by decide +kernel), List.mem_of_getElem? (i := 1017) (by decide +kernel)⟩
theorem lw_p22 : lw_okq (⟨"Chipcardhouse$Line", "takeFault", "()I"⟩, 4) := ⟨⟨by decide +kernel, by decide +kernel⟩, List.mem_of_getElem? (i := 605) (by decide +kernel), List.mem_of_getElem? (i := 1024) (by decide +kernel), List.mem_of_getElem? (i := 1025) (by decide +kernel)⟩
theorem lw_p23 : lw_okq (⟨"Chipcardhouse", "sendBatch", "(I)I"⟩, 12) := ⟨⟨by decide +kernel, by decide +kernel⟩, List.mem_of_getElem? (i := 38) (by decide +kernel), List.mem_of_getElem? (i := 1044) (by decide +kernel), List.mem_of_getElem? (i := 1045) (by decide +kernel)⟩
theorem lw_p24 : lw_okq (⟨"Chipcardhouse", "refusalOfBack", "(III)I"⟩, 12) := ⟨⟨by decide +kernel, by decide +kernel⟩, List.mem_of_getElem? (i := 38) (by decide +kernel), List.mem_of_getElem? (i := 1064) (by decide +kernel), List.mem_of_getElem? (i := 1065) (by decide +kernel)⟩
theorem lw_p25 : lw_okq (⟨"Chipcardhouse", "sendBack", "(III)I"⟩, 12) := ⟨⟨by decide +kernel, by decide +kernel⟩, List.mem_of_getElem? (i := 38) (by decide +kernel), List.mem_of_getElem? (i := 1068) (by decide +kernel), List.mem_of_getElem? (i := 1069) (by decide +kernel)⟩
theorem lw_p26 : lw_okq (⟨"Chipcardhouse", "refusalOfForging", "(III)I"⟩, 12) := ⟨⟨by decide +kernel, by decide +kernel⟩, List.mem_of_getElem? (i := 38) (by decide +kernel), List.mem_of_getElem? (i := 1078) (by decide +kernel), List.mem_of_getElem? (i := 1079) (by decide +kernel)⟩
theorem lw_p27 : lw_okq (⟨"Chipcardhouse", "refusalOfTicks", "(I)I"⟩, 12) := ⟨⟨by decide +kernel, by decide +kernel⟩, List.mem_of_getElem? (i := 38) (by decide +kernel), List.mem_of_getElem? (i := 1087) (by decide +kernel), List.mem_of_getElem? (i := 1088) (by decide +kernel)⟩
theorem lw_p28 : lw_okq (⟨"Chipcardhouse", "letTicksPass", "(I)I"⟩, 12) := ⟨⟨by decide +kernel, by decide +kernel⟩, List.mem_of_getElem? (i := 38) (by decide +kernel), List.mem_of_getElem? (i := 1091) (by decide +kernel), List.mem_of_getElem? (i := 1092) (by decide +kernel)⟩
theorem lw_p29 : lw_okq (⟨"Chipcardhouse", "bringUp", "(LChipcardhouse$Terminal;)V"⟩, 12) := ⟨⟨by decide +kernel, by decide +kernel⟩, List.mem_of_getElem? (i := 38) (by decide +kernel), List.mem_of_getElem? (i := 1095) (by decide +kernel), List.mem_of_getElem? (i := 1096) (by decide +kernel)⟩
theorem lw_p30 : lw_okq (⟨"Chipcardhouse$Issuer", "findOrMake", "(I)LChipcardhouse$Known;"⟩, 5) := ⟨⟨by decide +kernel, by decide +kernel⟩, List.mem_of_getElem? (i := 146) (by decide +kernel), List.mem_of_getElem? (i := 1103) (by decide +kernel), List.mem_of_getElem? (i := 1104) (by decide +kernel)⟩
theorem lw_p31 : lw_okq (⟨"Chipcardhouse$Issuer", "findCard", "(I)LChipcardhouse$Card;"⟩, 5) := ⟨⟨by decide +kernel, by decide +kernel⟩, List.mem_of_getElem? (i := 146) (by decide +kernel), List.mem_of_getElem? (i := 1172) (by decide +kernel), List.mem_of_getElem? (i := 1173) (by decide +kernel)⟩
def lw_privs_2 : List (MethodName × Nat) := [(⟨"Chipcardhouse", "addCard", "(IIII)I"⟩, 12), (⟨"Chipcardhouse", "refusalOfHouse", "(III)I"⟩, 12), (⟨"Chipcardhouse", "changeHouse", "(III)I"⟩, 12), (⟨"Chipcardhouse", "refusalOfPay", "(IIII)I"⟩, 12), (⟨"Chipcardhouse", "payAt", "(IIII)I"⟩, 12), (⟨"Chipcardhouse$Payment", "fill", "(LChipcardhouse$Message;)LChipcardhouse$Message;"⟩, 12), (⟨"Chipcardhouse$Line", "takeFault", "()I"⟩, 4), (⟨"Chipcardhouse", "sendBatch", "(I)I"⟩, 12), (⟨"Chipcardhouse", "refusalOfBack", "(III)I"⟩, 12), (⟨"Chipcardhouse", "sendBack", "(III)I"⟩, 12), (⟨"Chipcardhouse", "refusalOfForging", "(III)I"⟩, 12), (⟨"Chipcardhouse", "refusalOfTicks", "(I)I"⟩, 12), (⟨"Chipcardhouse", "letTicksPass", "(I)I"⟩, 12), (⟨"Chipcardhouse", "bringUp", "(LChipcardhouse$Terminal;)V"⟩, 12), (⟨"Chipcardhouse$Issuer", "findOrMake", "(I)LChipcardhouse$Known;"⟩, 5), (⟨"Chipcardhouse$Issuer", "findCard", "(I)LChipcardhouse$Card;"⟩, 5)]
theorem lw_r2 : ∀ q ∈ lw_privs_2, lw_okq q := List.forall_mem_cons.mpr ⟨lw_p16, List.forall_mem_cons.mpr ⟨lw_p17, List.forall_mem_cons.mpr ⟨lw_p18, List.forall_mem_cons.mpr ⟨lw_p19, List.forall_mem_cons.mpr ⟨lw_p20, List.forall_mem_cons.mpr ⟨lw_p21, List.forall_mem_cons.mpr ⟨lw_p22, List.forall_mem_cons.mpr ⟨lw_p23, List.forall_mem_cons.mpr ⟨lw_p24, List.forall_mem_cons.mpr ⟨lw_p25, List.forall_mem_cons.mpr ⟨lw_p26, List.forall_mem_cons.mpr ⟨lw_p27, List.forall_mem_cons.mpr ⟨lw_p28, List.forall_mem_cons.mpr ⟨lw_p29, List.forall_mem_cons.mpr ⟨lw_p30, List.forall_mem_cons.mpr ⟨lw_p31, fun _ h => absurd h List.not_mem_nil⟩⟩⟩⟩⟩⟩⟩⟩⟩⟩⟩⟩⟩⟩⟩⟩
theorem lw_p32 : lw_okq (⟨"Chipcardhouse$Switch", "grant", "(LChipcardhouse$Message;)Z"⟩, 3) := ⟨⟨by decide +kernel, by decide +kernel⟩, List.mem_of_getElem? (i := 172) (by decide +kernel), List.mem_of_getElem? (i := 1208) (by decide +kernel), List.mem_of_getElem? (i := 1209) (by decide +kernel)⟩
theorem lw_p33 : lw_okq (⟨"Chipcardhouse$Issuer", "hearRecord", "(LChipcardhouse$Message;LChipcardhouse$Known;LChipcardhouse$Terminal;)V"⟩, 5) := ⟨⟨by decide +kernel, by decide +kernel⟩, List.mem_of_getElem? (i := 146) (by decide +kernel), List.mem_of_getElem? (i := 1229) (by decide +kernel), List.mem_of_getElem? (i := 1230) (by decide +kernel)⟩
theorem lw_p34 : lw_okq (⟨"Chipcardhouse$Terminal", "hearAnswer", "(LChipcardhouse$Message;)V"⟩, 13) := ⟨⟨by decide +kernel, by decide +kernel⟩, List.mem_of_getElem? (i := 597) (by decide +kernel), List.mem_of_getElem? (i := 1272) (by decide +kernel), List.mem_of_getElem? (i := 1273) (by decide +kernel)⟩
theorem lw_p35 : lw_okq (⟨"java/util/ArrayList", "fastRemove", "([Ljava/lang/Object;I)V"⟩, 3) := ⟨⟨by decide +kernel, by decide +kernel⟩, List.mem_of_getElem? (i := 120) (by decide +kernel), List.mem_of_getElem? (i := 1294) (by decide +kernel), List.mem_of_getElem? (i := 1295) (by decide +kernel)⟩
theorem lw_p36 : lw_okq (⟨"Chipcardhouse$Terminal", "forget", "(LChipcardhouse$Message;)V"⟩, 13) := ⟨⟨by decide +kernel, by decide +kernel⟩, List.mem_of_getElem? (i := 597) (by decide +kernel), List.mem_of_getElem? (i := 1299) (by decide +kernel), List.mem_of_getElem? (i := 1300) (by decide +kernel)⟩
theorem lw_p37 : lw_okq (⟨"Chipcardhouse", "refusalOfFaults", "(IIII)I"⟩, 12) := ⟨⟨by decide +kernel, by decide +kernel⟩, List.mem_of_getElem? (i := 38) (by decide +kernel), List.mem_of_getElem? (i := 1328) (by decide +kernel), List.mem_of_getElem? (i := 1329) (by decide +kernel)⟩
theorem lw_p38 : lw_okq (⟨"Chipcardhouse", "addFaults", "(IIII)I"⟩, 12) := ⟨⟨by decide +kernel, by decide +kernel⟩, List.mem_of_getElem? (i := 38) (by decide +kernel), List.mem_of_getElem? (i := 1332) (by decide +kernel), List.mem_of_getElem? (i := 1333) (by decide +kernel)⟩
theorem lw_p39 : lw_okq (⟨"Chipcardhouse", "openOrClose", "(Z)I"⟩, 12) := ⟨⟨by decide +kernel, by decide +kernel⟩, List.mem_of_getElem? (i := 38) (by decide +kernel), List.mem_of_getElem? (i := 1340) (by decide +kernel), List.mem_of_getElem? (i := 1341) (by decide +kernel)⟩
theorem lw_p40 : lw_okq (⟨"Chipcardhouse", "refusalOfTelling", "(II)I"⟩, 12) := ⟨⟨by decide +kernel, by decide +kernel⟩, List.mem_of_getElem? (i := 38) (by decide +kernel), List.mem_of_getElem? (i := 1356) (by decide +kernel), List.mem_of_getElem? (i := 1357) (by decide +kernel)⟩
theorem lw_p41 : lw_okq (⟨"Chipcardhouse", "tellCard", "(II)I"⟩, 12) := ⟨⟨by decide +kernel, by decide +kernel⟩, List.mem_of_getElem? (i := 38) (by decide +kernel), List.mem_of_getElem? (i := 1360) (by decide +kernel), List.mem_of_getElem? (i := 1361) (by decide +kernel)⟩
theorem lw_p42 : lw_okq (⟨"Chipcardhouse", "reportStolen", "(I)Z"⟩, 12) := ⟨⟨by decide +kernel, by decide +kernel⟩, List.mem_of_getElem? (i := 38) (by decide +kernel), List.mem_of_getElem? (i := 1374) (by decide +kernel), List.mem_of_getElem? (i := 1375) (by decide +kernel)⟩
theorem lw_p43 : lw_okq (⟨"Chipcardhouse", "setFrozen", "(IZ)Z"⟩, 12) := ⟨⟨by decide +kernel, by decide +kernel⟩, List.mem_of_getElem? (i := 38) (by decide +kernel), List.mem_of_getElem? (i := 1382) (by decide +kernel), List.mem_of_getElem? (i := 1383) (by decide +kernel)⟩
theorem lw_p44 : lw_okq (⟨"Chipcardhouse", "refusalOfDispute", "(I)I"⟩, 12) := ⟨⟨by decide +kernel, by decide +kernel⟩, List.mem_of_getElem? (i := 38) (by decide +kernel), List.mem_of_getElem? (i := 1390) (by decide +kernel), List.mem_of_getElem? (i := 1391) (by decide +kernel)⟩
theorem lw_p45 : lw_okq (⟨"Chipcardhouse", "giveDisputedBack", "(I)I"⟩, 12) := ⟨⟨by decide +kernel, by decide +kernel⟩, List.mem_of_getElem? (i := 38) (by decide +kernel), List.mem_of_getElem? (i := 1399) (by decide +kernel), List.mem_of_getElem? (i := 1400) (by decide +kernel)⟩
theorem lw_p46 : lw_okq (⟨"Chipcardhouse", "settleDay", "()I"⟩, 12) := ⟨⟨by decide +kernel, by decide +kernel⟩, List.mem_of_getElem? (i := 38) (by decide +kernel), List.mem_of_getElem? (i := 1456) (by decide +kernel), List.mem_of_getElem? (i := 1457) (by decide +kernel)⟩
theorem lw_p47 : lw_okq (⟨"Chipcardhouse", "allPostedAreGood", "()Z"⟩, 12) := ⟨⟨by decide +kernel, by decide +kernel⟩, List.mem_of_getElem? (i := 38) (by decide +kernel), List.mem_of_getElem? (i := 1500) (by decide +kernel), List.mem_of_getElem? (i := 1501) (by decide +kernel)⟩
def lw_privs_3 : List (MethodName × Nat) := [(⟨"Chipcardhouse$Switch", "grant", "(LChipcardhouse$Message;)Z"⟩, 3), (⟨"Chipcardhouse$Issuer", "hearRecord", "(LChipcardhouse$Message;LChipcardhouse$Known;LChipcardhouse$Terminal;)V"⟩, 5), (⟨"Chipcardhouse$Terminal", "hearAnswer", "(LChipcardhouse$Message;)V"⟩, 13), (⟨"java/util/ArrayList", "fastRemove", "([Ljava/lang/Object;I)V"⟩, 3), (⟨"Chipcardhouse$Terminal", "forget", "(LChipcardhouse$Message;)V"⟩, 13), (⟨"Chipcardhouse", "refusalOfFaults", "(IIII)I"⟩, 12), (⟨"Chipcardhouse", "addFaults", "(IIII)I"⟩, 12), (⟨"Chipcardhouse", "openOrClose", "(Z)I"⟩, 12), (⟨"Chipcardhouse", "refusalOfTelling", "(II)I"⟩, 12), (⟨"Chipcardhouse", "tellCard", "(II)I"⟩, 12), (⟨"Chipcardhouse", "reportStolen", "(I)Z"⟩, 12), (⟨"Chipcardhouse", "setFrozen", "(IZ)Z"⟩, 12), (⟨"Chipcardhouse", "refusalOfDispute", "(I)I"⟩, 12), (⟨"Chipcardhouse", "giveDisputedBack", "(I)I"⟩, 12), (⟨"Chipcardhouse", "settleDay", "()I"⟩, 12), (⟨"Chipcardhouse", "allPostedAreGood", "()Z"⟩, 12)]
theorem lw_r3 : ∀ q ∈ lw_privs_3, lw_okq q := List.forall_mem_cons.mpr ⟨lw_p32, List.forall_mem_cons.mpr ⟨lw_p33, List.forall_mem_cons.mpr ⟨lw_p34, List.forall_mem_cons.mpr ⟨lw_p35, List.forall_mem_cons.mpr ⟨lw_p36, List.forall_mem_cons.mpr ⟨lw_p37, List.forall_mem_cons.mpr ⟨lw_p38, List.forall_mem_cons.mpr ⟨lw_p39, List.forall_mem_cons.mpr ⟨lw_p40, List.forall_mem_cons.mpr ⟨lw_p41, List.forall_mem_cons.mpr ⟨lw_p42, List.forall_mem_cons.mpr ⟨lw_p43, List.forall_mem_cons.mpr ⟨lw_p44, List.forall_mem_cons.mpr ⟨lw_p45, List.forall_mem_cons.mpr ⟨lw_p46, List.forall_mem_cons.mpr ⟨lw_p47, fun _ h => absurd h List.not_mem_nil⟩⟩⟩⟩⟩⟩⟩⟩⟩⟩⟩⟩⟩⟩⟩⟩
theorem lw_p48 : lw_okq (⟨"Chipcardhouse", "allHoldsAreSummed", "()Z"⟩, 12) := ⟨⟨by decide +kernel, by decide +kernel⟩, List.mem_of_getElem? (i := 38) (by decide +kernel), List.mem_of_getElem? (i := 1505) (by decide +kernel), List.mem_of_getElem? (i := 1506) (by decide +kernel)⟩
theorem lw_p49 : lw_okq (⟨"Chipcardhouse", "allMoney", "()J"⟩, 12) := ⟨⟨by decide +kernel, by decide +kernel⟩, List.mem_of_getElem? (i := 38) (by decide +kernel), List.mem_of_getElem? (i := 1517) (by decide +kernel), List.mem_of_getElem? (i := 1518) (by decide +kernel)⟩
def lw_privs_4 : List (MethodName × Nat) := [(⟨"Chipcardhouse", "allHoldsAreSummed", "()Z"⟩, 12), (⟨"Chipcardhouse", "allMoney", "()J"⟩, 12)]
theorem lw_r4 : ∀ q ∈ lw_privs_4, lw_okq q := List.forall_mem_cons.mpr ⟨lw_p48, List.forall_mem_cons.mpr ⟨lw_p49, fun _ h => absurd h List.not_mem_nil⟩⟩
def lw_privs : List (MethodName × Nat) := lw_privs_1 ++ (lw_privs_2 ++ (lw_privs_3 ++ (lw_privs_4)))
def lw_tbl : List Cond := k2_sels lw_privs ++ tables_1
theorem lw_privs_ok : ∀ q ∈ lw_privs, lw_okq q := by
  show ∀ q ∈ lw_privs_1 ++ (lw_privs_2 ++ (lw_privs_3 ++ (lw_privs_4))), lw_okq q
  exact List.forall_mem_append.mpr ⟨lw_r1, List.forall_mem_append.mpr ⟨lw_r2, List.forall_mem_append.mpr ⟨lw_r3, lw_r4⟩⟩⟩
def RX0 : String := "Chipcardhouse$Account"
def TX0 : u_T := fun k => match k with
  | 0 => ("Chipcardhouse$Account", "balance", "J", false)
  | 1 => ("Chipcardhouse$Account", "held", "J", false)
  | _ => ("Chipcardhouse$Account", "isFrozen", "Z", false)
def tyX0 : Nat → FieldType := fun k => match k with
  | 0 => .long
  | 1 => .long
  | _ => .boolean
abbrev wsX00 : List Cond := u_ws RX0 TX0 3
theorem nmX0 : ∀ a, a < 3 → ∀ b, b < 3 → a ≠ b → (TX0 a).2.1 ≠ (TX0 b).2.1 := by decide +kernel
theorem tyX0_ok : ∀ k, k < 3 → parseFieldDescriptor (TX0 k).2.2.1 = some (tyX0 k) := by decide +kernel
abbrev cX0_init : ByteArray := prog_2_method_1_code
def yX0_init : MethodName := ⟨RX0, "<init>", "(I)V"⟩
def RX1 : String := "Chipcardhouse$Card"
def TX1 : u_T := fun k => match k with
  | 0 => ("Chipcardhouse$Card", "number", "I", true)
  | 1 => ("Chipcardhouse$Card", "account", "LChipcardhouse$Account;", true)
  | 2 => ("Chipcardhouse$Card", "pin", "I", true)
  | 3 => ("Chipcardhouse$Card", "key", "I", true)
  | 4 => ("Chipcardhouse$Card", "greatestCount", "I", false)
  | 5 => ("Chipcardhouse$Card", "greatestSum", "I", false)
  | 6 => ("Chipcardhouse$Card", "counter", "I", false)
  | 7 => ("Chipcardhouse$Card", "triesLeft", "I", false)
  | 8 => ("Chipcardhouse$Card", "touches", "I", false)
  | 9 => ("Chipcardhouse$Card", "count", "I", false)
  | 10 => ("Chipcardhouse$Card", "sum", "I", false)
  | 11 => ("Chipcardhouse$Card", "isDead", "Z", false)
  | 12 => ("Chipcardhouse$Card", "isStolen", "Z", false)
  | 13 => ("Chipcardhouse$Card", "toTell", "I", false)
  | 14 => ("Chipcardhouse$Card", "heardCount", "I", false)
  | 15 => ("Chipcardhouse$Card", "heardOf", "[I", true)
  | _ => ("Chipcardhouse$Card", "postedAs", "[I", true)
def tyX1 : Nat → FieldType := fun k => match k with
  | 0 => .int
  | 1 => .object "Chipcardhouse$Account"
  | 2 => .int
  | 3 => .int
  | 4 => .int
  | 5 => .int
  | 6 => .int
  | 7 => .int
  | 8 => .int
  | 9 => .int
  | 10 => .int
  | 11 => .boolean
  | 12 => .boolean
  | 13 => .int
  | 14 => .int
  | 15 => .array .int
  | _ => .array .int
abbrev wsX10 : List Cond := u_ws RX1 TX1 17
theorem nmX1 : ∀ a, a < 17 → ∀ b, b < 17 → a ≠ b → (TX1 a).2.1 ≠ (TX1 b).2.1 := by decide +kernel
theorem tyX1_ok : ∀ k, k < 17 → parseFieldDescriptor (TX1 k).2.2.1 = some (tyX1 k) := by decide +kernel
abbrev cX1_init : ByteArray := prog_3_method_1_code
def yX1_init : MethodName := ⟨RX1, "<init>", "(ILChipcardhouse$Account;I)V"⟩
abbrev cX1_stamp : ByteArray := prog_3_method_2_code
def yX1_stamp : MethodName := ⟨RX1, "stamp", "(IIII)I"⟩
abbrev cX1_reasonAgainst : ByteArray := prog_3_method_3_code
def yX1_reasonAgainst : MethodName := ⟨RX1, "reasonAgainst", "(II)I"⟩
abbrev cX1_countUp : ByteArray := prog_3_method_4_code
def yX1_countUp : MethodName := ⟨RX1, "countUp", "(I)V"⟩
abbrev cX1_grantAlone : ByteArray := prog_3_method_5_code
def yX1_grantAlone : MethodName := ⟨RX1, "grantAlone", "(I)Z"⟩
abbrev cX1_beginAnew : ByteArray := prog_3_method_6_code
def yX1_beginAnew : MethodName := ⟨RX1, "beginAnew", "()V"⟩
abbrev cX1_doTold : ByteArray := prog_3_method_7_code
def yX1_doTold : MethodName := ⟨RX1, "doTold", "(I)V"⟩
abbrev cX1_wasHeardOfAnother : ByteArray := prog_3_method_8_code
def yX1_wasHeardOfAnother : MethodName := ⟨RX1, "wasHeardOfAnother", "(LChipcardhouse$Message;)Z"⟩
abbrev cX1_hearCounter : ByteArray := prog_3_method_9_code
def yX1_hearCounter : MethodName := ⟨RX1, "hearCounter", "(LChipcardhouse$Message;)V"⟩
abbrev cX1_postedWith : ByteArray := prog_3_method_10_code
def yX1_postedWith : MethodName := ⟨RX1, "postedWith", "(I)I"⟩
abbrev cX1_postWith : ByteArray := prog_3_method_11_code
def yX1_postWith : MethodName := ⟨RX1, "postWith", "(LChipcardhouse$Message;)V"⟩
def RX2 : String := "Chipcardhouse$Clock"
def TX2 : u_T := fun k => match k with
  | 0 => ("Chipcardhouse$Clock", "tick", "I", false)
  | 1 => ("Chipcardhouse$Clock", "day", "I", false)
  | _ => ("Chipcardhouse$Clock", "delay", "I", false)
def tyX2 : Nat → FieldType := fun k => match k with
  | 0 => .int
  | 1 => .int
  | _ => .int
abbrev wsX20 : List Cond := u_ws RX2 TX2 3
theorem nmX2 : ∀ a, a < 3 → ∀ b, b < 3 → a ≠ b → (TX2 a).2.1 ≠ (TX2 b).2.1 := by decide +kernel
theorem tyX2_ok : ∀ k, k < 3 → parseFieldDescriptor (TX2 k).2.2.1 = some (tyX2 k) := by decide +kernel
abbrev cX2_init : ByteArray := prog_4_method_1_code
def yX2_init : MethodName := ⟨RX2, "<init>", "()V"⟩
def RX3 : String := "Chipcardhouse$Issuer"
def TX3 : u_T := fun k => match k with
  | 0 => ("Chipcardhouse$Issuer", "cards", "Ljava/util/ArrayList;", true)
  | 1 => ("Chipcardhouse$Issuer", "clock", "LChipcardhouse$Clock;", true)
  | 2 => ("Chipcardhouse$Issuer", "numbers", "[LChipcardhouse$Known;", true)
  | 3 => ("Chipcardhouse$Issuer", "postedCount", "I", false)
  | _ => ("Chipcardhouse$Issuer", "rejectedCount", "I", false)
def tyX3 : Nat → FieldType := fun k => match k with
  | 0 => .object "java/util/ArrayList"
  | 1 => .object "Chipcardhouse$Clock"
  | 2 => .array (.object "Chipcardhouse$Known")
  | 3 => .int
  | _ => .int
abbrev wsX30 : List Cond := u_ws RX3 TX3 5
theorem nmX3 : ∀ a, a < 5 → ∀ b, b < 5 → a ≠ b → (TX3 a).2.1 ≠ (TX3 b).2.1 := by decide +kernel
theorem tyX3_ok : ∀ k, k < 5 → parseFieldDescriptor (TX3 k).2.2.1 = some (tyX3 k) := by decide +kernel
abbrev cX3_init : ByteArray := prog_5_method_1_code
def yX3_init : MethodName := ⟨RX3, "<init>", "(Ljava/util/ArrayList;LChipcardhouse$Clock;)V"⟩
abbrev cX3_find : ByteArray := prog_5_method_2_code
def yX3_find : MethodName := ⟨RX3, "find", "(I)LChipcardhouse$Known;"⟩
abbrev cX3_findOrMake : ByteArray := prog_5_method_3_code
def yX3_findOrMake : MethodName := ⟨RX3, "findOrMake", "(I)LChipcardhouse$Known;"⟩
abbrev cX3_findCard : ByteArray := prog_5_method_4_code
def yX3_findCard : MethodName := ⟨RX3, "findCard", "(I)LChipcardhouse$Card;"⟩
abbrev cX3_hasPosted : ByteArray := prog_5_method_5_code
def yX3_hasPosted : MethodName := ⟨RX3, "hasPosted", "(I)Z"⟩
abbrev cX3_hear : ByteArray := prog_5_method_6_code
def yX3_hear : MethodName := ⟨RX3, "hear", "(LChipcardhouse$Message;LChipcardhouse$Terminal;)V"⟩
abbrev cX3_answerTo : ByteArray := prog_5_method_7_code
def yX3_answerTo : MethodName := ⟨RX3, "answerTo", "(LChipcardhouse$Message;)LChipcardhouse$Message;"⟩
abbrev cX3_reasonAgainst : ByteArray := prog_5_method_8_code
def yX3_reasonAgainst : MethodName := ⟨RX3, "reasonAgainst", "(LChipcardhouse$Message;LChipcardhouse$Known;LChipcardhouse$Card;)I"⟩
abbrev cX3_hearNote : ByteArray := prog_5_method_9_code
def yX3_hearNote : MethodName := ⟨RX3, "hearNote", "(LChipcardhouse$Message;)V"⟩
abbrev cX3_hearRecord : ByteArray := prog_5_method_10_code
def yX3_hearRecord : MethodName := ⟨RX3, "hearRecord", "(LChipcardhouse$Message;LChipcardhouse$Known;LChipcardhouse$Terminal;)V"⟩
abbrev cX3_allStampsAreOfCards : ByteArray := prog_5_method_11_code
def yX3_allStampsAreOfCards : MethodName := ⟨RX3, "allStampsAreOfCards", "(Ljava/util/ArrayList;)Z"⟩
abbrev cX3_isStampOfOne : ByteArray := prog_5_method_12_code
def yX3_isStampOfOne : MethodName := ⟨RX3, "isStampOfOne", "(LChipcardhouse$Known;Ljava/util/ArrayList;)Z"⟩
abbrev cX3_eachCounterIsPostedOnce : ByteArray := prog_5_method_13_code
def yX3_eachCounterIsPostedOnce : MethodName := ⟨RX3, "eachCounterIsPostedOnce", "()Z"⟩
abbrev cX3_noSettledHasHold : ByteArray := prog_5_method_14_code
def yX3_noSettledHasHold : MethodName := ⟨RX3, "noSettledHasHold", "()Z"⟩
abbrev cX3_sumOfHolds : ByteArray := prog_5_method_15_code
def yX3_sumOfHolds : MethodName := ⟨RX3, "sumOfHolds", "(LChipcardhouse$Account;)J"⟩
def RX4 : String := "Chipcardhouse$Known"
def TX4 : u_T := fun k => match k with
  | 0 => ("Chipcardhouse$Known", "ask", "LChipcardhouse$Message;", false)
  | 1 => ("Chipcardhouse$Known", "answer", "LChipcardhouse$Message;", false)
  | 2 => ("Chipcardhouse$Known", "note", "LChipcardhouse$Message;", false)
  | 3 => ("Chipcardhouse$Known", "hold", "I", false)
  | 4 => ("Chipcardhouse$Known", "holder", "LChipcardhouse$Account;", false)
  | 5 => ("Chipcardhouse$Known", "isTakenBack", "Z", false)
  | 6 => ("Chipcardhouse$Known", "isRejected", "Z", false)
  | 7 => ("Chipcardhouse$Known", "isDisputed", "Z", false)
  | 8 => ("Chipcardhouse$Known", "record", "LChipcardhouse$Message;", false)
  | 9 => ("Chipcardhouse$Known", "payer", "LChipcardhouse$Account;", false)
  | 10 => ("Chipcardhouse$Known", "shop", "LChipcardhouse$Terminal;", false)
  | 11 => ("Chipcardhouse$Known", "left", "I", false)
  | _ => ("Chipcardhouse$Known", "day", "I", false)
def tyX4 : Nat → FieldType := fun k => match k with
  | 0 => .object "Chipcardhouse$Message"
  | 1 => .object "Chipcardhouse$Message"
  | 2 => .object "Chipcardhouse$Message"
  | 3 => .int
  | 4 => .object "Chipcardhouse$Account"
  | 5 => .boolean
  | 6 => .boolean
  | 7 => .boolean
  | 8 => .object "Chipcardhouse$Message"
  | 9 => .object "Chipcardhouse$Account"
  | 10 => .object "Chipcardhouse$Terminal"
  | 11 => .int
  | _ => .int
abbrev wsX40 : List Cond := u_ws RX4 TX4 13
theorem nmX4 : ∀ a, a < 13 → ∀ b, b < 13 → a ≠ b → (TX4 a).2.1 ≠ (TX4 b).2.1 := by decide +kernel
theorem tyX4_ok : ∀ k, k < 13 → parseFieldDescriptor (TX4 k).2.2.1 = some (tyX4 k) := by decide +kernel
abbrev cX4_init : ByteArray := prog_6_method_1_code
def yX4_init : MethodName := ⟨RX4, "<init>", "()V"⟩
abbrev cX4_isPosted : ByteArray := prog_6_method_2_code
def yX4_isPosted : MethodName := ⟨RX4, "isPosted", "()Z"⟩
abbrev cX4_beHeld : ByteArray := prog_6_method_3_code
def yX4_beHeld : MethodName := ⟨RX4, "beHeld", "(ILChipcardhouse$Account;)V"⟩
abbrev cX4_endHold : ByteArray := prog_6_method_4_code
def yX4_endHold : MethodName := ⟨RX4, "endHold", "()V"⟩
abbrev cX4_takeBack : ByteArray := prog_6_method_5_code
def yX4_takeBack : MethodName := ⟨RX4, "takeBack", "()V"⟩
abbrev cX4_isGranted : ByteArray := prog_6_method_6_code
def yX4_isGranted : MethodName := ⟨RX4, "isGranted", "(LChipcardhouse$Message;)Z"⟩
abbrev cX4_hearBackMoney : ByteArray := prog_6_method_7_code
def yX4_hearBackMoney : MethodName := ⟨RX4, "hearBackMoney", "(ILChipcardhouse$Terminal;)V"⟩
abbrev cX4_giveBack : ByteArray := prog_6_method_8_code
def yX4_giveBack : MethodName := ⟨RX4, "giveBack", "(I)V"⟩
def RX5 : String := "Chipcardhouse$Line"
def TX5 : u_T := fun k => match k with
  | 0 => ("Chipcardhouse$Line", "clock", "LChipcardhouse$Clock;", true)
  | 1 => ("Chipcardhouse$Line", "faultsLeft", "[I", true)
  | 2 => ("Chipcardhouse$Line", "messages", "Ljava/util/ArrayList;", true)
  | _ => ("Chipcardhouse$Line", "count", "I", false)
def tyX5 : Nat → FieldType := fun k => match k with
  | 0 => .object "Chipcardhouse$Clock"
  | 1 => .array .int
  | 2 => .object "java/util/ArrayList"
  | _ => .int
abbrev wsX50 : List Cond := u_ws RX5 TX5 4
theorem nmX5 : ∀ a, a < 4 → ∀ b, b < 4 → a ≠ b → (TX5 a).2.1 ≠ (TX5 b).2.1 := by decide +kernel
theorem tyX5_ok : ∀ k, k < 4 → parseFieldDescriptor (TX5 k).2.2.1 = some (tyX5 k) := by decide +kernel
abbrev cX5_init : ByteArray := prog_7_method_1_code
def yX5_init : MethodName := ⟨RX5, "<init>", "(LChipcardhouse$Clock;)V"⟩
abbrev cX5_put : ByteArray := prog_7_method_2_code
def yX5_put : MethodName := ⟨RX5, "put", "(LChipcardhouse$Message;)V"⟩
abbrev cX5_takeFault : ByteArray := prog_7_method_3_code
def yX5_takeFault : MethodName := ⟨RX5, "takeFault", "()I"⟩
abbrev cX5_dropCome : ByteArray := prog_7_method_4_code
def yX5_dropCome : MethodName := ⟨RX5, "dropCome", "()V"⟩
def RX6 : String := "Chipcardhouse$Message"
def TX6 : u_T := fun k => match k with
  | 0 => ("Chipcardhouse$Message", "sort", "I", false)
  | 1 => ("Chipcardhouse$Message", "payment", "I", false)
  | 2 => ("Chipcardhouse$Message", "card", "I", false)
  | 3 => ("Chipcardhouse$Message", "shop", "I", false)
  | 4 => ("Chipcardhouse$Message", "counter", "I", false)
  | 5 => ("Chipcardhouse$Message", "amount", "I", false)
  | 6 => ("Chipcardhouse$Message", "stamp", "I", false)
  | 7 => ("Chipcardhouse$Message", "by", "I", false)
  | 8 => ("Chipcardhouse$Message", "what", "I", false)
  | 9 => ("Chipcardhouse$Message", "reason", "I", false)
  | 10 => ("Chipcardhouse$Message", "told", "I", false)
  | 11 => ("Chipcardhouse$Message", "number", "I", false)
  | 12 => ("Chipcardhouse$Message", "comes", "I", false)
  | 13 => ("Chipcardhouse$Message", "latestPut", "I", false)
  | _ => ("Chipcardhouse$Message", "isForged", "Z", false)
def tyX6 : Nat → FieldType := fun k => match k with
  | 0 => .int
  | 1 => .int
  | 2 => .int
  | 3 => .int
  | 4 => .int
  | 5 => .int
  | 6 => .int
  | 7 => .int
  | 8 => .int
  | 9 => .int
  | 10 => .int
  | 11 => .int
  | 12 => .int
  | 13 => .int
  | _ => .boolean
abbrev wsX60 : List Cond := u_ws RX6 TX6 15
theorem nmX6 : ∀ a, a < 15 → ∀ b, b < 15 → a ≠ b → (TX6 a).2.1 ≠ (TX6 b).2.1 := by decide +kernel
theorem tyX6_ok : ∀ k, k < 15 → parseFieldDescriptor (TX6 k).2.2.1 = some (tyX6 k) := by decide +kernel
abbrev cX6_init : ByteArray := prog_8_method_1_code
def yX6_init : MethodName := ⟨RX6, "<init>", "(II)V"⟩
abbrev cX6_becomeLike : ByteArray := prog_8_method_2_code
def yX6_becomeLike : MethodName := ⟨RX6, "becomeLike", "(LChipcardhouse$Message;)LChipcardhouse$Message;"⟩
def RX7 : String := "Chipcardhouse$Payment"
def TX7 : u_T := fun k => match k with
  | 0 => ("Chipcardhouse$Payment", "number", "I", true)
  | 1 => ("Chipcardhouse$Payment", "card", "LChipcardhouse$Card;", true)
  | 2 => ("Chipcardhouse$Payment", "shop", "LChipcardhouse$Terminal;", true)
  | 3 => ("Chipcardhouse$Payment", "amount", "I", true)
  | 4 => ("Chipcardhouse$Payment", "counter", "I", true)
  | 5 => ("Chipcardhouse$Payment", "stamp", "I", false)
  | 6 => ("Chipcardhouse$Payment", "tick", "I", false)
  | 7 => ("Chipcardhouse$Payment", "state", "I", false)
  | 8 => ("Chipcardhouse$Payment", "reason", "I", false)
  | 9 => ("Chipcardhouse$Payment", "grantedBy", "I", false)
  | 10 => ("Chipcardhouse$Payment", "isSent", "Z", false)
  | _ => ("Chipcardhouse$Payment", "isTouched", "Z", false)
def tyX7 : Nat → FieldType := fun k => match k with
  | 0 => .int
  | 1 => .object "Chipcardhouse$Card"
  | 2 => .object "Chipcardhouse$Terminal"
  | 3 => .int
  | 4 => .int
  | 5 => .int
  | 6 => .int
  | 7 => .int
  | 8 => .int
  | 9 => .int
  | 10 => .boolean
  | _ => .boolean
abbrev wsX70 : List Cond := u_ws RX7 TX7 12
theorem nmX7 : ∀ a, a < 12 → ∀ b, b < 12 → a ≠ b → (TX7 a).2.1 ≠ (TX7 b).2.1 := by decide +kernel
theorem tyX7_ok : ∀ k, k < 12 → parseFieldDescriptor (TX7 k).2.2.1 = some (tyX7 k) := by decide +kernel
abbrev cX7_init : ByteArray := prog_9_method_1_code
def yX7_init : MethodName := ⟨RX7, "<init>", "(ILChipcardhouse$Card;LChipcardhouse$Terminal;I)V"⟩
abbrev cX7_bePaid : ByteArray := prog_9_method_2_code
def yX7_bePaid : MethodName := ⟨RX7, "bePaid", "()V"⟩
abbrev cX7_beAsking : ByteArray := prog_9_method_3_code
def yX7_beAsking : MethodName := ⟨RX7, "beAsking", "()V"⟩
abbrev cX7_isGood : ByteArray := prog_9_method_4_code
def yX7_isGood : MethodName := ⟨RX7, "isGood", "()Z"⟩
abbrev cX7_giveUp : ByteArray := prog_9_method_5_code
def yX7_giveUp : MethodName := ⟨RX7, "giveUp", "()V"⟩
abbrev cX7_hearAnswer : ByteArray := prog_9_method_6_code
def yX7_hearAnswer : MethodName := ⟨RX7, "hearAnswer", "(LChipcardhouse$Message;)V"⟩
abbrev cX7_ask : ByteArray := prog_9_method_7_code
def yX7_ask : MethodName := ⟨RX7, "ask", "()LChipcardhouse$Message;"⟩
abbrev cX7_record : ByteArray := prog_9_method_8_code
def yX7_record : MethodName := ⟨RX7, "record", "()LChipcardhouse$Message;"⟩
abbrev cX7_fill : ByteArray := prog_9_method_9_code
def yX7_fill : MethodName := ⟨RX7, "fill", "(LChipcardhouse$Message;)LChipcardhouse$Message;"⟩
def RX8 : String := "Chipcardhouse$Script"
def TX8 : u_T := fun k => match k with
  | 0 => ("Chipcardhouse$Script", "signs", "Ljava/lang/StringBuilder;", true)
  | 1 => ("Chipcardhouse$Script", "place", "I", false)
  | 2 => ("Chipcardhouse$Script", "command", "I", false)
  | _ => ("Chipcardhouse$Script", "numbers", "[I", true)
def tyX8 : Nat → FieldType := fun k => match k with
  | 0 => .object "java/lang/StringBuilder"
  | 1 => .int
  | 2 => .int
  | _ => .array .int
abbrev wsX80 : List Cond := u_ws RX8 TX8 4
theorem nmX8 : ∀ a, a < 4 → ∀ b, b < 4 → a ≠ b → (TX8 a).2.1 ≠ (TX8 b).2.1 := by decide +kernel
theorem tyX8_ok : ∀ k, k < 4 → parseFieldDescriptor (TX8 k).2.2.1 = some (tyX8 k) := by decide +kernel
abbrev cX8_init : ByteArray := prog_10_method_1_code
def yX8_init : MethodName := ⟨RX8, "<init>", "()V"⟩
abbrev cX8_firstFault : ByteArray := prog_10_method_2_code
def yX8_firstFault : MethodName := ⟨RX8, "firstFault", "()I"⟩
abbrev cX8_isAtEnd : ByteArray := prog_10_method_3_code
def yX8_isAtEnd : MethodName := ⟨RX8, "isAtEnd", "()Z"⟩
abbrev cX8_readCommand : ByteArray := prog_10_method_4_code
def yX8_readCommand : MethodName := ⟨RX8, "readCommand", "()I"⟩
abbrev cX8_readNumber : ByteArray := prog_10_method_5_code
def yX8_readNumber : MethodName := ⟨RX8, "readNumber", "(I)I"⟩
abbrev cX8_readPin : ByteArray := prog_10_method_6_code
def yX8_readPin : MethodName := ⟨RX8, "readPin", "()I"⟩
abbrev cX8_readEnd : ByteArray := prog_10_method_7_code
def yX8_readEnd : MethodName := ⟨RX8, "readEnd", "()I"⟩
abbrev cX8_tokenFrom : ByteArray := prog_10_method_8_code
def yX8_tokenFrom : MethodName := ⟨RX8, "tokenFrom", "(I)I"⟩
abbrev cX8_rowFrom : ByteArray := prog_10_method_9_code
def yX8_rowFrom : MethodName := ⟨RX8, "rowFrom", "(ICC)I"⟩
abbrev cX8_isWord : ByteArray := prog_10_method_10_code
def yX8_isWord : MethodName := ⟨RX8, "isWord", "(IILjava/lang/String;)Z"⟩
abbrev cX8_commandOf : ByteArray := prog_10_method_11_code
def yX8_commandOf : MethodName := ⟨RX8, "commandOf", "(II)I"⟩
abbrev cX8_wordOf : ByteArray := prog_10_method_12_code
def yX8_wordOf : MethodName := ⟨RX8, "wordOf", "(I)Ljava/lang/String;"⟩
def RX9 : String := "Chipcardhouse$Switch"
def TX9 : u_T := fun k => match k with
  | 0 => ("Chipcardhouse$Switch", "notes", "Ljava/util/ArrayList;", true)
  | 1 => ("Chipcardhouse$Switch", "standIn", "I", false)
  | _ => ("Chipcardhouse$Switch", "isOpen", "Z", false)
def tyX9 : Nat → FieldType := fun k => match k with
  | 0 => .object "java/util/ArrayList"
  | 1 => .int
  | _ => .boolean
abbrev wsX90 : List Cond := u_ws RX9 TX9 3
theorem nmX9 : ∀ a, a < 3 → ∀ b, b < 3 → a ≠ b → (TX9 a).2.1 ≠ (TX9 b).2.1 := by decide +kernel
theorem tyX9_ok : ∀ k, k < 3 → parseFieldDescriptor (TX9 k).2.2.1 = some (tyX9 k) := by decide +kernel
abbrev cX9_init : ByteArray := prog_11_method_1_code
def yX9_init : MethodName := ⟨RX9, "<init>", "()V"⟩
abbrev cX9_answerTo : ByteArray := prog_11_method_2_code
def yX9_answerTo : MethodName := ⟨RX9, "answerTo", "(LChipcardhouse$Message;)LChipcardhouse$Message;"⟩
abbrev cX9_grant : ByteArray := prog_11_method_3_code
def yX9_grant : MethodName := ⟨RX9, "grant", "(LChipcardhouse$Message;)Z"⟩
def RX10 : String := "Chipcardhouse$Terminal"
def TX10 : u_T := fun k => match k with
  | 0 => ("Chipcardhouse$Terminal", "number", "I", true)
  | 1 => ("Chipcardhouse$Terminal", "floor", "I", true)
  | 2 => ("Chipcardhouse$Terminal", "pick", "I", true)
  | 3 => ("Chipcardhouse$Terminal", "clock", "LChipcardhouse$Clock;", true)
  | 4 => ("Chipcardhouse$Terminal", "up", "LChipcardhouse$Line;", true)
  | 5 => ("Chipcardhouse$Terminal", "down", "LChipcardhouse$Line;", true)
  | 6 => ("Chipcardhouse$Terminal", "asking", "Ljava/util/ArrayList;", true)
  | 7 => ("Chipcardhouse$Terminal", "kept", "Ljava/util/ArrayList;", true)
  | 8 => ("Chipcardhouse$Terminal", "isBackHeard", "[Z", true)
  | 9 => ("Chipcardhouse$Terminal", "backCount", "I", false)
  | 10 => ("Chipcardhouse$Terminal", "paymentCount", "I", false)
  | 11 => ("Chipcardhouse$Terminal", "money", "J", false)
  | _ => ("Chipcardhouse$Terminal", "between", "J", false)
def tyX10 : Nat → FieldType := fun k => match k with
  | 0 => .int
  | 1 => .int
  | 2 => .int
  | 3 => .object "Chipcardhouse$Clock"
  | 4 => .object "Chipcardhouse$Line"
  | 5 => .object "Chipcardhouse$Line"
  | 6 => .object "java/util/ArrayList"
  | 7 => .object "java/util/ArrayList"
  | 8 => .array .boolean
  | 9 => .int
  | 10 => .int
  | 11 => .long
  | _ => .long
abbrev wsX100 : List Cond := u_ws RX10 TX10 13
theorem nmX10 : ∀ a, a < 13 → ∀ b, b < 13 → a ≠ b → (TX10 a).2.1 ≠ (TX10 b).2.1 := by decide +kernel
theorem tyX10_ok : ∀ k, k < 13 → parseFieldDescriptor (TX10 k).2.2.1 = some (tyX10 k) := by decide +kernel
abbrev cX10_init : ByteArray := prog_12_method_1_code
def yX10_init : MethodName := ⟨RX10, "<init>", "(IIILChipcardhouse$Clock;)V"⟩
abbrev cX10_isFirstTime : ByteArray := prog_12_method_2_code
def yX10_isFirstTime : MethodName := ⟨RX10, "isFirstTime", "(I)Z"⟩
abbrev cX10_mustAsk : ByteArray := prog_12_method_3_code
def yX10_mustAsk : MethodName := ⟨RX10, "mustAsk", "(I)Z"⟩
abbrev cX10_sendAsk : ByteArray := prog_12_method_4_code
def yX10_sendAsk : MethodName := ⟨RX10, "sendAsk", "(LChipcardhouse$Payment;)V"⟩
abbrev cX10_sendAndKeep : ByteArray := prog_12_method_5_code
def yX10_sendAndKeep : MethodName := ⟨RX10, "sendAndKeep", "(LChipcardhouse$Message;)V"⟩
abbrev cX10_hearWhatComes : ByteArray := prog_12_method_6_code
def yX10_hearWhatComes : MethodName := ⟨RX10, "hearWhatComes", "()V"⟩
abbrev cX10_hearAnswer : ByteArray := prog_12_method_7_code
def yX10_hearAnswer : MethodName := ⟨RX10, "hearAnswer", "(LChipcardhouse$Message;)V"⟩
abbrev cX10_forget : ByteArray := prog_12_method_8_code
def yX10_forget : MethodName := ⟨RX10, "forget", "(LChipcardhouse$Message;)V"⟩
abbrev cX10_giveUpOldest : ByteArray := prog_12_method_9_code
def yX10_giveUpOldest : MethodName := ⟨RX10, "giveUpOldest", "()V"⟩
abbrev cX10_repeatKept : ByteArray := prog_12_method_10_code
def yX10_repeatKept : MethodName := ⟨RX10, "repeatKept", "()V"⟩
def RX11 : String := "Chipcardhouse"
def TX11 : u_T := fun k => match k with
  | 0 => ("Chipcardhouse", "script", "LChipcardhouse$Script;", true)
  | 1 => ("Chipcardhouse", "clock", "LChipcardhouse$Clock;", true)
  | 2 => ("Chipcardhouse", "accounts", "Ljava/util/ArrayList;", true)
  | 3 => ("Chipcardhouse", "shops", "Ljava/util/ArrayList;", true)
  | 4 => ("Chipcardhouse", "cards", "Ljava/util/ArrayList;", true)
  | 5 => ("Chipcardhouse", "payments", "Ljava/util/ArrayList;", true)
  | 6 => ("Chipcardhouse", "issuer", "LChipcardhouse$Issuer;", true)
  | 7 => ("Chipcardhouse", "exchange", "LChipcardhouse$Switch;", true)
  | 8 => ("Chipcardhouse", "fee", "I", false)
  | 9 => ("Chipcardhouse", "feeMoney", "J", false)
  | 10 => ("Chipcardhouse", "moneyPutIn", "J", false)
  | _ => ("Chipcardhouse", "thiefCopied", "Z", false)
def tyX11 : Nat → FieldType := fun k => match k with
  | 0 => .object "Chipcardhouse$Script"
  | 1 => .object "Chipcardhouse$Clock"
  | 2 => .object "java/util/ArrayList"
  | 3 => .object "java/util/ArrayList"
  | 4 => .object "java/util/ArrayList"
  | 5 => .object "java/util/ArrayList"
  | 6 => .object "Chipcardhouse$Issuer"
  | 7 => .object "Chipcardhouse$Switch"
  | 8 => .int
  | 9 => .long
  | 10 => .long
  | _ => .boolean
abbrev wsX110 : List Cond := u_ws RX11 TX11 12
theorem nmX11 : ∀ a, a < 12 → ∀ b, b < 12 → a ≠ b → (TX11 a).2.1 ≠ (TX11 b).2.1 := by decide +kernel
theorem tyX11_ok : ∀ k, k < 12 → parseFieldDescriptor (TX11 k).2.2.1 = some (tyX11 k) := by decide +kernel
abbrev cX11_init : ByteArray := prog_1_method_1_code
def yX11_init : MethodName := ⟨RX11, "<init>", "()V"⟩
abbrev cX11_fault : ByteArray := prog_1_method_3_code
def yX11_fault : MethodName := ⟨RX11, "fault", "()I"⟩
abbrev cX11_account : ByteArray := prog_1_method_7_code
def yX11_account : MethodName := ⟨RX11, "account", "(I)I"⟩
abbrev cX11_refusalOfAccount : ByteArray := prog_1_method_8_code
def yX11_refusalOfAccount : MethodName := ⟨RX11, "refusalOfAccount", "(I)I"⟩
abbrev cX11_addAccount : ByteArray := prog_1_method_9_code
def yX11_addAccount : MethodName := ⟨RX11, "addAccount", "(I)I"⟩
abbrev cX11_shop : ByteArray := prog_1_method_10_code
def yX11_shop : MethodName := ⟨RX11, "shop", "(II)I"⟩
abbrev cX11_refusalOfShop : ByteArray := prog_1_method_11_code
def yX11_refusalOfShop : MethodName := ⟨RX11, "refusalOfShop", "(II)I"⟩
abbrev cX11_addShop : ByteArray := prog_1_method_12_code
def yX11_addShop : MethodName := ⟨RX11, "addShop", "(II)I"⟩
abbrev cX11_card : ByteArray := prog_1_method_13_code
def yX11_card : MethodName := ⟨RX11, "card", "(IIII)I"⟩
abbrev cX11_refusalOfCard : ByteArray := prog_1_method_14_code
def yX11_refusalOfCard : MethodName := ⟨RX11, "refusalOfCard", "(IIII)I"⟩
abbrev cX11_addCard : ByteArray := prog_1_method_15_code
def yX11_addCard : MethodName := ⟨RX11, "addCard", "(IIII)I"⟩
abbrev cX11_setHouse : ByteArray := prog_1_method_16_code
def yX11_setHouse : MethodName := ⟨RX11, "setHouse", "(III)I"⟩
abbrev cX11_refusalOfHouse : ByteArray := prog_1_method_17_code
def yX11_refusalOfHouse : MethodName := ⟨RX11, "refusalOfHouse", "(III)I"⟩
abbrev cX11_changeHouse : ByteArray := prog_1_method_18_code
def yX11_changeHouse : MethodName := ⟨RX11, "changeHouse", "(III)I"⟩
abbrev cX11_pay : ByteArray := prog_1_method_19_code
def yX11_pay : MethodName := ⟨RX11, "pay", "(IIII)I"⟩
abbrev cX11_refusalOfPay : ByteArray := prog_1_method_20_code
def yX11_refusalOfPay : MethodName := ⟨RX11, "refusalOfPay", "(IIII)I"⟩
abbrev cX11_payAt : ByteArray := prog_1_method_21_code
def yX11_payAt : MethodName := ⟨RX11, "payAt", "(IIII)I"⟩
abbrev cX11_sends : ByteArray := prog_1_method_22_code
def yX11_sends : MethodName := ⟨RX11, "sends", "(I)I"⟩
abbrev cX11_sendBatch : ByteArray := prog_1_method_23_code
def yX11_sendBatch : MethodName := ⟨RX11, "sendBatch", "(I)I"⟩
abbrev cX11_backMoney : ByteArray := prog_1_method_24_code
def yX11_backMoney : MethodName := ⟨RX11, "backMoney", "(III)I"⟩
abbrev cX11_refusalOfBack : ByteArray := prog_1_method_25_code
def yX11_refusalOfBack : MethodName := ⟨RX11, "refusalOfBack", "(III)I"⟩
abbrev cX11_sendBack : ByteArray := prog_1_method_26_code
def yX11_sendBack : MethodName := ⟨RX11, "sendBack", "(III)I"⟩
abbrev cX11_forge : ByteArray := prog_1_method_27_code
def yX11_forge : MethodName := ⟨RX11, "forge", "(III)I"⟩
abbrev cX11_refusalOfForging : ByteArray := prog_1_method_28_code
def yX11_refusalOfForging : MethodName := ⟨RX11, "refusalOfForging", "(III)I"⟩
abbrev cX11_passes : ByteArray := prog_1_method_29_code
def yX11_passes : MethodName := ⟨RX11, "passes", "(I)I"⟩
abbrev cX11_refusalOfTicks : ByteArray := prog_1_method_30_code
def yX11_refusalOfTicks : MethodName := ⟨RX11, "refusalOfTicks", "(I)I"⟩
abbrev cX11_letTicksPass : ByteArray := prog_1_method_31_code
def yX11_letTicksPass : MethodName := ⟨RX11, "letTicksPass", "(I)I"⟩
abbrev cX11_bringUp : ByteArray := prog_1_method_32_code
def yX11_bringUp : MethodName := ⟨RX11, "bringUp", "(LChipcardhouse$Terminal;)V"⟩
abbrev cX11_faults : ByteArray := prog_1_method_33_code
def yX11_faults : MethodName := ⟨RX11, "faults", "(IIII)I"⟩
abbrev cX11_refusalOfFaults : ByteArray := prog_1_method_34_code
def yX11_refusalOfFaults : MethodName := ⟨RX11, "refusalOfFaults", "(IIII)I"⟩
abbrev cX11_addFaults : ByteArray := prog_1_method_35_code
def yX11_addFaults : MethodName := ⟨RX11, "addFaults", "(IIII)I"⟩
abbrev cX11_setOpen : ByteArray := prog_1_method_36_code
def yX11_setOpen : MethodName := ⟨RX11, "setOpen", "(Z)I"⟩
abbrev cX11_openOrClose : ByteArray := prog_1_method_37_code
def yX11_openOrClose : MethodName := ⟨RX11, "openOrClose", "(Z)I"⟩
abbrev cX11_tells : ByteArray := prog_1_method_38_code
def yX11_tells : MethodName := ⟨RX11, "tells", "(II)I"⟩
abbrev cX11_refusalOfTelling : ByteArray := prog_1_method_39_code
def yX11_refusalOfTelling : MethodName := ⟨RX11, "refusalOfTelling", "(II)I"⟩
abbrev cX11_tellCard : ByteArray := prog_1_method_40_code
def yX11_tellCard : MethodName := ⟨RX11, "tellCard", "(II)I"⟩
abbrev cX11_stolen : ByteArray := prog_1_method_41_code
def yX11_stolen : MethodName := ⟨RX11, "stolen", "(I)Z"⟩
abbrev cX11_reportStolen : ByteArray := prog_1_method_42_code
def yX11_reportStolen : MethodName := ⟨RX11, "reportStolen", "(I)Z"⟩
abbrev cX11_freeze : ByteArray := prog_1_method_43_code
def yX11_freeze : MethodName := ⟨RX11, "freeze", "(IZ)Z"⟩
abbrev cX11_setFrozen : ByteArray := prog_1_method_44_code
def yX11_setFrozen : MethodName := ⟨RX11, "setFrozen", "(IZ)Z"⟩
abbrev cX11_dispute : ByteArray := prog_1_method_45_code
def yX11_dispute : MethodName := ⟨RX11, "dispute", "(I)I"⟩
abbrev cX11_refusalOfDispute : ByteArray := prog_1_method_46_code
def yX11_refusalOfDispute : MethodName := ⟨RX11, "refusalOfDispute", "(I)I"⟩
abbrev cX11_giveDisputedBack : ByteArray := prog_1_method_47_code
def yX11_giveDisputedBack : MethodName := ⟨RX11, "giveDisputedBack", "(I)I"⟩
abbrev cX11_endDay : ByteArray := prog_1_method_48_code
def yX11_endDay : MethodName := ⟨RX11, "endDay", "()I"⟩
abbrev cX11_settleDay : ByteArray := prog_1_method_49_code
def yX11_settleDay : MethodName := ⟨RX11, "settleDay", "()I"⟩
abbrev cX11_cardAt : ByteArray := prog_1_method_50_code
def yX11_cardAt : MethodName := ⟨RX11, "cardAt", "(II)I"⟩
abbrev cX11_paymentAt : ByteArray := prog_1_method_51_code
def yX11_paymentAt : MethodName := ⟨RX11, "paymentAt", "(II)I"⟩
abbrev cX11_knows : ByteArray := prog_1_method_52_code
def yX11_knows : MethodName := ⟨RX11, "knows", "(II)I"⟩
abbrev cX11_accountAt : ByteArray := prog_1_method_53_code
def yX11_accountAt : MethodName := ⟨RX11, "accountAt", "(II)J"⟩
abbrev cX11_shopAt : ByteArray := prog_1_method_54_code
def yX11_shopAt : MethodName := ⟨RX11, "shopAt", "(II)J"⟩
abbrev cX11_count : ByteArray := prog_1_method_55_code
def yX11_count : MethodName := ⟨RX11, "count", "(I)I"⟩
abbrev cX11_fees : ByteArray := prog_1_method_56_code
def yX11_fees : MethodName := ⟨RX11, "fees", "()J"⟩
abbrev cX11_errors : ByteArray := prog_1_method_60_code
def yX11_errors : MethodName := ⟨RX11, "errors", "()I"⟩
abbrev cX11_allPostedAreGood : ByteArray := prog_1_method_61_code
def yX11_allPostedAreGood : MethodName := ⟨RX11, "allPostedAreGood", "()Z"⟩
abbrev cX11_allHoldsAreSummed : ByteArray := prog_1_method_62_code
def yX11_allHoldsAreSummed : MethodName := ⟨RX11, "allHoldsAreSummed", "()Z"⟩
abbrev cX11_allMoney : ByteArray := prog_1_method_63_code
def yX11_allMoney : MethodName := ⟨RX11, "allMoney", "()J"⟩
abbrev cX11_isWithin : ByteArray := prog_1_method_64_code
def yX11_isWithin : MethodName := ⟨RX11, "isWithin", "(III)Z"⟩
abbrev cX11_refusalOfNumber : ByteArray := prog_1_method_65_code
def yX11_refusalOfNumber : MethodName := ⟨RX11, "refusalOfNumber", "(II)I"⟩
abbrev cX11_refusalOfQuestion : ByteArray := prog_1_method_66_code
def yX11_refusalOfQuestion : MethodName := ⟨RX11, "refusalOfQuestion", "(IIII)I"⟩
abbrev cX11_raise : ByteArray := prog_1_method_67_code
def yX11_raise : MethodName := ⟨RX11, "raise", "(I)V"⟩
def RX12 : String := "ChipcardhouseModel$Bank"
def TX12 : u_T := fun k => match k with
  | _ => ("", "", "", false)
def tyX12 : Nat → FieldType := fun k => match k with
  | _ => .int
abbrev wsX120 : List Cond := u_ws RX12 TX12 0
theorem nmX12 : ∀ a, a < 0 → ∀ b, b < 0 → a ≠ b → (TX12 a).2.1 ≠ (TX12 b).2.1 := by decide +kernel
theorem tyX12_ok : ∀ k, k < 0 → parseFieldDescriptor (TX12 k).2.2.1 = some (tyX12 k) := by decide +kernel
def RX13 : String := "ChipcardhouseModel$Cable"
def TX13 : u_T := fun k => match k with
  | _ => ("", "", "", false)
def tyX13 : Nat → FieldType := fun k => match k with
  | _ => .int
abbrev wsX130 : List Cond := u_ws RX13 TX13 0
theorem nmX13 : ∀ a, a < 0 → ∀ b, b < 0 → a ≠ b → (TX13 a).2.1 ≠ (TX13 b).2.1 := by decide +kernel
theorem tyX13_ok : ∀ k, k < 0 → parseFieldDescriptor (TX13 k).2.2.1 = some (tyX13 k) := by decide +kernel
def RX14 : String := "ChipcardhouseModel$Issuer"
def TX14 : u_T := fun k => match k with
  | _ => ("", "", "", false)
def tyX14 : Nat → FieldType := fun k => match k with
  | _ => .int
abbrev wsX140 : List Cond := u_ws RX14 TX14 0
theorem nmX14 : ∀ a, a < 0 → ∀ b, b < 0 → a ≠ b → (TX14 a).2.1 ≠ (TX14 b).2.1 := by decide +kernel
theorem tyX14_ok : ∀ k, k < 0 → parseFieldDescriptor (TX14 k).2.2.1 = some (tyX14 k) := by decide +kernel
def RX15 : String := "ChipcardhouseModel$Known"
def TX15 : u_T := fun k => match k with
  | _ => ("", "", "", false)
def tyX15 : Nat → FieldType := fun k => match k with
  | _ => .int
abbrev wsX150 : List Cond := u_ws RX15 TX15 0
theorem nmX15 : ∀ a, a < 0 → ∀ b, b < 0 → a ≠ b → (TX15 a).2.1 ≠ (TX15 b).2.1 := by decide +kernel
theorem tyX15_ok : ∀ k, k < 0 → parseFieldDescriptor (TX15 k).2.2.1 = some (tyX15 k) := by decide +kernel
def RX16 : String := "ChipcardhouseModel$Lines"
def TX16 : u_T := fun k => match k with
  | _ => ("", "", "", false)
def tyX16 : Nat → FieldType := fun k => match k with
  | _ => .int
abbrev wsX160 : List Cond := u_ws RX16 TX16 0
theorem nmX16 : ∀ a, a < 0 → ∀ b, b < 0 → a ≠ b → (TX16 a).2.1 ≠ (TX16 b).2.1 := by decide +kernel
theorem tyX16_ok : ∀ k, k < 0 → parseFieldDescriptor (TX16 k).2.2.1 = some (tyX16 k) := by decide +kernel
def RX17 : String := "ChipcardhouseModel$Mail"
def TX17 : u_T := fun k => match k with
  | _ => ("", "", "", false)
def tyX17 : Nat → FieldType := fun k => match k with
  | _ => .int
abbrev wsX170 : List Cond := u_ws RX17 TX17 0
theorem nmX17 : ∀ a, a < 0 → ∀ b, b < 0 → a ≠ b → (TX17 a).2.1 ≠ (TX17 b).2.1 := by decide +kernel
theorem tyX17_ok : ∀ k, k < 0 → parseFieldDescriptor (TX17 k).2.2.1 = some (tyX17 k) := by decide +kernel
def RX18 : String := "ChipcardhouseModel$Texts"
def TX18 : u_T := fun k => match k with
  | _ => ("", "", "", false)
def tyX18 : Nat → FieldType := fun k => match k with
  | _ => .int
abbrev wsX180 : List Cond := u_ws RX18 TX18 0
theorem nmX18 : ∀ a, a < 0 → ∀ b, b < 0 → a ≠ b → (TX18 a).2.1 ≠ (TX18 b).2.1 := by decide +kernel
theorem tyX18_ok : ∀ k, k < 0 → parseFieldDescriptor (TX18 k).2.2.1 = some (tyX18 k) := by decide +kernel
def RX19 : String := "ChipcardhouseModel$Tills"
def TX19 : u_T := fun k => match k with
  | _ => ("", "", "", false)
def tyX19 : Nat → FieldType := fun k => match k with
  | _ => .int
abbrev wsX190 : List Cond := u_ws RX19 TX19 0
theorem nmX19 : ∀ a, a < 0 → ∀ b, b < 0 → a ≠ b → (TX19 a).2.1 ≠ (TX19 b).2.1 := by decide +kernel
theorem tyX19_ok : ∀ k, k < 0 → parseFieldDescriptor (TX19 k).2.2.1 = some (tyX19 k) := by decide +kernel
def RX20 : String := "ChipcardhouseModel$Wire"
def TX20 : u_T := fun k => match k with
  | _ => ("", "", "", false)
def tyX20 : Nat → FieldType := fun k => match k with
  | _ => .int
abbrev wsX200 : List Cond := u_ws RX20 TX20 0
theorem nmX20 : ∀ a, a < 0 → ∀ b, b < 0 → a ≠ b → (TX20 a).2.1 ≠ (TX20 b).2.1 := by decide +kernel
theorem tyX20_ok : ∀ k, k < 0 → parseFieldDescriptor (TX20 k).2.2.1 = some (tyX20 k) := by decide +kernel
def RX21 : String := "ChipcardhouseModel"
def TX21 : u_T := fun k => match k with
  | _ => ("", "", "", false)
def tyX21 : Nat → FieldType := fun k => match k with
  | _ => .int
abbrev wsX210 : List Cond := u_ws RX21 TX21 0
theorem nmX21 : ∀ a, a < 0 → ∀ b, b < 0 → a ≠ b → (TX21 a).2.1 ≠ (TX21 b).2.1 := by decide +kernel
theorem tyX21_ok : ∀ k, k < 0 → parseFieldDescriptor (TX21 k).2.2.1 = some (tyX21 k) := by decide +kernel
def RJx145de : String := "java/io/Serializable"
def TJx145de : u_T := fun k => match k with
  | _ => ("", "", "", false)
def tyJx145de : Nat → FieldType := fun k => match k with
  | _ => .int
abbrev wsJx145de0 : List Cond := u_ws RJx145de TJx145de 0
theorem nmJx145de : ∀ a, a < 0 → ∀ b, b < 0 → a ≠ b → (TJx145de a).2.1 ≠ (TJx145de b).2.1 := by decide +kernel
theorem tyJx145de_ok : ∀ k, k < 0 → parseFieldDescriptor (TJx145de k).2.2.1 = some (tyJx145de k) := by decide +kernel
def RJ5 : String := "java/lang/AbstractStringBuilder"
def TJ5 : u_T := fun k => match k with
  | _ => ("", "", "", false)
def tyJ5 : Nat → FieldType := fun k => match k with
  | _ => .int
abbrev wsJ50 : List Cond := u_ws RJ5 TJ5 0
theorem nmJ5 : ∀ a, a < 0 → ∀ b, b < 0 → a ≠ b → (TJ5 a).2.1 ≠ (TJ5 b).2.1 := by decide +kernel
theorem tyJ5_ok : ∀ k, k < 0 → parseFieldDescriptor (TJ5 k).2.2.1 = some (tyJ5 k) := by decide +kernel
abbrev cJ5_init_d00df : ByteArray := prog_25_method_2_code
def yJ5_init_d00df : MethodName := ⟨RJ5, "<init>", "(I)V"⟩
abbrev cJ5_length_8abf5 : ByteArray := prog_25_method_6_code
def yJ5_length_8abf5 : MethodName := ⟨RJ5, "length", "()I"⟩
abbrev cJ5_charAt_5068e : ByteArray := prog_25_method_14_code
def yJ5_charAt_5068e : MethodName := ⟨RJ5, "charAt", "(I)C"⟩
def RJx2cfe8 : String := "java/lang/Appendable"
def TJx2cfe8 : u_T := fun k => match k with
  | _ => ("", "", "", false)
def tyJx2cfe8 : Nat → FieldType := fun k => match k with
  | _ => .int
abbrev wsJx2cfe80 : List Cond := u_ws RJx2cfe8 TJx2cfe8 0
theorem nmJx2cfe8 : ∀ a, a < 0 → ∀ b, b < 0 → a ≠ b → (TJx2cfe8 a).2.1 ≠ (TJx2cfe8 b).2.1 := by decide +kernel
theorem tyJx2cfe8_ok : ∀ k, k < 0 → parseFieldDescriptor (TJx2cfe8 k).2.2.1 = some (tyJx2cfe8 k) := by decide +kernel
def RJx9f9b0 : String := "java/lang/CharSequence"
def TJx9f9b0 : u_T := fun k => match k with
  | _ => ("", "", "", false)
def tyJx9f9b0 : Nat → FieldType := fun k => match k with
  | _ => .int
abbrev wsJx9f9b00 : List Cond := u_ws RJx9f9b0 TJx9f9b0 0
theorem nmJx9f9b0 : ∀ a, a < 0 → ∀ b, b < 0 → a ≠ b → (TJx9f9b0 a).2.1 ≠ (TJx9f9b0 b).2.1 := by decide +kernel
theorem tyJx9f9b0_ok : ∀ k, k < 0 → parseFieldDescriptor (TJx9f9b0 k).2.2.1 = some (tyJx9f9b0 k) := by decide +kernel
def RJx8e188 : String := "java/lang/Cloneable"
def TJx8e188 : u_T := fun k => match k with
  | _ => ("", "", "", false)
def tyJx8e188 : Nat → FieldType := fun k => match k with
  | _ => .int
abbrev wsJx8e1880 : List Cond := u_ws RJx8e188 TJx8e188 0
theorem nmJx8e188 : ∀ a, a < 0 → ∀ b, b < 0 → a ≠ b → (TJx8e188 a).2.1 ≠ (TJx8e188 b).2.1 := by decide +kernel
theorem tyJx8e188_ok : ∀ k, k < 0 → parseFieldDescriptor (TJx8e188 k).2.2.1 = some (tyJx8e188 k) := by decide +kernel
def RJxb160c : String := "java/lang/Comparable"
def TJxb160c : u_T := fun k => match k with
  | _ => ("", "", "", false)
def tyJxb160c : Nat → FieldType := fun k => match k with
  | _ => .int
abbrev wsJxb160c0 : List Cond := u_ws RJxb160c TJxb160c 0
theorem nmJxb160c : ∀ a, a < 0 → ∀ b, b < 0 → a ≠ b → (TJxb160c a).2.1 ≠ (TJxb160c b).2.1 := by decide +kernel
theorem tyJxb160c_ok : ∀ k, k < 0 → parseFieldDescriptor (TJxb160c k).2.2.1 = some (tyJxb160c k) := by decide +kernel
def RJ6 : String := "java/lang/Integer"
def TJ6 : u_T := fun k => match k with
  | _ => ("", "", "", false)
def tyJ6 : Nat → FieldType := fun k => match k with
  | _ => .int
abbrev wsJ60 : List Cond := u_ws RJ6 TJ6 0
theorem nmJ6 : ∀ a, a < 0 → ∀ b, b < 0 → a ≠ b → (TJ6 a).2.1 ≠ (TJ6 b).2.1 := by decide +kernel
theorem tyJ6_ok : ∀ k, k < 0 → parseFieldDescriptor (TJ6 k).2.2.1 = some (tyJ6 k) := by decide +kernel
abbrev cJ6_bitCount_0f7a4 : ByteArray := prog_34_method_49_code
def yJ6_bitCount_0f7a4 : MethodName := ⟨RJ6, "bitCount", "(I)I"⟩
def RJxab1ab : String := "java/lang/Iterable"
def TJxab1ab : u_T := fun k => match k with
  | _ => ("", "", "", false)
def tyJxab1ab : Nat → FieldType := fun k => match k with
  | _ => .int
abbrev wsJxab1ab0 : List Cond := u_ws RJxab1ab TJxab1ab 0
theorem nmJxab1ab : ∀ a, a < 0 → ∀ b, b < 0 → a ≠ b → (TJxab1ab a).2.1 ≠ (TJxab1ab b).2.1 := by decide +kernel
theorem tyJxab1ab_ok : ∀ k, k < 0 → parseFieldDescriptor (TJxab1ab k).2.2.1 = some (tyJxab1ab k) := by decide +kernel
def RJ9 : String := "java/lang/Math"
def TJ9 : u_T := fun k => match k with
  | _ => ("", "", "", false)
def tyJ9 : Nat → FieldType := fun k => match k with
  | _ => .int
abbrev wsJ90 : List Cond := u_ws RJ9 TJ9 0
theorem nmJ9 : ∀ a, a < 0 → ∀ b, b < 0 → a ≠ b → (TJ9 a).2.1 ≠ (TJ9 b).2.1 := by decide +kernel
theorem tyJ9_ok : ∀ k, k < 0 → parseFieldDescriptor (TJ9 k).2.2.1 = some (tyJ9 k) := by decide +kernel
abbrev cJ9_max_7cf53 : ByteArray := prog_36_method_65_code
def yJ9_max_7cf53 : MethodName := ⟨RJ9, "max", "(II)I"⟩
abbrev cJ9_min_7cf53 : ByteArray := prog_36_method_69_code
def yJ9_min_7cf53 : MethodName := ⟨RJ9, "min", "(II)I"⟩
abbrev cJ9_min_f86c9 : ByteArray := prog_36_method_70_code
def yJ9_min_f86c9 : MethodName := ⟨RJ9, "min", "(JJ)J"⟩
def RJ0 : String := "java/lang/String"
def TJ0 : u_T := fun k => match k with
  | _ => ("", "", "", false)
def tyJ0 : Nat → FieldType := fun k => match k with
  | _ => .int
abbrev wsJ00 : List Cond := u_ws RJ0 TJ0 0
theorem nmJ0 : ∀ a, a < 0 → ∀ b, b < 0 → a ≠ b → (TJ0 a).2.1 ≠ (TJ0 b).2.1 := by decide +kernel
theorem tyJ0_ok : ∀ k, k < 0 → parseFieldDescriptor (TJ0 k).2.2.1 = some (tyJ0 k) := by decide +kernel
abbrev cJ0_length_8abf5 : ByteArray := prog_38_method_54_code
def yJ0_length_8abf5 : MethodName := ⟨RJ0, "length", "()I"⟩
abbrev cJ0_charAt_5068e : ByteArray := prog_38_method_56_code
def yJ0_charAt_5068e : MethodName := ⟨RJ0, "charAt", "(I)C"⟩
abbrev cJ0_coder_7d493 : ByteArray := prog_38_method_152_code
def yJ0_coder_7d493 : MethodName := ⟨RJ0, "coder", "()B"⟩
abbrev cJ0_isLatin1_aae02 : ByteArray := prog_38_method_154_code
def yJ0_isLatin1_aae02 : MethodName := ⟨RJ0, "isLatin1", "()Z"⟩
abbrev cJ0_checkIndex_df160 : ByteArray := prog_38_method_155_code
def yJ0_checkIndex_df160 : MethodName := ⟨RJ0, "checkIndex", "(II)V"⟩
def RJ4 : String := "java/lang/StringBuilder"
def TJ4 : u_T := fun k => match k with
  | 0 => ("java/lang/AbstractStringBuilder", "value", "[B", false)
  | 1 => ("java/lang/AbstractStringBuilder", "coder", "B", false)
  | 2 => ("java/lang/AbstractStringBuilder", "maybeLatin1", "Z", false)
  | _ => ("java/lang/AbstractStringBuilder", "count", "I", false)
def tyJ4 : Nat → FieldType := fun k => match k with
  | 0 => .array .byte
  | 1 => .byte
  | 2 => .boolean
  | _ => .int
abbrev wsJ40 : List Cond := u_ws RJ4 TJ4 4
theorem nmJ4 : ∀ a, a < 4 → ∀ b, b < 4 → a ≠ b → (TJ4 a).2.1 ≠ (TJ4 b).2.1 := by decide +kernel
theorem tyJ4_ok : ∀ k, k < 4 → parseFieldDescriptor (TJ4 k).2.2.1 = some (tyJ4 k) := by decide +kernel
abbrev cJ4_init_da8c8 : ByteArray := prog_39_method_1_code
def yJ4_init_da8c8 : MethodName := ⟨RJ4, "<init>", "()V"⟩
abbrev cJ4_charAt_5068e : ByteArray := prog_39_method_88_code
def yJ4_charAt_5068e : MethodName := ⟨RJ4, "charAt", "(I)C"⟩
abbrev cJ4_length_8abf5 : ByteArray := prog_39_method_93_code
def yJ4_length_8abf5 : MethodName := ⟨RJ4, "length", "()I"⟩
def RJ1 : String := "java/lang/StringLatin1"
def TJ1 : u_T := fun k => match k with
  | _ => ("", "", "", false)
def tyJ1 : Nat → FieldType := fun k => match k with
  | _ => .int
abbrev wsJ10 : List Cond := u_ws RJ1 TJ1 0
theorem nmJ1 : ∀ a, a < 0 → ∀ b, b < 0 → a ≠ b → (TJ1 a).2.1 ≠ (TJ1 b).2.1 := by decide +kernel
theorem tyJ1_ok : ∀ k, k < 0 → parseFieldDescriptor (TJ1 k).2.2.1 = some (tyJ1 k) := by decide +kernel
abbrev cJ1_charAt_3b067 : ByteArray := prog_40_method_2_code
def yJ1_charAt_3b067 : MethodName := ⟨RJ1, "charAt", "([BI)C"⟩
def RJ2 : String := "java/lang/StringUTF16"
def TJ2 : u_T := fun k => match k with
  | _ => ("", "", "", false)
def tyJ2 : Nat → FieldType := fun k => match k with
  | _ => .int
abbrev wsJ20 : List Cond := u_ws RJ2 TJ2 0
theorem nmJ2 : ∀ a, a < 0 → ∀ b, b < 0 → a ≠ b → (TJ2 a).2.1 ≠ (TJ2 b).2.1 := by decide +kernel
theorem tyJ2_ok : ∀ k, k < 0 → parseFieldDescriptor (TJ2 k).2.2.1 = some (tyJ2 k) := by decide +kernel
abbrev cJ2_newBytesFor_77867 : ByteArray := prog_41_method_2_code
def yJ2_newBytesFor_77867 : MethodName := ⟨RJ2, "newBytesFor", "(I)[B"⟩
abbrev cJ2_newBytesLength_0f7a4 : ByteArray := prog_41_method_3_code
def yJ2_newBytesLength_0f7a4 : MethodName := ⟨RJ2, "newBytesLength", "(I)I"⟩
abbrev cJ2_getChar_3b067 : ByteArray := prog_41_method_5_code
def yJ2_getChar_3b067 : MethodName := ⟨RJ2, "getChar", "([BI)C"⟩
abbrev cJ2_length_9d52b : ByteArray := prog_41_method_6_code
def yJ2_length_9d52b : MethodName := ⟨RJ2, "length", "([B)I"⟩
abbrev cJ2_charAt_3b067 : ByteArray := prog_41_method_83_code
def yJ2_charAt_3b067 : MethodName := ⟨RJ2, "charAt", "([BI)C"⟩
abbrev cJ2_checkIndex_2214a : ByteArray := prog_41_method_91_code
def yJ2_checkIndex_2214a : MethodName := ⟨RJ2, "checkIndex", "(I[B)V"⟩
def RJ10 : String := "java/lang/System"
def TJ10 : u_T := fun k => match k with
  | _ => ("", "", "", false)
def tyJ10 : Nat → FieldType := fun k => match k with
  | _ => .int
abbrev wsJ100 : List Cond := u_ws RJ10 TJ10 0
theorem nmJ10 : ∀ a, a < 0 → ∀ b, b < 0 → a ≠ b → (TJ10 a).2.1 ≠ (TJ10 b).2.1 := by decide +kernel
theorem tyJ10_ok : ∀ k, k < 0 → parseFieldDescriptor (TJ10 k).2.2.1 = some (tyJ10 k) := by decide +kernel
def RJxfd54e : String := "java/lang/constant/Constable"
def TJxfd54e : u_T := fun k => match k with
  | _ => ("", "", "", false)
def tyJxfd54e : Nat → FieldType := fun k => match k with
  | _ => .int
abbrev wsJxfd54e0 : List Cond := u_ws RJxfd54e TJxfd54e 0
theorem nmJxfd54e : ∀ a, a < 0 → ∀ b, b < 0 → a ≠ b → (TJxfd54e a).2.1 ≠ (TJxfd54e b).2.1 := by decide +kernel
theorem tyJxfd54e_ok : ∀ k, k < 0 → parseFieldDescriptor (TJxfd54e k).2.2.1 = some (tyJxfd54e k) := by decide +kernel
def RJx3cf43 : String := "java/lang/constant/ConstantDesc"
def TJx3cf43 : u_T := fun k => match k with
  | _ => ("", "", "", false)
def tyJx3cf43 : Nat → FieldType := fun k => match k with
  | _ => .int
abbrev wsJx3cf430 : List Cond := u_ws RJx3cf43 TJx3cf43 0
theorem nmJx3cf43 : ∀ a, a < 0 → ∀ b, b < 0 → a ≠ b → (TJx3cf43 a).2.1 ≠ (TJx3cf43 b).2.1 := by decide +kernel
theorem tyJx3cf43_ok : ∀ k, k < 0 → parseFieldDescriptor (TJx3cf43 k).2.2.1 = some (tyJx3cf43 k) := by decide +kernel
def RJxa1e45 : String := "java/util/AbstractCollection"
def TJxa1e45 : u_T := fun k => match k with
  | _ => ("", "", "", false)
def tyJxa1e45 : Nat → FieldType := fun k => match k with
  | _ => .int
abbrev wsJxa1e450 : List Cond := u_ws RJxa1e45 TJxa1e45 0
theorem nmJxa1e45 : ∀ a, a < 0 → ∀ b, b < 0 → a ≠ b → (TJxa1e45 a).2.1 ≠ (TJxa1e45 b).2.1 := by decide +kernel
theorem tyJxa1e45_ok : ∀ k, k < 0 → parseFieldDescriptor (TJxa1e45 k).2.2.1 = some (tyJxa1e45 k) := by decide +kernel
abbrev cJxa1e45_init_da8c8 : ByteArray := prog_46_method_1_code
def yJxa1e45_init_da8c8 : MethodName := ⟨RJxa1e45, "<init>", "()V"⟩
def RJxc12de : String := "java/util/AbstractList"
def TJxc12de : u_T := fun k => match k with
  | _ => ("", "", "", false)
def tyJxc12de : Nat → FieldType := fun k => match k with
  | _ => .int
abbrev wsJxc12de0 : List Cond := u_ws RJxc12de TJxc12de 0
theorem nmJxc12de : ∀ a, a < 0 → ∀ b, b < 0 → a ≠ b → (TJxc12de a).2.1 ≠ (TJxc12de b).2.1 := by decide +kernel
theorem tyJxc12de_ok : ∀ k, k < 0 → parseFieldDescriptor (TJxc12de k).2.2.1 = some (tyJxc12de k) := by decide +kernel
abbrev cJxc12de_init_da8c8 : ByteArray := prog_47_method_1_code
def yJxc12de_init_da8c8 : MethodName := ⟨RJxc12de, "<init>", "()V"⟩
def RJx4a65c : String := "java/util/ArrayList"
def TJx4a65c : u_T := fun k => match k with
  | 0 => ("java/util/AbstractList", "modCount", "I", false)
  | 1 => ("java/util/ArrayList", "elementData", "[Ljava/lang/Object;", false)
  | _ => ("java/util/ArrayList", "size", "I", false)
def tyJx4a65c : Nat → FieldType := fun k => match k with
  | 0 => .int
  | 1 => .array (.object "java/lang/Object")
  | _ => .int
abbrev wsJx4a65c0 : List Cond := u_ws RJx4a65c TJx4a65c 3
theorem nmJx4a65c : ∀ a, a < 3 → ∀ b, b < 3 → a ≠ b → (TJx4a65c a).2.1 ≠ (TJx4a65c b).2.1 := by decide +kernel
theorem tyJx4a65c_ok : ∀ k, k < 3 → parseFieldDescriptor (TJx4a65c k).2.2.1 = some (tyJx4a65c k) := by decide +kernel
abbrev cJx4a65c_init_da8c8 : ByteArray := prog_48_method_2_code
def yJx4a65c_init_da8c8 : MethodName := ⟨RJx4a65c, "<init>", "()V"⟩
abbrev cJx4a65c_grow_92f84 : ByteArray := prog_48_method_6_code
def yJx4a65c_grow_92f84 : MethodName := ⟨RJx4a65c, "grow", "(I)[Ljava/lang/Object;"⟩
abbrev cJx4a65c_grow_d5877 : ByteArray := prog_48_method_7_code
def yJx4a65c_grow_d5877 : MethodName := ⟨RJx4a65c, "grow", "()[Ljava/lang/Object;"⟩
abbrev cJx4a65c_size_8abf5 : ByteArray := prog_48_method_8_code
def yJx4a65c_size_8abf5 : MethodName := ⟨RJx4a65c, "size", "()I"⟩
abbrev cJx4a65c_isEmpty_aae02 : ByteArray := prog_48_method_9_code
def yJx4a65c_isEmpty_aae02 : MethodName := ⟨RJx4a65c, "isEmpty", "()Z"⟩
abbrev cJx4a65c_elementData_915e3 : ByteArray := prog_48_method_18_code
def yJx4a65c_elementData_915e3 : MethodName := ⟨RJx4a65c, "elementData", "(I)Ljava/lang/Object;"⟩
abbrev cJx4a65c_get_915e3 : ByteArray := prog_48_method_20_code
def yJx4a65c_get_915e3 : MethodName := ⟨RJx4a65c, "get", "(I)Ljava/lang/Object;"⟩
abbrev cJx4a65c_set_bcc79 : ByteArray := prog_48_method_23_code
def yJx4a65c_set_bcc79 : MethodName := ⟨RJx4a65c, "set", "(ILjava/lang/Object;)Ljava/lang/Object;"⟩
abbrev cJx4a65c_add_72be8 : ByteArray := prog_48_method_24_code
def yJx4a65c_add_72be8 : MethodName := ⟨RJx4a65c, "add", "(Ljava/lang/Object;[Ljava/lang/Object;I)V"⟩
abbrev cJx4a65c_add_9ea2d : ByteArray := prog_48_method_25_code
def yJx4a65c_add_9ea2d : MethodName := ⟨RJx4a65c, "add", "(Ljava/lang/Object;)Z"⟩
abbrev cJx4a65c_remove_915e3 : ByteArray := prog_48_method_29_code
def yJx4a65c_remove_915e3 : MethodName := ⟨RJx4a65c, "remove", "(I)Ljava/lang/Object;"⟩
abbrev cJx4a65c_fastRemove_b59b0 : ByteArray := prog_48_method_39_code
def yJx4a65c_fastRemove_b59b0 : MethodName := ⟨RJx4a65c, "fastRemove", "([Ljava/lang/Object;I)V"⟩
abbrev cJx4a65c_clear_da8c8 : ByteArray := prog_48_method_40_code
def yJx4a65c_clear_da8c8 : MethodName := ⟨RJx4a65c, "clear", "()V"⟩
def RJ7 : String := "java/util/Arrays"
def TJ7 : u_T := fun k => match k with
  | _ => ("", "", "", false)
def tyJ7 : Nat → FieldType := fun k => match k with
  | _ => .int
abbrev wsJ70 : List Cond := u_ws RJ7 TJ7 0
theorem nmJ7 : ∀ a, a < 0 → ∀ b, b < 0 → a ≠ b → (TJ7 a).2.1 ≠ (TJ7 b).2.1 := by decide +kernel
theorem tyJ7_ok : ∀ k, k < 0 → parseFieldDescriptor (TJ7 k).2.2.1 = some (tyJ7 k) := by decide +kernel
abbrev cJ7_copyOf_1904c : ByteArray := prog_49_method_119_code
def yJ7_copyOf_1904c : MethodName := ⟨RJ7, "copyOf", "([Ljava/lang/Object;I)[Ljava/lang/Object;"⟩
abbrev cJ7_copyOf_6403c : ByteArray := prog_49_method_120_code
def yJ7_copyOf_6403c : MethodName := ⟨RJ7, "copyOf", "([Ljava/lang/Object;ILjava/lang/Class;)[Ljava/lang/Object;"⟩
def RJx5ef63 : String := "java/util/Collection"
def TJx5ef63 : u_T := fun k => match k with
  | _ => ("", "", "", false)
def tyJx5ef63 : Nat → FieldType := fun k => match k with
  | _ => .int
abbrev wsJx5ef630 : List Cond := u_ws RJx5ef63 TJx5ef63 0
theorem nmJx5ef63 : ∀ a, a < 0 → ∀ b, b < 0 → a ≠ b → (TJx5ef63 a).2.1 ≠ (TJx5ef63 b).2.1 := by decide +kernel
theorem tyJx5ef63_ok : ∀ k, k < 0 → parseFieldDescriptor (TJx5ef63 k).2.2.1 = some (tyJx5ef63 k) := by decide +kernel
def RJxbd725 : String := "java/util/List"
def TJxbd725 : u_T := fun k => match k with
  | _ => ("", "", "", false)
def tyJxbd725 : Nat → FieldType := fun k => match k with
  | _ => .int
abbrev wsJxbd7250 : List Cond := u_ws RJxbd725 TJxbd725 0
theorem nmJxbd725 : ∀ a, a < 0 → ∀ b, b < 0 → a ≠ b → (TJxbd725 a).2.1 ≠ (TJxbd725 b).2.1 := by decide +kernel
theorem tyJxbd725_ok : ∀ k, k < 0 → parseFieldDescriptor (TJxbd725 k).2.2.1 = some (tyJxbd725 k) := by decide +kernel
def RJ15 : String := "java/util/Objects"
def TJ15 : u_T := fun k => match k with
  | _ => ("", "", "", false)
def tyJ15 : Nat → FieldType := fun k => match k with
  | _ => .int
abbrev wsJ150 : List Cond := u_ws RJ15 TJ15 0
theorem nmJ15 : ∀ a, a < 0 → ∀ b, b < 0 → a ≠ b → (TJ15 a).2.1 ≠ (TJ15 b).2.1 := by decide +kernel
theorem tyJ15_ok : ∀ k, k < 0 → parseFieldDescriptor (TJ15 k).2.2.1 = some (tyJ15 k) := by decide +kernel
abbrev cJ15_checkIndex_7cf53 : ByteArray := prog_52_method_17_code
def yJ15_checkIndex_7cf53 : MethodName := ⟨RJ15, "checkIndex", "(II)I"⟩
def RJxf0a74 : String := "java/util/RandomAccess"
def TJxf0a74 : u_T := fun k => match k with
  | _ => ("", "", "", false)
def tyJxf0a74 : Nat → FieldType := fun k => match k with
  | _ => .int
abbrev wsJxf0a740 : List Cond := u_ws RJxf0a74 TJxf0a74 0
theorem nmJxf0a74 : ∀ a, a < 0 → ∀ b, b < 0 → a ≠ b → (TJxf0a74 a).2.1 ≠ (TJxf0a74 b).2.1 := by decide +kernel
theorem tyJxf0a74_ok : ∀ k, k < 0 → parseFieldDescriptor (TJxf0a74 k).2.2.1 = some (tyJxf0a74 k) := by decide +kernel
def RJxa66e6 : String := "java/util/SequencedCollection"
def TJxa66e6 : u_T := fun k => match k with
  | _ => ("", "", "", false)
def tyJxa66e6 : Nat → FieldType := fun k => match k with
  | _ => .int
abbrev wsJxa66e60 : List Cond := u_ws RJxa66e6 TJxa66e6 0
theorem nmJxa66e6 : ∀ a, a < 0 → ∀ b, b < 0 → a ≠ b → (TJxa66e6 a).2.1 ≠ (TJxa66e6 b).2.1 := by decide +kernel
theorem tyJxa66e6_ok : ∀ k, k < 0 → parseFieldDescriptor (TJxa66e6 k).2.2.1 = some (tyJxa66e6 k) := by decide +kernel
def RJ8 : String := "jdk/internal/util/ArraysSupport"
def TJ8 : u_T := fun k => match k with
  | _ => ("", "", "", false)
def tyJ8 : Nat → FieldType := fun k => match k with
  | _ => .int
abbrev wsJ80 : List Cond := u_ws RJ8 TJ8 0
theorem nmJ8 : ∀ a, a < 0 → ∀ b, b < 0 → a ≠ b → (TJ8 a).2.1 ≠ (TJ8 b).2.1 := by decide +kernel
theorem tyJ8_ok : ∀ k, k < 0 → parseFieldDescriptor (TJ8 k).2.2.1 = some (tyJ8 k) := by decide +kernel
abbrev cJ8_newLength_cabcc : ByteArray := prog_55_method_27_code
def yJ8_newLength_cabcc : MethodName := ⟨RJ8, "newLength", "(III)I"⟩
abbrev cJ8_hugeLength_7cf53 : ByteArray := prog_55_method_28_code
def yJ8_hugeLength_7cf53 : MethodName := ⟨RJ8, "hugeLength", "(II)I"⟩
def RJ3 : String := "jdk/internal/util/Preconditions"
def TJ3 : u_T := fun k => match k with
  | _ => ("", "", "", false)
def tyJ3 : Nat → FieldType := fun k => match k with
  | _ => .int
abbrev wsJ30 : List Cond := u_ws RJ3 TJ3 0
theorem nmJ3 : ∀ a, a < 0 → ∀ b, b < 0 → a ≠ b → (TJ3 a).2.1 ≠ (TJ3 b).2.1 := by decide +kernel
theorem tyJ3_ok : ∀ k, k < 0 → parseFieldDescriptor (TJ3 k).2.2.1 = some (tyJ3 k) := by decide +kernel
abbrev cJ3_checkIndex_8e157 : ByteArray := prog_56_method_11_code
def yJ3_checkIndex_8e157 : MethodName := ⟨RJ3, "checkIndex", "(IILjava/util/function/BiFunction;)I"⟩
def RL : String := "ChipcardhouseLaw"
abbrev cL_next : ByteArray := method_2_code
def yL_next : MethodName := ⟨RL, "next", "([I)I"⟩
abbrev cL_from : ByteArray := method_3_code
def yL_from : MethodName := ⟨RL, "from", "([III)I"⟩
abbrev cL_done : ByteArray := method_4_code
def yL_done : MethodName := ⟨RL, "done", "(LChipcardhouse;IIIII)I"⟩
abbrev cL_begins : ByteArray := method_5_code
def yL_begins : MethodName := ⟨RL, "begins", "(LChipcardhouse;[I[I)Z"⟩
abbrev cL_key : ByteArray := method_6_code
def yL_key : MethodName := ⟨RL, "key", "(I)J"⟩
abbrev cL_mixed : ByteArray := method_7_code
def yL_mixed : MethodName := ⟨RL, "mixed", "(JI)J"⟩
abbrev cL_stamp : ByteArray := method_8_code
def yL_stamp : MethodName := ⟨RL, "stamp", "(IIIII)I"⟩
abbrev cL_isGranted : ByteArray := method_9_code
def yL_isGranted : MethodName := ⟨RL, "isGranted", "(LChipcardhouse;I)Z"⟩
abbrev cL_holds : ByteArray := method_10_code
def yL_holds : MethodName := ⟨RL, "holds", "(LChipcardhouse;[I)Z"⟩
abbrev cL_pays : ByteArray := method_11_code
def yL_pays : MethodName := ⟨RL, "pays", "(LChipcardhouse;[I[I)Z"⟩
abbrev cL_acts : ByteArray := method_12_code
def yL_acts : MethodName := ⟨RL, "acts", "(LChipcardhouse;[I[IZ)Z"⟩
abbrev cL_days : ByteArray := method_13_code
def yL_days : MethodName := ⟨RL, "days", "(LChipcardhouse;[I)Z"⟩
abbrev cL_comesOut : ByteArray := method_14_code
def yL_comesOut : MethodName := ⟨RL, "comesOut", "(LChipcardhouse;[I[I)Z"⟩
abbrev cL_plays : ByteArray := method_15_code
def yL_plays : MethodName := ⟨RL, "plays", "([I[I)Z"⟩
abbrev cL_law : ByteArray := code
def yL_law : MethodName := ⟨RL, "law", "([I)Z"⟩
