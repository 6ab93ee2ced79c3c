-- ===== PART A: goes FIRST, ahead of the names: the tables' words, and 'selects' of the private methods out of them =====
/-- a private method of a class that the tables say can be made, by its rows of tables_1 -/
def lw_okq (q : MethodName × Nat) : Prop := (q.1.cls ≠ "java/lang/invoke/MethodHandle" ∧ q.1.cls ≠ "java/lang/invoke/VarHandle") ∧ Cond.instantiable q.1.cls q.2 ∈ tables_1 ∧ Cond.privateMethod q.1 ∈ tables_1 ∧ Cond.instanceMethod q.1 ∈ tables_1
theorem lw_p0 : lw_okq (⟨"Chipcardhouse$Script", "tokenFrom", "(I)I"⟩, 4) := ⟨⟨by decide +kernel, by decide +kernel⟩, List.mem_of_getElem? (i := 55) (by decide +kernel), List.mem_of_getElem? (i := 257) (by decide +kernel), List.mem_of_getElem? (i := 258) (by decide +kernel)⟩
theorem lw_p1 : lw_okq (⟨"Chipcardhouse$Script", "rowFrom", "(ICC)I"⟩, 4) := ⟨⟨by decide +kernel, by decide +kernel⟩, List.mem_of_getElem? (i := 55) (by decide +kernel), List.mem_of_getElem? (i := 261) (by decide +kernel), List.mem_of_getElem? (i := 262) (by decide +kernel)⟩
theorem lw_p2 : lw_okq (⟨"Chipcardhouse$Script", "commandOf", "(II)I"⟩, 4) := ⟨⟨by decide +kernel, by decide +kernel⟩, List.mem_of_getElem? (i := 55) (by decide +kernel), List.mem_of_getElem? (i := 306) (by decide +kernel), List.mem_of_getElem? (i := 307) (by decide +kernel)⟩
theorem lw_p3 : lw_okq (⟨"Chipcardhouse$Script", "isWord", "(IILjava/lang/String;)Z"⟩, 4) := ⟨⟨by decide +kernel, by decide +kernel⟩, List.mem_of_getElem? (i := 55) (by decide +kernel), List.mem_of_getElem? (i := 331) (by decide +kernel), List.mem_of_getElem? (i := 332) (by decide +kernel)⟩
theorem lw_p4 : lw_okq (⟨"Chipcardhouse$Script", "readNumber", "(I)I"⟩, 4) := ⟨⟨by decide +kernel, by decide +kernel⟩, List.mem_of_getElem? (i := 55) (by decide +kernel), List.mem_of_getElem? (i := 364) (by decide +kernel), List.mem_of_getElem? (i := 365) (by decide +kernel)⟩
theorem lw_p5 : lw_okq (⟨"Chipcardhouse$Script", "readPin", "()I"⟩, 4) := ⟨⟨by decide +kernel, by decide +kernel⟩, List.mem_of_getElem? (i := 55) (by decide +kernel), List.mem_of_getElem? (i := 368) (by decide +kernel), List.mem_of_getElem? (i := 369) (by decide +kernel)⟩
theorem lw_p6 : lw_okq (⟨"Chipcardhouse$Script", "readEnd", "()I"⟩, 4) := ⟨⟨by decide +kernel, by decide +kernel⟩, List.mem_of_getElem? (i := 55) (by decide +kernel), List.mem_of_getElem? (i := 373) (by decide +kernel), List.mem_of_getElem? (i := 374) (by decide +kernel)⟩
theorem lw_p7 : lw_okq (⟨"Chipcardhouse", "openOrClose", "(Z)I"⟩, 12) := ⟨⟨by decide +kernel, by decide +kernel⟩, List.mem_of_getElem? (i := 47) (by decide +kernel), List.mem_of_getElem? (i := 381) (by decide +kernel), List.mem_of_getElem? (i := 382) (by decide +kernel)⟩
theorem lw_p8 : lw_okq (⟨"Chipcardhouse$Issuer", "findOrMake", "(I)LChipcardhouse$Known;"⟩, 5) := ⟨⟨by decide +kernel, by decide +kernel⟩, List.mem_of_getElem? (i := 161) (by decide +kernel), List.mem_of_getElem? (i := 406) (by decide +kernel), List.mem_of_getElem? (i := 407) (by decide +kernel)⟩
theorem lw_p9 : lw_okq (⟨"Chipcardhouse$Issuer", "findCard", "(I)LChipcardhouse$Card;"⟩, 5) := ⟨⟨by decide +kernel, by decide +kernel⟩, List.mem_of_getElem? (i := 161) (by decide +kernel), List.mem_of_getElem? (i := 475) (by decide +kernel), List.mem_of_getElem? (i := 476) (by decide +kernel)⟩
theorem lw_p10 : lw_okq (⟨"Chipcardhouse", "settleDay", "()I"⟩, 12) := ⟨⟨by decide +kernel, by decide +kernel⟩, List.mem_of_getElem? (i := 47) (by decide +kernel), List.mem_of_getElem? (i := 513) (by decide +kernel), List.mem_of_getElem? (i := 514) (by decide +kernel)⟩
theorem lw_p11 : lw_okq (⟨"Chipcardhouse", "allPostedAreGood", "()Z"⟩, 12) := ⟨⟨by decide +kernel, by decide +kernel⟩, List.mem_of_getElem? (i := 47) (by decide +kernel), List.mem_of_getElem? (i := 576) (by decide +kernel), List.mem_of_getElem? (i := 577) (by decide +kernel)⟩
theorem lw_p12 : lw_okq (⟨"Chipcardhouse", "allHoldsAreSummed", "()Z"⟩, 12) := ⟨⟨by decide +kernel, by decide +kernel⟩, List.mem_of_getElem? (i := 47) (by decide +kernel), List.mem_of_getElem? (i := 580) (by decide +kernel), List.mem_of_getElem? (i := 581) (by decide +kernel)⟩
theorem lw_p13 : lw_okq (⟨"Chipcardhouse", "allMoney", "()J"⟩, 12) := ⟨⟨by decide +kernel, by decide +kernel⟩, List.mem_of_getElem? (i := 47) (by decide +kernel), List.mem_of_getElem? (i := 593) (by decide +kernel), List.mem_of_getElem? (i := 594) (by decide +kernel)⟩
theorem lw_p14 : lw_okq (⟨"java/lang/Throwable", "fillInStackTrace", "(I)Ljava/lang/Throwable;"⟩, 6) := ⟨⟨by decide +kernel, by decide +kernel⟩, List.mem_of_getElem? (i := 650) (by decide +kernel), List.mem_of_getElem? (i := 648) (by decide +kernel), List.mem_of_getElem? (i := 649) (by decide +kernel)⟩
theorem lw_p15 : lw_okq (⟨"Chipcardhouse", "refusalOfCommand", "(I[I)I"⟩, 12) := ⟨⟨by decide +kernel, by decide +kernel⟩, List.mem_of_getElem? (i := 47) (by decide +kernel), List.mem_of_getElem? (i := 972) (by decide +kernel), List.mem_of_getElem? (i := 973) (by decide +kernel)⟩
def lw_privs_1 : List (MethodName × Nat) := [(⟨"Chipcardhouse$Script", "tokenFrom", "(I)I"⟩, 4), (⟨"Chipcardhouse$Script", "rowFrom", "(ICC)I"⟩, 4), (⟨"Chipcardhouse$Script", "commandOf", "(II)I"⟩, 4), (⟨"Chipcardhouse$Script", "isWord", "(IILjava/lang/String;)Z"⟩, 4), (⟨"Chipcardhouse$Script", "readNumber", "(I)I"⟩, 4), (⟨"Chipcardhouse$Script", "readPin", "()I"⟩, 4), (⟨"Chipcardhouse$Script", "readEnd", "()I"⟩, 4), (⟨"Chipcardhouse", "openOrClose", "(Z)I"⟩, 12), (⟨"Chipcardhouse$Issuer", "findOrMake", "(I)LChipcardhouse$Known;"⟩, 5), (⟨"Chipcardhouse$Issuer", "findCard", "(I)LChipcardhouse$Card;"⟩, 5), (⟨"Chipcardhouse", "settleDay", "()I"⟩, 12), (⟨"Chipcardhouse", "allPostedAreGood", "()Z"⟩, 12), (⟨"Chipcardhouse", "allHoldsAreSummed", "()Z"⟩, 12), (⟨"Chipcardhouse", "allMoney", "()J"⟩, 12), (⟨"java/lang/Throwable", "fillInStackTrace", "(I)Ljava/lang/Throwable;"⟩, 6), (⟨"Chipcardhouse", "refusalOfCommand", "(I[I)I"⟩, 12)]
theorem lw_r1 : ∀ q ∈ lw_privs_1, lw_okq q := List.forall_mem_cons.mpr ⟨lw_p0, List.forall_mem_cons.mpr ⟨lw_p1, List.forall_mem_cons.mpr ⟨lw_p2, List.forall_mem_cons.mpr ⟨lw_p3, List.forall_mem_cons.mpr ⟨lw_p4, List.forall_mem_cons.mpr ⟨lw_p5, List.forall_mem_cons.mpr ⟨lw_p6, List.forall_mem_cons.mpr ⟨lw_p7, List.forall_mem_cons.mpr ⟨lw_p8, List.forall_mem_cons.mpr ⟨lw_p9, List.forall_mem_cons.mpr ⟨lw_p10, List.forall_mem_cons.mpr ⟨lw_p11, List.forall_mem_cons.mpr ⟨lw_p12, List.forall_mem_cons.mpr ⟨lw_p13, List.forall_mem_cons.mpr ⟨lw_p14, List.forall_mem_cons.mpr ⟨lw_p15, fun _ h => absurd h List.not_mem_nil⟩⟩⟩⟩⟩⟩⟩⟩⟩⟩⟩⟩⟩⟩⟩⟩
theorem lw_p16 : lw_okq (⟨"Chipcardhouse", "refusalOfAccount", "(I)I"⟩, 12) := ⟨⟨by decide +kernel, by decide +kernel⟩, List.mem_of_getElem? (i := 47) (by decide +kernel), List.mem_of_getElem? (i := 976) (by decide +kernel), List.mem_of_getElem? (i := 977) (by decide +kernel)⟩
theorem lw_p17 : lw_okq (⟨"Chipcardhouse", "refusalOfShop", "(II)I"⟩, 12) := ⟨⟨by decide +kernel, by decide +kernel⟩, List.mem_of_getElem? (i := 47) (by decide +kernel), List.mem_of_getElem? (i := 981) (by decide +kernel), List.mem_of_getElem? (i := 982) (by decide +kernel)⟩
theorem lw_p18 : lw_okq (⟨"Chipcardhouse", "refusalOfCard", "(IIII)I"⟩, 12) := ⟨⟨by decide +kernel, by decide +kernel⟩, List.mem_of_getElem? (i := 47) (by decide +kernel), List.mem_of_getElem? (i := 986) (by decide +kernel), List.mem_of_getElem? (i := 987) (by decide +kernel)⟩
theorem lw_p19 : lw_okq (⟨"Chipcardhouse", "refusalOfPay", "(IIII)I"⟩, 12) := ⟨⟨by decide +kernel, by decide +kernel⟩, List.mem_of_getElem? (i := 47) (by decide +kernel), List.mem_of_getElem? (i := 991) (by decide +kernel), List.mem_of_getElem? (i := 992) (by decide +kernel)⟩
theorem lw_p20 : lw_okq (⟨"Chipcardhouse", "refusalOfBack", "(III)I"⟩, 12) := ⟨⟨by decide +kernel, by decide +kernel⟩, List.mem_of_getElem? (i := 47) (by decide +kernel), List.mem_of_getElem? (i := 998) (by decide +kernel), List.mem_of_getElem? (i := 999) (by decide +kernel)⟩
theorem lw_p21 : lw_okq (⟨"Chipcardhouse", "refusalOfTicks", "(I)I"⟩, 12) := ⟨⟨by decide +kernel, by decide +kernel⟩, List.mem_of_getElem? (i := 47) (by decide +kernel), List.mem_of_getElem? (i := 1002) (by decide +kernel), List.mem_of_getElem? (i := 1003) (by decide +kernel)⟩
theorem lw_p22 : lw_okq (⟨"Chipcardhouse", "refusalOfFaults", "(IIII)I"⟩, 12) := ⟨⟨by decide +kernel, by decide +kernel⟩, List.mem_of_getElem? (i := 47) (by decide +kernel), List.mem_of_getElem? (i := 1006) (by decide +kernel), List.mem_of_getElem? (i := 1007) (by decide +kernel)⟩
theorem lw_p23 : lw_okq (⟨"Chipcardhouse", "refusalOfHouse", "(III)I"⟩, 12) := ⟨⟨by decide +kernel, by decide +kernel⟩, List.mem_of_getElem? (i := 47) (by decide +kernel), List.mem_of_getElem? (i := 1010) (by decide +kernel), List.mem_of_getElem? (i := 1011) (by decide +kernel)⟩
theorem lw_p24 : lw_okq (⟨"Chipcardhouse", "refusalOfTelling", "(II)I"⟩, 12) := ⟨⟨by decide +kernel, by decide +kernel⟩, List.mem_of_getElem? (i := 47) (by decide +kernel), List.mem_of_getElem? (i := 1014) (by decide +kernel), List.mem_of_getElem? (i := 1015) (by decide +kernel)⟩
theorem lw_p25 : lw_okq (⟨"Chipcardhouse", "refusalOfDispute", "(I)I"⟩, 12) := ⟨⟨by decide +kernel, by decide +kernel⟩, List.mem_of_getElem? (i := 47) (by decide +kernel), List.mem_of_getElem? (i := 1018) (by decide +kernel), List.mem_of_getElem? (i := 1019) (by decide +kernel)⟩
theorem lw_p26 : lw_okq (⟨"Chipcardhouse", "carryOut", "(I[I)V"⟩, 12) := ⟨⟨by decide +kernel, by decide +kernel⟩, List.mem_of_getElem? (i := 47) (by decide +kernel), List.mem_of_getElem? (i := 1024) (by decide +kernel), List.mem_of_getElem? (i := 1025) (by decide +kernel)⟩
theorem lw_p27 : lw_okq (⟨"Chipcardhouse", "addAccount", "(I)I"⟩, 12) := ⟨⟨by decide +kernel, by decide +kernel⟩, List.mem_of_getElem? (i := 47) (by decide +kernel), List.mem_of_getElem? (i := 1028) (by decide +kernel), List.mem_of_getElem? (i := 1029) (by decide +kernel)⟩
theorem lw_p28 : lw_okq (⟨"java/util/ArrayList", "add", "(Ljava/lang/Object;[Ljava/lang/Object;I)V"⟩, 3) := ⟨⟨by decide +kernel, by decide +kernel⟩, List.mem_of_getElem? (i := 135) (by decide +kernel), List.mem_of_getElem? (i := 1059) (by decide +kernel), List.mem_of_getElem? (i := 1060) (by decide +kernel)⟩
theorem lw_p29 : lw_okq (⟨"java/util/ArrayList", "grow", "()[Ljava/lang/Object;"⟩, 3) := ⟨⟨by decide +kernel, by decide +kernel⟩, List.mem_of_getElem? (i := 135) (by decide +kernel), List.mem_of_getElem? (i := 1063) (by decide +kernel), List.mem_of_getElem? (i := 1064) (by decide +kernel)⟩
theorem lw_p30 : lw_okq (⟨"java/util/ArrayList", "grow", "(I)[Ljava/lang/Object;"⟩, 3) := ⟨⟨by decide +kernel, by decide +kernel⟩, List.mem_of_getElem? (i := 135) (by decide +kernel), List.mem_of_getElem? (i := 1067) (by decide +kernel), List.mem_of_getElem? (i := 1068) (by decide +kernel)⟩
theorem lw_p31 : lw_okq (⟨"Chipcardhouse", "addShop", "(II)I"⟩, 12) := ⟨⟨by decide +kernel, by decide +kernel⟩, List.mem_of_getElem? (i := 47) (by decide +kernel), List.mem_of_getElem? (i := 1116) (by decide +kernel), List.mem_of_getElem? (i := 1117) (by decide +kernel)⟩
def lw_privs_2 : List (MethodName × Nat) := [(⟨"Chipcardhouse", "refusalOfAccount", "(I)I"⟩, 12), (⟨"Chipcardhouse", "refusalOfShop", "(II)I"⟩, 12), (⟨"Chipcardhouse", "refusalOfCard", "(IIII)I"⟩, 12), (⟨"Chipcardhouse", "refusalOfPay", "(IIII)I"⟩, 12), (⟨"Chipcardhouse", "refusalOfBack", "(III)I"⟩, 12), (⟨"Chipcardhouse", "refusalOfTicks", "(I)I"⟩, 12), (⟨"Chipcardhouse", "refusalOfFaults", "(IIII)I"⟩, 12), (⟨"Chipcardhouse", "refusalOfHouse", "(III)I"⟩, 12), (⟨"Chipcardhouse", "refusalOfTelling", "(II)I"⟩, 12), (⟨"Chipcardhouse", "refusalOfDispute", "(I)I"⟩, 12), (⟨"Chipcardhouse", "carryOut", "(I[I)V"⟩, 12), (⟨"Chipcardhouse", "addAccount", "(I)I"⟩, 12), (⟨"java/util/ArrayList", "add", "(Ljava/lang/Object;[Ljava/lang/Object;I)V"⟩, 3), (⟨"java/util/ArrayList", "grow", "()[Ljava/lang/Object;"⟩, 3), (⟨"java/util/ArrayList", "grow", "(I)[Ljava/lang/Object;"⟩, 3), (⟨"Chipcardhouse", "addShop", "(II)I"⟩, 12)]
theorem lw_r2 : ∀ q ∈ lw_privs_2, lw_okq q := List.forall_mem_cons.mpr ⟨lw_p16, List.forall_mem_cons.mpr ⟨lw_p17, List.forall_mem_cons.mpr ⟨lw_p18, List.forall_mem_cons.mpr ⟨lw_p19, List.forall_mem_cons.mpr ⟨lw_p20, List.forall_mem_cons.mpr ⟨lw_p21, List.forall_mem_cons.mpr ⟨lw_p22, List.forall_mem_cons.mpr ⟨lw_p23, List.forall_mem_cons.mpr ⟨lw_p24, List.forall_mem_cons.mpr ⟨lw_p25, List.forall_mem_cons.mpr ⟨lw_p26, List.forall_mem_cons.mpr ⟨lw_p27, List.forall_mem_cons.mpr ⟨lw_p28, List.forall_mem_cons.mpr ⟨lw_p29, List.forall_mem_cons.mpr ⟨lw_p30, List.forall_mem_cons.mpr ⟨lw_p31, fun _ h => absurd h List.not_mem_nil⟩⟩⟩⟩⟩⟩⟩⟩⟩⟩⟩⟩⟩⟩⟩⟩
theorem lw_p32 : lw_okq (⟨"Chipcardhouse", "addCard", "(IIII)I"⟩, 12) := ⟨⟨by decide +kernel, by decide +kernel⟩, List.mem_of_getElem? (i := 47) (by decide +kernel), List.mem_of_getElem? (i := 1206) (by decide +kernel), List.mem_of_getElem? (i := 1207) (by decide +kernel)⟩
theorem lw_p33 : lw_okq (⟨"Chipcardhouse", "payAt", "(IIII)I"⟩, 12) := ⟨⟨by decide +kernel, by decide +kernel⟩, List.mem_of_getElem? (i := 47) (by decide +kernel), List.mem_of_getElem? (i := 1288) (by decide +kernel), List.mem_of_getElem? (i := 1289) (by decide +kernel)⟩
theorem lw_p34 : lw_okq (⟨"Chipcardhouse$Payment", "fill", "(LChipcardhouse$Message;)LChipcardhouse$Message;"⟩, 12) := ⟨⟨by decide +kernel, by decide +kernel⟩, List.mem_of_getElem? (i := 1299) (by decide +kernel), List.mem_of_getElem? (i := 1490) (by decide +kernel), List.mem_of_getElem? (i := 1491) (by decide +kernel)⟩
theorem lw_p35 : lw_okq (⟨"Chipcardhouse$Line", "takeFault", "()I"⟩, 4) := ⟨⟨by decide +kernel, by decide +kernel⟩, List.mem_of_getElem? (i := 1127) (by decide +kernel), List.mem_of_getElem? (i := 1498) (by decide +kernel), List.mem_of_getElem? (i := 1499) (by decide +kernel)⟩
theorem lw_p36 : lw_okq (⟨"Chipcardhouse", "sendBatch", "(I)I"⟩, 12) := ⟨⟨by decide +kernel, by decide +kernel⟩, List.mem_of_getElem? (i := 47) (by decide +kernel), List.mem_of_getElem? (i := 1511) (by decide +kernel), List.mem_of_getElem? (i := 1512) (by decide +kernel)⟩
theorem lw_p37 : lw_okq (⟨"Chipcardhouse", "sendBack", "(III)I"⟩, 12) := ⟨⟨by decide +kernel, by decide +kernel⟩, List.mem_of_getElem? (i := 47) (by decide +kernel), List.mem_of_getElem? (i := 1523) (by decide +kernel), List.mem_of_getElem? (i := 1524) (by decide +kernel)⟩
theorem lw_p38 : lw_okq (⟨"Chipcardhouse", "letTicksPass", "(I)I"⟩, 12) := ⟨⟨by decide +kernel, by decide +kernel⟩, List.mem_of_getElem? (i := 47) (by decide +kernel), List.mem_of_getElem? (i := 1528) (by decide +kernel), List.mem_of_getElem? (i := 1529) (by decide +kernel)⟩
theorem lw_p39 : lw_okq (⟨"Chipcardhouse", "bringUp", "(LChipcardhouse$Terminal;)V"⟩, 12) := ⟨⟨by decide +kernel, by decide +kernel⟩, List.mem_of_getElem? (i := 47) (by decide +kernel), List.mem_of_getElem? (i := 1532) (by decide +kernel), List.mem_of_getElem? (i := 1533) (by decide +kernel)⟩
theorem lw_p40 : lw_okq (⟨"Chipcardhouse$Switch", "grant", "(LChipcardhouse$Message;)Z"⟩, 3) := ⟨⟨by decide +kernel, by decide +kernel⟩, List.mem_of_getElem? (i := 187) (by decide +kernel), List.mem_of_getElem? (i := 1552) (by decide +kernel), List.mem_of_getElem? (i := 1553) (by decide +kernel)⟩
theorem lw_p41 : lw_okq (⟨"Chipcardhouse$Issuer", "hearRecord", "(LChipcardhouse$Message;LChipcardhouse$Known;LChipcardhouse$Terminal;)V"⟩, 5) := ⟨⟨by decide +kernel, by decide +kernel⟩, List.mem_of_getElem? (i := 161) (by decide +kernel), List.mem_of_getElem? (i := 1574) (by decide +kernel), List.mem_of_getElem? (i := 1575) (by decide +kernel)⟩
theorem lw_p42 : lw_okq (⟨"Chipcardhouse$Terminal", "hearAnswer", "(LChipcardhouse$Message;)V"⟩, 13) := ⟨⟨by decide +kernel, by decide +kernel⟩, List.mem_of_getElem? (i := 1119) (by decide +kernel), List.mem_of_getElem? (i := 1613) (by decide +kernel), List.mem_of_getElem? (i := 1614) (by decide +kernel)⟩
theorem lw_p43 : lw_okq (⟨"java/util/ArrayList", "fastRemove", "([Ljava/lang/Object;I)V"⟩, 3) := ⟨⟨by decide +kernel, by decide +kernel⟩, List.mem_of_getElem? (i := 135) (by decide +kernel), List.mem_of_getElem? (i := 1635) (by decide +kernel), List.mem_of_getElem? (i := 1636) (by decide +kernel)⟩
theorem lw_p44 : lw_okq (⟨"Chipcardhouse$Terminal", "forget", "(LChipcardhouse$Message;)V"⟩, 13) := ⟨⟨by decide +kernel, by decide +kernel⟩, List.mem_of_getElem? (i := 1119) (by decide +kernel), List.mem_of_getElem? (i := 1640) (by decide +kernel), List.mem_of_getElem? (i := 1641) (by decide +kernel)⟩
theorem lw_p45 : lw_okq (⟨"Chipcardhouse", "addFaults", "(IIII)I"⟩, 12) := ⟨⟨by decide +kernel, by decide +kernel⟩, List.mem_of_getElem? (i := 47) (by decide +kernel), List.mem_of_getElem? (i := 1662) (by decide +kernel), List.mem_of_getElem? (i := 1663) (by decide +kernel)⟩
theorem lw_p46 : lw_okq (⟨"Chipcardhouse", "changeHouse", "(III)I"⟩, 12) := ⟨⟨by decide +kernel, by decide +kernel⟩, List.mem_of_getElem? (i := 47) (by decide +kernel), List.mem_of_getElem? (i := 1666) (by decide +kernel), List.mem_of_getElem? (i := 1667) (by decide +kernel)⟩
theorem lw_p47 : lw_okq (⟨"Chipcardhouse", "tellCard", "(II)I"⟩, 12) := ⟨⟨by decide +kernel, by decide +kernel⟩, List.mem_of_getElem? (i := 47) (by decide +kernel), List.mem_of_getElem? (i := 1670) (by decide +kernel), List.mem_of_getElem? (i := 1671) (by decide +kernel)⟩
def lw_privs_3 : List (MethodName × Nat) := [(⟨"Chipcardhouse", "addCard", "(IIII)I"⟩, 12), (⟨"Chipcardhouse", "payAt", "(IIII)I"⟩, 12), (⟨"Chipcardhouse$Payment", "fill", "(LChipcardhouse$Message;)LChipcardhouse$Message;"⟩, 12), (⟨"Chipcardhouse$Line", "takeFault", "()I"⟩, 4), (⟨"Chipcardhouse", "sendBatch", "(I)I"⟩, 12), (⟨"Chipcardhouse", "sendBack", "(III)I"⟩, 12), (⟨"Chipcardhouse", "letTicksPass", "(I)I"⟩, 12), (⟨"Chipcardhouse", "bringUp", "(LChipcardhouse$Terminal;)V"⟩, 12), (⟨"Chipcardhouse$Switch", "grant", "(LChipcardhouse$Message;)Z"⟩, 3), (⟨"Chipcardhouse$Issuer", "hearRecord", "(LChipcardhouse$Message;LChipcardhouse$Known;LChipcardhouse$Terminal;)V"⟩, 5), (⟨"Chipcardhouse$Terminal", "hearAnswer", "(LChipcardhouse$Message;)V"⟩, 13), (⟨"java/util/ArrayList", "fastRemove", "([Ljava/lang/Object;I)V"⟩, 3), (⟨"Chipcardhouse$Terminal", "forget", "(LChipcardhouse$Message;)V"⟩, 13), (⟨"Chipcardhouse", "addFaults", "(IIII)I"⟩, 12), (⟨"Chipcardhouse", "changeHouse", "(III)I"⟩, 12), (⟨"Chipcardhouse", "tellCard", "(II)I"⟩, 12)]
theorem lw_r3 : ∀ q ∈ lw_privs_3, lw_okq q := List.forall_mem_cons.mpr ⟨lw_p32, List.forall_mem_cons.mpr ⟨lw_p33, List.forall_mem_cons.mpr ⟨lw_p34, List.forall_mem_cons.mpr ⟨lw_p35, List.forall_mem_cons.mpr ⟨lw_p36, List.forall_mem_cons.mpr ⟨lw_p37, List.forall_mem_cons.mpr ⟨lw_p38, List.forall_mem_cons.mpr ⟨lw_p39, List.forall_mem_cons.mpr ⟨lw_p40, List.forall_mem_cons.mpr ⟨lw_p41, List.forall_mem_cons.mpr ⟨lw_p42, List.forall_mem_cons.mpr ⟨lw_p43, List.forall_mem_cons.mpr ⟨lw_p44, List.forall_mem_cons.mpr ⟨lw_p45, List.forall_mem_cons.mpr ⟨lw_p46, List.forall_mem_cons.mpr ⟨lw_p47, fun _ h => absurd h List.not_mem_nil⟩⟩⟩⟩⟩⟩⟩⟩⟩⟩⟩⟩⟩⟩⟩⟩
theorem lw_p48 : lw_okq (⟨"Chipcardhouse", "reportStolen", "(I)Z"⟩, 12) := ⟨⟨by decide +kernel, by decide +kernel⟩, List.mem_of_getElem? (i := 47) (by decide +kernel), List.mem_of_getElem? (i := 1680) (by decide +kernel), List.mem_of_getElem? (i := 1681) (by decide +kernel)⟩
theorem lw_p49 : lw_okq (⟨"Chipcardhouse", "setFrozen", "(IZ)Z"⟩, 12) := ⟨⟨by decide +kernel, by decide +kernel⟩, List.mem_of_getElem? (i := 47) (by decide +kernel), List.mem_of_getElem? (i := 1684) (by decide +kernel), List.mem_of_getElem? (i := 1685) (by decide +kernel)⟩
theorem lw_p50 : lw_okq (⟨"Chipcardhouse", "giveDisputedBack", "(I)I"⟩, 12) := ⟨⟨by decide +kernel, by decide +kernel⟩, List.mem_of_getElem? (i := 47) (by decide +kernel), List.mem_of_getElem? (i := 1688) (by decide +kernel), List.mem_of_getElem? (i := 1689) (by decide +kernel)⟩
theorem lw_p51 : lw_okq (⟨"Chipcardhouse", "refusalOfForging", "(III)I"⟩, 12) := ⟨⟨by decide +kernel, by decide +kernel⟩, List.mem_of_getElem? (i := 47) (by decide +kernel), List.mem_of_getElem? (i := 1768) (by decide +kernel), List.mem_of_getElem? (i := 1769) (by decide +kernel)⟩
theorem lw_p52 : lw_okq (⟨"ChipcardhouseModel", "refuse", "(I)I"⟩, 9) := ⟨⟨by decide +kernel, by decide +kernel⟩, List.mem_of_getElem? (i := 1866) (by decide +kernel), List.mem_of_getElem? (i := 2218) (by decide +kernel), List.mem_of_getElem? (i := 2219) (by decide +kernel)⟩
theorem lw_p53 : lw_okq (⟨"ChipcardhouseModel", "told", "(I)I"⟩, 9) := ⟨⟨by decide +kernel, by decide +kernel⟩, List.mem_of_getElem? (i := 1866) (by decide +kernel), List.mem_of_getElem? (i := 2222) (by decide +kernel), List.mem_of_getElem? (i := 2223) (by decide +kernel)⟩
theorem lw_p54 : lw_okq (⟨"ChipcardhouseModel$Texts", "next", "()V"⟩, 11) := ⟨⟨by decide +kernel, by decide +kernel⟩, List.mem_of_getElem? (i := 1917) (by decide +kernel), List.mem_of_getElem? (i := 2234) (by decide +kernel), List.mem_of_getElem? (i := 2235) (by decide +kernel)⟩
theorem lw_p55 : lw_okq (⟨"ChipcardhouseModel$Texts", "takesCommand", "()Z"⟩, 11) := ⟨⟨by decide +kernel, by decide +kernel⟩, List.mem_of_getElem? (i := 1917) (by decide +kernel), List.mem_of_getElem? (i := 2238) (by decide +kernel), List.mem_of_getElem? (i := 2239) (by decide +kernel)⟩
theorem lw_p56 : lw_okq (⟨"ChipcardhouseModel$Texts", "isWord", "(Ljava/lang/String;)Z"⟩, 11) := ⟨⟨by decide +kernel, by decide +kernel⟩, List.mem_of_getElem? (i := 1917) (by decide +kernel), List.mem_of_getElem? (i := 2242) (by decide +kernel), List.mem_of_getElem? (i := 2243) (by decide +kernel)⟩
theorem lw_p57 : lw_okq (⟨"ChipcardhouseModel$Texts", "cannot", "()Z"⟩, 11) := ⟨⟨by decide +kernel, by decide +kernel⟩, List.mem_of_getElem? (i := 1917) (by decide +kernel), List.mem_of_getElem? (i := 2248) (by decide +kernel), List.mem_of_getElem? (i := 2249) (by decide +kernel)⟩
theorem lw_p58 : lw_okq (⟨"ChipcardhouseModel$Texts", "takesNumber", "(I)Z"⟩, 11) := ⟨⟨by decide +kernel, by decide +kernel⟩, List.mem_of_getElem? (i := 1917) (by decide +kernel), List.mem_of_getElem? (i := 2252) (by decide +kernel), List.mem_of_getElem? (i := 2253) (by decide +kernel)⟩
theorem lw_p59 : lw_okq (⟨"ChipcardhouseModel$Texts", "takesPin", "()Z"⟩, 11) := ⟨⟨by decide +kernel, by decide +kernel⟩, List.mem_of_getElem? (i := 1917) (by decide +kernel), List.mem_of_getElem? (i := 2256) (by decide +kernel), List.mem_of_getElem? (i := 2257) (by decide +kernel)⟩
theorem lw_p60 : lw_okq (⟨"ChipcardhouseModel", "does", "(I)V"⟩, 9) := ⟨⟨by decide +kernel, by decide +kernel⟩, List.mem_of_getElem? (i := 1866) (by decide +kernel), List.mem_of_getElem? (i := 2265) (by decide +kernel), List.mem_of_getElem? (i := 2266) (by decide +kernel)⟩
theorem lw_p61 : lw_okq (⟨"ChipcardhouseModel$Tills", "fails", "(ZZZ)Z"⟩, 12) := ⟨⟨by decide +kernel, by decide +kernel⟩, List.mem_of_getElem? (i := 1979) (by decide +kernel), List.mem_of_getElem? (i := 2286) (by decide +kernel), List.mem_of_getElem? (i := 2287) (by decide +kernel)⟩
theorem lw_p62 : lw_okq (⟨"ChipcardhouseModel", "ofTills", "(I)I"⟩, 9) := ⟨⟨by decide +kernel, by decide +kernel⟩, List.mem_of_getElem? (i := 1866) (by decide +kernel), List.mem_of_getElem? (i := 2315) (by decide +kernel), List.mem_of_getElem? (i := 2316) (by decide +kernel)⟩
theorem lw_p63 : lw_okq (⟨"ChipcardhouseModel$Tills", "setCard", "(III)V"⟩, 12) := ⟨⟨by decide +kernel, by decide +kernel⟩, List.mem_of_getElem? (i := 1979) (by decide +kernel), List.mem_of_getElem? (i := 2328) (by decide +kernel), List.mem_of_getElem? (i := 2329) (by decide +kernel)⟩
def lw_privs_4 : List (MethodName × Nat) := [(⟨"Chipcardhouse", "reportStolen", "(I)Z"⟩, 12), (⟨"Chipcardhouse", "setFrozen", "(IZ)Z"⟩, 12), (⟨"Chipcardhouse", "giveDisputedBack", "(I)I"⟩, 12), (⟨"Chipcardhouse", "refusalOfForging", "(III)I"⟩, 12), (⟨"ChipcardhouseModel", "refuse", "(I)I"⟩, 9), (⟨"ChipcardhouseModel", "told", "(I)I"⟩, 9), (⟨"ChipcardhouseModel$Texts", "next", "()V"⟩, 11), (⟨"ChipcardhouseModel$Texts", "takesCommand", "()Z"⟩, 11), (⟨"ChipcardhouseModel$Texts", "isWord", "(Ljava/lang/String;)Z"⟩, 11), (⟨"ChipcardhouseModel$Texts", "cannot", "()Z"⟩, 11), (⟨"ChipcardhouseModel$Texts", "takesNumber", "(I)Z"⟩, 11), (⟨"ChipcardhouseModel$Texts", "takesPin", "()Z"⟩, 11), (⟨"ChipcardhouseModel", "does", "(I)V"⟩, 9), (⟨"ChipcardhouseModel$Tills", "fails", "(ZZZ)Z"⟩, 12), (⟨"ChipcardhouseModel", "ofTills", "(I)I"⟩, 9), (⟨"ChipcardhouseModel$Tills", "setCard", "(III)V"⟩, 12)]
theorem lw_r4 : ∀ q ∈ lw_privs_4, lw_okq q := List.forall_mem_cons.mpr ⟨lw_p48, List.forall_mem_cons.mpr ⟨lw_p49, List.forall_mem_cons.mpr ⟨lw_p50, List.forall_mem_cons.mpr ⟨lw_p51, List.forall_mem_cons.mpr ⟨lw_p52, List.forall_mem_cons.mpr ⟨lw_p53, List.forall_mem_cons.mpr ⟨lw_p54, List.forall_mem_cons.mpr ⟨lw_p55, List.forall_mem_cons.mpr ⟨lw_p56, List.forall_mem_cons.mpr ⟨lw_p57, List.forall_mem_cons.mpr ⟨lw_p58, List.forall_mem_cons.mpr ⟨lw_p59, List.forall_mem_cons.mpr ⟨lw_p60, List.forall_mem_cons.mpr ⟨lw_p61, List.forall_mem_cons.mpr ⟨lw_p62, List.forall_mem_cons.mpr ⟨lw_p63, fun _ h => absurd h List.not_mem_nil⟩⟩⟩⟩⟩⟩⟩⟩⟩⟩⟩⟩⟩⟩⟩⟩
theorem lw_p64 : lw_okq (⟨"ChipcardhouseModel$Tills", "refusal", "(III)I"⟩, 12) := ⟨⟨by decide +kernel, by decide +kernel⟩, List.mem_of_getElem? (i := 1979) (by decide +kernel), List.mem_of_getElem? (i := 2340) (by decide +kernel), List.mem_of_getElem? (i := 2341) (by decide +kernel)⟩
theorem lw_p65 : lw_okq (⟨"ChipcardhouseModel$Tills", "ofCard", "(II)I"⟩, 12) := ⟨⟨by decide +kernel, by decide +kernel⟩, List.mem_of_getElem? (i := 1979) (by decide +kernel), List.mem_of_getElem? (i := 2344) (by decide +kernel), List.mem_of_getElem? (i := 2345) (by decide +kernel)⟩
theorem lw_p66 : lw_okq (⟨"ChipcardhouseModel$Tills", "addCard", "(III)V"⟩, 12) := ⟨⟨by decide +kernel, by decide +kernel⟩, List.mem_of_getElem? (i := 1979) (by decide +kernel), List.mem_of_getElem? (i := 2348) (by decide +kernel), List.mem_of_getElem? (i := 2349) (by decide +kernel)⟩
theorem lw_p67 : lw_okq (⟨"ChipcardhouseModel$Tills", "set", "(III)V"⟩, 12) := ⟨⟨by decide +kernel, by decide +kernel⟩, List.mem_of_getElem? (i := 1979) (by decide +kernel), List.mem_of_getElem? (i := 2352) (by decide +kernel), List.mem_of_getElem? (i := 2353) (by decide +kernel)⟩
theorem lw_p68 : lw_okq (⟨"ChipcardhouseModel$Tills", "mustAsk", "(II)Z"⟩, 12) := ⟨⟨by decide +kernel, by decide +kernel⟩, List.mem_of_getElem? (i := 1979) (by decide +kernel), List.mem_of_getElem? (i := 2356) (by decide +kernel), List.mem_of_getElem? (i := 2357) (by decide +kernel)⟩
theorem lw_p69 : lw_okq (⟨"ChipcardhouseModel$Tills", "grants", "(I)Z"⟩, 12) := ⟨⟨by decide +kernel, by decide +kernel⟩, List.mem_of_getElem? (i := 1979) (by decide +kernel), List.mem_of_getElem? (i := 2360) (by decide +kernel), List.mem_of_getElem? (i := 2361) (by decide +kernel)⟩
theorem lw_p70 : lw_okq (⟨"ChipcardhouseModel$Tills", "of", "(II)I"⟩, 12) := ⟨⟨by decide +kernel, by decide +kernel⟩, List.mem_of_getElem? (i := 1979) (by decide +kernel), List.mem_of_getElem? (i := 2364) (by decide +kernel), List.mem_of_getElem? (i := 2365) (by decide +kernel)⟩
theorem lw_p71 : lw_okq (⟨"ChipcardhouseModel$Tills", "stampOf", "(II)I"⟩, 12) := ⟨⟨by decide +kernel, by decide +kernel⟩, List.mem_of_getElem? (i := 1979) (by decide +kernel), List.mem_of_getElem? (i := 2368) (by decide +kernel), List.mem_of_getElem? (i := 2369) (by decide +kernel)⟩
theorem lw_p72 : lw_okq (⟨"ChipcardhouseModel$Lines", "up", "(ILChipcardhouseModel$Mail;)V"⟩, 19) := ⟨⟨by decide +kernel, by decide +kernel⟩, List.mem_of_getElem? (i := 2103) (by decide +kernel), List.mem_of_getElem? (i := 2452) (by decide +kernel), List.mem_of_getElem? (i := 2453) (by decide +kernel)⟩
theorem lw_p73 : lw_okq (⟨"ChipcardhouseModel$Cable", "lays", "(ILChipcardhouseModel$Mail;)V"⟩, 4) := ⟨⟨by decide +kernel, by decide +kernel⟩, List.mem_of_getElem? (i := 2293) (by decide +kernel), List.mem_of_getElem? (i := 2460) (by decide +kernel), List.mem_of_getElem? (i := 2461) (by decide +kernel)⟩
theorem lw_p74 : lw_okq (⟨"ChipcardhouseModel$Lines", "isShop", "(I)Z"⟩, 19) := ⟨⟨by decide +kernel, by decide +kernel⟩, List.mem_of_getElem? (i := 2103) (by decide +kernel), List.mem_of_getElem? (i := 2472) (by decide +kernel), List.mem_of_getElem? (i := 2473) (by decide +kernel)⟩
theorem lw_p75 : lw_okq (⟨"ChipcardhouseModel$Lines", "can", "(ZI)Z"⟩, 19) := ⟨⟨by decide +kernel, by decide +kernel⟩, List.mem_of_getElem? (i := 2103) (by decide +kernel), List.mem_of_getElem? (i := 2476) (by decide +kernel), List.mem_of_getElem? (i := 2477) (by decide +kernel)⟩
theorem lw_p76 : lw_okq (⟨"ChipcardhouseModel$Lines", "record", "(III)LChipcardhouseModel$Mail;"⟩, 19) := ⟨⟨by decide +kernel, by decide +kernel⟩, List.mem_of_getElem? (i := 2103) (by decide +kernel), List.mem_of_getElem? (i := 2484) (by decide +kernel), List.mem_of_getElem? (i := 2485) (by decide +kernel)⟩
theorem lw_p77 : lw_okq (⟨"ChipcardhouseModel$Lines", "keeps", "(ILChipcardhouseModel$Mail;)V"⟩, 19) := ⟨⟨by decide +kernel, by decide +kernel⟩, List.mem_of_getElem? (i := 2103) (by decide +kernel), List.mem_of_getElem? (i := 2488) (by decide +kernel), List.mem_of_getElem? (i := 2489) (by decide +kernel)⟩
theorem lw_p78 : lw_okq (⟨"ChipcardhouseModel", "ofLines", "(I)I"⟩, 9) := ⟨⟨by decide +kernel, by decide +kernel⟩, List.mem_of_getElem? (i := 1866) (by decide +kernel), List.mem_of_getElem? (i := 2492) (by decide +kernel), List.mem_of_getElem? (i := 2493) (by decide +kernel)⟩
theorem lw_p79 : lw_okq (⟨"ChipcardhouseModel$Lines", "isPayment", "(I)Z"⟩, 19) := ⟨⟨by decide +kernel, by decide +kernel⟩, List.mem_of_getElem? (i := 2103) (by decide +kernel), List.mem_of_getElem? (i := 2504) (by decide +kernel), List.mem_of_getElem? (i := 2505) (by decide +kernel)⟩
def lw_privs_5 : List (MethodName × Nat) := [(⟨"ChipcardhouseModel$Tills", "refusal", "(III)I"⟩, 12), (⟨"ChipcardhouseModel$Tills", "ofCard", "(II)I"⟩, 12), (⟨"ChipcardhouseModel$Tills", "addCard", "(III)V"⟩, 12), (⟨"ChipcardhouseModel$Tills", "set", "(III)V"⟩, 12), (⟨"ChipcardhouseModel$Tills", "mustAsk", "(II)Z"⟩, 12), (⟨"ChipcardhouseModel$Tills", "grants", "(I)Z"⟩, 12), (⟨"ChipcardhouseModel$Tills", "of", "(II)I"⟩, 12), (⟨"ChipcardhouseModel$Tills", "stampOf", "(II)I"⟩, 12), (⟨"ChipcardhouseModel$Lines", "up", "(ILChipcardhouseModel$Mail;)V"⟩, 19), (⟨"ChipcardhouseModel$Cable", "lays", "(ILChipcardhouseModel$Mail;)V"⟩, 4), (⟨"ChipcardhouseModel$Lines", "isShop", "(I)Z"⟩, 19), (⟨"ChipcardhouseModel$Lines", "can", "(ZI)Z"⟩, 19), (⟨"ChipcardhouseModel$Lines", "record", "(III)LChipcardhouseModel$Mail;"⟩, 19), (⟨"ChipcardhouseModel$Lines", "keeps", "(ILChipcardhouseModel$Mail;)V"⟩, 19), (⟨"ChipcardhouseModel", "ofLines", "(I)I"⟩, 9), (⟨"ChipcardhouseModel$Lines", "isPayment", "(I)Z"⟩, 19)]
theorem lw_r5 : ∀ q ∈ lw_privs_5, lw_okq q := List.forall_mem_cons.mpr ⟨lw_p64, List.forall_mem_cons.mpr ⟨lw_p65, List.forall_mem_cons.mpr ⟨lw_p66, List.forall_mem_cons.mpr ⟨lw_p67, List.forall_mem_cons.mpr ⟨lw_p68, List.forall_mem_cons.mpr ⟨lw_p69, List.forall_mem_cons.mpr ⟨lw_p70, List.forall_mem_cons.mpr ⟨lw_p71, List.forall_mem_cons.mpr ⟨lw_p72, List.forall_mem_cons.mpr ⟨lw_p73, List.forall_mem_cons.mpr ⟨lw_p74, List.forall_mem_cons.mpr ⟨lw_p75, List.forall_mem_cons.mpr ⟨lw_p76, List.forall_mem_cons.mpr ⟨lw_p77, List.forall_mem_cons.mpr ⟨lw_p78, List.forall_mem_cons.mpr ⟨lw_p79, fun _ h => absurd h List.not_mem_nil⟩⟩⟩⟩⟩⟩⟩⟩⟩⟩⟩⟩⟩⟩⟩⟩
theorem lw_p80 : lw_okq (⟨"ChipcardhouseModel", "passes", "()V"⟩, 9) := ⟨⟨by decide +kernel, by decide +kernel⟩, List.mem_of_getElem? (i := 1866) (by decide +kernel), List.mem_of_getElem? (i := 2513) (by decide +kernel), List.mem_of_getElem? (i := 2514) (by decide +kernel)⟩
theorem lw_p81 : lw_okq (⟨"ChipcardhouseModel$Lines", "hears", "(ILChipcardhouseModel$Mail;)V"⟩, 19) := ⟨⟨by decide +kernel, by decide +kernel⟩, List.mem_of_getElem? (i := 2103) (by decide +kernel), List.mem_of_getElem? (i := 2525) (by decide +kernel), List.mem_of_getElem? (i := 2526) (by decide +kernel)⟩
theorem lw_p82 : lw_okq (⟨"ChipcardhouseModel$Lines", "standsIn", "(ILChipcardhouseModel$Mail;)V"⟩, 19) := ⟨⟨by decide +kernel, by decide +kernel⟩, List.mem_of_getElem? (i := 2103) (by decide +kernel), List.mem_of_getElem? (i := 2529) (by decide +kernel), List.mem_of_getElem? (i := 2530) (by decide +kernel)⟩
theorem lw_p83 : lw_okq (⟨"ChipcardhouseModel$Lines", "isNoted", "(I)Z"⟩, 19) := ⟨⟨by decide +kernel, by decide +kernel⟩, List.mem_of_getElem? (i := 2103) (by decide +kernel), List.mem_of_getElem? (i := 2533) (by decide +kernel), List.mem_of_getElem? (i := 2534) (by decide +kernel)⟩
theorem lw_p84 : lw_okq (⟨"ChipcardhouseModel$Lines", "down", "(ILChipcardhouseModel$Mail;)V"⟩, 19) := ⟨⟨by decide +kernel, by decide +kernel⟩, List.mem_of_getElem? (i := 2103) (by decide +kernel), List.mem_of_getElem? (i := 2537) (by decide +kernel), List.mem_of_getElem? (i := 2538) (by decide +kernel)⟩
theorem lw_p85 : lw_okq (⟨"ChipcardhouseModel$Issuer", "at", "(I)LChipcardhouseModel$Known;"⟩, 18) := ⟨⟨by decide +kernel, by decide +kernel⟩, List.mem_of_getElem? (i := 2030) (by decide +kernel), List.mem_of_getElem? (i := 2545) (by decide +kernel), List.mem_of_getElem? (i := 2546) (by decide +kernel)⟩
theorem lw_p86 : lw_okq (⟨"ChipcardhouseModel$Issuer", "judge", "(LChipcardhouseModel$Known;IIIIII)I"⟩, 18) := ⟨⟨by decide +kernel, by decide +kernel⟩, List.mem_of_getElem? (i := 2030) (by decide +kernel), List.mem_of_getElem? (i := 2610) (by decide +kernel), List.mem_of_getElem? (i := 2611) (by decide +kernel)⟩
theorem lw_p87 : lw_okq (⟨"ChipcardhouseModel$Issuer", "isCard", "(I)Z"⟩, 18) := ⟨⟨by decide +kernel, by decide +kernel⟩, List.mem_of_getElem? (i := 2030) (by decide +kernel), List.mem_of_getElem? (i := 2614) (by decide +kernel), List.mem_of_getElem? (i := 2615) (by decide +kernel)⟩
theorem lw_p88 : lw_okq (⟨"ChipcardhouseModel$Issuer", "isStamp", "(IIIIII)Z"⟩, 18) := ⟨⟨by decide +kernel, by decide +kernel⟩, List.mem_of_getElem? (i := 2030) (by decide +kernel), List.mem_of_getElem? (i := 2618) (by decide +kernel), List.mem_of_getElem? (i := 2619) (by decide +kernel)⟩
theorem lw_p89 : lw_okq (⟨"ChipcardhouseModel$Issuer", "isHeardOfOther", "(III)Z"⟩, 18) := ⟨⟨by decide +kernel, by decide +kernel⟩, List.mem_of_getElem? (i := 2030) (by decide +kernel), List.mem_of_getElem? (i := 2624) (by decide +kernel), List.mem_of_getElem? (i := 2625) (by decide +kernel)⟩
theorem lw_p90 : lw_okq (⟨"ChipcardhouseModel$Issuer", "heardAt", "(II)I"⟩, 18) := ⟨⟨by decide +kernel, by decide +kernel⟩, List.mem_of_getElem? (i := 2030) (by decide +kernel), List.mem_of_getElem? (i := 2628) (by decide +kernel), List.mem_of_getElem? (i := 2629) (by decide +kernel)⟩
theorem lw_p91 : lw_okq (⟨"ChipcardhouseModel$Issuer", "hear", "(III)V"⟩, 18) := ⟨⟨by decide +kernel, by decide +kernel⟩, List.mem_of_getElem? (i := 2030) (by decide +kernel), List.mem_of_getElem? (i := 2632) (by decide +kernel), List.mem_of_getElem? (i := 2633) (by decide +kernel)⟩
theorem lw_p92 : lw_okq (⟨"ChipcardhouseModel$Issuer", "hold", "(LChipcardhouseModel$Known;II)V"⟩, 18) := ⟨⟨by decide +kernel, by decide +kernel⟩, List.mem_of_getElem? (i := 2030) (by decide +kernel), List.mem_of_getElem? (i := 2655) (by decide +kernel), List.mem_of_getElem? (i := 2656) (by decide +kernel)⟩
theorem lw_p93 : lw_okq (⟨"ChipcardhouseModel$Issuer", "free", "(LChipcardhouseModel$Known;)V"⟩, 18) := ⟨⟨by decide +kernel, by decide +kernel⟩, List.mem_of_getElem? (i := 2030) (by decide +kernel), List.mem_of_getElem? (i := 2667) (by decide +kernel), List.mem_of_getElem? (i := 2668) (by decide +kernel)⟩
theorem lw_p94 : lw_okq (⟨"ChipcardhouseModel$Issuer", "isPostedByOther", "(II)Z"⟩, 18) := ⟨⟨by decide +kernel, by decide +kernel⟩, List.mem_of_getElem? (i := 2030) (by decide +kernel), List.mem_of_getElem? (i := 2679) (by decide +kernel), List.mem_of_getElem? (i := 2680) (by decide +kernel)⟩
theorem lw_p95 : lw_okq (⟨"ChipcardhouseModel$Issuer", "post", "(LChipcardhouseModel$Known;IIII)V"⟩, 18) := ⟨⟨by decide +kernel, by decide +kernel⟩, List.mem_of_getElem? (i := 2030) (by decide +kernel), List.mem_of_getElem? (i := 2686) (by decide +kernel), List.mem_of_getElem? (i := 2687) (by decide +kernel)⟩
def lw_privs_6 : List (MethodName × Nat) := [(⟨"ChipcardhouseModel", "passes", "()V"⟩, 9), (⟨"ChipcardhouseModel$Lines", "hears", "(ILChipcardhouseModel$Mail;)V"⟩, 19), (⟨"ChipcardhouseModel$Lines", "standsIn", "(ILChipcardhouseModel$Mail;)V"⟩, 19), (⟨"ChipcardhouseModel$Lines", "isNoted", "(I)Z"⟩, 19), (⟨"ChipcardhouseModel$Lines", "down", "(ILChipcardhouseModel$Mail;)V"⟩, 19), (⟨"ChipcardhouseModel$Issuer", "at", "(I)LChipcardhouseModel$Known;"⟩, 18), (⟨"ChipcardhouseModel$Issuer", "judge", "(LChipcardhouseModel$Known;IIIIII)I"⟩, 18), (⟨"ChipcardhouseModel$Issuer", "isCard", "(I)Z"⟩, 18), (⟨"ChipcardhouseModel$Issuer", "isStamp", "(IIIIII)Z"⟩, 18), (⟨"ChipcardhouseModel$Issuer", "isHeardOfOther", "(III)Z"⟩, 18), (⟨"ChipcardhouseModel$Issuer", "heardAt", "(II)I"⟩, 18), (⟨"ChipcardhouseModel$Issuer", "hear", "(III)V"⟩, 18), (⟨"ChipcardhouseModel$Issuer", "hold", "(LChipcardhouseModel$Known;II)V"⟩, 18), (⟨"ChipcardhouseModel$Issuer", "free", "(LChipcardhouseModel$Known;)V"⟩, 18), (⟨"ChipcardhouseModel$Issuer", "isPostedByOther", "(II)Z"⟩, 18), (⟨"ChipcardhouseModel$Issuer", "post", "(LChipcardhouseModel$Known;IIII)V"⟩, 18)]
theorem lw_r6 : ∀ q ∈ lw_privs_6, lw_okq q := List.forall_mem_cons.mpr ⟨lw_p80, List.forall_mem_cons.mpr ⟨lw_p81, List.forall_mem_cons.mpr ⟨lw_p82, List.forall_mem_cons.mpr ⟨lw_p83, List.forall_mem_cons.mpr ⟨lw_p84, List.forall_mem_cons.mpr ⟨lw_p85, List.forall_mem_cons.mpr ⟨lw_p86, List.forall_mem_cons.mpr ⟨lw_p87, List.forall_mem_cons.mpr ⟨lw_p88, List.forall_mem_cons.mpr ⟨lw_p89, List.forall_mem_cons.mpr ⟨lw_p90, List.forall_mem_cons.mpr ⟨lw_p91, List.forall_mem_cons.mpr ⟨lw_p92, List.forall_mem_cons.mpr ⟨lw_p93, List.forall_mem_cons.mpr ⟨lw_p94, List.forall_mem_cons.mpr ⟨lw_p95, fun _ h => absurd h List.not_mem_nil⟩⟩⟩⟩⟩⟩⟩⟩⟩⟩⟩⟩⟩⟩⟩⟩
theorem lw_p96 : lw_okq (⟨"ChipcardhouseModel$Lines", "returns", "(ILChipcardhouseModel$Mail;)V"⟩, 19) := ⟨⟨by decide +kernel, by decide +kernel⟩, List.mem_of_getElem? (i := 2103) (by decide +kernel), List.mem_of_getElem? (i := 2703) (by decide +kernel), List.mem_of_getElem? (i := 2704) (by decide +kernel)⟩
theorem lw_p97 : lw_okq (⟨"ChipcardhouseModel$Tills", "isTold", "(II)V"⟩, 12) := ⟨⟨by decide +kernel, by decide +kernel⟩, List.mem_of_getElem? (i := 1979) (by decide +kernel), List.mem_of_getElem? (i := 2711) (by decide +kernel), List.mem_of_getElem? (i := 2712) (by decide +kernel)⟩
theorem lw_p98 : lw_okq (⟨"ChipcardhouseModel$Lines", "forgets", "(ILChipcardhouseModel$Mail;)V"⟩, 19) := ⟨⟨by decide +kernel, by decide +kernel⟩, List.mem_of_getElem? (i := 2103) (by decide +kernel), List.mem_of_getElem? (i := 2715) (by decide +kernel), List.mem_of_getElem? (i := 2716) (by decide +kernel)⟩
theorem lw_p99 : lw_okq (⟨"ChipcardhouseModel", "ofIssuer", "(I)I"⟩, 9) := ⟨⟨by decide +kernel, by decide +kernel⟩, List.mem_of_getElem? (i := 1866) (by decide +kernel), List.mem_of_getElem? (i := 2768) (by decide +kernel), List.mem_of_getElem? (i := 2769) (by decide +kernel)⟩
theorem lw_p100 : lw_okq (⟨"ChipcardhouseModel", "isAccount", "(I)Z"⟩, 9) := ⟨⟨by decide +kernel, by decide +kernel⟩, List.mem_of_getElem? (i := 1866) (by decide +kernel), List.mem_of_getElem? (i := 2784) (by decide +kernel), List.mem_of_getElem? (i := 2785) (by decide +kernel)⟩
theorem lw_p101 : lw_okq (⟨"ChipcardhouseModel", "isShop", "(I)Z"⟩, 9) := ⟨⟨by decide +kernel, by decide +kernel⟩, List.mem_of_getElem? (i := 1866) (by decide +kernel), List.mem_of_getElem? (i := 2873) (by decide +kernel), List.mem_of_getElem? (i := 2874) (by decide +kernel)⟩
theorem lw_p102 : lw_okq (⟨"ChipcardhouseModel", "paymentsOf", "(I)I"⟩, 9) := ⟨⟨by decide +kernel, by decide +kernel⟩, List.mem_of_getElem? (i := 1866) (by decide +kernel), List.mem_of_getElem? (i := 2877) (by decide +kernel), List.mem_of_getElem? (i := 2878) (by decide +kernel)⟩
theorem lw_p103 : lw_okq (⟨"ChipcardhouseModel", "isGranted", "(I)Z"⟩, 9) := ⟨⟨by decide +kernel, by decide +kernel⟩, List.mem_of_getElem? (i := 1866) (by decide +kernel), List.mem_of_getElem? (i := 2897) (by decide +kernel), List.mem_of_getElem? (i := 2898) (by decide +kernel)⟩
theorem lw_p104 : lw_okq (⟨"ChipcardhouseModel$Issuer", "isMade", "(LChipcardhouseModel$Known;)Z"⟩, 18) := ⟨⟨by decide +kernel, by decide +kernel⟩, List.mem_of_getElem? (i := 2030) (by decide +kernel), List.mem_of_getElem? (i := 2925) (by decide +kernel), List.mem_of_getElem? (i := 2926) (by decide +kernel)⟩
theorem lw_p105 : lw_okq (⟨"ChipcardhouseModel", "isAnyUngranted", "()Z"⟩, 9) := ⟨⟨by decide +kernel, by decide +kernel⟩, List.mem_of_getElem? (i := 1866) (by decide +kernel), List.mem_of_getElem? (i := 2935) (by decide +kernel), List.mem_of_getElem? (i := 2936) (by decide +kernel)⟩
def lw_privs_7 : List (MethodName × Nat) := [(⟨"ChipcardhouseModel$Lines", "returns", "(ILChipcardhouseModel$Mail;)V"⟩, 19), (⟨"ChipcardhouseModel$Tills", "isTold", "(II)V"⟩, 12), (⟨"ChipcardhouseModel$Lines", "forgets", "(ILChipcardhouseModel$Mail;)V"⟩, 19), (⟨"ChipcardhouseModel", "ofIssuer", "(I)I"⟩, 9), (⟨"ChipcardhouseModel", "isAccount", "(I)Z"⟩, 9), (⟨"ChipcardhouseModel", "isShop", "(I)Z"⟩, 9), (⟨"ChipcardhouseModel", "paymentsOf", "(I)I"⟩, 9), (⟨"ChipcardhouseModel", "isGranted", "(I)Z"⟩, 9), (⟨"ChipcardhouseModel$Issuer", "isMade", "(LChipcardhouseModel$Known;)Z"⟩, 18), (⟨"ChipcardhouseModel", "isAnyUngranted", "()Z"⟩, 9)]
theorem lw_r7 : ∀ q ∈ lw_privs_7, lw_okq q := List.forall_mem_cons.mpr ⟨lw_p96, List.forall_mem_cons.mpr ⟨lw_p97, List.forall_mem_cons.mpr ⟨lw_p98, List.forall_mem_cons.mpr ⟨lw_p99, List.forall_mem_cons.mpr ⟨lw_p100, List.forall_mem_cons.mpr ⟨lw_p101, List.forall_mem_cons.mpr ⟨lw_p102, List.forall_mem_cons.mpr ⟨lw_p103, List.forall_mem_cons.mpr ⟨lw_p104, List.forall_mem_cons.mpr ⟨lw_p105, fun _ h => absurd h List.not_mem_nil⟩⟩⟩⟩⟩⟩⟩⟩⟩⟩
def lw_privs : List (MethodName × Nat) := lw_privs_1 ++ (lw_privs_2 ++ (lw_privs_3 ++ (lw_privs_4 ++ (lw_privs_5 ++ (lw_privs_6 ++ (lw_privs_7))))))
def lw_tbl : List Cond := k2_sels lw_privs ++ tables_1
theorem lw_privs_ok : ∀ q ∈ lw_privs, lw_okq q := by
  show ∀ q ∈ lw_privs_1 ++ (lw_privs_2 ++ (lw_privs_3 ++ (lw_privs_4 ++ (lw_privs_5 ++ (lw_privs_6 ++ (lw_privs_7)))))), lw_okq q
  exact List.forall_mem_append.mpr ⟨lw_r1, List.forall_mem_append.mpr ⟨lw_r2, List.forall_mem_append.mpr ⟨lw_r3, List.forall_mem_append.mpr ⟨lw_r4, List.forall_mem_append.mpr ⟨lw_r5, List.forall_mem_append.mpr ⟨lw_r6, lw_r7⟩⟩⟩⟩⟩⟩
/-- the streams that the claim lets the run draw from -/
abbrev lw_cs : List Choice := [Jvm.Choice.named "NaN.bits"]
theorem lw_bits : nanBits ∈ lw_cs := by first | decide | exact List.mem_cons_self | simp [lw_cs, nanBits]
def RX0 : String := "Chipcardhouse$Account"
def TX0 : u_T := fun k => match k with
  | 0 => ("Chipcardhouse$Account", "balance", "J", false)
  | 1 => ("Chipcardhouse$Account", "held", "J", false)
  | _ => ("Chipcardhouse$Account", "isFrozen", "Z", false)
def tyX0 : Nat → FieldType := fun k => match k with
  | 0 => .long
  | 1 => .long
  | _ => .boolean
theorem nmX0 : ∀ a, a < 3 → ∀ b, b < 3 → a ≠ b → (TX0 a).2.1 ≠ (TX0 b).2.1 := by decide +kernel
theorem tyX0_ok : ∀ k, k < 3 → parseFieldDescriptor (TX0 k).2.2.1 = some (tyX0 k) := by decide +kernel
abbrev cX0_init : ByteArray := prog_2_method_1_code
def yX0_init : MethodName := ⟨RX0, "<init>", "(I)V"⟩
def RX1 : String := "Chipcardhouse$Card"
def TX1 : u_T := fun k => match k with
  | 0 => ("Chipcardhouse$Card", "number", "I", true)
  | 1 => ("Chipcardhouse$Card", "account", "LChipcardhouse$Account;", true)
  | 2 => ("Chipcardhouse$Card", "pin", "I", true)
  | 3 => ("Chipcardhouse$Card", "key", "I", true)
  | 4 => ("Chipcardhouse$Card", "greatestCount", "I", false)
  | 5 => ("Chipcardhouse$Card", "greatestSum", "I", false)
  | 6 => ("Chipcardhouse$Card", "counter", "I", false)
  | 7 => ("Chipcardhouse$Card", "triesLeft", "I", false)
  | 8 => ("Chipcardhouse$Card", "touches", "I", false)
  | 9 => ("Chipcardhouse$Card", "count", "I", false)
  | 10 => ("Chipcardhouse$Card", "sum", "I", false)
  | 11 => ("Chipcardhouse$Card", "isDead", "Z", false)
  | 12 => ("Chipcardhouse$Card", "isStolen", "Z", false)
  | 13 => ("Chipcardhouse$Card", "toTell", "I", false)
  | 14 => ("Chipcardhouse$Card", "heardCount", "I", false)
  | 15 => ("Chipcardhouse$Card", "heardOf", "[I", true)
  | _ => ("Chipcardhouse$Card", "postedAs", "[I", true)
def tyX1 : Nat → FieldType := fun k => match k with
  | 0 => .int
  | 1 => .object "Chipcardhouse$Account"
  | 2 => .int
  | 3 => .int
  | 4 => .int
  | 5 => .int
  | 6 => .int
  | 7 => .int
  | 8 => .int
  | 9 => .int
  | 10 => .int
  | 11 => .boolean
  | 12 => .boolean
  | 13 => .int
  | 14 => .int
  | 15 => .array .int
  | _ => .array .int
theorem nmX1 : ∀ a, a < 17 → ∀ b, b < 17 → a ≠ b → (TX1 a).2.1 ≠ (TX1 b).2.1 := by decide +kernel
theorem tyX1_ok : ∀ k, k < 17 → parseFieldDescriptor (TX1 k).2.2.1 = some (tyX1 k) := by decide +kernel
abbrev cX1_init : ByteArray := prog_3_method_1_code
def yX1_init : MethodName := ⟨RX1, "<init>", "(ILChipcardhouse$Account;I)V"⟩
abbrev cX1_stamp : ByteArray := prog_3_method_2_code
def yX1_stamp : MethodName := ⟨RX1, "stamp", "(IIII)I"⟩
abbrev cX1_reasonAgainst : ByteArray := prog_3_method_3_code
def yX1_reasonAgainst : MethodName := ⟨RX1, "reasonAgainst", "(II)I"⟩
abbrev cX1_countUp : ByteArray := prog_3_method_4_code
def yX1_countUp : MethodName := ⟨RX1, "countUp", "(I)V"⟩
abbrev cX1_grantAlone : ByteArray := prog_3_method_5_code
def yX1_grantAlone : MethodName := ⟨RX1, "grantAlone", "(I)Z"⟩
abbrev cX1_beginAnew : ByteArray := prog_3_method_6_code
def yX1_beginAnew : MethodName := ⟨RX1, "beginAnew", "()V"⟩
abbrev cX1_doTold : ByteArray := prog_3_method_7_code
def yX1_doTold : MethodName := ⟨RX1, "doTold", "(I)V"⟩
abbrev cX1_wasHeardOfAnother : ByteArray := prog_3_method_8_code
def yX1_wasHeardOfAnother : MethodName := ⟨RX1, "wasHeardOfAnother", "(LChipcardhouse$Message;)Z"⟩
abbrev cX1_hearCounter : ByteArray := prog_3_method_9_code
def yX1_hearCounter : MethodName := ⟨RX1, "hearCounter", "(LChipcardhouse$Message;)V"⟩
abbrev cX1_postedWith : ByteArray := prog_3_method_10_code
def yX1_postedWith : MethodName := ⟨RX1, "postedWith", "(I)I"⟩
abbrev cX1_postWith : ByteArray := prog_3_method_11_code
def yX1_postWith : MethodName := ⟨RX1, "postWith", "(LChipcardhouse$Message;)V"⟩
def RX2 : String := "Chipcardhouse$Clock"
def TX2 : u_T := fun k => match k with
  | 0 => ("Chipcardhouse$Clock", "tick", "I", false)
  | 1 => ("Chipcardhouse$Clock", "day", "I", false)
  | _ => ("Chipcardhouse$Clock", "delay", "I", false)
def tyX2 : Nat → FieldType := fun k => match k with
  | 0 => .int
  | 1 => .int
  | _ => .int
theorem nmX2 : ∀ a, a < 3 → ∀ b, b < 3 → a ≠ b → (TX2 a).2.1 ≠ (TX2 b).2.1 := by decide +kernel
theorem tyX2_ok : ∀ k, k < 3 → parseFieldDescriptor (TX2 k).2.2.1 = some (tyX2 k) := by decide +kernel
abbrev cX2_init : ByteArray := prog_4_method_1_code
def yX2_init : MethodName := ⟨RX2, "<init>", "()V"⟩
def RX3 : String := "Chipcardhouse$Issuer"
def TX3 : u_T := fun k => match k with
  | 0 => ("Chipcardhouse$Issuer", "cards", "Ljava/util/ArrayList;", true)
  | 1 => ("Chipcardhouse$Issuer", "clock", "LChipcardhouse$Clock;", true)
  | 2 => ("Chipcardhouse$Issuer", "numbers", "[LChipcardhouse$Known;", true)
  | 3 => ("Chipcardhouse$Issuer", "postedCount", "I", false)
  | _ => ("Chipcardhouse$Issuer", "rejectedCount", "I", false)
def tyX3 : Nat → FieldType := fun k => match k with
  | 0 => .object "java/util/ArrayList"
  | 1 => .object "Chipcardhouse$Clock"
  | 2 => .array (.object "Chipcardhouse$Known")
  | 3 => .int
  | _ => .int
theorem nmX3 : ∀ a, a < 5 → ∀ b, b < 5 → a ≠ b → (TX3 a).2.1 ≠ (TX3 b).2.1 := by decide +kernel
theorem tyX3_ok : ∀ k, k < 5 → parseFieldDescriptor (TX3 k).2.2.1 = some (tyX3 k) := by decide +kernel
abbrev cX3_init : ByteArray := prog_5_method_1_code
def yX3_init : MethodName := ⟨RX3, "<init>", "(Ljava/util/ArrayList;LChipcardhouse$Clock;)V"⟩
abbrev cX3_find : ByteArray := prog_5_method_2_code
def yX3_find : MethodName := ⟨RX3, "find", "(I)LChipcardhouse$Known;"⟩
abbrev cX3_findOrMake : ByteArray := prog_5_method_3_code
def yX3_findOrMake : MethodName := ⟨RX3, "findOrMake", "(I)LChipcardhouse$Known;"⟩
abbrev cX3_findCard : ByteArray := prog_5_method_4_code
def yX3_findCard : MethodName := ⟨RX3, "findCard", "(I)LChipcardhouse$Card;"⟩
abbrev cX3_hasPosted : ByteArray := prog_5_method_5_code
def yX3_hasPosted : MethodName := ⟨RX3, "hasPosted", "(I)Z"⟩
abbrev cX3_hear : ByteArray := prog_5_method_6_code
def yX3_hear : MethodName := ⟨RX3, "hear", "(LChipcardhouse$Message;LChipcardhouse$Terminal;)V"⟩
abbrev cX3_answerTo : ByteArray := prog_5_method_7_code
def yX3_answerTo : MethodName := ⟨RX3, "answerTo", "(LChipcardhouse$Message;)LChipcardhouse$Message;"⟩
abbrev cX3_reasonAgainst : ByteArray := prog_5_method_8_code
def yX3_reasonAgainst : MethodName := ⟨RX3, "reasonAgainst", "(LChipcardhouse$Message;LChipcardhouse$Known;LChipcardhouse$Card;)I"⟩
abbrev cX3_hearNote : ByteArray := prog_5_method_9_code
def yX3_hearNote : MethodName := ⟨RX3, "hearNote", "(LChipcardhouse$Message;)V"⟩
abbrev cX3_hearRecord : ByteArray := prog_5_method_10_code
def yX3_hearRecord : MethodName := ⟨RX3, "hearRecord", "(LChipcardhouse$Message;LChipcardhouse$Known;LChipcardhouse$Terminal;)V"⟩
abbrev cX3_allStampsAreOfCards : ByteArray := prog_5_method_11_code
def yX3_allStampsAreOfCards : MethodName := ⟨RX3, "allStampsAreOfCards", "(Ljava/util/ArrayList;)Z"⟩
abbrev cX3_isStampOfOne : ByteArray := prog_5_method_12_code
def yX3_isStampOfOne : MethodName := ⟨RX3, "isStampOfOne", "(LChipcardhouse$Known;Ljava/util/ArrayList;)Z"⟩
abbrev cX3_eachCounterIsPostedOnce : ByteArray := prog_5_method_13_code
def yX3_eachCounterIsPostedOnce : MethodName := ⟨RX3, "eachCounterIsPostedOnce", "()Z"⟩
abbrev cX3_noSettledHasHold : ByteArray := prog_5_method_14_code
def yX3_noSettledHasHold : MethodName := ⟨RX3, "noSettledHasHold", "()Z"⟩
abbrev cX3_sumOfHolds : ByteArray := prog_5_method_15_code
def yX3_sumOfHolds : MethodName := ⟨RX3, "sumOfHolds", "(LChipcardhouse$Account;)J"⟩
def RX4 : String := "Chipcardhouse$Known"
def TX4 : u_T := fun k => match k with
  | 0 => ("Chipcardhouse$Known", "ask", "LChipcardhouse$Message;", false)
  | 1 => ("Chipcardhouse$Known", "answer", "LChipcardhouse$Message;", false)
  | 2 => ("Chipcardhouse$Known", "note", "LChipcardhouse$Message;", false)
  | 3 => ("Chipcardhouse$Known", "hold", "I", false)
  | 4 => ("Chipcardhouse$Known", "holder", "LChipcardhouse$Account;", false)
  | 5 => ("Chipcardhouse$Known", "isTakenBack", "Z", false)
  | 6 => ("Chipcardhouse$Known", "isRejected", "Z", false)
  | 7 => ("Chipcardhouse$Known", "isDisputed", "Z", false)
  | 8 => ("Chipcardhouse$Known", "record", "LChipcardhouse$Message;", false)
  | 9 => ("Chipcardhouse$Known", "payer", "LChipcardhouse$Account;", false)
  | 10 => ("Chipcardhouse$Known", "shop", "LChipcardhouse$Terminal;", false)
  | 11 => ("Chipcardhouse$Known", "left", "I", false)
  | _ => ("Chipcardhouse$Known", "day", "I", false)
def tyX4 : Nat → FieldType := fun k => match k with
  | 0 => .object "Chipcardhouse$Message"
  | 1 => .object "Chipcardhouse$Message"
  | 2 => .object "Chipcardhouse$Message"
  | 3 => .int
  | 4 => .object "Chipcardhouse$Account"
  | 5 => .boolean
  | 6 => .boolean
  | 7 => .boolean
  | 8 => .object "Chipcardhouse$Message"
  | 9 => .object "Chipcardhouse$Account"
  | 10 => .object "Chipcardhouse$Terminal"
  | 11 => .int
  | _ => .int
theorem nmX4 : ∀ a, a < 13 → ∀ b, b < 13 → a ≠ b → (TX4 a).2.1 ≠ (TX4 b).2.1 := by decide +kernel
theorem tyX4_ok : ∀ k, k < 13 → parseFieldDescriptor (TX4 k).2.2.1 = some (tyX4 k) := by decide +kernel
abbrev cX4_init : ByteArray := prog_6_method_1_code
def yX4_init : MethodName := ⟨RX4, "<init>", "()V"⟩
abbrev cX4_isPosted : ByteArray := prog_6_method_2_code
def yX4_isPosted : MethodName := ⟨RX4, "isPosted", "()Z"⟩
abbrev cX4_beHeld : ByteArray := prog_6_method_3_code
def yX4_beHeld : MethodName := ⟨RX4, "beHeld", "(ILChipcardhouse$Account;)V"⟩
abbrev cX4_endHold : ByteArray := prog_6_method_4_code
def yX4_endHold : MethodName := ⟨RX4, "endHold", "()V"⟩
abbrev cX4_takeBack : ByteArray := prog_6_method_5_code
def yX4_takeBack : MethodName := ⟨RX4, "takeBack", "()V"⟩
abbrev cX4_isGranted : ByteArray := prog_6_method_6_code
def yX4_isGranted : MethodName := ⟨RX4, "isGranted", "(LChipcardhouse$Message;)Z"⟩
abbrev cX4_hearBackMoney : ByteArray := prog_6_method_7_code
def yX4_hearBackMoney : MethodName := ⟨RX4, "hearBackMoney", "(ILChipcardhouse$Terminal;)V"⟩
abbrev cX4_giveBack : ByteArray := prog_6_method_8_code
def yX4_giveBack : MethodName := ⟨RX4, "giveBack", "(I)V"⟩
def RX5 : String := "Chipcardhouse$Line"
def TX5 : u_T := fun k => match k with
  | 0 => ("Chipcardhouse$Line", "clock", "LChipcardhouse$Clock;", true)
  | 1 => ("Chipcardhouse$Line", "faultsLeft", "[I", true)
  | 2 => ("Chipcardhouse$Line", "messages", "Ljava/util/ArrayList;", true)
  | _ => ("Chipcardhouse$Line", "count", "I", false)
def tyX5 : Nat → FieldType := fun k => match k with
  | 0 => .object "Chipcardhouse$Clock"
  | 1 => .array .int
  | 2 => .object "java/util/ArrayList"
  | _ => .int
theorem nmX5 : ∀ a, a < 4 → ∀ b, b < 4 → a ≠ b → (TX5 a).2.1 ≠ (TX5 b).2.1 := by decide +kernel
theorem tyX5_ok : ∀ k, k < 4 → parseFieldDescriptor (TX5 k).2.2.1 = some (tyX5 k) := by decide +kernel
abbrev cX5_init : ByteArray := prog_7_method_1_code
def yX5_init : MethodName := ⟨RX5, "<init>", "(LChipcardhouse$Clock;)V"⟩
abbrev cX5_put : ByteArray := prog_7_method_2_code
def yX5_put : MethodName := ⟨RX5, "put", "(LChipcardhouse$Message;)V"⟩
abbrev cX5_takeFault : ByteArray := prog_7_method_3_code
def yX5_takeFault : MethodName := ⟨RX5, "takeFault", "()I"⟩
abbrev cX5_dropCome : ByteArray := prog_7_method_4_code
def yX5_dropCome : MethodName := ⟨RX5, "dropCome", "()V"⟩
def RX6 : String := "Chipcardhouse$Message"
def TX6 : u_T := fun k => match k with
  | 0 => ("Chipcardhouse$Message", "sort", "I", false)
  | 1 => ("Chipcardhouse$Message", "payment", "I", false)
  | 2 => ("Chipcardhouse$Message", "card", "I", false)
  | 3 => ("Chipcardhouse$Message", "shop", "I", false)
  | 4 => ("Chipcardhouse$Message", "counter", "I", false)
  | 5 => ("Chipcardhouse$Message", "amount", "I", false)
  | 6 => ("Chipcardhouse$Message", "stamp", "I", false)
  | 7 => ("Chipcardhouse$Message", "by", "I", false)
  | 8 => ("Chipcardhouse$Message", "what", "I", false)
  | 9 => ("Chipcardhouse$Message", "reason", "I", false)
  | 10 => ("Chipcardhouse$Message", "told", "I", false)
  | 11 => ("Chipcardhouse$Message", "number", "I", false)
  | 12 => ("Chipcardhouse$Message", "comes", "I", false)
  | 13 => ("Chipcardhouse$Message", "latestPut", "I", false)
  | _ => ("Chipcardhouse$Message", "isForged", "Z", false)
def tyX6 : Nat → FieldType := fun k => match k with
  | 0 => .int
  | 1 => .int
  | 2 => .int
  | 3 => .int
  | 4 => .int
  | 5 => .int
  | 6 => .int
  | 7 => .int
  | 8 => .int
  | 9 => .int
  | 10 => .int
  | 11 => .int
  | 12 => .int
  | 13 => .int
  | _ => .boolean
theorem nmX6 : ∀ a, a < 15 → ∀ b, b < 15 → a ≠ b → (TX6 a).2.1 ≠ (TX6 b).2.1 := by decide +kernel
theorem tyX6_ok : ∀ k, k < 15 → parseFieldDescriptor (TX6 k).2.2.1 = some (tyX6 k) := by decide +kernel
abbrev cX6_init : ByteArray := prog_8_method_1_code
def yX6_init : MethodName := ⟨RX6, "<init>", "(II)V"⟩
abbrev cX6_becomeLike : ByteArray := prog_8_method_2_code
def yX6_becomeLike : MethodName := ⟨RX6, "becomeLike", "(LChipcardhouse$Message;)LChipcardhouse$Message;"⟩
def RX7 : String := "Chipcardhouse$Payment"
def TX7 : u_T := fun k => match k with
  | 0 => ("Chipcardhouse$Payment", "number", "I", true)
  | 1 => ("Chipcardhouse$Payment", "card", "LChipcardhouse$Card;", true)
  | 2 => ("Chipcardhouse$Payment", "shop", "LChipcardhouse$Terminal;", true)
  | 3 => ("Chipcardhouse$Payment", "amount", "I", true)
  | 4 => ("Chipcardhouse$Payment", "counter", "I", true)
  | 5 => ("Chipcardhouse$Payment", "stamp", "I", false)
  | 6 => ("Chipcardhouse$Payment", "tick", "I", false)
  | 7 => ("Chipcardhouse$Payment", "state", "I", false)
  | 8 => ("Chipcardhouse$Payment", "reason", "I", false)
  | 9 => ("Chipcardhouse$Payment", "grantedBy", "I", false)
  | 10 => ("Chipcardhouse$Payment", "isSent", "Z", false)
  | _ => ("Chipcardhouse$Payment", "isTouched", "Z", false)
def tyX7 : Nat → FieldType := fun k => match k with
  | 0 => .int
  | 1 => .object "Chipcardhouse$Card"
  | 2 => .object "Chipcardhouse$Terminal"
  | 3 => .int
  | 4 => .int
  | 5 => .int
  | 6 => .int
  | 7 => .int
  | 8 => .int
  | 9 => .int
  | 10 => .boolean
  | _ => .boolean
theorem nmX7 : ∀ a, a < 12 → ∀ b, b < 12 → a ≠ b → (TX7 a).2.1 ≠ (TX7 b).2.1 := by decide +kernel
theorem tyX7_ok : ∀ k, k < 12 → parseFieldDescriptor (TX7 k).2.2.1 = some (tyX7 k) := by decide +kernel
abbrev cX7_init : ByteArray := prog_9_method_1_code
def yX7_init : MethodName := ⟨RX7, "<init>", "(ILChipcardhouse$Card;LChipcardhouse$Terminal;I)V"⟩
abbrev cX7_bePaid : ByteArray := prog_9_method_2_code
def yX7_bePaid : MethodName := ⟨RX7, "bePaid", "()V"⟩
abbrev cX7_beAsking : ByteArray := prog_9_method_3_code
def yX7_beAsking : MethodName := ⟨RX7, "beAsking", "()V"⟩
abbrev cX7_isGood : ByteArray := prog_9_method_4_code
def yX7_isGood : MethodName := ⟨RX7, "isGood", "()Z"⟩
abbrev cX7_giveUp : ByteArray := prog_9_method_5_code
def yX7_giveUp : MethodName := ⟨RX7, "giveUp", "()V"⟩
abbrev cX7_hearAnswer : ByteArray := prog_9_method_6_code
def yX7_hearAnswer : MethodName := ⟨RX7, "hearAnswer", "(LChipcardhouse$Message;)V"⟩
abbrev cX7_ask : ByteArray := prog_9_method_7_code
def yX7_ask : MethodName := ⟨RX7, "ask", "()LChipcardhouse$Message;"⟩
abbrev cX7_record : ByteArray := prog_9_method_8_code
def yX7_record : MethodName := ⟨RX7, "record", "()LChipcardhouse$Message;"⟩
abbrev cX7_fill : ByteArray := prog_9_method_9_code
def yX7_fill : MethodName := ⟨RX7, "fill", "(LChipcardhouse$Message;)LChipcardhouse$Message;"⟩
def RX8 : String := "Chipcardhouse$Script"
def TX8 : u_T := fun k => match k with
  | 0 => ("Chipcardhouse$Script", "signs", "Ljava/lang/StringBuilder;", true)
  | 1 => ("Chipcardhouse$Script", "place", "I", false)
  | 2 => ("Chipcardhouse$Script", "command", "I", false)
  | _ => ("Chipcardhouse$Script", "numbers", "[I", true)
def tyX8 : Nat → FieldType := fun k => match k with
  | 0 => .object "java/lang/StringBuilder"
  | 1 => .int
  | 2 => .int
  | _ => .array .int
theorem nmX8 : ∀ a, a < 4 → ∀ b, b < 4 → a ≠ b → (TX8 a).2.1 ≠ (TX8 b).2.1 := by decide +kernel
theorem tyX8_ok : ∀ k, k < 4 → parseFieldDescriptor (TX8 k).2.2.1 = some (tyX8 k) := by decide +kernel
abbrev cX8_init : ByteArray := prog_10_method_1_code
def yX8_init : MethodName := ⟨RX8, "<init>", "()V"⟩
abbrev cX8_firstFault : ByteArray := prog_10_method_2_code
def yX8_firstFault : MethodName := ⟨RX8, "firstFault", "()I"⟩
abbrev cX8_isAtEnd : ByteArray := prog_10_method_3_code
def yX8_isAtEnd : MethodName := ⟨RX8, "isAtEnd", "()Z"⟩
abbrev cX8_readCommand : ByteArray := prog_10_method_4_code
def yX8_readCommand : MethodName := ⟨RX8, "readCommand", "()I"⟩
abbrev cX8_readNumber : ByteArray := prog_10_method_5_code
def yX8_readNumber : MethodName := ⟨RX8, "readNumber", "(I)I"⟩
abbrev cX8_readPin : ByteArray := prog_10_method_6_code
def yX8_readPin : MethodName := ⟨RX8, "readPin", "()I"⟩
abbrev cX8_readEnd : ByteArray := prog_10_method_7_code
def yX8_readEnd : MethodName := ⟨RX8, "readEnd", "()I"⟩
abbrev cX8_tokenFrom : ByteArray := prog_10_method_8_code
def yX8_tokenFrom : MethodName := ⟨RX8, "tokenFrom", "(I)I"⟩
abbrev cX8_rowFrom : ByteArray := prog_10_method_9_code
def yX8_rowFrom : MethodName := ⟨RX8, "rowFrom", "(ICC)I"⟩
abbrev cX8_isWord : ByteArray := prog_10_method_10_code
def yX8_isWord : MethodName := ⟨RX8, "isWord", "(IILjava/lang/String;)Z"⟩
abbrev cX8_commandOf : ByteArray := prog_10_method_11_code
def yX8_commandOf : MethodName := ⟨RX8, "commandOf", "(II)I"⟩
abbrev cX8_wordOf : ByteArray := prog_10_method_12_code
def yX8_wordOf : MethodName := ⟨RX8, "wordOf", "(I)Ljava/lang/String;"⟩
def RX9 : String := "Chipcardhouse$Switch"
def TX9 : u_T := fun k => match k with
  | 0 => ("Chipcardhouse$Switch", "notes", "Ljava/util/ArrayList;", true)
  | 1 => ("Chipcardhouse$Switch", "standIn", "I", false)
  | _ => ("Chipcardhouse$Switch", "isOpen", "Z", false)
def tyX9 : Nat → FieldType := fun k => match k with
  | 0 => .object "java/util/ArrayList"
  | 1 => .int
  | _ => .boolean
theorem nmX9 : ∀ a, a < 3 → ∀ b, b < 3 → a ≠ b → (TX9 a).2.1 ≠ (TX9 b).2.1 := by decide +kernel
theorem tyX9_ok : ∀ k, k < 3 → parseFieldDescriptor (TX9 k).2.2.1 = some (tyX9 k) := by decide +kernel
abbrev cX9_init : ByteArray := prog_11_method_1_code
def yX9_init : MethodName := ⟨RX9, "<init>", "()V"⟩
abbrev cX9_answerTo : ByteArray := prog_11_method_2_code
def yX9_answerTo : MethodName := ⟨RX9, "answerTo", "(LChipcardhouse$Message;)LChipcardhouse$Message;"⟩
abbrev cX9_grant : ByteArray := prog_11_method_3_code
def yX9_grant : MethodName := ⟨RX9, "grant", "(LChipcardhouse$Message;)Z"⟩
def RX10 : String := "Chipcardhouse$Terminal"
def TX10 : u_T := fun k => match k with
  | 0 => ("Chipcardhouse$Terminal", "number", "I", true)
  | 1 => ("Chipcardhouse$Terminal", "floor", "I", true)
  | 2 => ("Chipcardhouse$Terminal", "pick", "I", true)
  | 3 => ("Chipcardhouse$Terminal", "clock", "LChipcardhouse$Clock;", true)
  | 4 => ("Chipcardhouse$Terminal", "up", "LChipcardhouse$Line;", true)
  | 5 => ("Chipcardhouse$Terminal", "down", "LChipcardhouse$Line;", true)
  | 6 => ("Chipcardhouse$Terminal", "asking", "Ljava/util/ArrayList;", true)
  | 7 => ("Chipcardhouse$Terminal", "kept", "Ljava/util/ArrayList;", true)
  | 8 => ("Chipcardhouse$Terminal", "isBackHeard", "[Z", true)
  | 9 => ("Chipcardhouse$Terminal", "backCount", "I", false)
  | 10 => ("Chipcardhouse$Terminal", "paymentCount", "I", false)
  | 11 => ("Chipcardhouse$Terminal", "money", "J", false)
  | _ => ("Chipcardhouse$Terminal", "between", "J", false)
def tyX10 : Nat → FieldType := fun k => match k with
  | 0 => .int
  | 1 => .int
  | 2 => .int
  | 3 => .object "Chipcardhouse$Clock"
  | 4 => .object "Chipcardhouse$Line"
  | 5 => .object "Chipcardhouse$Line"
  | 6 => .object "java/util/ArrayList"
  | 7 => .object "java/util/ArrayList"
  | 8 => .array .boolean
  | 9 => .int
  | 10 => .int
  | 11 => .long
  | _ => .long
theorem nmX10 : ∀ a, a < 13 → ∀ b, b < 13 → a ≠ b → (TX10 a).2.1 ≠ (TX10 b).2.1 := by decide +kernel
theorem tyX10_ok : ∀ k, k < 13 → parseFieldDescriptor (TX10 k).2.2.1 = some (tyX10 k) := by decide +kernel
abbrev cX10_init : ByteArray := prog_12_method_1_code
def yX10_init : MethodName := ⟨RX10, "<init>", "(IIILChipcardhouse$Clock;)V"⟩
abbrev cX10_isFirstTime : ByteArray := prog_12_method_2_code
def yX10_isFirstTime : MethodName := ⟨RX10, "isFirstTime", "(I)Z"⟩
abbrev cX10_mustAsk : ByteArray := prog_12_method_3_code
def yX10_mustAsk : MethodName := ⟨RX10, "mustAsk", "(I)Z"⟩
abbrev cX10_sendAsk : ByteArray := prog_12_method_4_code
def yX10_sendAsk : MethodName := ⟨RX10, "sendAsk", "(LChipcardhouse$Payment;)V"⟩
abbrev cX10_sendAndKeep : ByteArray := prog_12_method_5_code
def yX10_sendAndKeep : MethodName := ⟨RX10, "sendAndKeep", "(LChipcardhouse$Message;)V"⟩
abbrev cX10_hearWhatComes : ByteArray := prog_12_method_6_code
def yX10_hearWhatComes : MethodName := ⟨RX10, "hearWhatComes", "()V"⟩
abbrev cX10_hearAnswer : ByteArray := prog_12_method_7_code
def yX10_hearAnswer : MethodName := ⟨RX10, "hearAnswer", "(LChipcardhouse$Message;)V"⟩
abbrev cX10_forget : ByteArray := prog_12_method_8_code
def yX10_forget : MethodName := ⟨RX10, "forget", "(LChipcardhouse$Message;)V"⟩
abbrev cX10_giveUpOldest : ByteArray := prog_12_method_9_code
def yX10_giveUpOldest : MethodName := ⟨RX10, "giveUpOldest", "()V"⟩
abbrev cX10_repeatKept : ByteArray := prog_12_method_10_code
def yX10_repeatKept : MethodName := ⟨RX10, "repeatKept", "()V"⟩
def RX11 : String := "Chipcardhouse"
def TX11 : u_T := fun k => match k with
  | 0 => ("Chipcardhouse", "script", "LChipcardhouse$Script;", true)
  | 1 => ("Chipcardhouse", "clock", "LChipcardhouse$Clock;", true)
  | 2 => ("Chipcardhouse", "accounts", "Ljava/util/ArrayList;", true)
  | 3 => ("Chipcardhouse", "shops", "Ljava/util/ArrayList;", true)
  | 4 => ("Chipcardhouse", "cards", "Ljava/util/ArrayList;", true)
  | 5 => ("Chipcardhouse", "payments", "Ljava/util/ArrayList;", true)
  | 6 => ("Chipcardhouse", "issuer", "LChipcardhouse$Issuer;", true)
  | 7 => ("Chipcardhouse", "exchange", "LChipcardhouse$Switch;", true)
  | 8 => ("Chipcardhouse", "fee", "I", false)
  | 9 => ("Chipcardhouse", "feeMoney", "J", false)
  | 10 => ("Chipcardhouse", "moneyPutIn", "J", false)
  | _ => ("Chipcardhouse", "thiefCopied", "Z", false)
def tyX11 : Nat → FieldType := fun k => match k with
  | 0 => .object "Chipcardhouse$Script"
  | 1 => .object "Chipcardhouse$Clock"
  | 2 => .object "java/util/ArrayList"
  | 3 => .object "java/util/ArrayList"
  | 4 => .object "java/util/ArrayList"
  | 5 => .object "java/util/ArrayList"
  | 6 => .object "Chipcardhouse$Issuer"
  | 7 => .object "Chipcardhouse$Switch"
  | 8 => .int
  | 9 => .long
  | 10 => .long
  | _ => .boolean
theorem nmX11 : ∀ a, a < 12 → ∀ b, b < 12 → a ≠ b → (TX11 a).2.1 ≠ (TX11 b).2.1 := by decide +kernel
theorem tyX11_ok : ∀ k, k < 12 → parseFieldDescriptor (TX11 k).2.2.1 = some (tyX11 k) := by decide +kernel
abbrev cX11_init : ByteArray := prog_1_method_1_code
def yX11_init : MethodName := ⟨RX11, "<init>", "()V"⟩
abbrev cX11_type : ByteArray := prog_1_method_2_code
def yX11_type : MethodName := ⟨RX11, "type", "(J)I"⟩
abbrev cX11_fault : ByteArray := prog_1_method_3_code
def yX11_fault : MethodName := ⟨RX11, "fault", "()I"⟩
abbrev cX11_play : ByteArray := prog_1_method_4_code
def yX11_play : MethodName := ⟨RX11, "play", "()I"⟩
abbrev cX11_refusalOfCommand : ByteArray := prog_1_method_5_code
def yX11_refusalOfCommand : MethodName := ⟨RX11, "refusalOfCommand", "(I[I)I"⟩
abbrev cX11_carryOut : ByteArray := prog_1_method_6_code
def yX11_carryOut : MethodName := ⟨RX11, "carryOut", "(I[I)V"⟩
abbrev cX11_account : ByteArray := prog_1_method_7_code
def yX11_account : MethodName := ⟨RX11, "account", "(I)I"⟩
abbrev cX11_refusalOfAccount : ByteArray := prog_1_method_8_code
def yX11_refusalOfAccount : MethodName := ⟨RX11, "refusalOfAccount", "(I)I"⟩
abbrev cX11_addAccount : ByteArray := prog_1_method_9_code
def yX11_addAccount : MethodName := ⟨RX11, "addAccount", "(I)I"⟩
abbrev cX11_shop : ByteArray := prog_1_method_10_code
def yX11_shop : MethodName := ⟨RX11, "shop", "(II)I"⟩
abbrev cX11_refusalOfShop : ByteArray := prog_1_method_11_code
def yX11_refusalOfShop : MethodName := ⟨RX11, "refusalOfShop", "(II)I"⟩
abbrev cX11_addShop : ByteArray := prog_1_method_12_code
def yX11_addShop : MethodName := ⟨RX11, "addShop", "(II)I"⟩
abbrev cX11_card : ByteArray := prog_1_method_13_code
def yX11_card : MethodName := ⟨RX11, "card", "(IIII)I"⟩
abbrev cX11_refusalOfCard : ByteArray := prog_1_method_14_code
def yX11_refusalOfCard : MethodName := ⟨RX11, "refusalOfCard", "(IIII)I"⟩
abbrev cX11_addCard : ByteArray := prog_1_method_15_code
def yX11_addCard : MethodName := ⟨RX11, "addCard", "(IIII)I"⟩
abbrev cX11_setHouse : ByteArray := prog_1_method_16_code
def yX11_setHouse : MethodName := ⟨RX11, "setHouse", "(III)I"⟩
abbrev cX11_refusalOfHouse : ByteArray := prog_1_method_17_code
def yX11_refusalOfHouse : MethodName := ⟨RX11, "refusalOfHouse", "(III)I"⟩
abbrev cX11_changeHouse : ByteArray := prog_1_method_18_code
def yX11_changeHouse : MethodName := ⟨RX11, "changeHouse", "(III)I"⟩
abbrev cX11_pay : ByteArray := prog_1_method_19_code
def yX11_pay : MethodName := ⟨RX11, "pay", "(IIII)I"⟩
abbrev cX11_refusalOfPay : ByteArray := prog_1_method_20_code
def yX11_refusalOfPay : MethodName := ⟨RX11, "refusalOfPay", "(IIII)I"⟩
abbrev cX11_payAt : ByteArray := prog_1_method_21_code
def yX11_payAt : MethodName := ⟨RX11, "payAt", "(IIII)I"⟩
abbrev cX11_sends : ByteArray := prog_1_method_22_code
def yX11_sends : MethodName := ⟨RX11, "sends", "(I)I"⟩
abbrev cX11_sendBatch : ByteArray := prog_1_method_23_code
def yX11_sendBatch : MethodName := ⟨RX11, "sendBatch", "(I)I"⟩
abbrev cX11_backMoney : ByteArray := prog_1_method_24_code
def yX11_backMoney : MethodName := ⟨RX11, "backMoney", "(III)I"⟩
abbrev cX11_refusalOfBack : ByteArray := prog_1_method_25_code
def yX11_refusalOfBack : MethodName := ⟨RX11, "refusalOfBack", "(III)I"⟩
abbrev cX11_sendBack : ByteArray := prog_1_method_26_code
def yX11_sendBack : MethodName := ⟨RX11, "sendBack", "(III)I"⟩
abbrev cX11_forge : ByteArray := prog_1_method_27_code
def yX11_forge : MethodName := ⟨RX11, "forge", "(III)I"⟩
abbrev cX11_refusalOfForging : ByteArray := prog_1_method_28_code
def yX11_refusalOfForging : MethodName := ⟨RX11, "refusalOfForging", "(III)I"⟩
abbrev cX11_passes : ByteArray := prog_1_method_29_code
def yX11_passes : MethodName := ⟨RX11, "passes", "(I)I"⟩
abbrev cX11_refusalOfTicks : ByteArray := prog_1_method_30_code
def yX11_refusalOfTicks : MethodName := ⟨RX11, "refusalOfTicks", "(I)I"⟩
abbrev cX11_letTicksPass : ByteArray := prog_1_method_31_code
def yX11_letTicksPass : MethodName := ⟨RX11, "letTicksPass", "(I)I"⟩
abbrev cX11_bringUp : ByteArray := prog_1_method_32_code
def yX11_bringUp : MethodName := ⟨RX11, "bringUp", "(LChipcardhouse$Terminal;)V"⟩
abbrev cX11_faults : ByteArray := prog_1_method_33_code
def yX11_faults : MethodName := ⟨RX11, "faults", "(IIII)I"⟩
abbrev cX11_refusalOfFaults : ByteArray := prog_1_method_34_code
def yX11_refusalOfFaults : MethodName := ⟨RX11, "refusalOfFaults", "(IIII)I"⟩
abbrev cX11_addFaults : ByteArray := prog_1_method_35_code
def yX11_addFaults : MethodName := ⟨RX11, "addFaults", "(IIII)I"⟩
abbrev cX11_setOpen : ByteArray := prog_1_method_36_code
def yX11_setOpen : MethodName := ⟨RX11, "setOpen", "(Z)I"⟩
abbrev cX11_openOrClose : ByteArray := prog_1_method_37_code
def yX11_openOrClose : MethodName := ⟨RX11, "openOrClose", "(Z)I"⟩
abbrev cX11_tells : ByteArray := prog_1_method_38_code
def yX11_tells : MethodName := ⟨RX11, "tells", "(II)I"⟩
abbrev cX11_refusalOfTelling : ByteArray := prog_1_method_39_code
def yX11_refusalOfTelling : MethodName := ⟨RX11, "refusalOfTelling", "(II)I"⟩
abbrev cX11_tellCard : ByteArray := prog_1_method_40_code
def yX11_tellCard : MethodName := ⟨RX11, "tellCard", "(II)I"⟩
abbrev cX11_stolen : ByteArray := prog_1_method_41_code
def yX11_stolen : MethodName := ⟨RX11, "stolen", "(I)Z"⟩
abbrev cX11_reportStolen : ByteArray := prog_1_method_42_code
def yX11_reportStolen : MethodName := ⟨RX11, "reportStolen", "(I)Z"⟩
abbrev cX11_freeze : ByteArray := prog_1_method_43_code
def yX11_freeze : MethodName := ⟨RX11, "freeze", "(IZ)Z"⟩
abbrev cX11_setFrozen : ByteArray := prog_1_method_44_code
def yX11_setFrozen : MethodName := ⟨RX11, "setFrozen", "(IZ)Z"⟩
abbrev cX11_dispute : ByteArray := prog_1_method_45_code
def yX11_dispute : MethodName := ⟨RX11, "dispute", "(I)I"⟩
abbrev cX11_refusalOfDispute : ByteArray := prog_1_method_46_code
def yX11_refusalOfDispute : MethodName := ⟨RX11, "refusalOfDispute", "(I)I"⟩
abbrev cX11_giveDisputedBack : ByteArray := prog_1_method_47_code
def yX11_giveDisputedBack : MethodName := ⟨RX11, "giveDisputedBack", "(I)I"⟩
abbrev cX11_endDay : ByteArray := prog_1_method_48_code
def yX11_endDay : MethodName := ⟨RX11, "endDay", "()I"⟩
abbrev cX11_settleDay : ByteArray := prog_1_method_49_code
def yX11_settleDay : MethodName := ⟨RX11, "settleDay", "()I"⟩
abbrev cX11_cardAt : ByteArray := prog_1_method_50_code
def yX11_cardAt : MethodName := ⟨RX11, "cardAt", "(II)I"⟩
abbrev cX11_paymentAt : ByteArray := prog_1_method_51_code
def yX11_paymentAt : MethodName := ⟨RX11, "paymentAt", "(II)I"⟩
abbrev cX11_knows : ByteArray := prog_1_method_52_code
def yX11_knows : MethodName := ⟨RX11, "knows", "(II)I"⟩
abbrev cX11_accountAt : ByteArray := prog_1_method_53_code
def yX11_accountAt : MethodName := ⟨RX11, "accountAt", "(II)J"⟩
abbrev cX11_shopAt : ByteArray := prog_1_method_54_code
def yX11_shopAt : MethodName := ⟨RX11, "shopAt", "(II)J"⟩
abbrev cX11_count : ByteArray := prog_1_method_55_code
def yX11_count : MethodName := ⟨RX11, "count", "(I)I"⟩
abbrev cX11_fees : ByteArray := prog_1_method_56_code
def yX11_fees : MethodName := ⟨RX11, "fees", "()J"⟩
abbrev cX11_meanPayment : ByteArray := prog_1_method_57_code
def yX11_meanPayment : MethodName := ⟨RX11, "meanPayment", "(I)D"⟩
abbrev cX11_grantedShare : ByteArray := prog_1_method_58_code
def yX11_grantedShare : MethodName := ⟨RX11, "grantedShare", "()F"⟩
abbrev cX11_checksum : ByteArray := prog_1_method_59_code
def yX11_checksum : MethodName := ⟨RX11, "checksum", "()J"⟩
abbrev cX11_errors : ByteArray := prog_1_method_60_code
def yX11_errors : MethodName := ⟨RX11, "errors", "()I"⟩
abbrev cX11_allPostedAreGood : ByteArray := prog_1_method_61_code
def yX11_allPostedAreGood : MethodName := ⟨RX11, "allPostedAreGood", "()Z"⟩
abbrev cX11_allHoldsAreSummed : ByteArray := prog_1_method_62_code
def yX11_allHoldsAreSummed : MethodName := ⟨RX11, "allHoldsAreSummed", "()Z"⟩
abbrev cX11_allMoney : ByteArray := prog_1_method_63_code
def yX11_allMoney : MethodName := ⟨RX11, "allMoney", "()J"⟩
abbrev cX11_isWithin : ByteArray := prog_1_method_64_code
def yX11_isWithin : MethodName := ⟨RX11, "isWithin", "(III)Z"⟩
abbrev cX11_refusalOfNumber : ByteArray := prog_1_method_65_code
def yX11_refusalOfNumber : MethodName := ⟨RX11, "refusalOfNumber", "(II)I"⟩
abbrev cX11_refusalOfQuestion : ByteArray := prog_1_method_66_code
def yX11_refusalOfQuestion : MethodName := ⟨RX11, "refusalOfQuestion", "(IIII)I"⟩
abbrev cX11_raise : ByteArray := prog_1_method_67_code
def yX11_raise : MethodName := ⟨RX11, "raise", "(I)V"⟩
def RX12 : String := "ChipcardhouseModel$Bank"
def TX12 : u_T := fun k => match k with
  | 0 => ("ChipcardhouseModel$Bank", "balances", "[J", true)
  | 1 => ("ChipcardhouseModel$Bank", "holds", "[J", true)
  | 2 => ("ChipcardhouseModel$Bank", "money", "[J", true)
  | 3 => ("ChipcardhouseModel$Bank", "between", "[J", true)
  | 4 => ("ChipcardhouseModel$Bank", "isFrozen", "[Z", true)
  | 5 => ("ChipcardhouseModel$Bank", "accounts", "I", false)
  | 6 => ("ChipcardhouseModel$Bank", "shops", "I", false)
  | 7 => ("ChipcardhouseModel$Bank", "fees", "J", false)
  | _ => ("ChipcardhouseModel$Bank", "put", "J", false)
def tyX12 : Nat → FieldType := fun k => match k with
  | 0 => .array .long
  | 1 => .array .long
  | 2 => .array .long
  | 3 => .array .long
  | 4 => .array .boolean
  | 5 => .int
  | 6 => .int
  | 7 => .long
  | _ => .long
theorem nmX12 : ∀ a, a < 9 → ∀ b, b < 9 → a ≠ b → (TX12 a).2.1 ≠ (TX12 b).2.1 := by decide +kernel
theorem tyX12_ok : ∀ k, k < 9 → parseFieldDescriptor (TX12 k).2.2.1 = some (tyX12 k) := by decide +kernel
abbrev cX12_init : ByteArray := prog_15_method_1_code
def yX12_init : MethodName := ⟨RX12, "<init>", "()V"⟩
abbrev cX12_balance : ByteArray := prog_15_method_2_code
def yX12_balance : MethodName := ⟨RX12, "balance", "(I)J"⟩
abbrev cX12_held : ByteArray := prog_15_method_3_code
def yX12_held : MethodName := ⟨RX12, "held", "(I)J"⟩
abbrev cX12_isFrozen : ByteArray := prog_15_method_4_code
def yX12_isFrozen : MethodName := ⟨RX12, "isFrozen", "(I)Z"⟩
abbrev cX12_holds : ByteArray := prog_15_method_5_code
def yX12_holds : MethodName := ⟨RX12, "holds", "(II)V"⟩
abbrev cX12_frees : ByteArray := prog_15_method_6_code
def yX12_frees : MethodName := ⟨RX12, "frees", "(II)V"⟩
abbrev cX12_posts : ByteArray := prog_15_method_7_code
def yX12_posts : MethodName := ⟨RX12, "posts", "(III)V"⟩
abbrev cX12_givesBack : ByteArray := prog_15_method_8_code
def yX12_givesBack : MethodName := ⟨RX12, "givesBack", "(III)V"⟩
abbrev cX12_settles : ByteArray := prog_15_method_9_code
def yX12_settles : MethodName := ⟨RX12, "settles", "(I)V"⟩
abbrev cX12_isAllThere : ByteArray := prog_15_method_10_code
def yX12_isAllThere : MethodName := ⟨RX12, "isAllThere", "()Z"⟩
def RX13 : String := "ChipcardhouseModel$Cable"
def TX13 : u_T := fun k => match k with
  | 0 => ("ChipcardhouseModel$Cable", "faults", "[I", true)
  | 1 => ("ChipcardhouseModel$Cable", "many", "I", false)
  | 2 => ("ChipcardhouseModel$Cable", "dues", "[I", false)
  | _ => ("ChipcardhouseModel$Cable", "mails", "[LChipcardhouseModel$Mail;", false)
def tyX13 : Nat → FieldType := fun k => match k with
  | 0 => .array .int
  | 1 => .int
  | 2 => .array .int
  | _ => .array (.object "ChipcardhouseModel$Mail")
theorem nmX13 : ∀ a, a < 4 → ∀ b, b < 4 → a ≠ b → (TX13 a).2.1 ≠ (TX13 b).2.1 := by decide +kernel
theorem tyX13_ok : ∀ k, k < 4 → parseFieldDescriptor (TX13 k).2.2.1 = some (tyX13 k) := by decide +kernel
abbrev cX13_init : ByteArray := prog_16_method_1_code
def yX13_init : MethodName := ⟨RX13, "<init>", "()V"⟩
abbrev cX13_lays : ByteArray := prog_16_method_2_code
def yX13_lays : MethodName := ⟨RX13, "lays", "(ILChipcardhouseModel$Mail;)V"⟩
abbrev cX13_puts : ByteArray := prog_16_method_3_code
def yX13_puts : MethodName := ⟨RX13, "puts", "(IILChipcardhouseModel$Mail;)V"⟩
abbrev cX13_takes : ByteArray := prog_16_method_4_code
def yX13_takes : MethodName := ⟨RX13, "takes", "(I)LChipcardhouseModel$Mail;"⟩
def RX14 : String := "ChipcardhouseModel$Issuer"
def TX14 : u_T := fun k => match k with
  | 0 => ("ChipcardhouseModel$Issuer", "tills", "LChipcardhouseModel$Tills;", true)
  | 1 => ("ChipcardhouseModel$Issuer", "bank", "LChipcardhouseModel$Bank;", true)
  | 2 => ("ChipcardhouseModel$Issuer", "known", "[LChipcardhouseModel$Known;", true)
  | 3 => ("ChipcardhouseModel$Issuer", "heardCard", "[I", true)
  | 4 => ("ChipcardhouseModel$Issuer", "heardCounter", "[I", true)
  | 5 => ("ChipcardhouseModel$Issuer", "heardBy", "[I", true)
  | 6 => ("ChipcardhouseModel$Issuer", "heards", "I", false)
  | 7 => ("ChipcardhouseModel$Issuer", "toTell", "[I", true)
  | 8 => ("ChipcardhouseModel$Issuer", "isStolen", "[Z", true)
  | 9 => ("ChipcardhouseModel$Issuer", "isReturned", "[[Z", true)
  | 10 => ("ChipcardhouseModel$Issuer", "thrown", "I", false)
  | 11 => ("ChipcardhouseModel$Issuer", "day", "I", false)
  | 12 => ("ChipcardhouseModel$Issuer", "posted", "I", false)
  | 13 => ("ChipcardhouseModel$Issuer", "rejected", "I", false)
  | 14 => ("ChipcardhouseModel$Issuer", "isGranted", "Z", false)
  | 15 => ("ChipcardhouseModel$Issuer", "reason", "I", false)
  | 16 => ("ChipcardhouseModel$Issuer", "stamp", "I", false)
  | _ => ("ChipcardhouseModel$Issuer", "told", "I", false)
def tyX14 : Nat → FieldType := fun k => match k with
  | 0 => .object "ChipcardhouseModel$Tills"
  | 1 => .object "ChipcardhouseModel$Bank"
  | 2 => .array (.object "ChipcardhouseModel$Known")
  | 3 => .array .int
  | 4 => .array .int
  | 5 => .array .int
  | 6 => .int
  | 7 => .array .int
  | 8 => .array .boolean
  | 9 => .array (.array .boolean)
  | 10 => .int
  | 11 => .int
  | 12 => .int
  | 13 => .int
  | 14 => .boolean
  | 15 => .int
  | 16 => .int
  | _ => .int
theorem nmX14 : ∀ a, a < 18 → ∀ b, b < 18 → a ≠ b → (TX14 a).2.1 ≠ (TX14 b).2.1 := by decide +kernel
theorem tyX14_ok : ∀ k, k < 18 → parseFieldDescriptor (TX14 k).2.2.1 = some (tyX14 k) := by decide +kernel
abbrev cX14_init : ByteArray := prog_17_method_1_code
def yX14_init : MethodName := ⟨RX14, "<init>", "(LChipcardhouseModel$Tills;LChipcardhouseModel$Bank;)V"⟩
abbrev cX14_at : ByteArray := prog_17_method_2_code
def yX14_at : MethodName := ⟨RX14, "at", "(I)LChipcardhouseModel$Known;"⟩
abbrev cX14_isCard : ByteArray := prog_17_method_3_code
def yX14_isCard : MethodName := ⟨RX14, "isCard", "(I)Z"⟩
abbrev cX14_isStamp : ByteArray := prog_17_method_4_code
def yX14_isStamp : MethodName := ⟨RX14, "isStamp", "(IIIIII)Z"⟩
abbrev cX14_heardAt : ByteArray := prog_17_method_5_code
def yX14_heardAt : MethodName := ⟨RX14, "heardAt", "(II)I"⟩
abbrev cX14_isHeardOfOther : ByteArray := prog_17_method_6_code
def yX14_isHeardOfOther : MethodName := ⟨RX14, "isHeardOfOther", "(III)Z"⟩
abbrev cX14_hear : ByteArray := prog_17_method_7_code
def yX14_hear : MethodName := ⟨RX14, "hear", "(III)V"⟩
abbrev cX14_heard : ByteArray := prog_17_method_8_code
def yX14_heard : MethodName := ⟨RX14, "heard", "(I)I"⟩
abbrev cX14_hold : ByteArray := prog_17_method_9_code
def yX14_hold : MethodName := ⟨RX14, "hold", "(LChipcardhouseModel$Known;II)V"⟩
abbrev cX14_free : ByteArray := prog_17_method_10_code
def yX14_free : MethodName := ⟨RX14, "free", "(LChipcardhouseModel$Known;)V"⟩
abbrev cX14_asks : ByteArray := prog_17_method_11_code
def yX14_asks : MethodName := ⟨RX14, "asks", "(IIIIII)V"⟩
abbrev cX14_judge : ByteArray := prog_17_method_12_code
def yX14_judge : MethodName := ⟨RX14, "judge", "(LChipcardhouseModel$Known;IIIIII)I"⟩
abbrev cX14_note : ByteArray := prog_17_method_13_code
def yX14_note : MethodName := ⟨RX14, "note", "(IIIIII)V"⟩
abbrev cX14_takesBack : ByteArray := prog_17_method_14_code
def yX14_takesBack : MethodName := ⟨RX14, "takesBack", "(I)V"⟩
abbrev cX14_records : ByteArray := prog_17_method_15_code
def yX14_records : MethodName := ⟨RX14, "records", "(IIIIIII)V"⟩
abbrev cX14_isPostedByOther : ByteArray := prog_17_method_16_code
def yX14_isPostedByOther : MethodName := ⟨RX14, "isPostedByOther", "(II)Z"⟩
abbrev cX14_post : ByteArray := prog_17_method_17_code
def yX14_post : MethodName := ⟨RX14, "post", "(LChipcardhouseModel$Known;IIII)V"⟩
abbrev cX14_backMoney : ByteArray := prog_17_method_18_code
def yX14_backMoney : MethodName := ⟨RX14, "backMoney", "(IIII)V"⟩
abbrev cX14_tells : ByteArray := prog_17_method_19_code
def yX14_tells : MethodName := ⟨RX14, "tells", "(II)I"⟩
abbrev cX14_stolen : ByteArray := prog_17_method_20_code
def yX14_stolen : MethodName := ⟨RX14, "stolen", "(I)Z"⟩
abbrev cX14_knows : ByteArray := prog_17_method_21_code
def yX14_knows : MethodName := ⟨RX14, "knows", "(II)I"⟩
abbrev cX14_dispute : ByteArray := prog_17_method_22_code
def yX14_dispute : MethodName := ⟨RX14, "dispute", "(I)I"⟩
abbrev cX14_isPosted : ByteArray := prog_17_method_23_code
def yX14_isPosted : MethodName := ⟨RX14, "isPosted", "(I)Z"⟩
abbrev cX14_isStamped : ByteArray := prog_17_method_24_code
def yX14_isStamped : MethodName := ⟨RX14, "isStamped", "()Z"⟩
abbrev cX14_isMade : ByteArray := prog_17_method_25_code
def yX14_isMade : MethodName := ⟨RX14, "isMade", "(LChipcardhouseModel$Known;)Z"⟩
abbrev cX14_isOnce : ByteArray := prog_17_method_26_code
def yX14_isOnce : MethodName := ⟨RX14, "isOnce", "()Z"⟩
abbrev cX14_isHeldRight : ByteArray := prog_17_method_27_code
def yX14_isHeldRight : MethodName := ⟨RX14, "isHeldRight", "()Z"⟩
abbrev cX14_isFreeOfHolds : ByteArray := prog_17_method_28_code
def yX14_isFreeOfHolds : MethodName := ⟨RX14, "isFreeOfHolds", "()Z"⟩
def RX15 : String := "ChipcardhouseModel$Known"
def TX15 : u_T := fun k => match k with
  | 0 => ("ChipcardhouseModel$Known", "answer", "I", false)
  | 1 => ("ChipcardhouseModel$Known", "reason", "I", false)
  | 2 => ("ChipcardhouseModel$Known", "stamp", "I", false)
  | 3 => ("ChipcardhouseModel$Known", "told", "I", false)
  | 4 => ("ChipcardhouseModel$Known", "asked", "[I", true)
  | 5 => ("ChipcardhouseModel$Known", "noted", "[I", true)
  | 6 => ("ChipcardhouseModel$Known", "posted", "[I", true)
  | 7 => ("ChipcardhouseModel$Known", "hasNote", "Z", false)
  | 8 => ("ChipcardhouseModel$Known", "isPosted", "Z", false)
  | 9 => ("ChipcardhouseModel$Known", "isTakenBack", "Z", false)
  | 10 => ("ChipcardhouseModel$Known", "isRejected", "Z", false)
  | 11 => ("ChipcardhouseModel$Known", "isDisputed", "Z", false)
  | 12 => ("ChipcardhouseModel$Known", "hold", "I", false)
  | 13 => ("ChipcardhouseModel$Known", "holder", "I", false)
  | 14 => ("ChipcardhouseModel$Known", "shop", "I", false)
  | 15 => ("ChipcardhouseModel$Known", "day", "I", false)
  | _ => ("ChipcardhouseModel$Known", "left", "I", false)
def tyX15 : Nat → FieldType := fun k => match k with
  | 0 => .int
  | 1 => .int
  | 2 => .int
  | 3 => .int
  | 4 => .array .int
  | 5 => .array .int
  | 6 => .array .int
  | 7 => .boolean
  | 8 => .boolean
  | 9 => .boolean
  | 10 => .boolean
  | 11 => .boolean
  | 12 => .int
  | 13 => .int
  | 14 => .int
  | 15 => .int
  | _ => .int
theorem nmX15 : ∀ a, a < 17 → ∀ b, b < 17 → a ≠ b → (TX15 a).2.1 ≠ (TX15 b).2.1 := by decide +kernel
theorem tyX15_ok : ∀ k, k < 17 → parseFieldDescriptor (TX15 k).2.2.1 = some (tyX15 k) := by decide +kernel
abbrev cX15_init : ByteArray := prog_18_method_1_code
def yX15_init : MethodName := ⟨RX15, "<init>", "()V"⟩
abbrev cX15_lay : ByteArray := prog_18_method_2_code
def yX15_lay : MethodName := ⟨RX15, "lay", "([IIII)V"⟩
abbrev cX15_isLike : ByteArray := prog_18_method_3_code
def yX15_isLike : MethodName := ⟨RX15, "isLike", "([IIII)Z"⟩
def RX16 : String := "ChipcardhouseModel$Lines"
def TX16 : u_T := fun k => match k with
  | 0 => ("ChipcardhouseModel$Lines", "thrown", "I", false)
  | 1 => ("ChipcardhouseModel$Lines", "tick", "I", false)
  | 2 => ("ChipcardhouseModel$Lines", "delay", "I", false)
  | 3 => ("ChipcardhouseModel$Lines", "standIn", "I", false)
  | 4 => ("ChipcardhouseModel$Lines", "notes", "I", false)
  | 5 => ("ChipcardhouseModel$Lines", "isOpen", "Z", false)
  | 6 => ("ChipcardhouseModel$Lines", "isForged", "Z", false)
  | 7 => ("ChipcardhouseModel$Lines", "tills", "LChipcardhouseModel$Tills;", true)
  | 8 => ("ChipcardhouseModel$Lines", "issuer", "LChipcardhouseModel$Issuer;", true)
  | 9 => ("ChipcardhouseModel$Lines", "shops", "I", false)
  | 10 => ("ChipcardhouseModel$Lines", "cables", "[LChipcardhouseModel$Cable;", true)
  | 11 => ("ChipcardhouseModel$Lines", "kept", "[LChipcardhouseModel$Mail;", true)
  | 12 => ("ChipcardhouseModel$Lines", "putAt", "[I", true)
  | 13 => ("ChipcardhouseModel$Lines", "keptMany", "[I", true)
  | 14 => ("ChipcardhouseModel$Lines", "backs", "[I", true)
  | 15 => ("ChipcardhouseModel$Lines", "areSent", "[Z", true)
  | 16 => ("ChipcardhouseModel$Lines", "noted", "[LChipcardhouseModel$Mail;", true)
  | 17 => ("ChipcardhouseModel$Lines", "notedShop", "[I", true)
  | _ => ("ChipcardhouseModel$Lines", "grantedOf", "[I", true)
def tyX16 : Nat → FieldType := fun k => match k with
  | 0 => .int
  | 1 => .int
  | 2 => .int
  | 3 => .int
  | 4 => .int
  | 5 => .boolean
  | 6 => .boolean
  | 7 => .object "ChipcardhouseModel$Tills"
  | 8 => .object "ChipcardhouseModel$Issuer"
  | 9 => .int
  | 10 => .array (.object "ChipcardhouseModel$Cable")
  | 11 => .array (.object "ChipcardhouseModel$Mail")
  | 12 => .array .int
  | 13 => .array .int
  | 14 => .array .int
  | 15 => .array .boolean
  | 16 => .array (.object "ChipcardhouseModel$Mail")
  | 17 => .array .int
  | _ => .array .int
theorem nmX16 : ∀ a, a < 19 → ∀ b, b < 19 → a ≠ b → (TX16 a).2.1 ≠ (TX16 b).2.1 := by decide +kernel
theorem tyX16_ok : ∀ k, k < 19 → parseFieldDescriptor (TX16 k).2.2.1 = some (tyX16 k) := by decide +kernel
abbrev cX16_init : ByteArray := prog_19_method_1_code
def yX16_init : MethodName := ⟨RX16, "<init>", "(LChipcardhouseModel$Tills;LChipcardhouseModel$Issuer;)V"⟩
abbrev cX16_can : ByteArray := prog_19_method_2_code
def yX16_can : MethodName := ⟨RX16, "can", "(ZI)Z"⟩
abbrev cX16_shop : ByteArray := prog_19_method_3_code
def yX16_shop : MethodName := ⟨RX16, "shop", "()V"⟩
abbrev cX16_isShop : ByteArray := prog_19_method_4_code
def yX16_isShop : MethodName := ⟨RX16, "isShop", "(I)Z"⟩
abbrev cX16_isPayment : ByteArray := prog_19_method_5_code
def yX16_isPayment : MethodName := ⟨RX16, "isPayment", "(I)Z"⟩
abbrev cX16_up : ByteArray := prog_19_method_6_code
def yX16_up : MethodName := ⟨RX16, "up", "(ILChipcardhouseModel$Mail;)V"⟩
abbrev cX16_down : ByteArray := prog_19_method_7_code
def yX16_down : MethodName := ⟨RX16, "down", "(ILChipcardhouseModel$Mail;)V"⟩
abbrev cX16_keeps : ByteArray := prog_19_method_8_code
def yX16_keeps : MethodName := ⟨RX16, "keeps", "(ILChipcardhouseModel$Mail;)V"⟩
abbrev cX16_asks : ByteArray := prog_19_method_9_code
def yX16_asks : MethodName := ⟨RX16, "asks", "(IIIIII)V"⟩
abbrev cX16_takesBack : ByteArray := prog_19_method_10_code
def yX16_takesBack : MethodName := ⟨RX16, "takesBack", "(II)V"⟩
abbrev cX16_told : ByteArray := prog_19_method_11_code
def yX16_told : MethodName := ⟨RX16, "told", "(IIIIII)LChipcardhouseModel$Mail;"⟩
abbrev cX16_record : ByteArray := prog_19_method_12_code
def yX16_record : MethodName := ⟨RX16, "record", "(III)LChipcardhouseModel$Mail;"⟩
abbrev cX16_sends : ByteArray := prog_19_method_13_code
def yX16_sends : MethodName := ⟨RX16, "sends", "(I)I"⟩
abbrev cX16_backMoney : ByteArray := prog_19_method_14_code
def yX16_backMoney : MethodName := ⟨RX16, "backMoney", "(III)I"⟩
abbrev cX16_forge : ByteArray := prog_19_method_15_code
def yX16_forge : MethodName := ⟨RX16, "forge", "(III)I"⟩
abbrev cX16_faults : ByteArray := prog_19_method_16_code
def yX16_faults : MethodName := ⟨RX16, "faults", "(IIII)I"⟩
abbrev cX16_setOpen : ByteArray := prog_19_method_17_code
def yX16_setOpen : MethodName := ⟨RX16, "setOpen", "(Z)I"⟩
abbrev cX16_comes : ByteArray := prog_19_method_18_code
def yX16_comes : MethodName := ⟨RX16, "comes", "()V"⟩
abbrev cX16_hears : ByteArray := prog_19_method_19_code
def yX16_hears : MethodName := ⟨RX16, "hears", "(ILChipcardhouseModel$Mail;)V"⟩
abbrev cX16_isNoted : ByteArray := prog_19_method_20_code
def yX16_isNoted : MethodName := ⟨RX16, "isNoted", "(I)Z"⟩
abbrev cX16_standsIn : ByteArray := prog_19_method_21_code
def yX16_standsIn : MethodName := ⟨RX16, "standsIn", "(ILChipcardhouseModel$Mail;)V"⟩
abbrev cX16_returns : ByteArray := prog_19_method_22_code
def yX16_returns : MethodName := ⟨RX16, "returns", "(ILChipcardhouseModel$Mail;)V"⟩
abbrev cX16_forgets : ByteArray := prog_19_method_23_code
def yX16_forgets : MethodName := ⟨RX16, "forgets", "(ILChipcardhouseModel$Mail;)V"⟩
abbrev cX16_sendsAgain : ByteArray := prog_19_method_24_code
def yX16_sendsAgain : MethodName := ⟨RX16, "sendsAgain", "(I)V"⟩
abbrev cX16_shopAt : ByteArray := prog_19_method_25_code
def yX16_shopAt : MethodName := ⟨RX16, "shopAt", "(II)I"⟩
abbrev cX16_isSent : ByteArray := prog_19_method_26_code
def yX16_isSent : MethodName := ⟨RX16, "isSent", "(I)Z"⟩
def RX17 : String := "ChipcardhouseModel$Mail"
def TX17 : u_T := fun k => match k with
  | 0 => ("ChipcardhouseModel$Mail", "kind", "I", true)
  | 1 => ("ChipcardhouseModel$Mail", "payment", "I", true)
  | 2 => ("ChipcardhouseModel$Mail", "card", "I", false)
  | 3 => ("ChipcardhouseModel$Mail", "counter", "I", false)
  | 4 => ("ChipcardhouseModel$Mail", "amount", "I", false)
  | 5 => ("ChipcardhouseModel$Mail", "stamp", "I", false)
  | 6 => ("ChipcardhouseModel$Mail", "sort", "I", false)
  | 7 => ("ChipcardhouseModel$Mail", "number", "I", false)
  | 8 => ("ChipcardhouseModel$Mail", "of", "I", false)
  | 9 => ("ChipcardhouseModel$Mail", "reason", "I", false)
  | 10 => ("ChipcardhouseModel$Mail", "told", "I", false)
  | 11 => ("ChipcardhouseModel$Mail", "isGranted", "Z", false)
  | 12 => ("ChipcardhouseModel$Mail", "isByIssuer", "Z", false)
  | _ => ("ChipcardhouseModel$Mail", "isForged", "Z", false)
def tyX17 : Nat → FieldType := fun k => match k with
  | 0 => .int
  | 1 => .int
  | 2 => .int
  | 3 => .int
  | 4 => .int
  | 5 => .int
  | 6 => .int
  | 7 => .int
  | 8 => .int
  | 9 => .int
  | 10 => .int
  | 11 => .boolean
  | 12 => .boolean
  | _ => .boolean
theorem nmX17 : ∀ a, a < 14 → ∀ b, b < 14 → a ≠ b → (TX17 a).2.1 ≠ (TX17 b).2.1 := by decide +kernel
theorem tyX17_ok : ∀ k, k < 14 → parseFieldDescriptor (TX17 k).2.2.1 = some (tyX17 k) := by decide +kernel
abbrev cX17_init : ByteArray := prog_20_method_1_code
def yX17_init : MethodName := ⟨RX17, "<init>", "(II)V"⟩
def RX18 : String := "ChipcardhouseModel$Texts"
def TX18 : u_T := fun k => match k with
  | 0 => ("ChipcardhouseModel$Texts", "words", "[Ljava/lang/String;", true)
  | 1 => ("ChipcardhouseModel$Texts", "numbers", "[I", true)
  | 2 => ("ChipcardhouseModel$Texts", "sign", "[I", true)
  | 3 => ("ChipcardhouseModel$Texts", "length", "I", false)
  | 4 => ("ChipcardhouseModel$Texts", "at", "I", false)
  | 5 => ("ChipcardhouseModel$Texts", "token", "I", false)
  | 6 => ("ChipcardhouseModel$Texts", "from", "I", false)
  | 7 => ("ChipcardhouseModel$Texts", "number", "I", false)
  | 8 => ("ChipcardhouseModel$Texts", "wrong", "I", false)
  | 9 => ("ChipcardhouseModel$Texts", "command", "[I", true)
  | _ => ("ChipcardhouseModel$Texts", "commands", "I", false)
def tyX18 : Nat → FieldType := fun k => match k with
  | 0 => .array (.object "java/lang/String")
  | 1 => .array .int
  | 2 => .array .int
  | 3 => .int
  | 4 => .int
  | 5 => .int
  | 6 => .int
  | 7 => .int
  | 8 => .int
  | 9 => .array .int
  | _ => .int
theorem nmX18 : ∀ a, a < 11 → ∀ b, b < 11 → a ≠ b → (TX18 a).2.1 ≠ (TX18 b).2.1 := by decide +kernel
theorem tyX18_ok : ∀ k, k < 11 → parseFieldDescriptor (TX18 k).2.2.1 = some (tyX18 k) := by decide +kernel
abbrev cX18_init : ByteArray := prog_21_method_1_code
def yX18_init : MethodName := ⟨RX18, "<init>", "()V"⟩
abbrev cX18_next : ByteArray := prog_21_method_2_code
def yX18_next : MethodName := ⟨RX18, "next", "()V"⟩
abbrev cX18_isWord : ByteArray := prog_21_method_3_code
def yX18_isWord : MethodName := ⟨RX18, "isWord", "(Ljava/lang/String;)Z"⟩
abbrev cX18_cannot : ByteArray := prog_21_method_4_code
def yX18_cannot : MethodName := ⟨RX18, "cannot", "()Z"⟩
abbrev cX18_takesNumber : ByteArray := prog_21_method_5_code
def yX18_takesNumber : MethodName := ⟨RX18, "takesNumber", "(I)Z"⟩
abbrev cX18_takesPin : ByteArray := prog_21_method_6_code
def yX18_takesPin : MethodName := ⟨RX18, "takesPin", "()Z"⟩
abbrev cX18_takesCommand : ByteArray := prog_21_method_7_code
def yX18_takesCommand : MethodName := ⟨RX18, "takesCommand", "()Z"⟩
abbrev cX18_reads : ByteArray := prog_21_method_8_code
def yX18_reads : MethodName := ⟨RX18, "reads", "()I"⟩
def RX19 : String := "ChipcardhouseModel$Tills"
def TX19 : u_T := fun k => match k with
  | 0 => ("ChipcardhouseModel$Tills", "bank", "LChipcardhouseModel$Bank;", true)
  | 1 => ("ChipcardhouseModel$Tills", "c", "[I", true)
  | 2 => ("ChipcardhouseModel$Tills", "p", "[I", true)
  | 3 => ("ChipcardhouseModel$Tills", "floors", "[I", true)
  | 4 => ("ChipcardhouseModel$Tills", "picks", "[I", true)
  | 5 => ("ChipcardhouseModel$Tills", "many", "[I", true)
  | 6 => ("ChipcardhouseModel$Tills", "cards", "I", false)
  | 7 => ("ChipcardhouseModel$Tills", "shops", "I", false)
  | 8 => ("ChipcardhouseModel$Tills", "payments", "I", false)
  | 9 => ("ChipcardhouseModel$Tills", "tick", "I", false)
  | 10 => ("ChipcardhouseModel$Tills", "thrown", "I", false)
  | _ => ("ChipcardhouseModel$Tills", "wire", "LChipcardhouseModel$Wire;", false)
def tyX19 : Nat → FieldType := fun k => match k with
  | 0 => .object "ChipcardhouseModel$Bank"
  | 1 => .array .int
  | 2 => .array .int
  | 3 => .array .int
  | 4 => .array .int
  | 5 => .array .int
  | 6 => .int
  | 7 => .int
  | 8 => .int
  | 9 => .int
  | 10 => .int
  | _ => .object "ChipcardhouseModel$Wire"
theorem nmX19 : ∀ a, a < 12 → ∀ b, b < 12 → a ≠ b → (TX19 a).2.1 ≠ (TX19 b).2.1 := by decide +kernel
theorem tyX19_ok : ∀ k, k < 12 → parseFieldDescriptor (TX19 k).2.2.1 = some (tyX19 k) := by decide +kernel
abbrev cX19_init : ByteArray := prog_22_method_1_code
def yX19_init : MethodName := ⟨RX19, "<init>", "(LChipcardhouseModel$Bank;)V"⟩
abbrev cX19_isIn : ByteArray := prog_22_method_2_code
def yX19_isIn : MethodName := ⟨RX19, "isIn", "(III)Z"⟩
abbrev cX19_fails : ByteArray := prog_22_method_3_code
def yX19_fails : MethodName := ⟨RX19, "fails", "(ZZZ)Z"⟩
abbrev cX19_ofCard : ByteArray := prog_22_method_4_code
def yX19_ofCard : MethodName := ⟨RX19, "ofCard", "(II)I"⟩
abbrev cX19_setCard : ByteArray := prog_22_method_5_code
def yX19_setCard : MethodName := ⟨RX19, "setCard", "(III)V"⟩
abbrev cX19_addCard : ByteArray := prog_22_method_6_code
def yX19_addCard : MethodName := ⟨RX19, "addCard", "(III)V"⟩
abbrev cX19_of : ByteArray := prog_22_method_7_code
def yX19_of : MethodName := ⟨RX19, "of", "(II)I"⟩
abbrev cX19_set : ByteArray := prog_22_method_8_code
def yX19_set : MethodName := ⟨RX19, "set", "(III)V"⟩
abbrev cX19_card : ByteArray := prog_22_method_9_code
def yX19_card : MethodName := ⟨RX19, "card", "(IIII)I"⟩
abbrev cX19_shop : ByteArray := prog_22_method_10_code
def yX19_shop : MethodName := ⟨RX19, "shop", "(II)I"⟩
abbrev cX19_accountOf : ByteArray := prog_22_method_11_code
def yX19_accountOf : MethodName := ⟨RX19, "accountOf", "(I)I"⟩
abbrev cX19_keyOf : ByteArray := prog_22_method_12_code
def yX19_keyOf : MethodName := ⟨RX19, "keyOf", "(I)J"⟩
abbrev cX19_mixed : ByteArray := prog_22_method_13_code
def yX19_mixed : MethodName := ⟨RX19, "mixed", "(JI)J"⟩
abbrev cX19_stamp : ByteArray := prog_22_method_14_code
def yX19_stamp : MethodName := ⟨RX19, "stamp", "(JIIII)I"⟩
abbrev cX19_stampOf : ByteArray := prog_22_method_15_code
def yX19_stampOf : MethodName := ⟨RX19, "stampOf", "(II)I"⟩
abbrev cX19_isTouched : ByteArray := prog_22_method_16_code
def yX19_isTouched : MethodName := ⟨RX19, "isTouched", "(I)Z"⟩
abbrev cX19_refusal : ByteArray := prog_22_method_18_code
def yX19_refusal : MethodName := ⟨RX19, "refusal", "(III)I"⟩
abbrev cX19_grants : ByteArray := prog_22_method_19_code
def yX19_grants : MethodName := ⟨RX19, "grants", "(I)Z"⟩
abbrev cX19_mustAsk : ByteArray := prog_22_method_20_code
def yX19_mustAsk : MethodName := ⟨RX19, "mustAsk", "(II)Z"⟩
abbrev cX19_pay : ByteArray := prog_22_method_21_code
def yX19_pay : MethodName := ⟨RX19, "pay", "(IIII)I"⟩
abbrev cX19_isTold : ByteArray := prog_22_method_22_code
def yX19_isTold : MethodName := ⟨RX19, "isTold", "(II)V"⟩
abbrev cX19_answers : ByteArray := prog_22_method_23_code
def yX19_answers : MethodName := ⟨RX19, "answers", "(IZZIII)V"⟩
abbrev cX19_looks : ByteArray := prog_22_method_24_code
def yX19_looks : MethodName := ⟨RX19, "looks", "(I)V"⟩
abbrev cX19_cardAt : ByteArray := prog_22_method_25_code
def yX19_cardAt : MethodName := ⟨RX19, "cardAt", "(II)I"⟩
abbrev cX19_paymentAt : ByteArray := prog_22_method_26_code
def yX19_paymentAt : MethodName := ⟨RX19, "paymentAt", "(II)I"⟩
def RX20 : String := "ChipcardhouseModel$Wire"
def TX20 : u_T := fun k => match k with
  | _ => ("", "", "", false)
def tyX20 : Nat → FieldType := fun k => match k with
  | _ => .int
theorem nmX20 : ∀ a, a < 0 → ∀ b, b < 0 → a ≠ b → (TX20 a).2.1 ≠ (TX20 b).2.1 := by decide +kernel
theorem tyX20_ok : ∀ k, k < 0 → parseFieldDescriptor (TX20 k).2.2.1 = some (tyX20 k) := by decide +kernel
def RX21 : String := "ChipcardhouseModel"
def TX21 : u_T := fun k => match k with
  | 0 => ("ChipcardhouseModel", "bank", "LChipcardhouseModel$Bank;", true)
  | 1 => ("ChipcardhouseModel", "texts", "LChipcardhouseModel$Texts;", true)
  | 2 => ("ChipcardhouseModel", "tills", "LChipcardhouseModel$Tills;", true)
  | 3 => ("ChipcardhouseModel", "issuer", "LChipcardhouseModel$Issuer;", true)
  | 4 => ("ChipcardhouseModel", "lines", "LChipcardhouseModel$Lines;", true)
  | 5 => ("ChipcardhouseModel", "tick", "I", false)
  | 6 => ("ChipcardhouseModel", "day", "I", false)
  | 7 => ("ChipcardhouseModel", "fee", "I", false)
  | _ => ("ChipcardhouseModel", "thrown", "I", false)
def tyX21 : Nat → FieldType := fun k => match k with
  | 0 => .object "ChipcardhouseModel$Bank"
  | 1 => .object "ChipcardhouseModel$Texts"
  | 2 => .object "ChipcardhouseModel$Tills"
  | 3 => .object "ChipcardhouseModel$Issuer"
  | 4 => .object "ChipcardhouseModel$Lines"
  | 5 => .int
  | 6 => .int
  | 7 => .int
  | _ => .int
theorem nmX21 : ∀ a, a < 9 → ∀ b, b < 9 → a ≠ b → (TX21 a).2.1 ≠ (TX21 b).2.1 := by decide +kernel
theorem tyX21_ok : ∀ k, k < 9 → parseFieldDescriptor (TX21 k).2.2.1 = some (tyX21 k) := by decide +kernel
abbrev cX21_init : ByteArray := prog_14_method_1_code
def yX21_init : MethodName := ⟨RX21, "<init>", "()V"⟩
abbrev cX21_thrown : ByteArray := prog_14_method_2_code
def yX21_thrown : MethodName := ⟨RX21, "thrown", "()I"⟩
abbrev cX21_in : ByteArray := prog_14_method_3_code
def yX21_in : MethodName := ⟨RX21, "in", "(III)Z"⟩
abbrev cX21_refuse : ByteArray := prog_14_method_4_code
def yX21_refuse : MethodName := ⟨RX21, "refuse", "(I)I"⟩
abbrev cX21_told : ByteArray := prog_14_method_5_code
def yX21_told : MethodName := ⟨RX21, "told", "(I)I"⟩
abbrev cX21_isAccount : ByteArray := prog_14_method_6_code
def yX21_isAccount : MethodName := ⟨RX21, "isAccount", "(I)Z"⟩
abbrev cX21_isShop : ByteArray := prog_14_method_7_code
def yX21_isShop : MethodName := ⟨RX21, "isShop", "(I)Z"⟩
abbrev cX21_ofTills : ByteArray := prog_14_method_8_code
def yX21_ofTills : MethodName := ⟨RX21, "ofTills", "(I)I"⟩
abbrev cX21_ofLines : ByteArray := prog_14_method_9_code
def yX21_ofLines : MethodName := ⟨RX21, "ofLines", "(I)I"⟩
abbrev cX21_ofIssuer : ByteArray := prog_14_method_10_code
def yX21_ofIssuer : MethodName := ⟨RX21, "ofIssuer", "(I)I"⟩
abbrev cX21_type : ByteArray := prog_14_method_11_code
def yX21_type : MethodName := ⟨RX21, "type", "(J)I"⟩
abbrev cX21_fault : ByteArray := prog_14_method_12_code
def yX21_fault : MethodName := ⟨RX21, "fault", "()I"⟩
abbrev cX21_play : ByteArray := prog_14_method_13_code
def yX21_play : MethodName := ⟨RX21, "play", "()I"⟩
abbrev cX21_does : ByteArray := prog_14_method_14_code
def yX21_does : MethodName := ⟨RX21, "does", "(I)V"⟩
abbrev cX21_account : ByteArray := prog_14_method_15_code
def yX21_account : MethodName := ⟨RX21, "account", "(I)I"⟩
abbrev cX21_shop : ByteArray := prog_14_method_16_code
def yX21_shop : MethodName := ⟨RX21, "shop", "(II)I"⟩
abbrev cX21_card : ByteArray := prog_14_method_17_code
def yX21_card : MethodName := ⟨RX21, "card", "(IIII)I"⟩
abbrev cX21_setHouse : ByteArray := prog_14_method_18_code
def yX21_setHouse : MethodName := ⟨RX21, "setHouse", "(III)I"⟩
abbrev cX21_pay : ByteArray := prog_14_method_19_code
def yX21_pay : MethodName := ⟨RX21, "pay", "(IIII)I"⟩
abbrev cX21_sends : ByteArray := prog_14_method_20_code
def yX21_sends : MethodName := ⟨RX21, "sends", "(I)I"⟩
abbrev cX21_backMoney : ByteArray := prog_14_method_21_code
def yX21_backMoney : MethodName := ⟨RX21, "backMoney", "(III)I"⟩
abbrev cX21_forge : ByteArray := prog_14_method_22_code
def yX21_forge : MethodName := ⟨RX21, "forge", "(III)I"⟩
abbrev cX21_passes : ByteArray := prog_14_method_23_code
def yX21_passes : MethodName := ⟨RX21, "passes", "()V"⟩
abbrev cX21_passes_ : ByteArray := prog_14_method_24_code
def yX21_passes_ : MethodName := ⟨RX21, "passes", "(I)I"⟩
abbrev cX21_faults : ByteArray := prog_14_method_25_code
def yX21_faults : MethodName := ⟨RX21, "faults", "(IIII)I"⟩
abbrev cX21_setOpen : ByteArray := prog_14_method_26_code
def yX21_setOpen : MethodName := ⟨RX21, "setOpen", "(Z)I"⟩
abbrev cX21_tells : ByteArray := prog_14_method_27_code
def yX21_tells : MethodName := ⟨RX21, "tells", "(II)I"⟩
abbrev cX21_stolen : ByteArray := prog_14_method_28_code
def yX21_stolen : MethodName := ⟨RX21, "stolen", "(I)Z"⟩
abbrev cX21_freeze : ByteArray := prog_14_method_29_code
def yX21_freeze : MethodName := ⟨RX21, "freeze", "(IZ)Z"⟩
abbrev cX21_dispute : ByteArray := prog_14_method_30_code
def yX21_dispute : MethodName := ⟨RX21, "dispute", "(I)I"⟩
abbrev cX21_endDay : ByteArray := prog_14_method_31_code
def yX21_endDay : MethodName := ⟨RX21, "endDay", "()I"⟩
abbrev cX21_cardAt : ByteArray := prog_14_method_32_code
def yX21_cardAt : MethodName := ⟨RX21, "cardAt", "(II)I"⟩
abbrev cX21_paymentAt : ByteArray := prog_14_method_33_code
def yX21_paymentAt : MethodName := ⟨RX21, "paymentAt", "(II)I"⟩
abbrev cX21_knows : ByteArray := prog_14_method_34_code
def yX21_knows : MethodName := ⟨RX21, "knows", "(II)I"⟩
abbrev cX21_accountAt : ByteArray := prog_14_method_35_code
def yX21_accountAt : MethodName := ⟨RX21, "accountAt", "(II)J"⟩
abbrev cX21_paymentsOf : ByteArray := prog_14_method_36_code
def yX21_paymentsOf : MethodName := ⟨RX21, "paymentsOf", "(I)I"⟩
abbrev cX21_shopAt : ByteArray := prog_14_method_37_code
def yX21_shopAt : MethodName := ⟨RX21, "shopAt", "(II)J"⟩
abbrev cX21_count : ByteArray := prog_14_method_38_code
def yX21_count : MethodName := ⟨RX21, "count", "(I)I"⟩
abbrev cX21_fees : ByteArray := prog_14_method_39_code
def yX21_fees : MethodName := ⟨RX21, "fees", "()J"⟩
abbrev cX21_isGranted : ByteArray := prog_14_method_40_code
def yX21_isGranted : MethodName := ⟨RX21, "isGranted", "(I)Z"⟩
abbrev cX21_meanPayment : ByteArray := prog_14_method_41_code
def yX21_meanPayment : MethodName := ⟨RX21, "meanPayment", "(I)D"⟩
abbrev cX21_grantedShare : ByteArray := prog_14_method_42_code
def yX21_grantedShare : MethodName := ⟨RX21, "grantedShare", "()F"⟩
abbrev cX21_checksum : ByteArray := prog_14_method_43_code
def yX21_checksum : MethodName := ⟨RX21, "checksum", "()J"⟩
abbrev cX21_isAnyUngranted : ByteArray := prog_14_method_44_code
def yX21_isAnyUngranted : MethodName := ⟨RX21, "isAnyUngranted", "()Z"⟩
abbrev cX21_errors : ByteArray := prog_14_method_45_code
def yX21_errors : MethodName := ⟨RX21, "errors", "()I"⟩
def RJx145de : String := "java/io/Serializable"
def TJx145de : u_T := fun k => match k with
  | _ => ("", "", "", false)
def tyJx145de : Nat → FieldType := fun k => match k with
  | _ => .int
theorem nmJx145de : ∀ a, a < 0 → ∀ b, b < 0 → a ≠ b → (TJx145de a).2.1 ≠ (TJx145de b).2.1 := by decide +kernel
theorem tyJx145de_ok : ∀ k, k < 0 → parseFieldDescriptor (TJx145de k).2.2.1 = some (tyJx145de k) := by decide +kernel
def RJ5 : String := "java/lang/AbstractStringBuilder"
def TJ5 : u_T := fun k => match k with
  | _ => ("", "", "", false)
def tyJ5 : Nat → FieldType := fun k => match k with
  | _ => .int
theorem nmJ5 : ∀ a, a < 0 → ∀ b, b < 0 → a ≠ b → (TJ5 a).2.1 ≠ (TJ5 b).2.1 := by decide +kernel
theorem tyJ5_ok : ∀ k, k < 0 → parseFieldDescriptor (TJ5 k).2.2.1 = some (tyJ5 k) := by decide +kernel
abbrev cJ5_init_d00df : ByteArray := prog_25_method_2_code
def yJ5_init_d00df : MethodName := ⟨RJ5, "<init>", "(I)V"⟩
abbrev cJ5_length_8abf5 : ByteArray := prog_25_method_6_code
def yJ5_length_8abf5 : MethodName := ⟨RJ5, "length", "()I"⟩
abbrev cJ5_ensureCapacityInternal_d00df : ByteArray := prog_25_method_9_code
def yJ5_ensureCapacityInternal_d00df : MethodName := ⟨RJ5, "ensureCapacityInternal", "(I)V"⟩
abbrev cJ5_newCapacity_0f7a4 : ByteArray := prog_25_method_10_code
def yJ5_newCapacity_0f7a4 : MethodName := ⟨RJ5, "newCapacity", "(I)I"⟩
abbrev cJ5_inflate_da8c8 : ByteArray := prog_25_method_11_code
def yJ5_inflate_da8c8 : MethodName := ⟨RJ5, "inflate", "()V"⟩
abbrev cJ5_setLength_d00df : ByteArray := prog_25_method_13_code
def yJ5_setLength_d00df : MethodName := ⟨RJ5, "setLength", "(I)V"⟩
abbrev cJ5_charAt_5068e : ByteArray := prog_25_method_14_code
def yJ5_charAt_5068e : MethodName := ⟨RJ5, "charAt", "(I)C"⟩
abbrev cJ5_append_cf1ce : ByteArray := prog_25_method_22_code
def yJ5_append_cf1ce : MethodName := ⟨RJ5, "append", "(Ljava/lang/String;)Ljava/lang/AbstractStringBuilder;"⟩
abbrev cJ5_appendNull_278bc : ByteArray := prog_25_method_26_code
def yJ5_appendNull_278bc : MethodName := ⟨RJ5, "appendNull", "()Ljava/lang/AbstractStringBuilder;"⟩
abbrev cJ5_append_3fe6f : ByteArray := prog_25_method_31_code
def yJ5_append_3fe6f : MethodName := ⟨RJ5, "append", "(C)Ljava/lang/AbstractStringBuilder;"⟩
abbrev cJ5_append_c97b9 : ByteArray := prog_25_method_32_code
def yJ5_append_c97b9 : MethodName := ⟨RJ5, "append", "(I)Ljava/lang/AbstractStringBuilder;"⟩
abbrev cJ5_getValue_6d5f1 : ByteArray := prog_25_method_64_code
def yJ5_getValue_6d5f1 : MethodName := ⟨RJ5, "getValue", "()[B"⟩
abbrev cJ5_isLatin1_aae02 : ByteArray := prog_25_method_68_code
def yJ5_isLatin1_aae02 : MethodName := ⟨RJ5, "isLatin1", "()Z"⟩
abbrev cJ5_inflateIfNeededFor_a7421 : ByteArray := prog_25_method_71_code
def yJ5_inflateIfNeededFor_a7421 : MethodName := ⟨RJ5, "inflateIfNeededFor", "(Ljava/lang/String;)V"⟩
abbrev cJ5_putStringAt_47b60 : ByteArray := prog_25_method_73_code
def yJ5_putStringAt_47b60 : MethodName := ⟨RJ5, "putStringAt", "(ILjava/lang/String;)V"⟩
def RJx2cfe8 : String := "java/lang/Appendable"
def TJx2cfe8 : u_T := fun k => match k with
  | _ => ("", "", "", false)
def tyJx2cfe8 : Nat → FieldType := fun k => match k with
  | _ => .int
theorem nmJx2cfe8 : ∀ a, a < 0 → ∀ b, b < 0 → a ≠ b → (TJx2cfe8 a).2.1 ≠ (TJx2cfe8 b).2.1 := by decide +kernel
theorem tyJx2cfe8_ok : ∀ k, k < 0 → parseFieldDescriptor (TJx2cfe8 k).2.2.1 = some (tyJx2cfe8 k) := by decide +kernel
def RJx00060 : String := "java/lang/ArrayIndexOutOfBoundsException"
def TJx00060 : u_T := fun k => match k with
  | 0 => ("java/lang/Throwable", "cause", "Ljava/lang/Throwable;", false)
  | 1 => ("java/lang/Throwable", "stackTrace", "[Ljava/lang/StackTraceElement;", false)
  | 2 => ("java/lang/Throwable", "suppressedExceptions", "Ljava/util/List;", false)
  | 3 => ("java/lang/Throwable", "detailMessage", "Ljava/lang/String;", false)
  | 4 => ("java/lang/Throwable", "backtrace", "Ljava/lang/Object;", false)
  | _ => ("java/lang/Throwable", "depth", "I", false)
def tyJx00060 : Nat → FieldType := fun k => match k with
  | 0 => .object "java/lang/Throwable"
  | 1 => .array (.object "java/lang/StackTraceElement")
  | 2 => .object "java/util/List"
  | 3 => .object "java/lang/String"
  | 4 => .object "java/lang/Object"
  | _ => .int
theorem nmJx00060 : ∀ a, a < 6 → ∀ b, b < 6 → a ≠ b → (TJx00060 a).2.1 ≠ (TJx00060 b).2.1 := by decide +kernel
theorem tyJx00060_ok : ∀ k, k < 6 → parseFieldDescriptor (TJx00060 k).2.2.1 = some (tyJx00060 k) := by decide +kernel
abbrev cJx00060_init_d00df : ByteArray := prog_27_method_3_code
def yJx00060_init_d00df : MethodName := ⟨RJx00060, "<init>", "(I)V"⟩
def RJx9f9b0 : String := "java/lang/CharSequence"
def TJx9f9b0 : u_T := fun k => match k with
  | _ => ("", "", "", false)
def tyJx9f9b0 : Nat → FieldType := fun k => match k with
  | _ => .int
theorem nmJx9f9b0 : ∀ a, a < 0 → ∀ b, b < 0 → a ≠ b → (TJx9f9b0 a).2.1 ≠ (TJx9f9b0 b).2.1 := by decide +kernel
theorem tyJx9f9b0_ok : ∀ k, k < 0 → parseFieldDescriptor (TJx9f9b0 k).2.2.1 = some (tyJx9f9b0 k) := by decide +kernel
def RJx8e188 : String := "java/lang/Cloneable"
def TJx8e188 : u_T := fun k => match k with
  | _ => ("", "", "", false)
def tyJx8e188 : Nat → FieldType := fun k => match k with
  | _ => .int
theorem nmJx8e188 : ∀ a, a < 0 → ∀ b, b < 0 → a ≠ b → (TJx8e188 a).2.1 ≠ (TJx8e188 b).2.1 := by decide +kernel
theorem tyJx8e188_ok : ∀ k, k < 0 → parseFieldDescriptor (TJx8e188 k).2.2.1 = some (tyJx8e188 k) := by decide +kernel
def RJxb160c : String := "java/lang/Comparable"
def TJxb160c : u_T := fun k => match k with
  | _ => ("", "", "", false)
def tyJxb160c : Nat → FieldType := fun k => match k with
  | _ => .int
theorem nmJxb160c : ∀ a, a < 0 → ∀ b, b < 0 → a ≠ b → (TJxb160c a).2.1 ≠ (TJxb160c b).2.1 := by decide +kernel
theorem tyJxb160c_ok : ∀ k, k < 0 → parseFieldDescriptor (TJxb160c k).2.2.1 = some (tyJxb160c k) := by decide +kernel
def RJ6 : String := "java/lang/Integer"
def TJ6 : u_T := fun k => match k with
  | _ => ("", "", "", false)
def tyJ6 : Nat → FieldType := fun k => match k with
  | _ => .int
theorem nmJ6 : ∀ a, a < 0 → ∀ b, b < 0 → a ≠ b → (TJ6 a).2.1 ≠ (TJ6 b).2.1 := by decide +kernel
theorem tyJ6_ok : ∀ k, k < 0 → parseFieldDescriptor (TJ6 k).2.2.1 = some (tyJ6 k) := by decide +kernel
abbrev cJ6_getChars_ba4f3 : ByteArray := prog_35_method_12_code
def yJ6_getChars_ba4f3 : MethodName := ⟨RJ6, "getChars", "(II[B)I"⟩
abbrev cJ6_stringSize_0f7a4 : ByteArray := prog_35_method_13_code
def yJ6_stringSize_0f7a4 : MethodName := ⟨RJ6, "stringSize", "(I)I"⟩
abbrev cJ6_bitCount_0f7a4 : ByteArray := prog_35_method_49_code
def yJ6_bitCount_0f7a4 : MethodName := ⟨RJ6, "bitCount", "(I)I"⟩
def RJxab1ab : String := "java/lang/Iterable"
def TJxab1ab : u_T := fun k => match k with
  | _ => ("", "", "", false)
def tyJxab1ab : Nat → FieldType := fun k => match k with
  | _ => .int
theorem nmJxab1ab : ∀ a, a < 0 → ∀ b, b < 0 → a ≠ b → (TJxab1ab a).2.1 ≠ (TJxab1ab b).2.1 := by decide +kernel
theorem tyJxab1ab_ok : ∀ k, k < 0 → parseFieldDescriptor (TJxab1ab k).2.2.1 = some (tyJxab1ab k) := by decide +kernel
def RJ9 : String := "java/lang/Math"
def TJ9 : u_T := fun k => match k with
  | _ => ("", "", "", false)
def tyJ9 : Nat → FieldType := fun k => match k with
  | _ => .int
theorem nmJ9 : ∀ a, a < 0 → ∀ b, b < 0 → a ≠ b → (TJ9 a).2.1 ≠ (TJ9 b).2.1 := by decide +kernel
theorem tyJ9_ok : ∀ k, k < 0 → parseFieldDescriptor (TJ9 k).2.2.1 = some (tyJ9 k) := by decide +kernel
abbrev cJ9_max_7cf53 : ByteArray := prog_37_method_65_code
def yJ9_max_7cf53 : MethodName := ⟨RJ9, "max", "(II)I"⟩
abbrev cJ9_min_7cf53 : ByteArray := prog_37_method_69_code
def yJ9_min_7cf53 : MethodName := ⟨RJ9, "min", "(II)I"⟩
abbrev cJ9_min_f86c9 : ByteArray := prog_37_method_70_code
def yJ9_min_f86c9 : MethodName := ⟨RJ9, "min", "(JJ)J"⟩
def RJxd2413 : String := "java/lang/Number"
def TJxd2413 : u_T := fun k => match k with
  | _ => ("", "", "", false)
def tyJxd2413 : Nat → FieldType := fun k => match k with
  | _ => .int
theorem nmJxd2413 : ∀ a, a < 0 → ∀ b, b < 0 → a ≠ b → (TJxd2413 a).2.1 ≠ (TJxd2413 b).2.1 := by decide +kernel
theorem tyJxd2413_ok : ∀ k, k < 0 → parseFieldDescriptor (TJxd2413 k).2.2.1 = some (tyJxd2413 k) := by decide +kernel
def RJ0 : String := "java/lang/String"
def TJ0 : u_T := fun k => match k with
  | 0 => ("java/lang/String", "value", "[B", true)
  | 1 => ("java/lang/String", "coder", "B", true)
  | 2 => ("java/lang/String", "hash", "I", false)
  | _ => ("java/lang/String", "hashIsZero", "Z", false)
def tyJ0 : Nat → FieldType := fun k => match k with
  | 0 => .array .byte
  | 1 => .byte
  | 2 => .int
  | _ => .boolean
theorem nmJ0 : ∀ a, a < 4 → ∀ b, b < 4 → a ≠ b → (TJ0 a).2.1 ≠ (TJ0 b).2.1 := by decide +kernel
theorem tyJ0_ok : ∀ k, k < 4 → parseFieldDescriptor (TJ0 k).2.2.1 = some (tyJ0 k) := by decide +kernel
abbrev cJ0_init_81219 : ByteArray := prog_40_method_53_code
def yJ0_init_81219 : MethodName := ⟨RJ0, "<init>", "(Ljava/lang/StringBuilder;)V"⟩
abbrev cJ0_length_8abf5 : ByteArray := prog_40_method_54_code
def yJ0_length_8abf5 : MethodName := ⟨RJ0, "length", "()I"⟩
abbrev cJ0_charAt_5068e : ByteArray := prog_40_method_56_code
def yJ0_charAt_5068e : MethodName := ⟨RJ0, "charAt", "(I)C"⟩
abbrev cJ0_getBytes_840e7 : ByteArray := prog_40_method_147_code
def yJ0_getBytes_840e7 : MethodName := ⟨RJ0, "getBytes", "([BIB)V"⟩
abbrev cJ0_init_db425 : ByteArray := prog_40_method_150_code
def yJ0_init_db425 : MethodName := ⟨RJ0, "<init>", "(Ljava/lang/AbstractStringBuilder;Ljava/lang/Void;)V"⟩
abbrev cJ0_coder_7d493 : ByteArray := prog_40_method_152_code
def yJ0_coder_7d493 : MethodName := ⟨RJ0, "coder", "()B"⟩
abbrev cJ0_isLatin1_aae02 : ByteArray := prog_40_method_154_code
def yJ0_isLatin1_aae02 : MethodName := ⟨RJ0, "isLatin1", "()Z"⟩
abbrev cJ0_checkIndex_df160 : ByteArray := prog_40_method_155_code
def yJ0_checkIndex_df160 : MethodName := ⟨RJ0, "checkIndex", "(II)V"⟩
abbrev cJ0_checkBoundsOffCount_cabcc : ByteArray := prog_40_method_157_code
def yJ0_checkBoundsOffCount_cabcc : MethodName := ⟨RJ0, "checkBoundsOffCount", "(III)I"⟩
abbrev cJ0_checkBoundsBeginEnd_23922 : ByteArray := prog_40_method_158_code
def yJ0_checkBoundsBeginEnd_23922 : MethodName := ⟨RJ0, "checkBoundsBeginEnd", "(III)V"⟩
def RJ4 : String := "java/lang/StringBuilder"
def TJ4 : u_T := fun k => match k with
  | 0 => ("java/lang/AbstractStringBuilder", "value", "[B", false)
  | 1 => ("java/lang/AbstractStringBuilder", "coder", "B", false)
  | 2 => ("java/lang/AbstractStringBuilder", "maybeLatin1", "Z", false)
  | _ => ("java/lang/AbstractStringBuilder", "count", "I", false)
def tyJ4 : Nat → FieldType := fun k => match k with
  | 0 => .array .byte
  | 1 => .byte
  | 2 => .boolean
  | _ => .int
theorem nmJ4 : ∀ a, a < 4 → ∀ b, b < 4 → a ≠ b → (TJ4 a).2.1 ≠ (TJ4 b).2.1 := by decide +kernel
theorem tyJ4_ok : ∀ k, k < 4 → parseFieldDescriptor (TJ4 k).2.2.1 = some (tyJ4 k) := by decide +kernel
abbrev cJ4_init_da8c8 : ByteArray := prog_41_method_1_code
def yJ4_init_da8c8 : MethodName := ⟨RJ4, "<init>", "()V"⟩
abbrev cJ4_append_15ec4 : ByteArray := prog_41_method_7_code
def yJ4_append_15ec4 : MethodName := ⟨RJ4, "append", "(Ljava/lang/String;)Ljava/lang/StringBuilder;"⟩
abbrev cJ4_append_cf468 : ByteArray := prog_41_method_14_code
def yJ4_append_cf468 : MethodName := ⟨RJ4, "append", "(C)Ljava/lang/StringBuilder;"⟩
abbrev cJ4_append_bf812 : ByteArray := prog_41_method_15_code
def yJ4_append_bf812 : MethodName := ⟨RJ4, "append", "(I)Ljava/lang/StringBuilder;"⟩
abbrev cJ4_toString_0e30d : ByteArray := prog_41_method_42_code
def yJ4_toString_0e30d : MethodName := ⟨RJ4, "toString", "()Ljava/lang/String;"⟩
abbrev cJ4_charAt_5068e : ByteArray := prog_41_method_88_code
def yJ4_charAt_5068e : MethodName := ⟨RJ4, "charAt", "(I)C"⟩
abbrev cJ4_setLength_d00df : ByteArray := prog_41_method_89_code
def yJ4_setLength_d00df : MethodName := ⟨RJ4, "setLength", "(I)V"⟩
abbrev cJ4_length_8abf5 : ByteArray := prog_41_method_93_code
def yJ4_length_8abf5 : MethodName := ⟨RJ4, "length", "()I"⟩
def RJx7c733 : String := "java/lang/StringIndexOutOfBoundsException"
def TJx7c733 : u_T := fun k => match k with
  | 0 => ("java/lang/Throwable", "backtrace", "Ljava/lang/Object;", false)
  | 1 => ("java/lang/Throwable", "detailMessage", "Ljava/lang/String;", false)
  | 2 => ("java/lang/Throwable", "cause", "Ljava/lang/Throwable;", false)
  | 3 => ("java/lang/Throwable", "stackTrace", "[Ljava/lang/StackTraceElement;", false)
  | 4 => ("java/lang/Throwable", "depth", "I", false)
  | _ => ("java/lang/Throwable", "suppressedExceptions", "Ljava/util/List;", false)
def tyJx7c733 : Nat → FieldType := fun k => match k with
  | 0 => .object "java/lang/Object"
  | 1 => .object "java/lang/String"
  | 2 => .object "java/lang/Throwable"
  | 3 => .array (.object "java/lang/StackTraceElement")
  | 4 => .int
  | _ => .object "java/util/List"
theorem nmJx7c733 : ∀ a, a < 6 → ∀ b, b < 6 → a ≠ b → (TJx7c733 a).2.1 ≠ (TJx7c733 b).2.1 := by decide +kernel
theorem tyJx7c733_ok : ∀ k, k < 6 → parseFieldDescriptor (TJx7c733 k).2.2.1 = some (tyJx7c733 k) := by decide +kernel
abbrev cJx7c733_init_d00df : ByteArray := prog_42_method_3_code
def yJx7c733_init_d00df : MethodName := ⟨RJx7c733, "<init>", "(I)V"⟩
def RJ1 : String := "java/lang/StringLatin1"
def TJ1 : u_T := fun k => match k with
  | _ => ("", "", "", false)
def tyJ1 : Nat → FieldType := fun k => match k with
  | _ => .int
theorem nmJ1 : ∀ a, a < 0 → ∀ b, b < 0 → a ≠ b → (TJ1 a).2.1 ≠ (TJ1 b).2.1 := by decide +kernel
theorem tyJ1_ok : ∀ k, k < 0 → parseFieldDescriptor (TJ1 k).2.2.1 = some (tyJ1 k) := by decide +kernel
abbrev cJ1_charAt_3b067 : ByteArray := prog_43_method_2_code
def yJ1_charAt_3b067 : MethodName := ⟨RJ1, "charAt", "([BI)C"⟩
abbrev cJ1_canEncode_fc78d : ByteArray := prog_43_method_3_code
def yJ1_canEncode_fc78d : MethodName := ⟨RJ1, "canEncode", "(C)Z"⟩
abbrev cJ1_fillNull_b72d1 : ByteArray := prog_43_method_48_code
def yJ1_fillNull_b72d1 : MethodName := ⟨RJ1, "fillNull", "([BII)V"⟩
abbrev cJ1_inflate_0e8fd : ByteArray := prog_43_method_50_code
def yJ1_inflate_0e8fd : MethodName := ⟨RJ1, "inflate", "([BI[BII)V"⟩
def RJ2 : String := "java/lang/StringUTF16"
def TJ2 : u_T := fun k => match k with
  | _ => ("", "", "", false)
def tyJ2 : Nat → FieldType := fun k => match k with
  | _ => .int
theorem nmJ2 : ∀ a, a < 0 → ∀ b, b < 0 → a ≠ b → (TJ2 a).2.1 ≠ (TJ2 b).2.1 := by decide +kernel
theorem tyJ2_ok : ∀ k, k < 0 → parseFieldDescriptor (TJ2 k).2.2.1 = some (tyJ2 k) := by decide +kernel
abbrev cJ2_newBytesFor_77867 : ByteArray := prog_44_method_2_code
def yJ2_newBytesFor_77867 : MethodName := ⟨RJ2, "newBytesFor", "(I)[B"⟩
abbrev cJ2_newBytesLength_0f7a4 : ByteArray := prog_44_method_3_code
def yJ2_newBytesLength_0f7a4 : MethodName := ⟨RJ2, "newBytesLength", "(I)I"⟩
abbrev cJ2_putChar_b72d1 : ByteArray := prog_44_method_4_code
def yJ2_putChar_b72d1 : MethodName := ⟨RJ2, "putChar", "([BII)V"⟩
abbrev cJ2_getChar_3b067 : ByteArray := prog_44_method_5_code
def yJ2_getChar_3b067 : MethodName := ⟨RJ2, "getChar", "([BI)C"⟩
abbrev cJ2_length_9d52b : ByteArray := prog_44_method_6_code
def yJ2_length_9d52b : MethodName := ⟨RJ2, "length", "([B)I"⟩
abbrev cJ2_coderFromArrayLen_85cad : ByteArray := prog_44_method_15_code
def yJ2_coderFromArrayLen_85cad : MethodName := ⟨RJ2, "coderFromArrayLen", "([BI)B"⟩
abbrev cJ2_compress_39247 : ByteArray := prog_44_method_17_code
def yJ2_compress_39247 : MethodName := ⟨RJ2, "compress", "([BII)[B"⟩
abbrev cJ2_compress_5af95 : ByteArray := prog_44_method_22_code
def yJ2_compress_5af95 : MethodName := ⟨RJ2, "compress", "([BI[BII)I"⟩
abbrev cJ2_fillNull_b72d1 : ByteArray := prog_44_method_70_code
def yJ2_fillNull_b72d1 : MethodName := ⟨RJ2, "fillNull", "([BII)V"⟩
abbrev cJ2_putCharSB_b72d1 : ByteArray := prog_44_method_71_code
def yJ2_putCharSB_b72d1 : MethodName := ⟨RJ2, "putCharSB", "([BII)V"⟩
abbrev cJ2_getChars_46870 : ByteArray := prog_44_method_77_code
def yJ2_getChars_46870 : MethodName := ⟨RJ2, "getChars", "(III[B)I"⟩
abbrev cJ2_putCharsAt_cd4e5 : ByteArray := prog_44_method_81_code
def yJ2_putCharsAt_cd4e5 : MethodName := ⟨RJ2, "putCharsAt", "([BICCCC)I"⟩
abbrev cJ2_charAt_3b067 : ByteArray := prog_44_method_83_code
def yJ2_charAt_3b067 : MethodName := ⟨RJ2, "charAt", "([BI)C"⟩
abbrev cJ2_inflate_0e8fd : ByteArray := prog_44_method_86_code
def yJ2_inflate_0e8fd : MethodName := ⟨RJ2, "inflate", "([BI[BII)V"⟩
abbrev cJ2_getChars_ba4f3 : ByteArray := prog_44_method_89_code
def yJ2_getChars_ba4f3 : MethodName := ⟨RJ2, "getChars", "(II[B)I"⟩
abbrev cJ2_checkIndex_2214a : ByteArray := prog_44_method_91_code
def yJ2_checkIndex_2214a : MethodName := ⟨RJ2, "checkIndex", "(I[B)V"⟩
abbrev cJ2_checkBoundsBeginEnd_d044e : ByteArray := prog_44_method_93_code
def yJ2_checkBoundsBeginEnd_d044e : MethodName := ⟨RJ2, "checkBoundsBeginEnd", "(II[B)V"⟩
abbrev cJ2_checkBoundsOffCount_d044e : ByteArray := prog_44_method_94_code
def yJ2_checkBoundsOffCount_d044e : MethodName := ⟨RJ2, "checkBoundsOffCount", "(II[B)V"⟩
def RJ10 : String := "java/lang/System"
def TJ10 : u_T := fun k => match k with
  | _ => ("", "", "", false)
def tyJ10 : Nat → FieldType := fun k => match k with
  | _ => .int
theorem nmJ10 : ∀ a, a < 0 → ∀ b, b < 0 → a ≠ b → (TJ10 a).2.1 ≠ (TJ10 b).2.1 := by decide +kernel
theorem tyJ10_ok : ∀ k, k < 0 → parseFieldDescriptor (TJ10 k).2.2.1 = some (tyJ10 k) := by decide +kernel
def RJxfd54e : String := "java/lang/constant/Constable"
def TJxfd54e : u_T := fun k => match k with
  | _ => ("", "", "", false)
def tyJxfd54e : Nat → FieldType := fun k => match k with
  | _ => .int
theorem nmJxfd54e : ∀ a, a < 0 → ∀ b, b < 0 → a ≠ b → (TJxfd54e a).2.1 ≠ (TJxfd54e b).2.1 := by decide +kernel
theorem tyJxfd54e_ok : ∀ k, k < 0 → parseFieldDescriptor (TJxfd54e k).2.2.1 = some (tyJxfd54e k) := by decide +kernel
def RJx3cf43 : String := "java/lang/constant/ConstantDesc"
def TJx3cf43 : u_T := fun k => match k with
  | _ => ("", "", "", false)
def tyJx3cf43 : Nat → FieldType := fun k => match k with
  | _ => .int
theorem nmJx3cf43 : ∀ a, a < 0 → ∀ b, b < 0 → a ≠ b → (TJx3cf43 a).2.1 ≠ (TJx3cf43 b).2.1 := by decide +kernel
theorem tyJx3cf43_ok : ∀ k, k < 0 → parseFieldDescriptor (TJx3cf43 k).2.2.1 = some (tyJx3cf43 k) := by decide +kernel
def RJxa1e45 : String := "java/util/AbstractCollection"
def TJxa1e45 : u_T := fun k => match k with
  | _ => ("", "", "", false)
def tyJxa1e45 : Nat → FieldType := fun k => match k with
  | _ => .int
theorem nmJxa1e45 : ∀ a, a < 0 → ∀ b, b < 0 → a ≠ b → (TJxa1e45 a).2.1 ≠ (TJxa1e45 b).2.1 := by decide +kernel
theorem tyJxa1e45_ok : ∀ k, k < 0 → parseFieldDescriptor (TJxa1e45 k).2.2.1 = some (tyJxa1e45 k) := by decide +kernel
abbrev cJxa1e45_init_da8c8 : ByteArray := prog_49_method_1_code
def yJxa1e45_init_da8c8 : MethodName := ⟨RJxa1e45, "<init>", "()V"⟩
def RJxc12de : String := "java/util/AbstractList"
def TJxc12de : u_T := fun k => match k with
  | _ => ("", "", "", false)
def tyJxc12de : Nat → FieldType := fun k => match k with
  | _ => .int
theorem nmJxc12de : ∀ a, a < 0 → ∀ b, b < 0 → a ≠ b → (TJxc12de a).2.1 ≠ (TJxc12de b).2.1 := by decide +kernel
theorem tyJxc12de_ok : ∀ k, k < 0 → parseFieldDescriptor (TJxc12de k).2.2.1 = some (tyJxc12de k) := by decide +kernel
abbrev cJxc12de_init_da8c8 : ByteArray := prog_50_method_1_code
def yJxc12de_init_da8c8 : MethodName := ⟨RJxc12de, "<init>", "()V"⟩
def RJx4a65c : String := "java/util/ArrayList"
def TJx4a65c : u_T := fun k => match k with
  | 0 => ("java/util/AbstractList", "modCount", "I", false)
  | 1 => ("java/util/ArrayList", "elementData", "[Ljava/lang/Object;", false)
  | _ => ("java/util/ArrayList", "size", "I", false)
def tyJx4a65c : Nat → FieldType := fun k => match k with
  | 0 => .int
  | 1 => .array (.object "java/lang/Object")
  | _ => .int
theorem nmJx4a65c : ∀ a, a < 3 → ∀ b, b < 3 → a ≠ b → (TJx4a65c a).2.1 ≠ (TJx4a65c b).2.1 := by decide +kernel
theorem tyJx4a65c_ok : ∀ k, k < 3 → parseFieldDescriptor (TJx4a65c k).2.2.1 = some (tyJx4a65c k) := by decide +kernel
abbrev cJx4a65c_init_da8c8 : ByteArray := prog_51_method_2_code
def yJx4a65c_init_da8c8 : MethodName := ⟨RJx4a65c, "<init>", "()V"⟩
abbrev cJx4a65c_grow_92f84 : ByteArray := prog_51_method_6_code
def yJx4a65c_grow_92f84 : MethodName := ⟨RJx4a65c, "grow", "(I)[Ljava/lang/Object;"⟩
abbrev cJx4a65c_grow_d5877 : ByteArray := prog_51_method_7_code
def yJx4a65c_grow_d5877 : MethodName := ⟨RJx4a65c, "grow", "()[Ljava/lang/Object;"⟩
abbrev cJx4a65c_size_8abf5 : ByteArray := prog_51_method_8_code
def yJx4a65c_size_8abf5 : MethodName := ⟨RJx4a65c, "size", "()I"⟩
abbrev cJx4a65c_isEmpty_aae02 : ByteArray := prog_51_method_9_code
def yJx4a65c_isEmpty_aae02 : MethodName := ⟨RJx4a65c, "isEmpty", "()Z"⟩
abbrev cJx4a65c_elementData_915e3 : ByteArray := prog_51_method_18_code
def yJx4a65c_elementData_915e3 : MethodName := ⟨RJx4a65c, "elementData", "(I)Ljava/lang/Object;"⟩
abbrev cJx4a65c_get_915e3 : ByteArray := prog_51_method_20_code
def yJx4a65c_get_915e3 : MethodName := ⟨RJx4a65c, "get", "(I)Ljava/lang/Object;"⟩
abbrev cJx4a65c_set_bcc79 : ByteArray := prog_51_method_23_code
def yJx4a65c_set_bcc79 : MethodName := ⟨RJx4a65c, "set", "(ILjava/lang/Object;)Ljava/lang/Object;"⟩
abbrev cJx4a65c_add_72be8 : ByteArray := prog_51_method_24_code
def yJx4a65c_add_72be8 : MethodName := ⟨RJx4a65c, "add", "(Ljava/lang/Object;[Ljava/lang/Object;I)V"⟩
abbrev cJx4a65c_add_9ea2d : ByteArray := prog_51_method_25_code
def yJx4a65c_add_9ea2d : MethodName := ⟨RJx4a65c, "add", "(Ljava/lang/Object;)Z"⟩
abbrev cJx4a65c_remove_915e3 : ByteArray := prog_51_method_29_code
def yJx4a65c_remove_915e3 : MethodName := ⟨RJx4a65c, "remove", "(I)Ljava/lang/Object;"⟩
abbrev cJx4a65c_fastRemove_b59b0 : ByteArray := prog_51_method_39_code
def yJx4a65c_fastRemove_b59b0 : MethodName := ⟨RJx4a65c, "fastRemove", "([Ljava/lang/Object;I)V"⟩
abbrev cJx4a65c_clear_da8c8 : ByteArray := prog_51_method_40_code
def yJx4a65c_clear_da8c8 : MethodName := ⟨RJx4a65c, "clear", "()V"⟩
def RJ7 : String := "java/util/Arrays"
def TJ7 : u_T := fun k => match k with
  | _ => ("", "", "", false)
def tyJ7 : Nat → FieldType := fun k => match k with
  | _ => .int
theorem nmJ7 : ∀ a, a < 0 → ∀ b, b < 0 → a ≠ b → (TJ7 a).2.1 ≠ (TJ7 b).2.1 := by decide +kernel
theorem tyJ7_ok : ∀ k, k < 0 → parseFieldDescriptor (TJ7 k).2.2.1 = some (tyJ7 k) := by decide +kernel
abbrev cJ7_rangeCheck_23922 : ByteArray := prog_52_method_30_code
def yJ7_rangeCheck_23922 : MethodName := ⟨RJ7, "rangeCheck", "(III)V"⟩
abbrev cJ7_fill_eb02e : ByteArray := prog_52_method_110_code
def yJ7_fill_eb02e : MethodName := ⟨RJ7, "fill", "([BIIB)V"⟩
abbrev cJ7_copyOf_1904c : ByteArray := prog_52_method_119_code
def yJ7_copyOf_1904c : MethodName := ⟨RJ7, "copyOf", "([Ljava/lang/Object;I)[Ljava/lang/Object;"⟩
abbrev cJ7_copyOf_6403c : ByteArray := prog_52_method_120_code
def yJ7_copyOf_6403c : MethodName := ⟨RJ7, "copyOf", "([Ljava/lang/Object;ILjava/lang/Class;)[Ljava/lang/Object;"⟩
abbrev cJ7_copyOf_9075b : ByteArray := prog_52_method_121_code
def yJ7_copyOf_9075b : MethodName := ⟨RJ7, "copyOf", "([BI)[B"⟩
abbrev cJ7_checkLength_df160 : ByteArray := prog_52_method_131_code
def yJ7_checkLength_df160 : MethodName := ⟨RJ7, "checkLength", "(II)V"⟩
abbrev cJ7_copyOfRange_39247 : ByteArray := prog_52_method_132_code
def yJ7_copyOfRange_39247 : MethodName := ⟨RJ7, "copyOfRange", "([BII)[B"⟩
abbrev cJ7_copyOfRangeByte_39247 : ByteArray := prog_52_method_133_code
def yJ7_copyOfRangeByte_39247 : MethodName := ⟨RJ7, "copyOfRangeByte", "([BII)[B"⟩
def RJx5ef63 : String := "java/util/Collection"
def TJx5ef63 : u_T := fun k => match k with
  | _ => ("", "", "", false)
def tyJx5ef63 : Nat → FieldType := fun k => match k with
  | _ => .int
theorem nmJx5ef63 : ∀ a, a < 0 → ∀ b, b < 0 → a ≠ b → (TJx5ef63 a).2.1 ≠ (TJx5ef63 b).2.1 := by decide +kernel
theorem tyJx5ef63_ok : ∀ k, k < 0 → parseFieldDescriptor (TJx5ef63 k).2.2.1 = some (tyJx5ef63 k) := by decide +kernel
def RJxbd725 : String := "java/util/List"
def TJxbd725 : u_T := fun k => match k with
  | _ => ("", "", "", false)
def tyJxbd725 : Nat → FieldType := fun k => match k with
  | _ => .int
theorem nmJxbd725 : ∀ a, a < 0 → ∀ b, b < 0 → a ≠ b → (TJxbd725 a).2.1 ≠ (TJxbd725 b).2.1 := by decide +kernel
theorem tyJxbd725_ok : ∀ k, k < 0 → parseFieldDescriptor (TJxbd725 k).2.2.1 = some (tyJxbd725 k) := by decide +kernel
def RJ15 : String := "java/util/Objects"
def TJ15 : u_T := fun k => match k with
  | _ => ("", "", "", false)
def tyJ15 : Nat → FieldType := fun k => match k with
  | _ => .int
theorem nmJ15 : ∀ a, a < 0 → ∀ b, b < 0 → a ≠ b → (TJ15 a).2.1 ≠ (TJ15 b).2.1 := by decide +kernel
theorem tyJ15_ok : ∀ k, k < 0 → parseFieldDescriptor (TJ15 k).2.2.1 = some (tyJ15 k) := by decide +kernel
abbrev cJ15_checkIndex_7cf53 : ByteArray := prog_55_method_17_code
def yJ15_checkIndex_7cf53 : MethodName := ⟨RJ15, "checkIndex", "(II)I"⟩
def RJxf0a74 : String := "java/util/RandomAccess"
def TJxf0a74 : u_T := fun k => match k with
  | _ => ("", "", "", false)
def tyJxf0a74 : Nat → FieldType := fun k => match k with
  | _ => .int
theorem nmJxf0a74 : ∀ a, a < 0 → ∀ b, b < 0 → a ≠ b → (TJxf0a74 a).2.1 ≠ (TJxf0a74 b).2.1 := by decide +kernel
theorem tyJxf0a74_ok : ∀ k, k < 0 → parseFieldDescriptor (TJxf0a74 k).2.2.1 = some (tyJxf0a74 k) := by decide +kernel
def RJxa66e6 : String := "java/util/SequencedCollection"
def TJxa66e6 : u_T := fun k => match k with
  | _ => ("", "", "", false)
def tyJxa66e6 : Nat → FieldType := fun k => match k with
  | _ => .int
theorem nmJxa66e6 : ∀ a, a < 0 → ∀ b, b < 0 → a ≠ b → (TJxa66e6 a).2.1 ≠ (TJxa66e6 b).2.1 := by decide +kernel
theorem tyJxa66e6_ok : ∀ k, k < 0 → parseFieldDescriptor (TJxa66e6 k).2.2.1 = some (tyJxa66e6 k) := by decide +kernel
def RJ8 : String := "jdk/internal/util/ArraysSupport"
def TJ8 : u_T := fun k => match k with
  | _ => ("", "", "", false)
def tyJ8 : Nat → FieldType := fun k => match k with
  | _ => .int
theorem nmJ8 : ∀ a, a < 0 → ∀ b, b < 0 → a ≠ b → (TJ8 a).2.1 ≠ (TJ8 b).2.1 := by decide +kernel
theorem tyJ8_ok : ∀ k, k < 0 → parseFieldDescriptor (TJ8 k).2.2.1 = some (tyJ8 k) := by decide +kernel
abbrev cJ8_newLength_cabcc : ByteArray := prog_58_method_27_code
def yJ8_newLength_cabcc : MethodName := ⟨RJ8, "newLength", "(III)I"⟩
abbrev cJ8_hugeLength_7cf53 : ByteArray := prog_58_method_28_code
def yJ8_hugeLength_7cf53 : MethodName := ⟨RJ8, "hugeLength", "(II)I"⟩
def RJ3 : String := "jdk/internal/util/Preconditions"
def TJ3 : u_T := fun k => match k with
  | _ => ("", "", "", false)
def tyJ3 : Nat → FieldType := fun k => match k with
  | _ => .int
theorem nmJ3 : ∀ a, a < 0 → ∀ b, b < 0 → a ≠ b → (TJ3 a).2.1 ≠ (TJ3 b).2.1 := by decide +kernel
theorem tyJ3_ok : ∀ k, k < 0 → parseFieldDescriptor (TJ3 k).2.2.1 = some (tyJ3 k) := by decide +kernel
abbrev cJ3_checkIndex_8e157 : ByteArray := prog_59_method_11_code
def yJ3_checkIndex_8e157 : MethodName := ⟨RJ3, "checkIndex", "(IILjava/util/function/BiFunction;)I"⟩
abbrev cJ3_checkFromToIndex_8c36e : ByteArray := prog_59_method_12_code
def yJ3_checkFromToIndex_8c36e : MethodName := ⟨RJ3, "checkFromToIndex", "(IIILjava/util/function/BiFunction;)I"⟩
abbrev cJ3_checkFromIndexSize_8c36e : ByteArray := prog_59_method_13_code
def yJ3_checkFromIndexSize_8c36e : MethodName := ⟨RJ3, "checkFromIndexSize", "(IIILjava/util/function/BiFunction;)I"⟩
def RL : String := "ChipcardhouseLaw"
abbrev cL_type : ByteArray := method_3_code
def yL_type : MethodName := ⟨RL, "type", "(LChipcardhouse;J[J)I"⟩
abbrev cL_play : ByteArray := method_4_code
def yL_play : MethodName := ⟨RL, "play", "(LChipcardhouse;[J)I"⟩
abbrev cL_account : ByteArray := method_5_code
def yL_account : MethodName := ⟨RL, "account", "(LChipcardhouse;I[J)I"⟩
abbrev cL_shop : ByteArray := method_6_code
def yL_shop : MethodName := ⟨RL, "shop", "(LChipcardhouse;II[J)I"⟩
abbrev cL_card : ByteArray := method_7_code
def yL_card : MethodName := ⟨RL, "card", "(LChipcardhouse;IIII[J)I"⟩
abbrev cL_setHouse : ByteArray := method_8_code
def yL_setHouse : MethodName := ⟨RL, "setHouse", "(LChipcardhouse;III[J)I"⟩
abbrev cL_pay : ByteArray := method_9_code
def yL_pay : MethodName := ⟨RL, "pay", "(LChipcardhouse;IIII[J)I"⟩
abbrev cL_sends : ByteArray := method_10_code
def yL_sends : MethodName := ⟨RL, "sends", "(LChipcardhouse;I[J)I"⟩
abbrev cL_backMoney : ByteArray := method_11_code
def yL_backMoney : MethodName := ⟨RL, "backMoney", "(LChipcardhouse;III[J)I"⟩
abbrev cL_forge : ByteArray := method_12_code
def yL_forge : MethodName := ⟨RL, "forge", "(LChipcardhouse;III[J)I"⟩
abbrev cL_passes : ByteArray := method_13_code
def yL_passes : MethodName := ⟨RL, "passes", "(LChipcardhouse;I[J)I"⟩
abbrev cL_faults : ByteArray := method_14_code
def yL_faults : MethodName := ⟨RL, "faults", "(LChipcardhouse;IIII[J)I"⟩
abbrev cL_tells : ByteArray := method_15_code
def yL_tells : MethodName := ⟨RL, "tells", "(LChipcardhouse;II[J)I"⟩
abbrev cL_stolen : ByteArray := method_16_code
def yL_stolen : MethodName := ⟨RL, "stolen", "(LChipcardhouse;I[J)I"⟩
abbrev cL_freeze : ByteArray := method_17_code
def yL_freeze : MethodName := ⟨RL, "freeze", "(LChipcardhouse;IZ[J)I"⟩
abbrev cL_dispute : ByteArray := method_18_code
def yL_dispute : MethodName := ⟨RL, "dispute", "(LChipcardhouse;I[J)I"⟩
abbrev cL_cardAt : ByteArray := method_19_code
def yL_cardAt : MethodName := ⟨RL, "cardAt", "(LChipcardhouse;II[J)I"⟩
abbrev cL_paymentAt : ByteArray := method_20_code
def yL_paymentAt : MethodName := ⟨RL, "paymentAt", "(LChipcardhouse;II[J)I"⟩
abbrev cL_knows : ByteArray := method_21_code
def yL_knows : MethodName := ⟨RL, "knows", "(LChipcardhouse;II[J)I"⟩
abbrev cL_accountAt : ByteArray := method_22_code
def yL_accountAt : MethodName := ⟨RL, "accountAt", "(LChipcardhouse;II[J)I"⟩
abbrev cL_shopAt : ByteArray := method_23_code
def yL_shopAt : MethodName := ⟨RL, "shopAt", "(LChipcardhouse;II[J)I"⟩
abbrev cL_count : ByteArray := method_24_code
def yL_count : MethodName := ⟨RL, "count", "(LChipcardhouse;I[J)I"⟩
abbrev cL_meanPayment : ByteArray := method_25_code
def yL_meanPayment : MethodName := ⟨RL, "meanPayment", "(LChipcardhouse;I[D)I"⟩
abbrev cL_law : ByteArray := code
def yL_law : MethodName := ⟨RL, "law", "([I)Z"⟩
