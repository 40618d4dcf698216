-- ===== PART A: goes FIRST, ahead of the names: the tables' words, and 'selects' of the private methods out of them =====
/-- a private method of a class that the tables say can be made, by its rows of tables_1 -/
def lw_okq (q : MethodName × Nat) : Prop := (q.1.cls ≠ "java/lang/invoke/MethodHandle" ∧ q.1.cls ≠ "java/lang/invoke/VarHandle") ∧ Cond.instantiable q.1.cls q.2 ∈ tables_1 ∧ Cond.privateMethod q.1 ∈ tables_1 ∧ Cond.instanceMethod q.1 ∈ tables_1
theorem lw_p0 : lw_okq (⟨"java/lang/Throwable", "fillInStackTrace", "(I)Ljava/lang/Throwable;"⟩, 6) := ⟨⟨by decide +kernel, by decide +kernel⟩, List.mem_of_getElem? (i := 455) (by decide +kernel), List.mem_of_getElem? (i := 453) (by decide +kernel), List.mem_of_getElem? (i := 454) (by decide +kernel)⟩
theorem lw_p1 : lw_okq (⟨"RibafreeHouse", "addPeople", "(J)J"⟩, 10) := ⟨⟨by decide +kernel, by decide +kernel⟩, List.mem_of_getElem? (i := 40) (by decide +kernel), List.mem_of_getElem? (i := 484) (by decide +kernel), List.mem_of_getElem? (i := 485) (by decide +kernel)⟩
theorem lw_p2 : lw_okq (⟨"RibafreeHouse", "addThings", "(J)J"⟩, 10) := ⟨⟨by decide +kernel, by decide +kernel⟩, List.mem_of_getElem? (i := 40) (by decide +kernel), List.mem_of_getElem? (i := 548) (by decide +kernel), List.mem_of_getElem? (i := 549) (by decide +kernel)⟩
theorem lw_p3 : lw_okq (⟨"RibafreeHouse", "addSales", "(J)J"⟩, 10) := ⟨⟨by decide +kernel, by decide +kernel⟩, List.mem_of_getElem? (i := 40) (by decide +kernel), List.mem_of_getElem? (i := 562) (by decide +kernel), List.mem_of_getElem? (i := 563) (by decide +kernel)⟩
theorem lw_p4 : lw_okq (⟨"RibafreeHouse", "addLeases", "(J)J"⟩, 10) := ⟨⟨by decide +kernel, by decide +kernel⟩, List.mem_of_getElem? (i := 40) (by decide +kernel), List.mem_of_getElem? (i := 584) (by decide +kernel), List.mem_of_getElem? (i := 585) (by decide +kernel)⟩
theorem lw_p5 : lw_okq (⟨"RibafreeHouse", "addVentures", "(J)J"⟩, 10) := ⟨⟨by decide +kernel, by decide +kernel⟩, List.mem_of_getElem? (i := 40) (by decide +kernel), List.mem_of_getElem? (i := 598) (by decide +kernel), List.mem_of_getElem? (i := 599) (by decide +kernel)⟩
theorem lw_p6 : lw_okq (⟨"RibafreeHouse", "addPartner", "(JII)J"⟩, 10) := ⟨⟨by decide +kernel, by decide +kernel⟩, List.mem_of_getElem? (i := 40) (by decide +kernel), List.mem_of_getElem? (i := 602) (by decide +kernel), List.mem_of_getElem? (i := 603) (by decide +kernel)⟩
theorem lw_p7 : lw_okq (⟨"RibafreeHouse", "isParty", "(I)Z"⟩, 10) := ⟨⟨by decide +kernel, by decide +kernel⟩, List.mem_of_getElem? (i := 40) (by decide +kernel), List.mem_of_getElem? (i := 614) (by decide +kernel), List.mem_of_getElem? (i := 615) (by decide +kernel)⟩
theorem lw_p8 : lw_okq (⟨"RibafreeHouse", "addFirms", "(J)J"⟩, 10) := ⟨⟨by decide +kernel, by decide +kernel⟩, List.mem_of_getElem? (i := 40) (by decide +kernel), List.mem_of_getElem? (i := 629) (by decide +kernel), List.mem_of_getElem? (i := 630) (by decide +kernel)⟩
theorem lw_p9 : lw_okq (⟨"RibafreeHouse", "missingPillars", "(II)I"⟩, 10) := ⟨⟨by decide +kernel, by decide +kernel⟩, List.mem_of_getElem? (i := 40) (by decide +kernel), List.mem_of_getElem? (i := 822) (by decide +kernel), List.mem_of_getElem? (i := 823) (by decide +kernel)⟩
theorem lw_p10 : lw_okq (⟨"RibafreeHouse", "canLease", "(II)Z"⟩, 10) := ⟨⟨by decide +kernel, by decide +kernel⟩, List.mem_of_getElem? (i := 40) (by decide +kernel), List.mem_of_getElem? (i := 875) (by decide +kernel), List.mem_of_getElem? (i := 876) (by decide +kernel)⟩
theorem lw_p11 : lw_okq (⟨"RibafreeHouse", "shareProfit", "(II)V"⟩, 10) := ⟨⟨by decide +kernel, by decide +kernel⟩, List.mem_of_getElem? (i := 40) (by decide +kernel), List.mem_of_getElem? (i := 932) (by decide +kernel), List.mem_of_getElem? (i := 933) (by decide +kernel)⟩
theorem lw_p12 : lw_okq (⟨"RibafreeHouse", "creditProfit", "(III)V"⟩, 10) := ⟨⟨by decide +kernel, by decide +kernel⟩, List.mem_of_getElem? (i := 40) (by decide +kernel), List.mem_of_getElem? (i := 938) (by decide +kernel), List.mem_of_getElem? (i := 939) (by decide +kernel)⟩
theorem lw_p13 : lw_okq (⟨"RibafreeHouse", "collectRents", "()V"⟩, 10) := ⟨⟨by decide +kernel, by decide +kernel⟩, List.mem_of_getElem? (i := 40) (by decide +kernel), List.mem_of_getElem? (i := 1069) (by decide +kernel), List.mem_of_getElem? (i := 1070) (by decide +kernel)⟩
theorem lw_p14 : lw_okq (⟨"RibafreeHouseModel", "start", "(ZI)Z"⟩, 18) := ⟨⟨by decide +kernel, by decide +kernel⟩, List.mem_of_getElem? (i := 1407) (by decide +kernel), List.mem_of_getElem? (i := 1508) (by decide +kernel), List.mem_of_getElem? (i := 1509) (by decide +kernel)⟩
theorem lw_p15 : lw_okq (⟨"RibafreeHouseModel", "refuse", "(ZI)Z"⟩, 18) := ⟨⟨by decide +kernel, by decide +kernel⟩, List.mem_of_getElem? (i := 1407) (by decide +kernel), List.mem_of_getElem? (i := 1512) (by decide +kernel), List.mem_of_getElem? (i := 1513) (by decide +kernel)⟩
def lw_privs_1 : List (MethodName × Nat) := [(⟨"java/lang/Throwable", "fillInStackTrace", "(I)Ljava/lang/Throwable;"⟩, 6), (⟨"RibafreeHouse", "addPeople", "(J)J"⟩, 10), (⟨"RibafreeHouse", "addThings", "(J)J"⟩, 10), (⟨"RibafreeHouse", "addSales", "(J)J"⟩, 10), (⟨"RibafreeHouse", "addLeases", "(J)J"⟩, 10), (⟨"RibafreeHouse", "addVentures", "(J)J"⟩, 10), (⟨"RibafreeHouse", "addPartner", "(JII)J"⟩, 10), (⟨"RibafreeHouse", "isParty", "(I)Z"⟩, 10), (⟨"RibafreeHouse", "addFirms", "(J)J"⟩, 10), (⟨"RibafreeHouse", "missingPillars", "(II)I"⟩, 10), (⟨"RibafreeHouse", "canLease", "(II)Z"⟩, 10), (⟨"RibafreeHouse", "shareProfit", "(II)V"⟩, 10), (⟨"RibafreeHouse", "creditProfit", "(III)V"⟩, 10), (⟨"RibafreeHouse", "collectRents", "()V"⟩, 10), (⟨"RibafreeHouseModel", "start", "(ZI)Z"⟩, 18), (⟨"RibafreeHouseModel", "refuse", "(ZI)Z"⟩, 18)]
theorem lw_r1 : ∀ q ∈ lw_privs_1, lw_okq q := List.forall_mem_cons.mpr ⟨lw_p0, List.forall_mem_cons.mpr ⟨lw_p1, List.forall_mem_cons.mpr ⟨lw_p2, List.forall_mem_cons.mpr ⟨lw_p3, List.forall_mem_cons.mpr ⟨lw_p4, List.forall_mem_cons.mpr ⟨lw_p5, List.forall_mem_cons.mpr ⟨lw_p6, List.forall_mem_cons.mpr ⟨lw_p7, List.forall_mem_cons.mpr ⟨lw_p8, List.forall_mem_cons.mpr ⟨lw_p9, List.forall_mem_cons.mpr ⟨lw_p10, List.forall_mem_cons.mpr ⟨lw_p11, List.forall_mem_cons.mpr ⟨lw_p12, List.forall_mem_cons.mpr ⟨lw_p13, List.forall_mem_cons.mpr ⟨lw_p14, List.forall_mem_cons.mpr ⟨lw_p15, fun _ h => absurd h List.not_mem_nil⟩⟩⟩⟩⟩⟩⟩⟩⟩⟩⟩⟩⟩⟩⟩⟩
theorem lw_p16 : lw_okq (⟨"java/util/ArrayList", "add", "(Ljava/lang/Object;[Ljava/lang/Object;I)V"⟩, 3) := ⟨⟨by decide +kernel, by decide +kernel⟩, List.mem_of_getElem? (i := 1413) (by decide +kernel), List.mem_of_getElem? (i := 1523) (by decide +kernel), List.mem_of_getElem? (i := 1524) (by decide +kernel)⟩
theorem lw_p17 : lw_okq (⟨"java/util/ArrayList", "grow", "()[Ljava/lang/Object;"⟩, 3) := ⟨⟨by decide +kernel, by decide +kernel⟩, List.mem_of_getElem? (i := 1413) (by decide +kernel), List.mem_of_getElem? (i := 1527) (by decide +kernel), List.mem_of_getElem? (i := 1528) (by decide +kernel)⟩
theorem lw_p18 : lw_okq (⟨"java/util/ArrayList", "grow", "(I)[Ljava/lang/Object;"⟩, 3) := ⟨⟨by decide +kernel, by decide +kernel⟩, List.mem_of_getElem? (i := 1413) (by decide +kernel), List.mem_of_getElem? (i := 1531) (by decide +kernel), List.mem_of_getElem? (i := 1532) (by decide +kernel)⟩
theorem lw_p19 : lw_okq (⟨"RibafreeHouseModel", "forIt", "(II)I"⟩, 18) := ⟨⟨by decide +kernel, by decide +kernel⟩, List.mem_of_getElem? (i := 1407) (by decide +kernel), List.mem_of_getElem? (i := 1573) (by decide +kernel), List.mem_of_getElem? (i := 1574) (by decide +kernel)⟩
theorem lw_p20 : lw_okq (⟨"RibafreeHouseModel", "isNobody", "(I)Z"⟩, 18) := ⟨⟨by decide +kernel, by decide +kernel⟩, List.mem_of_getElem? (i := 1407) (by decide +kernel), List.mem_of_getElem? (i := 1632) (by decide +kernel), List.mem_of_getElem? (i := 1633) (by decide +kernel)⟩
theorem lw_p21 : lw_okq (⟨"RibafreeHouseModel", "isNoThing", "(I)Z"⟩, 18) := ⟨⟨by decide +kernel, by decide +kernel⟩, List.mem_of_getElem? (i := 1407) (by decide +kernel), List.mem_of_getElem? (i := 1673) (by decide +kernel), List.mem_of_getElem? (i := 1674) (by decide +kernel)⟩
theorem lw_p22 : lw_okq (⟨"RibafreeHouseModel", "leaseOf", "(I)I"⟩, 18) := ⟨⟨by decide +kernel, by decide +kernel⟩, List.mem_of_getElem? (i := 1407) (by decide +kernel), List.mem_of_getElem? (i := 1691) (by decide +kernel), List.mem_of_getElem? (i := 1692) (by decide +kernel)⟩
theorem lw_p23 : lw_okq (⟨"RibafreeHouseModel", "missing", "(LRibafreeHouseModel$Thing;I)I"⟩, 18) := ⟨⟨by decide +kernel, by decide +kernel⟩, List.mem_of_getElem? (i := 1407) (by decide +kernel), List.mem_of_getElem? (i := 1710) (by decide +kernel), List.mem_of_getElem? (i := 1711) (by decide +kernel)⟩
theorem lw_p24 : lw_okq (⟨"RibafreeHouseModel", "isAllowed", "(II)Z"⟩, 18) := ⟨⟨by decide +kernel, by decide +kernel⟩, List.mem_of_getElem? (i := 1407) (by decide +kernel), List.mem_of_getElem? (i := 1714) (by decide +kernel), List.mem_of_getElem? (i := 1715) (by decide +kernel)⟩
theorem lw_p25 : lw_okq (⟨"RibafreeHouseModel", "isNoVenture", "(I)Z"⟩, 18) := ⟨⟨by decide +kernel, by decide +kernel⟩, List.mem_of_getElem? (i := 1407) (by decide +kernel), List.mem_of_getElem? (i := 1858) (by decide +kernel), List.mem_of_getElem? (i := 1859) (by decide +kernel)⟩
theorem lw_p26 : lw_okq (⟨"RibafreeHouseModel", "isNoOne", "(I)Z"⟩, 18) := ⟨⟨by decide +kernel, by decide +kernel⟩, List.mem_of_getElem? (i := 1407) (by decide +kernel), List.mem_of_getElem? (i := 1862) (by decide +kernel), List.mem_of_getElem? (i := 1863) (by decide +kernel)⟩
theorem lw_p27 : lw_okq (⟨"RibafreeHouseModel", "profit", "(LRibafreeHouseModel$Venture;I)V"⟩, 18) := ⟨⟨by decide +kernel, by decide +kernel⟩, List.mem_of_getElem? (i := 1407) (by decide +kernel), List.mem_of_getElem? (i := 1877) (by decide +kernel), List.mem_of_getElem? (i := 1878) (by decide +kernel)⟩
theorem lw_p28 : lw_okq (⟨"RibafreeHouseModel", "shared", "(III)[I"⟩, 18) := ⟨⟨by decide +kernel, by decide +kernel⟩, List.mem_of_getElem? (i := 1407) (by decide +kernel), List.mem_of_getElem? (i := 1900) (by decide +kernel), List.mem_of_getElem? (i := 1901) (by decide +kernel)⟩
theorem lw_p29 : lw_okq (⟨"RibafreeHouseModel", "clean", "()I"⟩, 18) := ⟨⟨by decide +kernel, by decide +kernel⟩, List.mem_of_getElem? (i := 1407) (by decide +kernel), List.mem_of_getElem? (i := 1913) (by decide +kernel), List.mem_of_getElem? (i := 1914) (by decide +kernel)⟩
theorem lw_p30 : lw_okq (⟨"RibafreeHouseModel", "isClean", "(I)Z"⟩, 18) := ⟨⟨by decide +kernel, by decide +kernel⟩, List.mem_of_getElem? (i := 1407) (by decide +kernel), List.mem_of_getElem? (i := 1917) (by decide +kernel), List.mem_of_getElem? (i := 1918) (by decide +kernel)⟩
theorem lw_p31 : lw_okq (⟨"RibafreeHouseModel", "sumOf", "(II)I"⟩, 18) := ⟨⟨by decide +kernel, by decide +kernel⟩, List.mem_of_getElem? (i := 1407) (by decide +kernel), List.mem_of_getElem? (i := 1921) (by decide +kernel), List.mem_of_getElem? (i := 1922) (by decide +kernel)⟩
def lw_privs_2 : List (MethodName × Nat) := [(⟨"java/util/ArrayList", "add", "(Ljava/lang/Object;[Ljava/lang/Object;I)V"⟩, 3), (⟨"java/util/ArrayList", "grow", "()[Ljava/lang/Object;"⟩, 3), (⟨"java/util/ArrayList", "grow", "(I)[Ljava/lang/Object;"⟩, 3), (⟨"RibafreeHouseModel", "forIt", "(II)I"⟩, 18), (⟨"RibafreeHouseModel", "isNobody", "(I)Z"⟩, 18), (⟨"RibafreeHouseModel", "isNoThing", "(I)Z"⟩, 18), (⟨"RibafreeHouseModel", "leaseOf", "(I)I"⟩, 18), (⟨"RibafreeHouseModel", "missing", "(LRibafreeHouseModel$Thing;I)I"⟩, 18), (⟨"RibafreeHouseModel", "isAllowed", "(II)Z"⟩, 18), (⟨"RibafreeHouseModel", "isNoVenture", "(I)Z"⟩, 18), (⟨"RibafreeHouseModel", "isNoOne", "(I)Z"⟩, 18), (⟨"RibafreeHouseModel", "profit", "(LRibafreeHouseModel$Venture;I)V"⟩, 18), (⟨"RibafreeHouseModel", "shared", "(III)[I"⟩, 18), (⟨"RibafreeHouseModel", "clean", "()I"⟩, 18), (⟨"RibafreeHouseModel", "isClean", "(I)Z"⟩, 18), (⟨"RibafreeHouseModel", "sumOf", "(II)I"⟩, 18)]
theorem lw_r2 : ∀ q ∈ lw_privs_2, lw_okq q := List.forall_mem_cons.mpr ⟨lw_p16, List.forall_mem_cons.mpr ⟨lw_p17, List.forall_mem_cons.mpr ⟨lw_p18, List.forall_mem_cons.mpr ⟨lw_p19, List.forall_mem_cons.mpr ⟨lw_p20, List.forall_mem_cons.mpr ⟨lw_p21, List.forall_mem_cons.mpr ⟨lw_p22, List.forall_mem_cons.mpr ⟨lw_p23, List.forall_mem_cons.mpr ⟨lw_p24, List.forall_mem_cons.mpr ⟨lw_p25, List.forall_mem_cons.mpr ⟨lw_p26, List.forall_mem_cons.mpr ⟨lw_p27, List.forall_mem_cons.mpr ⟨lw_p28, List.forall_mem_cons.mpr ⟨lw_p29, List.forall_mem_cons.mpr ⟨lw_p30, List.forall_mem_cons.mpr ⟨lw_p31, fun _ h => absurd h List.not_mem_nil⟩⟩⟩⟩⟩⟩⟩⟩⟩⟩⟩⟩⟩⟩⟩⟩
theorem lw_p32 : lw_okq (⟨"RibafreeHouseModel", "rents", "()V"⟩, 18) := ⟨⟨by decide +kernel, by decide +kernel⟩, List.mem_of_getElem? (i := 1407) (by decide +kernel), List.mem_of_getElem? (i := 1936) (by decide +kernel), List.mem_of_getElem? (i := 1937) (by decide +kernel)⟩
theorem lw_p33 : lw_okq (⟨"RibafreeHouseModel", "personTold", "(II)I"⟩, 18) := ⟨⟨by decide +kernel, by decide +kernel⟩, List.mem_of_getElem? (i := 1407) (by decide +kernel), List.mem_of_getElem? (i := 1944) (by decide +kernel), List.mem_of_getElem? (i := 1945) (by decide +kernel)⟩
theorem lw_p34 : lw_okq (⟨"RibafreeHouseModel", "thingTold", "(II)I"⟩, 18) := ⟨⟨by decide +kernel, by decide +kernel⟩, List.mem_of_getElem? (i := 1407) (by decide +kernel), List.mem_of_getElem? (i := 1957) (by decide +kernel), List.mem_of_getElem? (i := 1958) (by decide +kernel)⟩
theorem lw_p35 : lw_okq (⟨"RibafreeHouseModel", "saleTold", "(II)I"⟩, 18) := ⟨⟨by decide +kernel, by decide +kernel⟩, List.mem_of_getElem? (i := 1407) (by decide +kernel), List.mem_of_getElem? (i := 1965) (by decide +kernel), List.mem_of_getElem? (i := 1966) (by decide +kernel)⟩
theorem lw_p36 : lw_okq (⟨"RibafreeHouseModel", "leaseTold", "(II)I"⟩, 18) := ⟨⟨by decide +kernel, by decide +kernel⟩, List.mem_of_getElem? (i := 1407) (by decide +kernel), List.mem_of_getElem? (i := 1973) (by decide +kernel), List.mem_of_getElem? (i := 1974) (by decide +kernel)⟩
theorem lw_p37 : lw_okq (⟨"RibafreeHouseModel", "ventureTold", "(III)I"⟩, 18) := ⟨⟨by decide +kernel, by decide +kernel⟩, List.mem_of_getElem? (i := 1407) (by decide +kernel), List.mem_of_getElem? (i := 1981) (by decide +kernel), List.mem_of_getElem? (i := 1982) (by decide +kernel)⟩
theorem lw_p38 : lw_okq (⟨"RibafreeHouseModel", "firmTold", "(II)I"⟩, 18) := ⟨⟨by decide +kernel, by decide +kernel⟩, List.mem_of_getElem? (i := 1407) (by decide +kernel), List.mem_of_getElem? (i := 1989) (by decide +kernel), List.mem_of_getElem? (i := 1990) (by decide +kernel)⟩
theorem lw_p39 : lw_okq (⟨"RibafreeHouseModel", "houseTold", "(I)I"⟩, 18) := ⟨⟨by decide +kernel, by decide +kernel⟩, List.mem_of_getElem? (i := 1407) (by decide +kernel), List.mem_of_getElem? (i := 2001) (by decide +kernel), List.mem_of_getElem? (i := 2002) (by decide +kernel)⟩
theorem lw_p40 : lw_okq (⟨"RibafreeHouseModel", "bestSet", "(I)I"⟩, 18) := ⟨⟨by decide +kernel, by decide +kernel⟩, List.mem_of_getElem? (i := 1407) (by decide +kernel), List.mem_of_getElem? (i := 2030) (by decide +kernel), List.mem_of_getElem? (i := 2031) (by decide +kernel)⟩
theorem lw_p41 : lw_okq (⟨"RibafreeHouseModel", "isWhole", "()Z"⟩, 18) := ⟨⟨by decide +kernel, by decide +kernel⟩, List.mem_of_getElem? (i := 1407) (by decide +kernel), List.mem_of_getElem? (i := 2042) (by decide +kernel), List.mem_of_getElem? (i := 2043) (by decide +kernel)⟩
def lw_privs_3 : List (MethodName × Nat) := [(⟨"RibafreeHouseModel", "rents", "()V"⟩, 18), (⟨"RibafreeHouseModel", "personTold", "(II)I"⟩, 18), (⟨"RibafreeHouseModel", "thingTold", "(II)I"⟩, 18), (⟨"RibafreeHouseModel", "saleTold", "(II)I"⟩, 18), (⟨"RibafreeHouseModel", "leaseTold", "(II)I"⟩, 18), (⟨"RibafreeHouseModel", "ventureTold", "(III)I"⟩, 18), (⟨"RibafreeHouseModel", "firmTold", "(II)I"⟩, 18), (⟨"RibafreeHouseModel", "houseTold", "(I)I"⟩, 18), (⟨"RibafreeHouseModel", "bestSet", "(I)I"⟩, 18), (⟨"RibafreeHouseModel", "isWhole", "()Z"⟩, 18)]
theorem lw_r3 : ∀ q ∈ lw_privs_3, lw_okq q := List.forall_mem_cons.mpr ⟨lw_p32, List.forall_mem_cons.mpr ⟨lw_p33, List.forall_mem_cons.mpr ⟨lw_p34, List.forall_mem_cons.mpr ⟨lw_p35, List.forall_mem_cons.mpr ⟨lw_p36, List.forall_mem_cons.mpr ⟨lw_p37, List.forall_mem_cons.mpr ⟨lw_p38, List.forall_mem_cons.mpr ⟨lw_p39, List.forall_mem_cons.mpr ⟨lw_p40, List.forall_mem_cons.mpr ⟨lw_p41, fun _ h => absurd h List.not_mem_nil⟩⟩⟩⟩⟩⟩⟩⟩⟩⟩
def lw_privs : List (MethodName × Nat) := lw_privs_1 ++ (lw_privs_2 ++ (lw_privs_3))
def lw_tbl : List Cond := k2_sels lw_privs ++ tables_1
theorem lw_privs_ok : ∀ q ∈ lw_privs, lw_okq q := by
  show ∀ q ∈ lw_privs_1 ++ (lw_privs_2 ++ (lw_privs_3)), lw_okq q
  exact List.forall_mem_append.mpr ⟨lw_r1, List.forall_mem_append.mpr ⟨lw_r2, lw_r3⟩⟩

def RX0 : String := "RibafreeHouse$Board"
def RX1 : String := "RibafreeHouse$Firms"
def RX2 : String := "RibafreeHouse$Leases"
def RX3 : String := "RibafreeHouse$Pool"
def RX4 : String := "RibafreeHouse$Purses"
def RX5 : String := "RibafreeHouse$Sales"
def RX6 : String := "RibafreeHouse$Things"
def RX7 : String := "RibafreeHouse$Ventures"
def RX8 : String := "RibafreeHouse"
def RX9 : String := "RibafreeHouseLaw$Out"
def RX10 : String := "RibafreeHouseModel$Lease"
def RX11 : String := "RibafreeHouseModel$Sale"
def RX12 : String := "RibafreeHouseModel$Thing"
def RX13 : String := "RibafreeHouseModel$Venture"
def RX14 : String := "RibafreeHouseModel"
def RJx145de : String := "java/io/Serializable"
def RJ5 : String := "java/lang/AbstractStringBuilder"
def RJx2cfe8 : String := "java/lang/Appendable"
def RJx9f9b0 : String := "java/lang/CharSequence"
def RJx8e188 : String := "java/lang/Cloneable"
def RJxb160c : String := "java/lang/Comparable"
def RJ6 : String := "java/lang/Integer"
def RJxab1ab : String := "java/lang/Iterable"
def RJ9 : String := "java/lang/Math"
def RJxd2413 : String := "java/lang/Number"
def RJ0 : String := "java/lang/String"
def RJ4 : String := "java/lang/StringBuilder"
def RJ1 : String := "java/lang/StringLatin1"
def RJ2 : String := "java/lang/StringUTF16"
def RJ10 : String := "java/lang/System"
def RJxfd54e : String := "java/lang/constant/Constable"
def RJx3cf43 : String := "java/lang/constant/ConstantDesc"
def RJxa1e45 : String := "java/util/AbstractCollection"
def RJxc12de : String := "java/util/AbstractList"
def RJx35411 : String := "java/util/ArrayList$Itr"
def RJx4a65c : String := "java/util/ArrayList"
def RJ7 : String := "java/util/Arrays"
def RJx5ef63 : String := "java/util/Collection"
def RJx4d0d8 : String := "java/util/Iterator"
def RJxbd725 : String := "java/util/List"
def RJ15 : String := "java/util/Objects"
def RJxf0a74 : String := "java/util/RandomAccess"
def RJxa66e6 : String := "java/util/SequencedCollection"
def RJ8 : String := "jdk/internal/util/ArraysSupport"
def RJ3 : String := "jdk/internal/util/Preconditions"
def RL : String := "RibafreeHouseLaw"
def TJ0 : u_T := fun k => match k with
  | 0 => ("java/lang/String", "value", "[B", true)
  | 1 => ("java/lang/String", "coder", "B", true)
  | 2 => ("java/lang/String", "hash", "I", false)
  | _ => ("java/lang/String", "hashIsZero", "Z", false)
def tyJ0 : Nat → FieldType := fun k => match k with
  | 0 => .array .byte
  | 1 => .byte
  | 2 => .int
  | _ => .boolean
def TJ4 : u_T := fun k => match k with
  | 0 => ("java/lang/AbstractStringBuilder", "value", "[B", false)
  | 1 => ("java/lang/AbstractStringBuilder", "coder", "B", false)
  | 2 => ("java/lang/AbstractStringBuilder", "maybeLatin1", "Z", false)
  | _ => ("java/lang/AbstractStringBuilder", "count", "I", false)
def tyJ4 : Nat → FieldType := fun k => match k with
  | 0 => .array .byte
  | 1 => .byte
  | 2 => .boolean
  | _ => .int
def TJx35411 : u_T := fun k => match k with
  | 0 => ("java/util/ArrayList$Itr", "cursor", "I", false)
  | 1 => ("java/util/ArrayList$Itr", "lastRet", "I", false)
  | 2 => ("java/util/ArrayList$Itr", "expectedModCount", "I", false)
  | _ => ("java/util/ArrayList$Itr", "this$0", "Ljava/util/ArrayList;", true)
def tyJx35411 : Nat → FieldType := fun k => match k with
  | 0 => .int
  | 1 => .int
  | 2 => .int
  | _ => .object "java/util/ArrayList"
def TJx4a65c : u_T := fun k => match k with
  | 0 => ("java/util/AbstractList", "modCount", "I", false)
  | 1 => ("java/util/ArrayList", "elementData", "[Ljava/lang/Object;", false)
  | _ => ("java/util/ArrayList", "size", "I", false)
def tyJx4a65c : Nat → FieldType := fun k => match k with
  | 0 => .int
  | 1 => .array (.object "java/lang/Object")
  | _ => .int
def TX0 : u_T := fun k => match k with
  | 0 => ("RibafreeHouse$Board", "supporters", "[I", true)
  | _ => ("RibafreeHouse$Board", "past", "[B", true)
def tyX0 : Nat → FieldType := fun k => match k with
  | 0 => .array .int
  | _ => .array .byte
def TX1 : u_T := fun k => match k with
  | 0 => ("RibafreeHouse$Firms", "count", "I", false)
  | 1 => ("RibafreeHouse$Firms", "clean", "I", false)
  | 2 => ("RibafreeHouse$Firms", "held", "I", false)
  | 3 => ("RibafreeHouse$Firms", "assets", "[I", true)
  | 4 => ("RibafreeHouse$Firms", "doubt", "[I", true)
  | 5 => ("RibafreeHouse$Firms", "given", "[I", true)
  | 6 => ("RibafreeHouse$Firms", "priceSum", "[I", true)
  | _ => ("RibafreeHouse$Firms", "gainSum", "[I", true)
def tyX1 : Nat → FieldType := fun k => match k with
  | 0 => .int
  | 1 => .int
  | 2 => .int
  | 3 => .array .int
  | 4 => .array .int
  | 5 => .array .int
  | 6 => .array .int
  | _ => .array .int
def TX2 : u_T := fun k => match k with
  | 0 => ("RibafreeHouse$Leases", "count", "I", false)
  | 1 => ("RibafreeHouse$Leases", "thing", "[I", true)
  | 2 => ("RibafreeHouse$Leases", "worth", "[I", true)
  | 3 => ("RibafreeHouse$Leases", "person", "[I", true)
  | 4 => ("RibafreeHouse$Leases", "floor", "[I", true)
  | 5 => ("RibafreeHouse$Leases", "ceiling", "[I", true)
  | 6 => ("RibafreeHouse$Leases", "isEnded", "[Z", true)
  | 7 => ("RibafreeHouse$Leases", "nextDay", "[I", true)
  | 8 => ("RibafreeHouse$Leases", "rents", "[I", true)
  | _ => ("RibafreeHouse$Leases", "rentSum", "[I", true)
def tyX2 : Nat → FieldType := fun k => match k with
  | 0 => .int
  | 1 => .array .int
  | 2 => .array .int
  | 3 => .array .int
  | 4 => .array .int
  | 5 => .array .int
  | 6 => .array .boolean
  | 7 => .array .int
  | 8 => .array .int
  | _ => .array .int
def TX3 : u_T := fun k => match k with
  | 0 => ("RibafreeHouse$Pool", "deposit", "[I", true)
  | 1 => ("RibafreeHouse$Pool", "weight", "[I", true)
  | 2 => ("RibafreeHouse$Pool", "reserve", "I", false)
  | 3 => ("RibafreeHouse$Pool", "target", "I", false)
  | _ => ("RibafreeHouse$Pool", "management", "I", false)
def tyX3 : Nat → FieldType := fun k => match k with
  | 0 => .array .int
  | 1 => .array .int
  | 2 => .int
  | 3 => .int
  | _ => .int
def TX4 : u_T := fun k => match k with
  | 0 => ("RibafreeHouse$Purses", "count", "I", false)
  | 1 => ("RibafreeHouse$Purses", "charity", "I", false)
  | _ => ("RibafreeHouse$Purses", "cash", "[I", true)
def tyX4 : Nat → FieldType := fun k => match k with
  | 0 => .int
  | 1 => .int
  | _ => .array .int
def TX5 : u_T := fun k => match k with
  | 0 => ("RibafreeHouse$Sales", "count", "I", false)
  | 1 => ("RibafreeHouse$Sales", "thing", "[I", true)
  | 2 => ("RibafreeHouse$Sales", "buyer", "[I", true)
  | 3 => ("RibafreeHouse$Sales", "markup", "[I", true)
  | 4 => ("RibafreeHouse$Sales", "price", "[I", true)
  | 5 => ("RibafreeHouse$Sales", "missing", "[I", true)
  | 6 => ("RibafreeHouse$Sales", "parts", "[I", true)
  | 7 => ("RibafreeHouse$Sales", "paid", "[I", true)
  | 8 => ("RibafreeHouse$Sales", "start", "[I", true)
  | 9 => ("RibafreeHouse$Sales", "fees", "[I", true)
  | _ => ("RibafreeHouse$Sales", "rebates", "[I", true)
def tyX5 : Nat → FieldType := fun k => match k with
  | 0 => .int
  | 1 => .array .int
  | 2 => .array .int
  | 3 => .array .int
  | 4 => .array .int
  | 5 => .array .int
  | 6 => .array .int
  | 7 => .array .int
  | 8 => .array .int
  | 9 => .array .int
  | _ => .array .int
def TX6 : u_T := fun k => match k with
  | 0 => ("RibafreeHouse$Things", "count", "I", false)
  | 1 => ("RibafreeHouse$Things", "worth", "[I", true)
  | 2 => ("RibafreeHouse$Things", "owner", "[I", true)
  | 3 => ("RibafreeHouse$Things", "isHeld", "[Z", true)
  | 4 => ("RibafreeHouse$Things", "isRuined", "[Z", true)
  | 5 => ("RibafreeHouse$Things", "cost", "[I", true)
  | 6 => ("RibafreeHouse$Things", "seller", "[I", true)
  | _ => ("RibafreeHouse$Things", "lease", "[I", true)
def tyX6 : Nat → FieldType := fun k => match k with
  | 0 => .int
  | 1 => .array .int
  | 2 => .array .int
  | 3 => .array .boolean
  | 4 => .array .boolean
  | 5 => .array .int
  | 6 => .array .int
  | _ => .array .int
def TX7 : u_T := fun k => match k with
  | 0 => ("RibafreeHouse$Ventures", "count", "I", false)
  | 1 => ("RibafreeHouse$Ventures", "partner", "[Z", true)
  | 2 => ("RibafreeHouse$Ventures", "capital", "[I", true)
  | 3 => ("RibafreeHouse$Ventures", "percent", "[I", true)
  | _ => ("RibafreeHouse$Ventures", "gain", "[I", true)
def tyX7 : Nat → FieldType := fun k => match k with
  | 0 => .int
  | 1 => .array .boolean
  | 2 => .array .int
  | 3 => .array .int
  | _ => .array .int
def TX8 : u_T := fun k => match k with
  | 0 => ("RibafreeHouse", "board", "LRibafreeHouse$Board;", true)
  | 1 => ("RibafreeHouse", "purses", "LRibafreeHouse$Purses;", true)
  | 2 => ("RibafreeHouse", "things", "LRibafreeHouse$Things;", true)
  | 3 => ("RibafreeHouse", "sales", "LRibafreeHouse$Sales;", true)
  | 4 => ("RibafreeHouse", "leases", "LRibafreeHouse$Leases;", true)
  | 5 => ("RibafreeHouse", "ventures", "LRibafreeHouse$Ventures;", true)
  | 6 => ("RibafreeHouse", "pool", "LRibafreeHouse$Pool;", true)
  | 7 => ("RibafreeHouse", "firms", "LRibafreeHouse$Firms;", true)
  | 8 => ("RibafreeHouse", "day", "I", false)
  | _ => ("RibafreeHouse", "benchmark", "I", false)
def tyX8 : Nat → FieldType := fun k => match k with
  | 0 => .object "RibafreeHouse$Board"
  | 1 => .object "RibafreeHouse$Purses"
  | 2 => .object "RibafreeHouse$Things"
  | 3 => .object "RibafreeHouse$Sales"
  | 4 => .object "RibafreeHouse$Leases"
  | 5 => .object "RibafreeHouse$Ventures"
  | 6 => .object "RibafreeHouse$Pool"
  | 7 => .object "RibafreeHouse$Firms"
  | 8 => .int
  | _ => .int
def TX9 : u_T := fun k => match k with
  | 0 => ("RibafreeHouseLaw$Out", "n", "J", false)
  | _ => ("RibafreeHouseLaw$Out", "s", "Ljava/lang/String;", false)
def tyX9 : Nat → FieldType := fun k => match k with
  | 0 => .long
  | _ => .object "java/lang/String"
def TX10 : u_T := fun k => match k with
  | 0 => ("RibafreeHouseModel$Lease", "thing", "I", true)
  | 1 => ("RibafreeHouseModel$Lease", "person", "I", true)
  | 2 => ("RibafreeHouseModel$Lease", "floor", "I", true)
  | 3 => ("RibafreeHouseModel$Lease", "ceiling", "I", true)
  | 4 => ("RibafreeHouseModel$Lease", "day", "I", true)
  | 5 => ("RibafreeHouseModel$Lease", "isOver", "Z", false)
  | 6 => ("RibafreeHouseModel$Lease", "paid", "I", false)
  | _ => ("RibafreeHouseModel$Lease", "sum", "I", false)
def tyX10 : Nat → FieldType := fun k => match k with
  | 0 => .int
  | 1 => .int
  | 2 => .int
  | 3 => .int
  | 4 => .int
  | 5 => .boolean
  | 6 => .int
  | _ => .int
def TX11 : u_T := fun k => match k with
  | 0 => ("RibafreeHouseModel$Sale", "thing", "I", true)
  | 1 => ("RibafreeHouseModel$Sale", "buyer", "I", true)
  | 2 => ("RibafreeHouseModel$Sale", "price", "I", true)
  | 3 => ("RibafreeHouseModel$Sale", "markup", "I", true)
  | 4 => ("RibafreeHouseModel$Sale", "parts", "I", true)
  | 5 => ("RibafreeHouseModel$Sale", "missing", "I", true)
  | 6 => ("RibafreeHouseModel$Sale", "day", "I", true)
  | 7 => ("RibafreeHouseModel$Sale", "paid", "I", false)
  | 8 => ("RibafreeHouseModel$Sale", "fees", "I", false)
  | _ => ("RibafreeHouseModel$Sale", "rebates", "I", false)
def tyX11 : Nat → FieldType := fun k => match k with
  | 0 => .int
  | 1 => .int
  | 2 => .int
  | 3 => .int
  | 4 => .int
  | 5 => .int
  | 6 => .int
  | 7 => .int
  | 8 => .int
  | _ => .int
def TX12 : u_T := fun k => match k with
  | 0 => ("RibafreeHouseModel$Thing", "worth", "I", true)
  | 1 => ("RibafreeHouseModel$Thing", "owner", "I", false)
  | 2 => ("RibafreeHouseModel$Thing", "isHeld", "Z", false)
  | 3 => ("RibafreeHouseModel$Thing", "isRuined", "Z", false)
  | 4 => ("RibafreeHouseModel$Thing", "cost", "I", false)
  | _ => ("RibafreeHouseModel$Thing", "from", "I", false)
def tyX12 : Nat → FieldType := fun k => match k with
  | 0 => .int
  | 1 => .int
  | 2 => .boolean
  | 3 => .boolean
  | 4 => .int
  | _ => .int
def TX13 : u_T := fun k => match k with
  | 0 => ("RibafreeHouseModel$Venture", "are", "[Z", true)
  | 1 => ("RibafreeHouseModel$Venture", "capital", "[I", true)
  | 2 => ("RibafreeHouseModel$Venture", "share", "[I", true)
  | _ => ("RibafreeHouseModel$Venture", "had", "[I", true)
def tyX13 : Nat → FieldType := fun k => match k with
  | 0 => .array .boolean
  | 1 => .array .int
  | 2 => .array .int
  | _ => .array .int
def TX14 : u_T := fun k => match k with
  | 0 => ("RibafreeHouseModel", "thrown", "I", false)
  | 1 => ("RibafreeHouseModel", "day", "I", false)
  | 2 => ("RibafreeHouseModel", "charity", "I", false)
  | 3 => ("RibafreeHouseModel", "reserve", "I", false)
  | 4 => ("RibafreeHouseModel", "bench", "I", false)
  | 5 => ("RibafreeHouseModel", "target", "I", false)
  | 6 => ("RibafreeHouseModel", "management", "I", false)
  | 7 => ("RibafreeHouseModel", "firmsHeld", "I", false)
  | 8 => ("RibafreeHouseModel", "many", "I", false)
  | 9 => ("RibafreeHouseModel", "cash", "[I", true)
  | 10 => ("RibafreeHouseModel", "deposits", "[I", true)
  | 11 => ("RibafreeHouseModel", "weights", "[I", true)
  | 12 => ("RibafreeHouseModel", "words", "Ljava/util/ArrayList;", true)
  | 13 => ("RibafreeHouseModel", "things", "Ljava/util/ArrayList;", true)
  | 14 => ("RibafreeHouseModel", "sales", "Ljava/util/ArrayList;", true)
  | 15 => ("RibafreeHouseModel", "leases", "Ljava/util/ArrayList;", true)
  | 16 => ("RibafreeHouseModel", "ventures", "Ljava/util/ArrayList;", true)
  | _ => ("RibafreeHouseModel", "firms", "Ljava/util/ArrayList;", true)
def tyX14 : Nat → FieldType := fun k => match k with
  | 0 => .int
  | 1 => .int
  | 2 => .int
  | 3 => .int
  | 4 => .int
  | 5 => .int
  | 6 => .int
  | 7 => .int
  | 8 => .int
  | 9 => .array .int
  | 10 => .array .int
  | 11 => .array .int
  | 12 => .object "java/util/ArrayList"
  | 13 => .object "java/util/ArrayList"
  | 14 => .object "java/util/ArrayList"
  | 15 => .object "java/util/ArrayList"
  | 16 => .object "java/util/ArrayList"
  | _ => .object "java/util/ArrayList"
abbrev vwCl : List vw_C := [(RJ0, TJ0, 4), (RJ4, TJ4, 4), (RJx35411, TJx35411, 4), (RJx4a65c, TJx4a65c, 3), (RX0, TX0, 2), (RX1, TX1, 8), (RX2, TX2, 10), (RX3, TX3, 5), (RX4, TX4, 3), (RX5, TX5, 11), (RX6, TX6, 8), (RX7, TX7, 5), (RX8, TX8, 10), (RX9, TX9, 2), (RX10, TX10, 8), (RX11, TX11, 10), (RX12, TX12, 6), (RX13, TX13, 4), (RX14, TX14, 18)]
def xTy : List (Nat → FieldType) := [tyJ0, tyJ4, tyJx35411, tyJx4a65c, tyX0, tyX1, tyX2, tyX3, tyX4, tyX5, tyX6, tyX7, tyX8, tyX9, tyX10, tyX11, tyX12, tyX13, tyX14]
def xN0 : Nat := 34
/-- string constants that code loads: class, entry, text, place -/
def xStrs : List (String × Nat × String × Nat) := [("RibafreeHouse", 494, "sale ", 3), ("RibafreeHouse", 503, ": ", 5), ("RibafreeHouse", 505, " in ", 7), ("RibafreeHouse", 510, ", void", 9), ("RibafreeHouse", 515, ", done", 11), ("RibafreeHouse", 517, ", ", 13), ("RibafreeHouse", 522, " left", 15), ("RibafreeHouseModel", 315, "", 17), ("RibafreeHouseModel", 317, "void", 19), ("RibafreeHouseModel", 319, "done", 21), ("RibafreeHouseModel", 328, " left", 23), ("RibafreeHouseModel", 337, "sale ", 25), ("RibafreeHouseModel", 339, ": ", 27), ("RibafreeHouseModel", 341, " in ", 29), ("RibafreeHouseModel", 343, ", ", 31)]
-- GENERATED BY gen13
/-- selects of private methods of a superclass: they follow from the tables' words -/
def xExtra : List Cond := [.selects "java/lang/StringBuilder" ⟨"java/lang/AbstractStringBuilder","appendNull","()Ljava/lang/AbstractStringBuilder;"⟩ ⟨"java/lang/AbstractStringBuilder","appendNull","()Ljava/lang/AbstractStringBuilder;"⟩, .selects "java/lang/StringBuilder" ⟨"java/lang/AbstractStringBuilder","ensureCapacityInternal","(I)V"⟩ ⟨"java/lang/AbstractStringBuilder","ensureCapacityInternal","(I)V"⟩, .selects "java/lang/StringBuilder" ⟨"java/lang/AbstractStringBuilder","inflate","()V"⟩ ⟨"java/lang/AbstractStringBuilder","inflate","()V"⟩, .selects "java/lang/StringBuilder" ⟨"java/lang/AbstractStringBuilder","inflateIfNeededFor","(Ljava/lang/String;)V"⟩ ⟨"java/lang/AbstractStringBuilder","inflateIfNeededFor","(Ljava/lang/String;)V"⟩, .selects "java/lang/StringBuilder" ⟨"java/lang/AbstractStringBuilder","newCapacity","(I)I"⟩ ⟨"java/lang/AbstractStringBuilder","newCapacity","(I)I"⟩, .selects "java/lang/StringBuilder" ⟨"java/lang/AbstractStringBuilder","putStringAt","(ILjava/lang/String;)V"⟩ ⟨"java/lang/AbstractStringBuilder","putStringAt","(ILjava/lang/String;)V"⟩, .declares ⟨"java/lang/RuntimeException","<init>","(Ljava/lang/String;)V"⟩, .declares ⟨"java/lang/Exception","<init>","(Ljava/lang/String;)V"⟩, .declares ⟨"java/lang/Throwable","<init>","(Ljava/lang/String;)V"⟩]
def xlw : List Cond := xExtra ++ lw_tbl
/-- the words, chunk by chunk -/
def xlwQ : List (List Cond) := [xExtra, k2_sels lw_privs, tables_1_1, tables_1_2, tables_1_3, tables_1_4, tables_1_5, tables_1_6, tables_1_7, tables_1_8, tables_1_9]
theorem xlwQ_mem {ch : List Cond} (h : ch ∈ xlwQ) {w : Cond} (hw : w ∈ ch) : w ∈ xlw := by
  simp only [xlwQ, List.mem_cons, List.not_mem_nil, or_false] at h
  unfold xlw lw_tbl tables_1
  simp only [List.mem_append]
  rcases h with rfl | rfl | rfl | rfl | rfl | rfl | rfl | rfl | rfl | rfl | rfl <;> simp only [hw, true_or, or_true]
def xget (p : Nat) : Option Cond := (((xlwQ.drop (p / 1000)).headD []).drop (p % 1000)).head?
theorem xget_mem {p : Nat} {w : Cond} (h : xget p = some w) : w ∈ xlw := by
  have h1 := List.mem_of_mem_drop (List.mem_of_mem_head? h)
  cases e : xlwQ.drop (p / 1000) with
  | nil => rw [e] at h1; cases h1
  | cons a r => rw [e] at h1; exact xlwQ_mem (List.mem_of_mem_drop (e ▸ List.mem_cons_self)) h1
def xlook : List Nat → List (Option Cond)
  | [] => []
  | p :: ps => xget p :: xlook ps
def xlk : List (List Nat) → List (List (Option Cond))
  | [] => []
  | p :: ps => xlook p :: xlk ps
def xsm : List Cond → List (Option Cond)
  | [] => []
  | w :: ws => some w :: xsm ws
theorem xlook_mem : ∀ {ps : List Nat} {ws : List Cond}, xlook ps = xsm ws → ∀ w ∈ ws, w ∈ xlw
  | _, [], _, w, hw => by cases hw
  | [], v :: ws, h, w, hw => by cases h
  | p :: ps, v :: ws, h, w, hw => by
    have h : xget p :: xlook ps = some v :: xsm ws := h
    injection h with h1 h2
    rcases List.mem_cons.mp hw with rfl | hw
    · exact xget_mem h1
    · exact xlook_mem h2 w hw
/-- where the words of the fields stand, class by class -/
def xlwF : List (List Nat) := [[7176, 7178, 7180, 7182], [6197, 6199, 6201, 6203], [8150, 8152, 8154, 8156], [7238, 7234, 7236], [2055, 2057], [3042, 3044, 3046, 3048, 3050, 3052, 3054, 3056], [2193, 2195, 2197, 2199, 2201, 2203, 2205, 2207, 2209, 2211], [3013, 3015, 3017, 3019, 3021], [2074, 2076, 2078], [2147, 2149, 2151, 2153, 2155, 2157, 2159, 2161, 2163, 2165, 2167], [2103, 2105, 2107, 2109, 2111, 2113, 2115, 2117], [2226, 2228, 2230, 2232, 2234], [3069, 3071, 3073, 3075, 3077, 3079, 3081, 3083, 3085, 3087], [4221, 4223], [9125, 9127, 9129, 9131, 9133, 9135, 9137, 9139], [9058, 9060, 9062, 9064, 9066, 9068, 9070, 9072, 9074, 9076], [8215, 8217, 8219, 8221, 8223, 8225], [9164, 9166, 9168, 9170], [8019, 8021, 8023, 8025, 8027, 8029, 8031, 8033, 8035, 8037, 8039, 8041, 8043, 8045, 8047, 8049, 8051, 8053]]
/-- messages of exceptions: class, entry, text -/
def xMsgs : List (String × Nat × String) := [("RibafreeHouse", 78, "no such scholar or question"), ("RibafreeHouse", 93, "cash is not 0 to 9999"), ("RibafreeHouse", 101, "there are 8 people"), ("RibafreeHouse", 111, "no such owner"), ("RibafreeHouse", 113, "worth is not 1 to 999"), ("RibafreeHouse", 116, "there are 16 things"), ("RibafreeHouse", 123, "no such thing"), ("RibafreeHouse", 136, "it is the house's, ruined or leased"), ("RibafreeHouse", 152, "it is not the house's, or held"), ("RibafreeHouse", 158, "it is ruined"), ("RibafreeHouse", 166, "no such thing, or buyer"), ("RibafreeHouse", 168, "markup is not 0 to 99, or parts not 1 to 12"), ("RibafreeHouse", 171, "there are 12 sales, or it is leased"), ("RibafreeHouse", 187, "no such sale"), ("RibafreeHouse", 192, "it is void, or done"), ("RibafreeHouse", 220, "benchmark is not 0 to 99"), ("RibafreeHouse", 222, "no such thing, or one of people"), ("RibafreeHouse", 224, "floor or ceiling is not 0 to 99, or crossed"), ("RibafreeHouse", 231, "there are 8 leases, or it can not be leased so"), ("RibafreeHouse", 237, "no such lease"), ("RibafreeHouse", 242, "it ended"), ("RibafreeHouse", 254, "there are 6 ventures"), ("RibafreeHouse", 263, "no such venture, or one of people"), ("RibafreeHouse", 265, "capital is not 1 to 999, or share not 0 to 100"), ("RibafreeHouse", 279, "it is a partner, short of cash, or shares too high"), ("RibafreeHouse", 287, "result is not -999 to 999"), ("RibafreeHouse", 289, "the careless one is no partner"), ("RibafreeHouse", 300, "both are the same, or capital is not 1 to 999"), ("RibafreeHouse", 305, "no partner, or short of capital or cash"), ("RibafreeHouse", 310, "no such one of people"), ("RibafreeHouse", 312, "amount is 0, or not -9999 to 9999"), ("RibafreeHouse", 318, "short of cash or deposit, or deposit too high"), ("RibafreeHouse", 320, "profit, target or management is out of bounds"), ("RibafreeHouse", 344, "a number of the firm is out of bounds"), ("RibafreeHouse", 347, "there are 10 firms"), ("RibafreeHouse", 355, "the set has a firm that is not there"), ("RibafreeHouse", 360, "one of the firms is not clean"), ("RibafreeHouse", 369, "no such firm"), ("RibafreeHouse", 371, "dividend is not 0 to 999"), ("RibafreeHouse", 375, "the house does not hold it"), ("RibafreeHouse", 383, "days is not 1 to 400"), ("RibafreeHouse", 385, "the day would be above 4000"), ("RibafreeHouse", 416, "what is not 0 to 7"), ("RibafreeHouse", 421, "what is not 0 to 6"), ("RibafreeHouse", 442, "what is not 0 to 9"), ("RibafreeHouse", 449, "what is not 0 to 5"), ("RibafreeHouse", 457, "what is not 0 to 2"), ("RibafreeHouse", 465, "what is not 0 to 4"), ("RibafreeHouse", 467, "no such question"), ("RibafreeHouse", 469, "the day is not 0 to this day"), ("RibafreeHouse", 489, "what is not 0 to 15"), ("RibafreeHouse", 528, "budget is not 0 to 999"), ("RibafreeHouse", 533, "profit is not 0 to 9999")]
