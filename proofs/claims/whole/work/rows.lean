section
-- ===== PART A: goes FIRST, ahead of the names: the tables' words, and 'selects' of the private methods out of them =====
/-- a private method of a class that the tables say can be made, by its rows of tables_1 -/
def lw_okq (q : MethodName × Nat) : Prop := (q.1.cls ≠ "java/lang/invoke/MethodHandle" ∧ q.1.cls ≠ "java/lang/invoke/VarHandle") ∧ Cond.instantiable q.1.cls q.2 ∈ tables_1 ∧ Cond.privateMethod q.1 ∈ tables_1 ∧ Cond.instanceMethod q.1 ∈ tables_1
theorem lw_p0 : lw_okq (⟨"CarrierPool", "refuse", "(I)I"⟩, 15) := ⟨⟨by decide +kernel, by decide +kernel⟩, List.mem_of_getElem? (i := 14) (by decide +kernel), List.mem_of_getElem? (i := 226) (by decide +kernel), List.mem_of_getElem? (i := 227) (by decide +kernel)⟩
theorem lw_p1 : lw_okq (⟨"CarrierPool", "isHouse", "(I)Z"⟩, 15) := ⟨⟨by decide +kernel, by decide +kernel⟩, List.mem_of_getElem? (i := 14) (by decide +kernel), List.mem_of_getElem? (i := 242) (by decide +kernel), List.mem_of_getElem? (i := 243) (by decide +kernel)⟩
theorem lw_p2 : lw_okq (⟨"CarrierPool", "isKind", "(I)Z"⟩, 15) := ⟨⟨by decide +kernel, by decide +kernel⟩, List.mem_of_getElem? (i := 14) (by decide +kernel), List.mem_of_getElem? (i := 246) (by decide +kernel), List.mem_of_getElem? (i := 247) (by decide +kernel)⟩
theorem lw_p3 : lw_okq (⟨"CarrierPool", "refuseAmount", "(I)I"⟩, 15) := ⟨⟨by decide +kernel, by decide +kernel⟩, List.mem_of_getElem? (i := 14) (by decide +kernel), List.mem_of_getElem? (i := 250) (by decide +kernel), List.mem_of_getElem? (i := 251) (by decide +kernel)⟩
theorem lw_p4 : lw_okq (⟨"CarrierPool", "areTwoHouses", "(II)Z"⟩, 15) := ⟨⟨by decide +kernel, by decide +kernel⟩, List.mem_of_getElem? (i := 14) (by decide +kernel), List.mem_of_getElem? (i := 278) (by decide +kernel), List.mem_of_getElem? (i := 279) (by decide +kernel)⟩
theorem lw_p5 : lw_okq (⟨"CarrierPool$Doors", "chainOpenTellings", "()V"⟩, 6) := ⟨⟨by decide +kernel, by decide +kernel⟩, List.mem_of_getElem? (i := 51) (by decide +kernel), List.mem_of_getElem? (i := 360) (by decide +kernel), List.mem_of_getElem? (i := 361) (by decide +kernel)⟩
theorem lw_p6 : lw_okq (⟨"CarrierPool$Doors", "pairGroup", "(III)I"⟩, 6) := ⟨⟨by decide +kernel, by decide +kernel⟩, List.mem_of_getElem? (i := 51) (by decide +kernel), List.mem_of_getElem? (i := 368) (by decide +kernel), List.mem_of_getElem? (i := 369) (by decide +kernel)⟩
theorem lw_p7 : lw_okq (⟨"CarrierPool$Matching", "takeAt", "(I)LCarrierPool$Telling;"⟩, 7) := ⟨⟨by decide +kernel, by decide +kernel⟩, List.mem_of_getElem? (i := 61) (by decide +kernel), List.mem_of_getElem? (i := 388) (by decide +kernel), List.mem_of_getElem? (i := 389) (by decide +kernel)⟩
theorem lw_p8 : lw_okq (⟨"CarrierPool$Matching", "scoreOf", "(II)J"⟩, 7) := ⟨⟨by decide +kernel, by decide +kernel⟩, List.mem_of_getElem? (i := 61) (by decide +kernel), List.mem_of_getElem? (i := 407) (by decide +kernel), List.mem_of_getElem? (i := 408) (by decide +kernel)⟩
theorem lw_p9 : lw_okq (⟨"CarrierPool$Matching", "addGive", "(I)V"⟩, 7) := ⟨⟨by decide +kernel, by decide +kernel⟩, List.mem_of_getElem? (i := 61) (by decide +kernel), List.mem_of_getElem? (i := 417) (by decide +kernel), List.mem_of_getElem? (i := 418) (by decide +kernel)⟩
theorem lw_p10 : lw_okq (⟨"CarrierPool$Doors", "keepPair", "(LCarrierPool$Telling;LCarrierPool$Telling;I)V"⟩, 6) := ⟨⟨by decide +kernel, by decide +kernel⟩, List.mem_of_getElem? (i := 51) (by decide +kernel), List.mem_of_getElem? (i := 432) (by decide +kernel), List.mem_of_getElem? (i := 433) (by decide +kernel)⟩
theorem lw_p11 : lw_okq (⟨"CarrierPool", "enterMove", "(LCarrierPool$Pair;I)V"⟩, 15) := ⟨⟨by decide +kernel, by decide +kernel⟩, List.mem_of_getElem? (i := 14) (by decide +kernel), List.mem_of_getElem? (i := 469) (by decide +kernel), List.mem_of_getElem? (i := 470) (by decide +kernel)⟩
theorem lw_p12 : lw_okq (⟨"CarrierPool", "missingOfKind", "(I)I"⟩, 15) := ⟨⟨by decide +kernel, by decide +kernel⟩, List.mem_of_getElem? (i := 14) (by decide +kernel), List.mem_of_getElem? (i := 506) (by decide +kernel), List.mem_of_getElem? (i := 507) (by decide +kernel)⟩
theorem lw_p13 : lw_okq (⟨"CarrierPool", "shareOf", "(IIJ)I"⟩, 15) := ⟨⟨by decide +kernel, by decide +kernel⟩, List.mem_of_getElem? (i := 14) (by decide +kernel), List.mem_of_getElem? (i := 510) (by decide +kernel), List.mem_of_getElem? (i := 511) (by decide +kernel)⟩
theorem lw_p14 : lw_okq (⟨"CarrierPool", "whyNoMonth", "(II)I"⟩, 15) := ⟨⟨by decide +kernel, by decide +kernel⟩, List.mem_of_getElem? (i := 14) (by decide +kernel), List.mem_of_getElem? (i := 521) (by decide +kernel), List.mem_of_getElem? (i := 522) (by decide +kernel)⟩
theorem lw_p15 : lw_okq (⟨"CarrierPool$Ledger", "gatherChanges", "(II)V"⟩, 6) := ⟨⟨by decide +kernel, by decide +kernel⟩, List.mem_of_getElem? (i := 22) (by decide +kernel), List.mem_of_getElem? (i := 529) (by decide +kernel), List.mem_of_getElem? (i := 530) (by decide +kernel)⟩
def lw_privs_1 : List (MethodName × Nat) := [(⟨"CarrierPool", "refuse", "(I)I"⟩, 15), (⟨"CarrierPool", "isHouse", "(I)Z"⟩, 15), (⟨"CarrierPool", "isKind", "(I)Z"⟩, 15), (⟨"CarrierPool", "refuseAmount", "(I)I"⟩, 15), (⟨"CarrierPool", "areTwoHouses", "(II)Z"⟩, 15), (⟨"CarrierPool$Doors", "chainOpenTellings", "()V"⟩, 6), (⟨"CarrierPool$Doors", "pairGroup", "(III)I"⟩, 6), (⟨"CarrierPool$Matching", "takeAt", "(I)LCarrierPool$Telling;"⟩, 7), (⟨"CarrierPool$Matching", "scoreOf", "(II)J"⟩, 7), (⟨"CarrierPool$Matching", "addGive", "(I)V"⟩, 7), (⟨"CarrierPool$Doors", "keepPair", "(LCarrierPool$Telling;LCarrierPool$Telling;I)V"⟩, 6), (⟨"CarrierPool", "enterMove", "(LCarrierPool$Pair;I)V"⟩, 15), (⟨"CarrierPool", "missingOfKind", "(I)I"⟩, 15), (⟨"CarrierPool", "shareOf", "(IIJ)I"⟩, 15), (⟨"CarrierPool", "whyNoMonth", "(II)I"⟩, 15), (⟨"CarrierPool$Ledger", "gatherChanges", "(II)V"⟩, 6)]
theorem lw_r1 : ∀ q ∈ lw_privs_1, lw_okq q := List.forall_mem_cons.mpr ⟨lw_p0, List.forall_mem_cons.mpr ⟨lw_p1, List.forall_mem_cons.mpr ⟨lw_p2, List.forall_mem_cons.mpr ⟨lw_p3, List.forall_mem_cons.mpr ⟨lw_p4, List.forall_mem_cons.mpr ⟨lw_p5, List.forall_mem_cons.mpr ⟨lw_p6, List.forall_mem_cons.mpr ⟨lw_p7, List.forall_mem_cons.mpr ⟨lw_p8, List.forall_mem_cons.mpr ⟨lw_p9, List.forall_mem_cons.mpr ⟨lw_p10, List.forall_mem_cons.mpr ⟨lw_p11, List.forall_mem_cons.mpr ⟨lw_p12, List.forall_mem_cons.mpr ⟨lw_p13, List.forall_mem_cons.mpr ⟨lw_p14, List.forall_mem_cons.mpr ⟨lw_p15, fun _ h => absurd h List.not_mem_nil⟩⟩⟩⟩⟩⟩⟩⟩⟩⟩⟩⟩⟩⟩⟩⟩
theorem lw_p16 : lw_okq (⟨"CarrierPool$Ledger", "daySums", "(I)J"⟩, 6) := ⟨⟨by decide +kernel, by decide +kernel⟩, List.mem_of_getElem? (i := 22) (by decide +kernel), List.mem_of_getElem? (i := 536) (by decide +kernel), List.mem_of_getElem? (i := 537) (by decide +kernel)⟩
theorem lw_p17 : lw_okq (⟨"CarrierPool$Debts", "spreadBack", "(II)V"⟩, 5) := ⟨⟨by decide +kernel, by decide +kernel⟩, List.mem_of_getElem? (i := 111) (by decide +kernel), List.mem_of_getElem? (i := 580) (by decide +kernel), List.mem_of_getElem? (i := 581) (by decide +kernel)⟩
theorem lw_p18 : lw_okq (⟨"CarrierPool$Debts", "sizeAt", "(II)I"⟩, 5) := ⟨⟨by decide +kernel, by decide +kernel⟩, List.mem_of_getElem? (i := 111) (by decide +kernel), List.mem_of_getElem? (i := 586) (by decide +kernel), List.mem_of_getElem? (i := 587) (by decide +kernel)⟩
theorem lw_p19 : lw_okq (⟨"CarrierPool$Debts", "traceRing", "(III)V"⟩, 5) := ⟨⟨by decide +kernel, by decide +kernel⟩, List.mem_of_getElem? (i := 111) (by decide +kernel), List.mem_of_getElem? (i := 590) (by decide +kernel), List.mem_of_getElem? (i := 591) (by decide +kernel)⟩
theorem lw_p20 : lw_okq (⟨"CarrierPool$Debts", "nextHouse", "(III)I"⟩, 5) := ⟨⟨by decide +kernel, by decide +kernel⟩, List.mem_of_getElem? (i := 111) (by decide +kernel), List.mem_of_getElem? (i := 594) (by decide +kernel), List.mem_of_getElem? (i := 595) (by decide +kernel)⟩
theorem lw_p21 : lw_okq (⟨"CarrierPool$Debts", "lessenRing", "(I)V"⟩, 5) := ⟨⟨by decide +kernel, by decide +kernel⟩, List.mem_of_getElem? (i := 111) (by decide +kernel), List.mem_of_getElem? (i := 611) (by decide +kernel), List.mem_of_getElem? (i := 612) (by decide +kernel)⟩
theorem lw_p22 : lw_okq (⟨"CarrierPool$Debts", "afterInRing", "(I)I"⟩, 5) := ⟨⟨by decide +kernel, by decide +kernel⟩, List.mem_of_getElem? (i := 111) (by decide +kernel), List.mem_of_getElem? (i := 616) (by decide +kernel), List.mem_of_getElem? (i := 617) (by decide +kernel)⟩
theorem lw_p23 : lw_okq (⟨"CarrierPool$Carrying", "findChains", "()V"⟩, 11) := ⟨⟨by decide +kernel, by decide +kernel⟩, List.mem_of_getElem? (i := 133) (by decide +kernel), List.mem_of_getElem? (i := 647) (by decide +kernel), List.mem_of_getElem? (i := 648) (by decide +kernel)⟩
theorem lw_p24 : lw_okq (⟨"CarrierPool$Carrying", "reachWants", "()Z"⟩, 11) := ⟨⟨by decide +kernel, by decide +kernel⟩, List.mem_of_getElem? (i := 133) (by decide +kernel), List.mem_of_getElem? (i := 652) (by decide +kernel), List.mem_of_getElem? (i := 653) (by decide +kernel)⟩
theorem lw_p25 : lw_okq (⟨"CarrierPool$Carrying", "reachGivers", "()Z"⟩, 11) := ⟨⟨by decide +kernel, by decide +kernel⟩, List.mem_of_getElem? (i := 133) (by decide +kernel), List.mem_of_getElem? (i := 656) (by decide +kernel), List.mem_of_getElem? (i := 657) (by decide +kernel)⟩
theorem lw_p26 : lw_okq (⟨"CarrierPool$Carrying", "cheapestUnmet", "()I"⟩, 11) := ⟨⟨by decide +kernel, by decide +kernel⟩, List.mem_of_getElem? (i := 133) (by decide +kernel), List.mem_of_getElem? (i := 660) (by decide +kernel), List.mem_of_getElem? (i := 661) (by decide +kernel)⟩
theorem lw_p27 : lw_okq (⟨"CarrierPool$Carrying", "carryAlong", "(I)I"⟩, 11) := ⟨⟨by decide +kernel, by decide +kernel⟩, List.mem_of_getElem? (i := 133) (by decide +kernel), List.mem_of_getElem? (i := 664) (by decide +kernel), List.mem_of_getElem? (i := 665) (by decide +kernel)⟩
theorem lw_p28 : lw_okq (⟨"CarrierPool$Carrying", "amountAlong", "(I)I"⟩, 11) := ⟨⟨by decide +kernel, by decide +kernel⟩, List.mem_of_getElem? (i := 133) (by decide +kernel), List.mem_of_getElem? (i := 668) (by decide +kernel), List.mem_of_getElem? (i := 669) (by decide +kernel)⟩
theorem lw_p29 : lw_okq (⟨"CarrierPool", "refusalsOf", "(I)I"⟩, 15) := ⟨⟨by decide +kernel, by decide +kernel⟩, List.mem_of_getElem? (i := 14) (by decide +kernel), List.mem_of_getElem? (i := 693) (by decide +kernel), List.mem_of_getElem? (i := 694) (by decide +kernel)⟩
theorem lw_p30 : lw_okq (⟨"CarrierPoolModel", "refuse", "(I)I"⟩, 43) := ⟨⟨by decide +kernel, by decide +kernel⟩, List.mem_of_getElem? (i := 697) (by decide +kernel), List.mem_of_getElem? (i := 838) (by decide +kernel), List.mem_of_getElem? (i := 839) (by decide +kernel)⟩
theorem lw_p31 : lw_okq (⟨"CarrierPoolModel", "isHouse", "(I)Z"⟩, 43) := ⟨⟨by decide +kernel, by decide +kernel⟩, List.mem_of_getElem? (i := 697) (by decide +kernel), List.mem_of_getElem? (i := 854) (by decide +kernel), List.mem_of_getElem? (i := 855) (by decide +kernel)⟩
def lw_privs_2 : List (MethodName × Nat) := [(⟨"CarrierPool$Ledger", "daySums", "(I)J"⟩, 6), (⟨"CarrierPool$Debts", "spreadBack", "(II)V"⟩, 5), (⟨"CarrierPool$Debts", "sizeAt", "(II)I"⟩, 5), (⟨"CarrierPool$Debts", "traceRing", "(III)V"⟩, 5), (⟨"CarrierPool$Debts", "nextHouse", "(III)I"⟩, 5), (⟨"CarrierPool$Debts", "lessenRing", "(I)V"⟩, 5), (⟨"CarrierPool$Debts", "afterInRing", "(I)I"⟩, 5), (⟨"CarrierPool$Carrying", "findChains", "()V"⟩, 11), (⟨"CarrierPool$Carrying", "reachWants", "()Z"⟩, 11), (⟨"CarrierPool$Carrying", "reachGivers", "()Z"⟩, 11), (⟨"CarrierPool$Carrying", "cheapestUnmet", "()I"⟩, 11), (⟨"CarrierPool$Carrying", "carryAlong", "(I)I"⟩, 11), (⟨"CarrierPool$Carrying", "amountAlong", "(I)I"⟩, 11), (⟨"CarrierPool", "refusalsOf", "(I)I"⟩, 15), (⟨"CarrierPoolModel", "refuse", "(I)I"⟩, 43), (⟨"CarrierPoolModel", "isHouse", "(I)Z"⟩, 43)]
theorem lw_r2 : ∀ q ∈ lw_privs_2, lw_okq q := List.forall_mem_cons.mpr ⟨lw_p16, List.forall_mem_cons.mpr ⟨lw_p17, List.forall_mem_cons.mpr ⟨lw_p18, List.forall_mem_cons.mpr ⟨lw_p19, List.forall_mem_cons.mpr ⟨lw_p20, List.forall_mem_cons.mpr ⟨lw_p21, List.forall_mem_cons.mpr ⟨lw_p22, List.forall_mem_cons.mpr ⟨lw_p23, List.forall_mem_cons.mpr ⟨lw_p24, List.forall_mem_cons.mpr ⟨lw_p25, List.forall_mem_cons.mpr ⟨lw_p26, List.forall_mem_cons.mpr ⟨lw_p27, List.forall_mem_cons.mpr ⟨lw_p28, List.forall_mem_cons.mpr ⟨lw_p29, List.forall_mem_cons.mpr ⟨lw_p30, List.forall_mem_cons.mpr ⟨lw_p31, fun _ h => absurd h List.not_mem_nil⟩⟩⟩⟩⟩⟩⟩⟩⟩⟩⟩⟩⟩⟩⟩⟩
theorem lw_p32 : lw_okq (⟨"CarrierPoolModel", "isKind", "(I)Z"⟩, 43) := ⟨⟨by decide +kernel, by decide +kernel⟩, List.mem_of_getElem? (i := 697) (by decide +kernel), List.mem_of_getElem? (i := 861) (by decide +kernel), List.mem_of_getElem? (i := 862) (by decide +kernel)⟩
theorem lw_p33 : lw_okq (⟨"CarrierPoolModel", "refuseBig", "(I)I"⟩, 43) := ⟨⟨by decide +kernel, by decide +kernel⟩, List.mem_of_getElem? (i := 697) (by decide +kernel), List.mem_of_getElem? (i := 865) (by decide +kernel), List.mem_of_getElem? (i := 866) (by decide +kernel)⟩
theorem lw_p34 : lw_okq (⟨"CarrierPoolModel", "accountOf", "(III)I"⟩, 43) := ⟨⟨by decide +kernel, by decide +kernel⟩, List.mem_of_getElem? (i := 697) (by decide +kernel), List.mem_of_getElem? (i := 870) (by decide +kernel), List.mem_of_getElem? (i := 871) (by decide +kernel)⟩
theorem lw_p35 : lw_okq (⟨"CarrierPoolModel", "enter", "(IIII)V"⟩, 43) := ⟨⟨by decide +kernel, by decide +kernel⟩, List.mem_of_getElem? (i := 697) (by decide +kernel), List.mem_of_getElem? (i := 878) (by decide +kernel), List.mem_of_getElem? (i := 879) (by decide +kernel)⟩
theorem lw_p36 : lw_okq (⟨"CarrierPoolModel", "pairThose", "(IIII)I"⟩, 43) := ⟨⟨by decide +kernel, by decide +kernel⟩, List.mem_of_getElem? (i := 697) (by decide +kernel), List.mem_of_getElem? (i := 911) (by decide +kernel), List.mem_of_getElem? (i := 912) (by decide +kernel)⟩
theorem lw_p37 : lw_okq (⟨"CarrierPoolModel", "gather", "(ZIII[I)I"⟩, 43) := ⟨⟨by decide +kernel, by decide +kernel⟩, List.mem_of_getElem? (i := 697) (by decide +kernel), List.mem_of_getElem? (i := 915) (by decide +kernel), List.mem_of_getElem? (i := 916) (by decide +kernel)⟩
theorem lw_p38 : lw_okq (⟨"CarrierPoolModel", "worthOf", "(II)I"⟩, 43) := ⟨⟨by decide +kernel, by decide +kernel⟩, List.mem_of_getElem? (i := 697) (by decide +kernel), List.mem_of_getElem? (i := 919) (by decide +kernel), List.mem_of_getElem? (i := 920) (by decide +kernel)⟩
theorem lw_p39 : lw_okq (⟨"CarrierPoolModel", "made", "(II)V"⟩, 43) := ⟨⟨by decide +kernel, by decide +kernel⟩, List.mem_of_getElem? (i := 697) (by decide +kernel), List.mem_of_getElem? (i := 923) (by decide +kernel), List.mem_of_getElem? (i := 924) (by decide +kernel)⟩
theorem lw_p40 : lw_okq (⟨"CarrierPoolModel", "isQuarrel", "(I)Z"⟩, 43) := ⟨⟨by decide +kernel, by decide +kernel⟩, List.mem_of_getElem? (i := 697) (by decide +kernel), List.mem_of_getElem? (i := 931) (by decide +kernel), List.mem_of_getElem? (i := 932) (by decide +kernel)⟩
theorem lw_p41 : lw_okq (⟨"CarrierPoolModel", "turnsOf", "(II)I"⟩, 43) := ⟨⟨by decide +kernel, by decide +kernel⟩, List.mem_of_getElem? (i := 697) (by decide +kernel), List.mem_of_getElem? (i := 939) (by decide +kernel), List.mem_of_getElem? (i := 940) (by decide +kernel)⟩
theorem lw_p42 : lw_okq (⟨"CarrierPoolModel", "lackOfFees", "(II)I"⟩, 43) := ⟨⟨by decide +kernel, by decide +kernel⟩, List.mem_of_getElem? (i := 697) (by decide +kernel), List.mem_of_getElem? (i := 951) (by decide +kernel), List.mem_of_getElem? (i := 952) (by decide +kernel)⟩
theorem lw_p43 : lw_okq (⟨"CarrierPoolModel", "feesOf", "(II)J"⟩, 43) := ⟨⟨by decide +kernel, by decide +kernel⟩, List.mem_of_getElem? (i := 697) (by decide +kernel), List.mem_of_getElem? (i := 955) (by decide +kernel), List.mem_of_getElem? (i := 956) (by decide +kernel)⟩
theorem lw_p44 : lw_okq (⟨"CarrierPoolModel", "debt", "(III)I"⟩, 43) := ⟨⟨by decide +kernel, by decide +kernel⟩, List.mem_of_getElem? (i := 697) (by decide +kernel), List.mem_of_getElem? (i := 979) (by decide +kernel), List.mem_of_getElem? (i := 980) (by decide +kernel)⟩
theorem lw_p45 : lw_okq (⟨"CarrierPoolModel", "findRing", "(I)V"⟩, 43) := ⟨⟨by decide +kernel, by decide +kernel⟩, List.mem_of_getElem? (i := 697) (by decide +kernel), List.mem_of_getElem? (i := 991) (by decide +kernel), List.mem_of_getElem? (i := 992) (by decide +kernel)⟩
theorem lw_p46 : lw_okq (⟨"CarrierPoolModel", "stepsTo", "(II)V"⟩, 43) := ⟨⟨by decide +kernel, by decide +kernel⟩, List.mem_of_getElem? (i := 697) (by decide +kernel), List.mem_of_getElem? (i := 995) (by decide +kernel), List.mem_of_getElem? (i := 996) (by decide +kernel)⟩
theorem lw_p47 : lw_okq (⟨"CarrierPoolModel", "carryOne", "()I"⟩, 43) := ⟨⟨by decide +kernel, by decide +kernel⟩, List.mem_of_getElem? (i := 697) (by decide +kernel), List.mem_of_getElem? (i := 1015) (by decide +kernel), List.mem_of_getElem? (i := 1016) (by decide +kernel)⟩
def lw_privs_3 : List (MethodName × Nat) := [(⟨"CarrierPoolModel", "isKind", "(I)Z"⟩, 43), (⟨"CarrierPoolModel", "refuseBig", "(I)I"⟩, 43), (⟨"CarrierPoolModel", "accountOf", "(III)I"⟩, 43), (⟨"CarrierPoolModel", "enter", "(IIII)V"⟩, 43), (⟨"CarrierPoolModel", "pairThose", "(IIII)I"⟩, 43), (⟨"CarrierPoolModel", "gather", "(ZIII[I)I"⟩, 43), (⟨"CarrierPoolModel", "worthOf", "(II)I"⟩, 43), (⟨"CarrierPoolModel", "made", "(II)V"⟩, 43), (⟨"CarrierPoolModel", "isQuarrel", "(I)Z"⟩, 43), (⟨"CarrierPoolModel", "turnsOf", "(II)I"⟩, 43), (⟨"CarrierPoolModel", "lackOfFees", "(II)I"⟩, 43), (⟨"CarrierPoolModel", "feesOf", "(II)J"⟩, 43), (⟨"CarrierPoolModel", "debt", "(III)I"⟩, 43), (⟨"CarrierPoolModel", "findRing", "(I)V"⟩, 43), (⟨"CarrierPoolModel", "stepsTo", "(II)V"⟩, 43), (⟨"CarrierPoolModel", "carryOne", "()I"⟩, 43)]
theorem lw_r3 : ∀ q ∈ lw_privs_3, lw_okq q := List.forall_mem_cons.mpr ⟨lw_p32, List.forall_mem_cons.mpr ⟨lw_p33, List.forall_mem_cons.mpr ⟨lw_p34, List.forall_mem_cons.mpr ⟨lw_p35, List.forall_mem_cons.mpr ⟨lw_p36, List.forall_mem_cons.mpr ⟨lw_p37, List.forall_mem_cons.mpr ⟨lw_p38, List.forall_mem_cons.mpr ⟨lw_p39, List.forall_mem_cons.mpr ⟨lw_p40, List.forall_mem_cons.mpr ⟨lw_p41, List.forall_mem_cons.mpr ⟨lw_p42, List.forall_mem_cons.mpr ⟨lw_p43, List.forall_mem_cons.mpr ⟨lw_p44, List.forall_mem_cons.mpr ⟨lw_p45, List.forall_mem_cons.mpr ⟨lw_p46, List.forall_mem_cons.mpr ⟨lw_p47, fun _ h => absurd h List.not_mem_nil⟩⟩⟩⟩⟩⟩⟩⟩⟩⟩⟩⟩⟩⟩⟩⟩
theorem lw_p48 : lw_okq (⟨"CarrierPoolModel", "left", "(I)I"⟩, 43) := ⟨⟨by decide +kernel, by decide +kernel⟩, List.mem_of_getElem? (i := 697) (by decide +kernel), List.mem_of_getElem? (i := 1019) (by decide +kernel), List.mem_of_getElem? (i := 1020) (by decide +kernel)⟩
theorem lw_p49 : lw_okq (⟨"CarrierPoolModel", "lacks", "(I)I"⟩, 43) := ⟨⟨by decide +kernel, by decide +kernel⟩, List.mem_of_getElem? (i := 697) (by decide +kernel), List.mem_of_getElem? (i := 1024) (by decide +kernel), List.mem_of_getElem? (i := 1025) (by decide +kernel)⟩
def lw_privs_4 : List (MethodName × Nat) := [(⟨"CarrierPoolModel", "left", "(I)I"⟩, 43), (⟨"CarrierPoolModel", "lacks", "(I)I"⟩, 43)]
theorem lw_r4 : ∀ q ∈ lw_privs_4, lw_okq q := List.forall_mem_cons.mpr ⟨lw_p48, List.forall_mem_cons.mpr ⟨lw_p49, fun _ h => absurd h List.not_mem_nil⟩⟩
def lw_privs : List (MethodName × Nat) := lw_privs_1 ++ (lw_privs_2 ++ (lw_privs_3 ++ (lw_privs_4)))
def lw_tbl : List Cond := k2_sels lw_privs ++ tables_1
theorem lw_privs_ok : ∀ q ∈ lw_privs, lw_okq q := by
  show ∀ q ∈ lw_privs_1 ++ (lw_privs_2 ++ (lw_privs_3 ++ (lw_privs_4))), lw_okq q
  exact List.forall_mem_append.mpr ⟨lw_r1, List.forall_mem_append.mpr ⟨lw_r2, List.forall_mem_append.mpr ⟨lw_r3, lw_r4⟩⟩⟩
end
section
def RX0 : String := "CarrierPool$Carrying"
def TX0 : u_T := fun k => match k with
  | 0 => ("CarrierPool$Carrying", "empties", "[I", true)
  | 1 => ("CarrierPool$Carrying", "wants", "[I", true)
  | 2 => ("CarrierPool$Carrying", "ways", "[I", true)
  | 3 => ("CarrierPool$Carrying", "carried", "[I", true)
  | 4 => ("CarrierPool$Carrying", "left", "[I", true)
  | 5 => ("CarrierPool$Carrying", "unmet", "[I", true)
  | 6 => ("CarrierPool$Carrying", "giverCost", "[I", true)
  | 7 => ("CarrierPool$Carrying", "wantCost", "[I", true)
  | 8 => ("CarrierPool$Carrying", "giverOf", "[I", true)
  | 9 => ("CarrierPool$Carrying", "freedWant", "[I", true)
  | _ => ("CarrierPool$Carrying", "size", "I", false)
def tyX0 : Nat → FieldType := fun k => match k with
  | 0 => .array .int
  | 1 => .array .int
  | 2 => .array .int
  | 3 => .array .int
  | 4 => .array .int
  | 5 => .array .int
  | 6 => .array .int
  | 7 => .array .int
  | 8 => .array .int
  | 9 => .array .int
  | _ => .int
abbrev wsX00 : List Cond := u_ws RX0 TX0 11
theorem nmX0 : ∀ a, a < 11 → ∀ b, b < 11 → a ≠ b → (TX0 a).2.1 ≠ (TX0 b).2.1 := by decide +kernel
theorem tyX0_ok : ∀ k, k < 11 → parseFieldDescriptor (TX0 k).2.2.1 = some (tyX0 k) := by decide +kernel
abbrev cX0_init : ByteArray := prog_2_method_1_code
def yX0_init : MethodName := ⟨RX0, "<init>", "()V"⟩
abbrev cX0_hasEnough : ByteArray := prog_2_method_2_code
def yX0_hasEnough : MethodName := ⟨RX0, "hasEnough", "()Z"⟩
abbrev cX0_leastSum : ByteArray := prog_2_method_3_code
def yX0_leastSum : MethodName := ⟨RX0, "leastSum", "(I)I"⟩
abbrev cX0_findChains : ByteArray := prog_2_method_4_code
def yX0_findChains : MethodName := ⟨RX0, "findChains", "()V"⟩
abbrev cX0_reachWants : ByteArray := prog_2_method_5_code
def yX0_reachWants : MethodName := ⟨RX0, "reachWants", "()Z"⟩
abbrev cX0_reachGivers : ByteArray := prog_2_method_6_code
def yX0_reachGivers : MethodName := ⟨RX0, "reachGivers", "()Z"⟩
abbrev cX0_cheapestUnmet : ByteArray := prog_2_method_7_code
def yX0_cheapestUnmet : MethodName := ⟨RX0, "cheapestUnmet", "()I"⟩
abbrev cX0_carryAlong : ByteArray := prog_2_method_8_code
def yX0_carryAlong : MethodName := ⟨RX0, "carryAlong", "(I)I"⟩
abbrev cX0_amountAlong : ByteArray := prog_2_method_9_code
def yX0_amountAlong : MethodName := ⟨RX0, "amountAlong", "(I)I"⟩
def RX1 : String := "CarrierPool$Debts"
def TX1 : u_T := fun k => match k with
  | 0 => ("CarrierPool$Debts", "owed", "[I", true)
  | 1 => ("CarrierPool$Debts", "ringHouses", "[I", true)
  | 2 => ("CarrierPool$Debts", "steps", "[I", true)
  | 3 => ("CarrierPool$Debts", "queue", "[I", true)
  | _ => ("CarrierPool$Debts", "ringSize", "I", false)
def tyX1 : Nat → FieldType := fun k => match k with
  | 0 => .array .int
  | 1 => .array .int
  | 2 => .array .int
  | 3 => .array .int
  | _ => .int
abbrev wsX10 : List Cond := u_ws RX1 TX1 5
theorem nmX1 : ∀ a, a < 5 → ∀ b, b < 5 → a ≠ b → (TX1 a).2.1 ≠ (TX1 b).2.1 := by decide +kernel
theorem tyX1_ok : ∀ k, k < 5 → parseFieldDescriptor (TX1 k).2.2.1 = some (tyX1 k) := by decide +kernel
abbrev cX1_init : ByteArray := prog_3_method_1_code
def yX1_init : MethodName := ⟨RX1, "<init>", "()V"⟩
abbrev cX1_debt : ByteArray := prog_3_method_2_code
def yX1_debt : MethodName := ⟨RX1, "debt", "(III)I"⟩
abbrev cX1_add : ByteArray := prog_3_method_3_code
def yX1_add : MethodName := ⟨RX1, "add", "(IIII)V"⟩
abbrev cX1_ringHouse : ByteArray := prog_3_method_4_code
def yX1_ringHouse : MethodName := ⟨RX1, "ringHouse", "(I)I"⟩
abbrev cX1_takeOff : ByteArray := prog_3_method_5_code
def yX1_takeOff : MethodName := ⟨RX1, "takeOff", "(I)I"⟩
abbrev cX1_findFirstRing : ByteArray := prog_3_method_6_code
def yX1_findFirstRing : MethodName := ⟨RX1, "findFirstRing", "(I)V"⟩
abbrev cX1_spreadBack : ByteArray := prog_3_method_7_code
def yX1_spreadBack : MethodName := ⟨RX1, "spreadBack", "(II)V"⟩
abbrev cX1_sizeAt : ByteArray := prog_3_method_8_code
def yX1_sizeAt : MethodName := ⟨RX1, "sizeAt", "(II)I"⟩
abbrev cX1_traceRing : ByteArray := prog_3_method_9_code
def yX1_traceRing : MethodName := ⟨RX1, "traceRing", "(III)V"⟩
abbrev cX1_nextHouse : ByteArray := prog_3_method_10_code
def yX1_nextHouse : MethodName := ⟨RX1, "nextHouse", "(III)I"⟩
abbrev cX1_lessenRing : ByteArray := prog_3_method_11_code
def yX1_lessenRing : MethodName := ⟨RX1, "lessenRing", "(I)V"⟩
abbrev cX1_afterInRing : ByteArray := prog_3_method_12_code
def yX1_afterInRing : MethodName := ⟨RX1, "afterInRing", "(I)I"⟩
def RX2 : String := "CarrierPool$Doors"
def TX2 : u_T := fun k => match k with
  | 0 => ("CarrierPool$Doors", "tellings", "[LCarrierPool$Telling;", true)
  | 1 => ("CarrierPool$Doors", "pairs", "[LCarrierPool$Pair;", true)
  | 2 => ("CarrierPool$Doors", "firstOfGroup", "[LCarrierPool$Telling;", true)
  | 3 => ("CarrierPool$Doors", "matching", "LCarrierPool$Matching;", true)
  | 4 => ("CarrierPool$Doors", "tellingCount", "I", false)
  | _ => ("CarrierPool$Doors", "pairCount", "I", false)
def tyX2 : Nat → FieldType := fun k => match k with
  | 0 => .array (.object "CarrierPool$Telling")
  | 1 => .array (.object "CarrierPool$Pair")
  | 2 => .array (.object "CarrierPool$Telling")
  | 3 => .object "CarrierPool$Matching"
  | 4 => .int
  | _ => .int
abbrev wsX20 : List Cond := u_ws RX2 TX2 6
theorem nmX2 : ∀ a, a < 6 → ∀ b, b < 6 → a ≠ b → (TX2 a).2.1 ≠ (TX2 b).2.1 := by decide +kernel
theorem tyX2_ok : ∀ k, k < 6 → parseFieldDescriptor (TX2 k).2.2.1 = some (tyX2 k) := by decide +kernel
abbrev cX2_init : ByteArray := prog_4_method_1_code
def yX2_init : MethodName := ⟨RX2, "<init>", "()V"⟩
abbrev cX2_tellingAt : ByteArray := prog_4_method_2_code
def yX2_tellingAt : MethodName := ⟨RX2, "tellingAt", "(I)LCarrierPool$Telling;"⟩
abbrev cX2_pairAt : ByteArray := prog_4_method_3_code
def yX2_pairAt : MethodName := ⟨RX2, "pairAt", "(I)LCarrierPool$Pair;"⟩
abbrev cX2_keepTelling : ByteArray := prog_4_method_4_code
def yX2_keepTelling : MethodName := ⟨RX2, "keepTelling", "(LCarrierPool$Telling;)V"⟩
abbrev cX2_openTellings : ByteArray := prog_4_method_5_code
def yX2_openTellings : MethodName := ⟨RX2, "openTellings", "()I"⟩
abbrev cX2_openQuarrels : ByteArray := prog_4_method_6_code
def yX2_openQuarrels : MethodName := ⟨RX2, "openQuarrels", "()I"⟩
abbrev cX2_cameTo : ByteArray := prog_4_method_7_code
def yX2_cameTo : MethodName := ⟨RX2, "cameTo", "(II)I"⟩
abbrev cX2_pairUp : ByteArray := prog_4_method_8_code
def yX2_pairUp : MethodName := ⟨RX2, "pairUp", "(I)I"⟩
abbrev cX2_chainOpenTellings : ByteArray := prog_4_method_9_code
def yX2_chainOpenTellings : MethodName := ⟨RX2, "chainOpenTellings", "()V"⟩
abbrev cX2_pairGroup : ByteArray := prog_4_method_10_code
def yX2_pairGroup : MethodName := ⟨RX2, "pairGroup", "(III)I"⟩
abbrev cX2_keepPair : ByteArray := prog_4_method_11_code
def yX2_keepPair : MethodName := ⟨RX2, "keepPair", "(LCarrierPool$Telling;LCarrierPool$Telling;I)V"⟩
abbrev cX2_countedBy : ByteArray := prog_4_method_12_code
def yX2_countedBy : MethodName := ⟨RX2, "countedBy", "(ILCarrierPool$Telling;LCarrierPool$Telling;)I"⟩
def RX3 : String := "CarrierPool$Ledger"
def TX3 : u_T := fun k => match k with
  | 0 => ("CarrierPool$Ledger", "slots", "[I", true)
  | 1 => ("CarrierPool$Ledger", "entryDays", "[I", true)
  | 2 => ("CarrierPool$Ledger", "amounts", "[I", true)
  | 3 => ("CarrierPool$Ledger", "changes", "[I", true)
  | 4 => ("CarrierPool$Ledger", "size", "I", false)
  | _ => ("CarrierPool$Ledger", "closedMonths", "I", false)
def tyX3 : Nat → FieldType := fun k => match k with
  | 0 => .array .int
  | 1 => .array .int
  | 2 => .array .int
  | 3 => .array .int
  | 4 => .int
  | _ => .int
abbrev wsX30 : List Cond := u_ws RX3 TX3 6
theorem nmX3 : ∀ a, a < 6 → ∀ b, b < 6 → a ≠ b → (TX3 a).2.1 ≠ (TX3 b).2.1 := by decide +kernel
theorem tyX3_ok : ∀ k, k < 6 → parseFieldDescriptor (TX3 k).2.2.1 = some (tyX3 k) := by decide +kernel
abbrev cX3_init : ByteArray := prog_5_method_1_code
def yX3_init : MethodName := ⟨RX3, "<init>", "()V"⟩
abbrev cX3_room : ByteArray := prog_5_method_2_code
def yX3_room : MethodName := ⟨RX3, "room", "()I"⟩
abbrev cX3_enter : ByteArray := prog_5_method_3_code
def yX3_enter : MethodName := ⟨RX3, "enter", "(IIII)V"⟩
abbrev cX3_sumUpTo : ByteArray := prog_5_method_4_code
def yX3_sumUpTo : MethodName := ⟨RX3, "sumUpTo", "(III)I"⟩
abbrev cX3_sumOfKind : ByteArray := prog_5_method_5_code
def yX3_sumOfKind : MethodName := ⟨RX3, "sumOfKind", "(I)I"⟩
abbrev cX3_feesOfMonth : ByteArray := prog_5_method_6_code
def yX3_feesOfMonth : MethodName := ⟨RX3, "feesOfMonth", "(II[I)J"⟩
abbrev cX3_gatherChanges : ByteArray := prog_5_method_7_code
def yX3_gatherChanges : MethodName := ⟨RX3, "gatherChanges", "(II)V"⟩
abbrev cX3_daySums : ByteArray := prog_5_method_8_code
def yX3_daySums : MethodName := ⟨RX3, "daySums", "(I)J"⟩
def RX4 : String := "CarrierPool$Matching"
def TX4 : u_T := fun k => match k with
  | 0 => ("CarrierPool$Matching", "gives", "[LCarrierPool$Telling;", true)
  | 1 => ("CarrierPool$Matching", "takes", "[LCarrierPool$Telling;", true)
  | 2 => ("CarrierPool$Matching", "best", "[J", true)
  | 3 => ("CarrierPool$Matching", "scores", "[J", true)
  | 4 => ("CarrierPool$Matching", "giveCount", "I", false)
  | 5 => ("CarrierPool$Matching", "takeCount", "I", false)
  | _ => ("CarrierPool$Matching", "bestOfAll", "J", false)
def tyX4 : Nat → FieldType := fun k => match k with
  | 0 => .array (.object "CarrierPool$Telling")
  | 1 => .array (.object "CarrierPool$Telling")
  | 2 => .array .long
  | 3 => .array .long
  | 4 => .int
  | 5 => .int
  | _ => .long
abbrev wsX40 : List Cond := u_ws RX4 TX4 7
theorem nmX4 : ∀ a, a < 7 → ∀ b, b < 7 → a ≠ b → (TX4 a).2.1 ≠ (TX4 b).2.1 := by decide +kernel
theorem tyX4_ok : ∀ k, k < 7 → parseFieldDescriptor (TX4 k).2.2.1 = some (tyX4 k) := by decide +kernel
abbrev cX4_init : ByteArray := prog_6_method_1_code
def yX4_init : MethodName := ⟨RX4, "<init>", "()V"⟩
abbrev cX4_clear : ByteArray := prog_6_method_2_code
def yX4_clear : MethodName := ⟨RX4, "clear", "()V"⟩
abbrev cX4_offer : ByteArray := prog_6_method_3_code
def yX4_offer : MethodName := ⟨RX4, "offer", "(LCarrierPool$Telling;)V"⟩
abbrev cX4_giveAt : ByteArray := prog_6_method_4_code
def yX4_giveAt : MethodName := ⟨RX4, "giveAt", "(I)LCarrierPool$Telling;"⟩
abbrev cX4_takeAt : ByteArray := prog_6_method_5_code
def yX4_takeAt : MethodName := ⟨RX4, "takeAt", "(I)LCarrierPool$Telling;"⟩
abbrev cX4_hasNear : ByteArray := prog_6_method_6_code
def yX4_hasNear : MethodName := ⟨RX4, "hasNear", "()Z"⟩
abbrev cX4_areNear : ByteArray := prog_6_method_7_code
def yX4_areNear : MethodName := ⟨RX4, "areNear", "(LCarrierPool$Telling;LCarrierPool$Telling;)Z"⟩
abbrev cX4_solve : ByteArray := prog_6_method_8_code
def yX4_solve : MethodName := ⟨RX4, "solve", "()V"⟩
abbrev cX4_scoreOf : ByteArray := prog_6_method_9_code
def yX4_scoreOf : MethodName := ⟨RX4, "scoreOf", "(II)J"⟩
abbrev cX4_addGive : ByteArray := prog_6_method_10_code
def yX4_addGive : MethodName := ⟨RX4, "addGive", "(I)V"⟩
abbrev cX4_shiftOf : ByteArray := prog_6_method_11_code
def yX4_shiftOf : MethodName := ⟨RX4, "shiftOf", "(I)I"⟩
abbrev cX4_takeFor : ByteArray := prog_6_method_12_code
def yX4_takeFor : MethodName := ⟨RX4, "takeFor", "(I)LCarrierPool$Telling;"⟩
def RX5 : String := "CarrierPool$Pair"
def TX5 : u_T := fun k => match k with
  | 0 => ("CarrierPool$Pair", "give", "LCarrierPool$Telling;", true)
  | 1 => ("CarrierPool$Pair", "take", "LCarrierPool$Telling;", true)
  | 2 => ("CarrierPool$Pair", "counted", "I", false)
  | _ => ("CarrierPool$Pair", "judged", "Z", false)
def tyX5 : Nat → FieldType := fun k => match k with
  | 0 => .object "CarrierPool$Telling"
  | 1 => .object "CarrierPool$Telling"
  | 2 => .int
  | _ => .boolean
abbrev wsX50 : List Cond := u_ws RX5 TX5 4
theorem nmX5 : ∀ a, a < 4 → ∀ b, b < 4 → a ≠ b → (TX5 a).2.1 ≠ (TX5 b).2.1 := by decide +kernel
theorem tyX5_ok : ∀ k, k < 4 → parseFieldDescriptor (TX5 k).2.2.1 = some (tyX5 k) := by decide +kernel
abbrev cX5_init : ByteArray := prog_7_method_1_code
def yX5_init : MethodName := ⟨RX5, "<init>", "(LCarrierPool$Telling;LCarrierPool$Telling;I)V"⟩
abbrev cX5_isQuarrel : ByteArray := prog_7_method_2_code
def yX5_isQuarrel : MethodName := ⟨RX5, "isQuarrel", "()Z"⟩
def RX6 : String := "CarrierPool$Telling"
def TX6 : u_T := fun k => match k with
  | 0 => ("CarrierPool$Telling", "number", "I", true)
  | 1 => ("CarrierPool$Telling", "give", "Z", true)
  | 2 => ("CarrierPool$Telling", "from", "I", true)
  | 3 => ("CarrierPool$Telling", "to", "I", true)
  | 4 => ("CarrierPool$Telling", "kind", "I", true)
  | 5 => ("CarrierPool$Telling", "carriers", "I", true)
  | 6 => ("CarrierPool$Telling", "day", "I", true)
  | 7 => ("CarrierPool$Telling", "state", "I", false)
  | 8 => ("CarrierPool$Telling", "pairNumber", "I", false)
  | _ => ("CarrierPool$Telling", "nextOfGroup", "LCarrierPool$Telling;", false)
def tyX6 : Nat → FieldType := fun k => match k with
  | 0 => .int
  | 1 => .boolean
  | 2 => .int
  | 3 => .int
  | 4 => .int
  | 5 => .int
  | 6 => .int
  | 7 => .int
  | 8 => .int
  | _ => .object "CarrierPool$Telling"
abbrev wsX60 : List Cond := u_ws RX6 TX6 10
theorem nmX6 : ∀ a, a < 10 → ∀ b, b < 10 → a ≠ b → (TX6 a).2.1 ≠ (TX6 b).2.1 := by decide +kernel
theorem tyX6_ok : ∀ k, k < 10 → parseFieldDescriptor (TX6 k).2.2.1 = some (tyX6 k) := by decide +kernel
abbrev cX6_init : ByteArray := prog_8_method_1_code
def yX6_init : MethodName := ⟨RX6, "<init>", "(IZIIIII)V"⟩
abbrev cX6_group : ByteArray := prog_8_method_2_code
def yX6_group : MethodName := ⟨RX6, "group", "()I"⟩
abbrev cX6_isNear : ByteArray := prog_8_method_3_code
def yX6_isNear : MethodName := ⟨RX6, "isNear", "(LCarrierPool$Telling;)Z"⟩
def RX7 : String := "CarrierPool"
def TX7 : u_T := fun k => match k with
  | 0 => ("CarrierPool", "today", "I", false)
  | 1 => ("CarrierPool", "houses", "I", false)
  | 2 => ("CarrierPool", "kinds", "I", false)
  | 3 => ("CarrierPool", "quarrelRule", "I", false)
  | 4 => ("CarrierPool", "worths", "[I", true)
  | 5 => ("CarrierPool", "feeOfKind", "[I", true)
  | 6 => ("CarrierPool", "bought", "[I", true)
  | 7 => ("CarrierPool", "broken", "[I", true)
  | 8 => ("CarrierPool", "missing", "[I", true)
  | 9 => ("CarrierPool", "refusals", "[I", true)
  | 10 => ("CarrierPool", "keptFees", "[J", true)
  | 11 => ("CarrierPool", "ledger", "LCarrierPool$Ledger;", true)
  | 12 => ("CarrierPool", "doors", "LCarrierPool$Doors;", true)
  | 13 => ("CarrierPool", "debts", "LCarrierPool$Debts;", true)
  | _ => ("CarrierPool", "carrying", "LCarrierPool$Carrying;", true)
def tyX7 : Nat → FieldType := fun k => match k with
  | 0 => .int
  | 1 => .int
  | 2 => .int
  | 3 => .int
  | 4 => .array .int
  | 5 => .array .int
  | 6 => .array .int
  | 7 => .array .int
  | 8 => .array .int
  | 9 => .array .int
  | 10 => .array .long
  | 11 => .object "CarrierPool$Ledger"
  | 12 => .object "CarrierPool$Doors"
  | 13 => .object "CarrierPool$Debts"
  | _ => .object "CarrierPool$Carrying"
abbrev wsX70 : List Cond := u_ws RX7 TX7 15
theorem nmX7 : ∀ a, a < 15 → ∀ b, b < 15 → a ≠ b → (TX7 a).2.1 ≠ (TX7 b).2.1 := by decide +kernel
theorem tyX7_ok : ∀ k, k < 15 → parseFieldDescriptor (TX7 k).2.2.1 = some (tyX7 k) := by decide +kernel
abbrev cX7_init : ByteArray := prog_1_method_1_code
def yX7_init : MethodName := ⟨RX7, "<init>", "()V"⟩
abbrev cX7_house : ByteArray := prog_1_method_2_code
def yX7_house : MethodName := ⟨RX7, "house", "()I"⟩
abbrev cX7_kind : ByteArray := prog_1_method_3_code
def yX7_kind : MethodName := ⟨RX7, "kind", "(II)I"⟩
abbrev cX7_days : ByteArray := prog_1_method_4_code
def yX7_days : MethodName := ⟨RX7, "days", "(I)I"⟩
abbrev cX7_buy : ByteArray := prog_1_method_5_code
def yX7_buy : MethodName := ⟨RX7, "buy", "(III)I"⟩
abbrev cX7_scrap : ByteArray := prog_1_method_6_code
def yX7_scrap : MethodName := ⟨RX7, "scrap", "(III)I"⟩
abbrev cX7_tell : ByteArray := prog_1_method_7_code
def yX7_tell : MethodName := ⟨RX7, "tell", "(ZIIII)I"⟩
abbrev cX7_drop : ByteArray := prog_1_method_8_code
def yX7_drop : MethodName := ⟨RX7, "drop", "(I)I"⟩
abbrev cX7_rule : ByteArray := prog_1_method_9_code
def yX7_rule : MethodName := ⟨RX7, "rule", "(I)I"⟩
abbrev cX7_pair : ByteArray := prog_1_method_10_code
def yX7_pair : MethodName := ⟨RX7, "pair", "()I"⟩
abbrev cX7_judge : ByteArray := prog_1_method_11_code
def yX7_judge : MethodName := ⟨RX7, "judge", "(II)I"⟩
abbrev cX7_found : ByteArray := prog_1_method_12_code
def yX7_found : MethodName := ⟨RX7, "found", "(III)I"⟩
abbrev cX7_account : ByteArray := prog_1_method_13_code
def yX7_account : MethodName := ⟨RX7, "account", "(III)I"⟩
abbrev cX7_lost : ByteArray := prog_1_method_14_code
def yX7_lost : MethodName := ⟨RX7, "lost", "(II)I"⟩
abbrev cX7_turns : ByteArray := prog_1_method_15_code
def yX7_turns : MethodName := ⟨RX7, "turns", "(II)I"⟩
abbrev cX7_share : ByteArray := prog_1_method_16_code
def yX7_share : MethodName := ⟨RX7, "share", "(II)I"⟩
abbrev cX7_fees : ByteArray := prog_1_method_17_code
def yX7_fees : MethodName := ⟨RX7, "fees", "(II)J"⟩
abbrev cX7_close : ByteArray := prog_1_method_18_code
def yX7_close : MethodName := ⟨RX7, "close", "()I"⟩
abbrev cX7_bill : ByteArray := prog_1_method_19_code
def yX7_bill : MethodName := ⟨RX7, "bill", "(II)J"⟩
abbrev cX7_telling : ByteArray := prog_1_method_20_code
def yX7_telling : MethodName := ⟨RX7, "telling", "(II)I"⟩
abbrev cX7_pairOf : ByteArray := prog_1_method_21_code
def yX7_pairOf : MethodName := ⟨RX7, "pairOf", "(II)I"⟩
abbrev cX7_owe : ByteArray := prog_1_method_22_code
def yX7_owe : MethodName := ⟨RX7, "owe", "(IIII)I"⟩
abbrev cX7_owes : ByteArray := prog_1_method_23_code
def yX7_owes : MethodName := ⟨RX7, "owes", "(III)I"⟩
abbrev cX7_ring : ByteArray := prog_1_method_24_code
def yX7_ring : MethodName := ⟨RX7, "ring", "(II)I"⟩
abbrev cX7_off : ByteArray := prog_1_method_25_code
def yX7_off : MethodName := ⟨RX7, "off", "(I)I"⟩
abbrev cX7_want : ByteArray := prog_1_method_26_code
def yX7_want : MethodName := ⟨RX7, "want", "(III)I"⟩
abbrev cX7_way : ByteArray := prog_1_method_27_code
def yX7_way : MethodName := ⟨RX7, "way", "(III)I"⟩
abbrev cX7_plan : ByteArray := prog_1_method_28_code
def yX7_plan : MethodName := ⟨RX7, "plan", "()I"⟩
abbrev cX7_check : ByteArray := prog_1_method_29_code
def yX7_check : MethodName := ⟨RX7, "check", "(I)Z"⟩
abbrev cX7_count : ByteArray := prog_1_method_30_code
def yX7_count : MethodName := ⟨RX7, "count", "(I)I"⟩
abbrev cX7_isHouse : ByteArray := prog_1_method_31_code
def yX7_isHouse : MethodName := ⟨RX7, "isHouse", "(I)Z"⟩
abbrev cX7_areTwoHouses : ByteArray := prog_1_method_32_code
def yX7_areTwoHouses : MethodName := ⟨RX7, "areTwoHouses", "(II)Z"⟩
abbrev cX7_isKind : ByteArray := prog_1_method_33_code
def yX7_isKind : MethodName := ⟨RX7, "isKind", "(I)Z"⟩
abbrev cX7_whyNoMonth : ByteArray := prog_1_method_34_code
def yX7_whyNoMonth : MethodName := ⟨RX7, "whyNoMonth", "(II)I"⟩
abbrev cX7_refuse : ByteArray := prog_1_method_35_code
def yX7_refuse : MethodName := ⟨RX7, "refuse", "(I)I"⟩
abbrev cX7_refuseAmount : ByteArray := prog_1_method_36_code
def yX7_refuseAmount : MethodName := ⟨RX7, "refuseAmount", "(I)I"⟩
abbrev cX7_refusalsOf : ByteArray := prog_1_method_37_code
def yX7_refusalsOf : MethodName := ⟨RX7, "refusalsOf", "(I)I"⟩
abbrev cX7_enterMove : ByteArray := prog_1_method_38_code
def yX7_enterMove : MethodName := ⟨RX7, "enterMove", "(LCarrierPool$Pair;I)V"⟩
abbrev cX7_missingOfKind : ByteArray := prog_1_method_39_code
def yX7_missingOfKind : MethodName := ⟨RX7, "missingOfKind", "(I)I"⟩
abbrev cX7_shareOf : ByteArray := prog_1_method_40_code
def yX7_shareOf : MethodName := ⟨RX7, "shareOf", "(IIJ)I"⟩
abbrev cX7_isAhead : ByteArray := prog_1_method_41_code
def yX7_isAhead : MethodName := ⟨RX7, "isAhead", "(JIJI)Z"⟩
def RX8 : String := "CarrierPoolModel"
def TX8 : u_T := fun k => match k with
  | 0 => ("CarrierPoolModel", "day", "I", false)
  | 1 => ("CarrierPoolModel", "houses", "I", false)
  | 2 => ("CarrierPoolModel", "kinds", "I", false)
  | 3 => ("CarrierPoolModel", "worth", "[I", true)
  | 4 => ("CarrierPoolModel", "fee", "[I", true)
  | 5 => ("CarrierPoolModel", "entries", "I", false)
  | 6 => ("CarrierPoolModel", "entryHouse", "[I", true)
  | 7 => ("CarrierPoolModel", "entryKind", "[I", true)
  | 8 => ("CarrierPoolModel", "entryDay", "[I", true)
  | 9 => ("CarrierPoolModel", "entryMany", "[I", true)
  | 10 => ("CarrierPoolModel", "bought", "[J", true)
  | 11 => ("CarrierPoolModel", "closed", "I", false)
  | 12 => ("CarrierPoolModel", "bills", "[J", true)
  | 13 => ("CarrierPoolModel", "tellings", "I", false)
  | 14 => ("CarrierPoolModel", "gives", "[Z", true)
  | 15 => ("CarrierPoolModel", "from", "[I", true)
  | 16 => ("CarrierPoolModel", "to", "[I", true)
  | 17 => ("CarrierPoolModel", "of", "[I", true)
  | 18 => ("CarrierPoolModel", "many", "[I", true)
  | 19 => ("CarrierPoolModel", "toldOn", "[I", true)
  | 20 => ("CarrierPoolModel", "state", "[I", true)
  | 21 => ("CarrierPoolModel", "pairOfTelling", "[I", true)
  | 22 => ("CarrierPoolModel", "rule", "I", false)
  | 23 => ("CarrierPoolModel", "pairs", "I", false)
  | 24 => ("CarrierPoolModel", "pairGive", "[I", true)
  | 25 => ("CarrierPoolModel", "pairTake", "[I", true)
  | 26 => ("CarrierPoolModel", "counted", "[I", true)
  | 27 => ("CarrierPoolModel", "judged", "[Z", true)
  | 28 => ("CarrierPoolModel", "lost", "[I", true)
  | 29 => ("CarrierPoolModel", "debts", "[I", true)
  | 30 => ("CarrierPoolModel", "empties", "[I", true)
  | 31 => ("CarrierPoolModel", "wants", "[I", true)
  | 32 => ("CarrierPoolModel", "ways", "[I", true)
  | 33 => ("CarrierPoolModel", "refused", "[I", true)
  | 34 => ("CarrierPoolModel", "giveAt", "[I", true)
  | 35 => ("CarrierPoolModel", "takeAt", "[I", true)
  | 36 => ("CarrierPoolModel", "best", "[I", true)
  | 37 => ("CarrierPoolModel", "ringOf", "[I", true)
  | 38 => ("CarrierPoolModel", "ringSize", "I", false)
  | 39 => ("CarrierPoolModel", "steps", "[I", true)
  | 40 => ("CarrierPoolModel", "carried", "[I", true)
  | 41 => ("CarrierPoolModel", "far", "[I", true)
  | _ => ("CarrierPoolModel", "by", "[I", true)
def tyX8 : Nat → FieldType := fun k => match k with
  | 0 => .int
  | 1 => .int
  | 2 => .int
  | 3 => .array .int
  | 4 => .array .int
  | 5 => .int
  | 6 => .array .int
  | 7 => .array .int
  | 8 => .array .int
  | 9 => .array .int
  | 10 => .array .long
  | 11 => .int
  | 12 => .array .long
  | 13 => .int
  | 14 => .array .boolean
  | 15 => .array .int
  | 16 => .array .int
  | 17 => .array .int
  | 18 => .array .int
  | 19 => .array .int
  | 20 => .array .int
  | 21 => .array .int
  | 22 => .int
  | 23 => .int
  | 24 => .array .int
  | 25 => .array .int
  | 26 => .array .int
  | 27 => .array .boolean
  | 28 => .array .int
  | 29 => .array .int
  | 30 => .array .int
  | 31 => .array .int
  | 32 => .array .int
  | 33 => .array .int
  | 34 => .array .int
  | 35 => .array .int
  | 36 => .array .int
  | 37 => .array .int
  | 38 => .int
  | 39 => .array .int
  | 40 => .array .int
  | 41 => .array .int
  | _ => .array .int
abbrev wsX80 : List Cond := u_ws RX8 TX8 43
theorem nmX8 : ∀ a, a < 43 → ∀ b, b < 43 → a ≠ b → (TX8 a).2.1 ≠ (TX8 b).2.1 := by decide +kernel
theorem tyX8_ok : ∀ k, k < 43 → parseFieldDescriptor (TX8 k).2.2.1 = some (tyX8 k) := by decide +kernel
abbrev cX8_init : ByteArray := prog_10_method_1_code
def yX8_init : MethodName := ⟨RX8, "<init>", "()V"⟩
abbrev cX8_in : ByteArray := prog_10_method_3_code
def yX8_in : MethodName := ⟨RX8, "in", "(III)Z"⟩
abbrev cX8_refuse : ByteArray := prog_10_method_4_code
def yX8_refuse : MethodName := ⟨RX8, "refuse", "(I)I"⟩
abbrev cX8_refuseBig : ByteArray := prog_10_method_5_code
def yX8_refuseBig : MethodName := ⟨RX8, "refuseBig", "(I)I"⟩
abbrev cX8_isHouse : ByteArray := prog_10_method_6_code
def yX8_isHouse : MethodName := ⟨RX8, "isHouse", "(I)Z"⟩
abbrev cX8_isKind : ByteArray := prog_10_method_7_code
def yX8_isKind : MethodName := ⟨RX8, "isKind", "(I)Z"⟩
abbrev cX8_house : ByteArray := prog_10_method_8_code
def yX8_house : MethodName := ⟨RX8, "house", "()I"⟩
abbrev cX8_kind : ByteArray := prog_10_method_9_code
def yX8_kind : MethodName := ⟨RX8, "kind", "(II)I"⟩
abbrev cX8_days : ByteArray := prog_10_method_10_code
def yX8_days : MethodName := ⟨RX8, "days", "(I)I"⟩
abbrev cX8_enter : ByteArray := prog_10_method_11_code
def yX8_enter : MethodName := ⟨RX8, "enter", "(IIII)V"⟩
abbrev cX8_accountOf : ByteArray := prog_10_method_12_code
def yX8_accountOf : MethodName := ⟨RX8, "accountOf", "(III)I"⟩
abbrev cX8_account : ByteArray := prog_10_method_13_code
def yX8_account : MethodName := ⟨RX8, "account", "(III)I"⟩
abbrev cX8_buy : ByteArray := prog_10_method_14_code
def yX8_buy : MethodName := ⟨RX8, "buy", "(III)I"⟩
abbrev cX8_scrap : ByteArray := prog_10_method_15_code
def yX8_scrap : MethodName := ⟨RX8, "scrap", "(III)I"⟩
abbrev cX8_found : ByteArray := prog_10_method_16_code
def yX8_found : MethodName := ⟨RX8, "found", "(III)I"⟩
abbrev cX8_lost : ByteArray := prog_10_method_17_code
def yX8_lost : MethodName := ⟨RX8, "lost", "(II)I"⟩
abbrev cX8_tell : ByteArray := prog_10_method_18_code
def yX8_tell : MethodName := ⟨RX8, "tell", "(ZIIII)I"⟩
abbrev cX8_drop : ByteArray := prog_10_method_19_code
def yX8_drop : MethodName := ⟨RX8, "drop", "(I)I"⟩
abbrev cX8_rule : ByteArray := prog_10_method_20_code
def yX8_rule : MethodName := ⟨RX8, "rule", "(I)I"⟩
abbrev cX8_gather : ByteArray := prog_10_method_21_code
def yX8_gather : MethodName := ⟨RX8, "gather", "(ZIII[I)I"⟩
abbrev cX8_worthOf : ByteArray := prog_10_method_22_code
def yX8_worthOf : MethodName := ⟨RX8, "worthOf", "(II)I"⟩
abbrev cX8_pairThose : ByteArray := prog_10_method_23_code
def yX8_pairThose : MethodName := ⟨RX8, "pairThose", "(IIII)I"⟩
abbrev cX8_made : ByteArray := prog_10_method_24_code
def yX8_made : MethodName := ⟨RX8, "made", "(II)V"⟩
abbrev cX8_pair : ByteArray := prog_10_method_25_code
def yX8_pair : MethodName := ⟨RX8, "pair", "()I"⟩
abbrev cX8_isQuarrel : ByteArray := prog_10_method_26_code
def yX8_isQuarrel : MethodName := ⟨RX8, "isQuarrel", "(I)Z"⟩
abbrev cX8_judge : ByteArray := prog_10_method_27_code
def yX8_judge : MethodName := ⟨RX8, "judge", "(II)I"⟩
abbrev cX8_turnsOf : ByteArray := prog_10_method_28_code
def yX8_turnsOf : MethodName := ⟨RX8, "turnsOf", "(II)I"⟩
abbrev cX8_turns : ByteArray := prog_10_method_29_code
def yX8_turns : MethodName := ⟨RX8, "turns", "(II)I"⟩
abbrev cX8_share : ByteArray := prog_10_method_30_code
def yX8_share : MethodName := ⟨RX8, "share", "(II)I"⟩
abbrev cX8_feesOf : ByteArray := prog_10_method_31_code
def yX8_feesOf : MethodName := ⟨RX8, "feesOf", "(II)J"⟩
abbrev cX8_lackOfFees : ByteArray := prog_10_method_32_code
def yX8_lackOfFees : MethodName := ⟨RX8, "lackOfFees", "(II)I"⟩
abbrev cX8_fees : ByteArray := prog_10_method_33_code
def yX8_fees : MethodName := ⟨RX8, "fees", "(II)J"⟩
abbrev cX8_close : ByteArray := prog_10_method_34_code
def yX8_close : MethodName := ⟨RX8, "close", "()I"⟩
abbrev cX8_bill : ByteArray := prog_10_method_35_code
def yX8_bill : MethodName := ⟨RX8, "bill", "(II)J"⟩
abbrev cX8_telling : ByteArray := prog_10_method_36_code
def yX8_telling : MethodName := ⟨RX8, "telling", "(II)I"⟩
abbrev cX8_pairOf : ByteArray := prog_10_method_37_code
def yX8_pairOf : MethodName := ⟨RX8, "pairOf", "(II)I"⟩
abbrev cX8_debt : ByteArray := prog_10_method_38_code
def yX8_debt : MethodName := ⟨RX8, "debt", "(III)I"⟩
abbrev cX8_owe : ByteArray := prog_10_method_39_code
def yX8_owe : MethodName := ⟨RX8, "owe", "(IIII)I"⟩
abbrev cX8_owes : ByteArray := prog_10_method_40_code
def yX8_owes : MethodName := ⟨RX8, "owes", "(III)I"⟩
abbrev cX8_stepsTo : ByteArray := prog_10_method_41_code
def yX8_stepsTo : MethodName := ⟨RX8, "stepsTo", "(II)V"⟩
abbrev cX8_findRing : ByteArray := prog_10_method_42_code
def yX8_findRing : MethodName := ⟨RX8, "findRing", "(I)V"⟩
abbrev cX8_ring : ByteArray := prog_10_method_43_code
def yX8_ring : MethodName := ⟨RX8, "ring", "(II)I"⟩
abbrev cX8_off : ByteArray := prog_10_method_44_code
def yX8_off : MethodName := ⟨RX8, "off", "(I)I"⟩
abbrev cX8_want : ByteArray := prog_10_method_45_code
def yX8_want : MethodName := ⟨RX8, "want", "(III)I"⟩
abbrev cX8_way : ByteArray := prog_10_method_46_code
def yX8_way : MethodName := ⟨RX8, "way", "(III)I"⟩
abbrev cX8_plan : ByteArray := prog_10_method_47_code
def yX8_plan : MethodName := ⟨RX8, "plan", "()I"⟩
abbrev cX8_left : ByteArray := prog_10_method_48_code
def yX8_left : MethodName := ⟨RX8, "left", "(I)I"⟩
abbrev cX8_lacks : ByteArray := prog_10_method_49_code
def yX8_lacks : MethodName := ⟨RX8, "lacks", "(I)I"⟩
abbrev cX8_carryOne : ByteArray := prog_10_method_50_code
def yX8_carryOne : MethodName := ⟨RX8, "carryOne", "()I"⟩
abbrev cX8_check : ByteArray := prog_10_method_51_code
def yX8_check : MethodName := ⟨RX8, "check", "(I)Z"⟩
abbrev cX8_count : ByteArray := prog_10_method_52_code
def yX8_count : MethodName := ⟨RX8, "count", "(I)I"⟩
def RJ9 : String := "java/lang/Math"
abbrev cJ9_abs_0f7a4 : ByteArray := prog_11_method_59_code
def yJ9_abs_0f7a4 : MethodName := ⟨RJ9, "abs", "(I)I"⟩
abbrev cJ9_max_7cf53 : ByteArray := prog_11_method_65_code
def yJ9_max_7cf53 : MethodName := ⟨RJ9, "max", "(II)I"⟩
abbrev cJ9_max_f86c9 : ByteArray := prog_11_method_66_code
def yJ9_max_f86c9 : MethodName := ⟨RJ9, "max", "(JJ)J"⟩
abbrev cJ9_min_7cf53 : ByteArray := prog_11_method_69_code
def yJ9_min_7cf53 : MethodName := ⟨RJ9, "min", "(II)I"⟩
def RJ10 : String := "java/lang/System"
def RJ7 : String := "java/util/Arrays"
abbrev cJ7_fill_53178 : ByteArray := prog_13_method_103_code
def yJ7_fill_53178 : MethodName := ⟨RJ7, "fill", "([II)V"⟩
def RL : String := "CarrierPoolLaw"
abbrev cL_law : ByteArray := code
def yL_law : MethodName := ⟨RL, "law", "([I)Z"⟩
abbrev vwCl : List vw_C := [(RX0, TX0, 11), (RX1, TX1, 5), (RX2, TX2, 6), (RX3, TX3, 6), (RX4, TX4, 7), (RX5, TX5, 4), (RX6, TX6, 10), (RX7, TX7, 15), (RX8, TX8, 43)]
end
section
theorem dX0_init_0 : decode cX0_init 0 = .ok (.aload_n 0, 1) := by decide +kernel
theorem dX0_init_1 : decode cX0_init 1 = .ok (.invokespecial 3, 3) := by decide +kernel
theorem dX0_init_4 : decode cX0_init 4 = .ok (.aload_n 0, 1) := by decide +kernel
theorem dX0_init_5 : decode cX0_init 5 = .ok (.bipush 10, 2) := by decide +kernel
theorem dX0_init_7 : decode cX0_init 7 = .ok (.newarray .int, 2) := by decide +kernel
theorem dX0_init_9 : decode cX0_init 9 = .ok (.putfield 9, 3) := by decide +kernel
theorem dX0_init_12 : decode cX0_init 12 = .ok (.aload_n 0, 1) := by decide +kernel
theorem dX0_init_13 : decode cX0_init 13 = .ok (.bipush 10, 2) := by decide +kernel
theorem dX0_init_15 : decode cX0_init 15 = .ok (.newarray .int, 2) := by decide +kernel
theorem dX0_init_17 : decode cX0_init 17 = .ok (.putfield 15, 3) := by decide +kernel
theorem dX0_init_20 : decode cX0_init 20 = .ok (.aload_n 0, 1) := by decide +kernel
theorem dX0_init_21 : decode cX0_init 21 = .ok (.bipush 100, 2) := by decide +kernel
theorem dX0_init_23 : decode cX0_init 23 = .ok (.newarray .int, 2) := by decide +kernel
theorem dX0_init_25 : decode cX0_init 25 = .ok (.putfield 18, 3) := by decide +kernel
theorem dX0_init_28 : decode cX0_init 28 = .ok (.aload_n 0, 1) := by decide +kernel
theorem dX0_init_29 : decode cX0_init 29 = .ok (.bipush 100, 2) := by decide +kernel
theorem dX0_init_31 : decode cX0_init 31 = .ok (.newarray .int, 2) := by decide +kernel
theorem dX0_init_33 : decode cX0_init 33 = .ok (.putfield 21, 3) := by decide +kernel
theorem dX0_init_36 : decode cX0_init 36 = .ok (.aload_n 0, 1) := by decide +kernel
theorem dX0_init_37 : decode cX0_init 37 = .ok (.bipush 10, 2) := by decide +kernel
theorem dX0_init_39 : decode cX0_init 39 = .ok (.newarray .int, 2) := by decide +kernel
theorem dX0_init_41 : decode cX0_init 41 = .ok (.putfield 24, 3) := by decide +kernel
theorem dX0_init_44 : decode cX0_init 44 = .ok (.aload_n 0, 1) := by decide +kernel
theorem dX0_init_45 : decode cX0_init 45 = .ok (.bipush 10, 2) := by decide +kernel
theorem dX0_init_47 : decode cX0_init 47 = .ok (.newarray .int, 2) := by decide +kernel
theorem dX0_init_49 : decode cX0_init 49 = .ok (.putfield 27, 3) := by decide +kernel
theorem dX0_init_52 : decode cX0_init 52 = .ok (.aload_n 0, 1) := by decide +kernel
theorem dX0_init_53 : decode cX0_init 53 = .ok (.bipush 10, 2) := by decide +kernel
theorem dX0_init_55 : decode cX0_init 55 = .ok (.newarray .int, 2) := by decide +kernel
theorem dX0_init_57 : decode cX0_init 57 = .ok (.putfield 30, 3) := by decide +kernel
theorem dX0_init_60 : decode cX0_init 60 = .ok (.aload_n 0, 1) := by decide +kernel
theorem dX0_init_61 : decode cX0_init 61 = .ok (.bipush 10, 2) := by decide +kernel
theorem dX0_init_63 : decode cX0_init 63 = .ok (.newarray .int, 2) := by decide +kernel
theorem dX0_init_65 : decode cX0_init 65 = .ok (.putfield 33, 3) := by decide +kernel
theorem dX0_init_68 : decode cX0_init 68 = .ok (.aload_n 0, 1) := by decide +kernel
theorem dX0_init_69 : decode cX0_init 69 = .ok (.bipush 10, 2) := by decide +kernel
theorem dX0_init_71 : decode cX0_init 71 = .ok (.newarray .int, 2) := by decide +kernel
theorem dX0_init_73 : decode cX0_init 73 = .ok (.putfield 36, 3) := by decide +kernel
theorem dX0_init_76 : decode cX0_init 76 = .ok (.aload_n 0, 1) := by decide +kernel
theorem dX0_init_77 : decode cX0_init 77 = .ok (.bipush 10, 2) := by decide +kernel
theorem dX0_init_79 : decode cX0_init 79 = .ok (.newarray .int, 2) := by decide +kernel
theorem dX0_init_81 : decode cX0_init 81 = .ok (.putfield 39, 3) := by decide +kernel
theorem dX0_init_84 : decode cX0_init 84 = .ok (.return_, 1) := by decide +kernel
theorem dX0_hasEnough_0 : decode cX0_hasEnough 0 = .ok (.iconst 0, 1) := by decide +kernel
theorem dX0_hasEnough_1 : decode cX0_hasEnough 1 = .ok (.istore_n 1, 1) := by decide +kernel
theorem dX0_hasEnough_2 : decode cX0_hasEnough 2 = .ok (.iconst 0, 1) := by decide +kernel
theorem dX0_hasEnough_3 : decode cX0_hasEnough 3 = .ok (.istore_n 2, 1) := by decide +kernel
theorem dX0_hasEnough_4 : decode cX0_hasEnough 4 = .ok (.iload_n 2, 1) := by decide +kernel
theorem dX0_hasEnough_5 : decode cX0_hasEnough 5 = .ok (.bipush 10, 2) := by decide +kernel
theorem dX0_hasEnough_7 : decode cX0_hasEnough 7 = .ok (.if_icmp .ge 25, 3) := by decide +kernel
theorem dX0_hasEnough_10 : decode cX0_hasEnough 10 = .ok (.iload_n 1, 1) := by decide +kernel
theorem dX0_hasEnough_11 : decode cX0_hasEnough 11 = .ok (.aload_n 0, 1) := by decide +kernel
theorem dX0_hasEnough_12 : decode cX0_hasEnough 12 = .ok (.getfield 9, 3) := by decide +kernel
theorem dX0_hasEnough_15 : decode cX0_hasEnough 15 = .ok (.iload_n 2, 1) := by decide +kernel
theorem dX0_hasEnough_16 : decode cX0_hasEnough 16 = .ok (.iaload, 1) := by decide +kernel
theorem dX0_hasEnough_17 : decode cX0_hasEnough 17 = .ok (.aload_n 0, 1) := by decide +kernel
theorem dX0_hasEnough_18 : decode cX0_hasEnough 18 = .ok (.getfield 15, 3) := by decide +kernel
theorem dX0_hasEnough_21 : decode cX0_hasEnough 21 = .ok (.iload_n 2, 1) := by decide +kernel
theorem dX0_hasEnough_22 : decode cX0_hasEnough 22 = .ok (.iaload, 1) := by decide +kernel
theorem dX0_hasEnough_23 : decode cX0_hasEnough 23 = .ok (.isub, 1) := by decide +kernel
theorem dX0_hasEnough_24 : decode cX0_hasEnough 24 = .ok (.iadd, 1) := by decide +kernel
theorem dX0_hasEnough_25 : decode cX0_hasEnough 25 = .ok (.istore_n 1, 1) := by decide +kernel
theorem dX0_hasEnough_26 : decode cX0_hasEnough 26 = .ok (.iinc 2 1, 3) := by decide +kernel
theorem dX0_hasEnough_29 : decode cX0_hasEnough 29 = .ok (.goto (-25), 3) := by decide +kernel
theorem dX0_hasEnough_32 : decode cX0_hasEnough 32 = .ok (.iload_n 1, 1) := by decide +kernel
theorem dX0_hasEnough_33 : decode cX0_hasEnough 33 = .ok (.ifCond .lt 7, 3) := by decide +kernel
theorem dX0_hasEnough_36 : decode cX0_hasEnough 36 = .ok (.iconst 1, 1) := by decide +kernel
theorem dX0_hasEnough_37 : decode cX0_hasEnough 37 = .ok (.goto 4, 3) := by decide +kernel
theorem dX0_hasEnough_40 : decode cX0_hasEnough 40 = .ok (.iconst 0, 1) := by decide +kernel
theorem dX0_hasEnough_41 : decode cX0_hasEnough 41 = .ok (.ireturn, 1) := by decide +kernel
theorem dX0_leastSum_0 : decode cX0_leastSum 0 = .ok (.aload_n 0, 1) := by decide +kernel
theorem dX0_leastSum_1 : decode cX0_leastSum 1 = .ok (.iload_n 1, 1) := by decide +kernel
theorem dX0_leastSum_2 : decode cX0_leastSum 2 = .ok (.bipush 10, 2) := by decide +kernel
theorem dX0_leastSum_4 : decode cX0_leastSum 4 = .ok (.invokestatic 42, 3) := by decide +kernel
theorem dX0_leastSum_7 : decode cX0_leastSum 7 = .ok (.putfield 48, 3) := by decide +kernel
theorem dX0_leastSum_10 : decode cX0_leastSum 10 = .ok (.aload_n 0, 1) := by decide +kernel
theorem dX0_leastSum_11 : decode cX0_leastSum 11 = .ok (.getfield 9, 3) := by decide +kernel
theorem dX0_leastSum_14 : decode cX0_leastSum 14 = .ok (.iconst 0, 1) := by decide +kernel
theorem dX0_leastSum_15 : decode cX0_leastSum 15 = .ok (.aload_n 0, 1) := by decide +kernel
theorem dX0_leastSum_16 : decode cX0_leastSum 16 = .ok (.getfield 24, 3) := by decide +kernel
theorem dX0_leastSum_19 : decode cX0_leastSum 19 = .ok (.iconst 0, 1) := by decide +kernel
theorem dX0_leastSum_20 : decode cX0_leastSum 20 = .ok (.bipush 10, 2) := by decide +kernel
theorem dX0_leastSum_22 : decode cX0_leastSum 22 = .ok (.invokestatic 52, 3) := by decide +kernel
theorem dX0_leastSum_25 : decode cX0_leastSum 25 = .ok (.aload_n 0, 1) := by decide +kernel
theorem dX0_leastSum_26 : decode cX0_leastSum 26 = .ok (.getfield 15, 3) := by decide +kernel
theorem dX0_leastSum_29 : decode cX0_leastSum 29 = .ok (.iconst 0, 1) := by decide +kernel
theorem dX0_leastSum_30 : decode cX0_leastSum 30 = .ok (.aload_n 0, 1) := by decide +kernel
theorem dX0_leastSum_31 : decode cX0_leastSum 31 = .ok (.getfield 27, 3) := by decide +kernel
theorem dX0_leastSum_34 : decode cX0_leastSum 34 = .ok (.iconst 0, 1) := by decide +kernel
theorem dX0_leastSum_35 : decode cX0_leastSum 35 = .ok (.bipush 10, 2) := by decide +kernel
theorem dX0_leastSum_37 : decode cX0_leastSum 37 = .ok (.invokestatic 52, 3) := by decide +kernel
theorem dX0_leastSum_40 : decode cX0_leastSum 40 = .ok (.aload_n 0, 1) := by decide +kernel
theorem dX0_leastSum_41 : decode cX0_leastSum 41 = .ok (.getfield 21, 3) := by decide +kernel
theorem dX0_leastSum_44 : decode cX0_leastSum 44 = .ok (.iconst 0, 1) := by decide +kernel
theorem dX0_leastSum_45 : decode cX0_leastSum 45 = .ok (.invokestatic 58, 3) := by decide +kernel
theorem dX0_leastSum_48 : decode cX0_leastSum 48 = .ok (.iconst 0, 1) := by decide +kernel
theorem dX0_leastSum_49 : decode cX0_leastSum 49 = .ok (.istore_n 2, 1) := by decide +kernel
theorem dX0_leastSum_50 : decode cX0_leastSum 50 = .ok (.iconst 0, 1) := by decide +kernel
theorem dX0_leastSum_51 : decode cX0_leastSum 51 = .ok (.istore_n 3, 1) := by decide +kernel
theorem dX0_leastSum_52 : decode cX0_leastSum 52 = .ok (.iload_n 3, 1) := by decide +kernel
theorem dX0_leastSum_53 : decode cX0_leastSum 53 = .ok (.sipush 1000, 3) := by decide +kernel
theorem dX0_leastSum_56 : decode cX0_leastSum 56 = .ok (.if_icmp .ge 44, 3) := by decide +kernel
theorem dX0_leastSum_59 : decode cX0_leastSum 59 = .ok (.aload_n 0, 1) := by decide +kernel
theorem dX0_leastSum_60 : decode cX0_leastSum 60 = .ok (.invokevirtual 64, 3) := by decide +kernel
theorem dX0_leastSum_63 : decode cX0_leastSum 63 = .ok (.aload_n 0, 1) := by decide +kernel
theorem dX0_leastSum_64 : decode cX0_leastSum 64 = .ok (.invokevirtual 67, 3) := by decide +kernel
theorem dX0_leastSum_67 : decode cX0_leastSum 67 = .ok (.istore 4, 2) := by decide +kernel
theorem dX0_leastSum_69 : decode cX0_leastSum 69 = .ok (.iload 4, 2) := by decide +kernel
theorem dX0_leastSum_71 : decode cX0_leastSum 71 = .ok (.ifCond .ge 6, 3) := by decide +kernel
theorem dX0_leastSum_74 : decode cX0_leastSum 74 = .ok (.goto 26, 3) := by decide +kernel
theorem dX0_leastSum_77 : decode cX0_leastSum 77 = .ok (.iload_n 2, 1) := by decide +kernel
theorem dX0_leastSum_78 : decode cX0_leastSum 78 = .ok (.aload_n 0, 1) := by decide +kernel
theorem dX0_leastSum_79 : decode cX0_leastSum 79 = .ok (.getfield 33, 3) := by decide +kernel
theorem dX0_leastSum_82 : decode cX0_leastSum 82 = .ok (.iload 4, 2) := by decide +kernel
theorem dX0_leastSum_84 : decode cX0_leastSum 84 = .ok (.iaload, 1) := by decide +kernel
theorem dX0_leastSum_85 : decode cX0_leastSum 85 = .ok (.aload_n 0, 1) := by decide +kernel
theorem dX0_leastSum_86 : decode cX0_leastSum 86 = .ok (.iload 4, 2) := by decide +kernel
theorem dX0_leastSum_88 : decode cX0_leastSum 88 = .ok (.invokevirtual 71, 3) := by decide +kernel
theorem dX0_leastSum_91 : decode cX0_leastSum 91 = .ok (.imul, 1) := by decide +kernel
theorem dX0_leastSum_92 : decode cX0_leastSum 92 = .ok (.iadd, 1) := by decide +kernel
theorem dX0_leastSum_93 : decode cX0_leastSum 93 = .ok (.istore_n 2, 1) := by decide +kernel
theorem dX0_leastSum_94 : decode cX0_leastSum 94 = .ok (.iinc 3 1, 3) := by decide +kernel
theorem dX0_leastSum_97 : decode cX0_leastSum 97 = .ok (.goto (-45), 3) := by decide +kernel
theorem dX0_leastSum_100 : decode cX0_leastSum 100 = .ok (.iload_n 2, 1) := by decide +kernel
theorem dX0_leastSum_101 : decode cX0_leastSum 101 = .ok (.ireturn, 1) := by decide +kernel
theorem dX0_findChains_0 : decode cX0_findChains 0 = .ok (.iconst 0, 1) := by decide +kernel
theorem dX0_findChains_1 : decode cX0_findChains 1 = .ok (.istore_n 1, 1) := by decide +kernel
theorem dX0_findChains_2 : decode cX0_findChains 2 = .ok (.iload_n 1, 1) := by decide +kernel
theorem dX0_findChains_3 : decode cX0_findChains 3 = .ok (.bipush 10, 2) := by decide +kernel
theorem dX0_findChains_5 : decode cX0_findChains 5 = .ok (.if_icmp .ge 52, 3) := by decide +kernel
theorem dX0_findChains_8 : decode cX0_findChains 8 = .ok (.aload_n 0, 1) := by decide +kernel
theorem dX0_findChains_9 : decode cX0_findChains 9 = .ok (.getfield 30, 3) := by decide +kernel
theorem dX0_findChains_12 : decode cX0_findChains 12 = .ok (.iload_n 1, 1) := by decide +kernel
theorem dX0_findChains_13 : decode cX0_findChains 13 = .ok (.aload_n 0, 1) := by decide +kernel
theorem dX0_findChains_14 : decode cX0_findChains 14 = .ok (.getfield 24, 3) := by decide +kernel
theorem dX0_findChains_17 : decode cX0_findChains 17 = .ok (.iload_n 1, 1) := by decide +kernel
theorem dX0_findChains_18 : decode cX0_findChains 18 = .ok (.iaload, 1) := by decide +kernel
theorem dX0_findChains_19 : decode cX0_findChains 19 = .ok (.ifCond .le 7, 3) := by decide +kernel
theorem dX0_findChains_22 : decode cX0_findChains 22 = .ok (.iconst 0, 1) := by decide +kernel
theorem dX0_findChains_23 : decode cX0_findChains 23 = .ok (.goto 5, 3) := by decide +kernel
theorem dX0_findChains_26 : decode cX0_findChains 26 = .ok (.ldc 75, 2) := by decide +kernel
theorem dX0_findChains_28 : decode cX0_findChains 28 = .ok (.iastore, 1) := by decide +kernel
theorem dX0_findChains_29 : decode cX0_findChains 29 = .ok (.aload_n 0, 1) := by decide +kernel
theorem dX0_findChains_30 : decode cX0_findChains 30 = .ok (.getfield 33, 3) := by decide +kernel
theorem dX0_findChains_33 : decode cX0_findChains 33 = .ok (.iload_n 1, 1) := by decide +kernel
theorem dX0_findChains_34 : decode cX0_findChains 34 = .ok (.ldc 75, 2) := by decide +kernel
theorem dX0_findChains_36 : decode cX0_findChains 36 = .ok (.iastore, 1) := by decide +kernel
theorem dX0_findChains_37 : decode cX0_findChains 37 = .ok (.aload_n 0, 1) := by decide +kernel
theorem dX0_findChains_38 : decode cX0_findChains 38 = .ok (.getfield 36, 3) := by decide +kernel
theorem dX0_findChains_41 : decode cX0_findChains 41 = .ok (.iload_n 1, 1) := by decide +kernel
theorem dX0_findChains_42 : decode cX0_findChains 42 = .ok (.iconst (-1), 1) := by decide +kernel
theorem dX0_findChains_43 : decode cX0_findChains 43 = .ok (.iastore, 1) := by decide +kernel
theorem dX0_findChains_44 : decode cX0_findChains 44 = .ok (.aload_n 0, 1) := by decide +kernel
theorem dX0_findChains_45 : decode cX0_findChains 45 = .ok (.getfield 39, 3) := by decide +kernel
theorem dX0_findChains_48 : decode cX0_findChains 48 = .ok (.iload_n 1, 1) := by decide +kernel
theorem dX0_findChains_49 : decode cX0_findChains 49 = .ok (.iconst (-1), 1) := by decide +kernel
theorem dX0_findChains_50 : decode cX0_findChains 50 = .ok (.iastore, 1) := by decide +kernel
theorem dX0_findChains_51 : decode cX0_findChains 51 = .ok (.iinc 1 1, 3) := by decide +kernel
theorem dX0_findChains_54 : decode cX0_findChains 54 = .ok (.goto (-52), 3) := by decide +kernel
theorem dX0_findChains_57 : decode cX0_findChains 57 = .ok (.iconst 0, 1) := by decide +kernel
theorem dX0_findChains_58 : decode cX0_findChains 58 = .ok (.istore_n 1, 1) := by decide +kernel
theorem dX0_findChains_59 : decode cX0_findChains 59 = .ok (.iload_n 1, 1) := by decide +kernel
theorem dX0_findChains_60 : decode cX0_findChains 60 = .ok (.bipush 20, 2) := by decide +kernel
theorem dX0_findChains_62 : decode cX0_findChains 62 = .ok (.if_icmp .ge 28, 3) := by decide +kernel
theorem dX0_findChains_65 : decode cX0_findChains 65 = .ok (.aload_n 0, 1) := by decide +kernel
theorem dX0_findChains_66 : decode cX0_findChains 66 = .ok (.invokevirtual 76, 3) := by decide +kernel
theorem dX0_findChains_69 : decode cX0_findChains 69 = .ok (.istore_n 2, 1) := by decide +kernel
theorem dX0_findChains_70 : decode cX0_findChains 70 = .ok (.iload_n 2, 1) := by decide +kernel
theorem dX0_findChains_71 : decode cX0_findChains 71 = .ok (.ifCond .eq 19, 3) := by decide +kernel
theorem dX0_findChains_74 : decode cX0_findChains 74 = .ok (.aload_n 0, 1) := by decide +kernel
theorem dX0_findChains_75 : decode cX0_findChains 75 = .ok (.invokevirtual 80, 3) := by decide +kernel
theorem dX0_findChains_78 : decode cX0_findChains 78 = .ok (.ifCond .ne 6, 3) := by decide +kernel
theorem dX0_findChains_81 : decode cX0_findChains 81 = .ok (.goto 9, 3) := by decide +kernel
theorem dX0_findChains_84 : decode cX0_findChains 84 = .ok (.iinc 1 1, 3) := by decide +kernel
theorem dX0_findChains_87 : decode cX0_findChains 87 = .ok (.goto (-28), 3) := by decide +kernel
theorem dX0_findChains_90 : decode cX0_findChains 90 = .ok (.return_, 1) := by decide +kernel
theorem dX0_reachWants_0 : decode cX0_reachWants 0 = .ok (.iconst 0, 1) := by decide +kernel
theorem dX0_reachWants_1 : decode cX0_reachWants 1 = .ok (.istore_n 1, 1) := by decide +kernel
theorem dX0_reachWants_2 : decode cX0_reachWants 2 = .ok (.iconst 0, 1) := by decide +kernel
theorem dX0_reachWants_3 : decode cX0_reachWants 3 = .ok (.istore_n 2, 1) := by decide +kernel
theorem dX0_reachWants_4 : decode cX0_reachWants 4 = .ok (.iload_n 2, 1) := by decide +kernel
theorem dX0_reachWants_5 : decode cX0_reachWants 5 = .ok (.aload_n 0, 1) := by decide +kernel
theorem dX0_reachWants_6 : decode cX0_reachWants 6 = .ok (.getfield 48, 3) := by decide +kernel
theorem dX0_reachWants_9 : decode cX0_reachWants 9 = .ok (.if_icmp .ge 87, 3) := by decide +kernel
theorem dX0_reachWants_12 : decode cX0_reachWants 12 = .ok (.aload_n 0, 1) := by decide +kernel
theorem dX0_reachWants_13 : decode cX0_reachWants 13 = .ok (.getfield 30, 3) := by decide +kernel
theorem dX0_reachWants_16 : decode cX0_reachWants 16 = .ok (.iload_n 2, 1) := by decide +kernel
theorem dX0_reachWants_17 : decode cX0_reachWants 17 = .ok (.iaload, 1) := by decide +kernel
theorem dX0_reachWants_18 : decode cX0_reachWants 18 = .ok (.ldc 75, 2) := by decide +kernel
theorem dX0_reachWants_20 : decode cX0_reachWants 20 = .ok (.if_icmp .lt 6, 3) := by decide +kernel
theorem dX0_reachWants_23 : decode cX0_reachWants 23 = .ok (.goto 67, 3) := by decide +kernel
theorem dX0_reachWants_26 : decode cX0_reachWants 26 = .ok (.iconst 0, 1) := by decide +kernel
theorem dX0_reachWants_27 : decode cX0_reachWants 27 = .ok (.istore_n 3, 1) := by decide +kernel
theorem dX0_reachWants_28 : decode cX0_reachWants 28 = .ok (.iload_n 3, 1) := by decide +kernel
theorem dX0_reachWants_29 : decode cX0_reachWants 29 = .ok (.aload_n 0, 1) := by decide +kernel
theorem dX0_reachWants_30 : decode cX0_reachWants 30 = .ok (.getfield 48, 3) := by decide +kernel
theorem dX0_reachWants_33 : decode cX0_reachWants 33 = .ok (.if_icmp .ge 57, 3) := by decide +kernel
theorem dX0_reachWants_36 : decode cX0_reachWants 36 = .ok (.aload_n 0, 1) := by decide +kernel
theorem dX0_reachWants_37 : decode cX0_reachWants 37 = .ok (.getfield 30, 3) := by decide +kernel
theorem dX0_reachWants_40 : decode cX0_reachWants 40 = .ok (.iload_n 2, 1) := by decide +kernel
theorem dX0_reachWants_41 : decode cX0_reachWants 41 = .ok (.iaload, 1) := by decide +kernel
theorem dX0_reachWants_42 : decode cX0_reachWants 42 = .ok (.aload_n 0, 1) := by decide +kernel
theorem dX0_reachWants_43 : decode cX0_reachWants 43 = .ok (.getfield 18, 3) := by decide +kernel
theorem dX0_reachWants_46 : decode cX0_reachWants 46 = .ok (.iload_n 2, 1) := by decide +kernel
theorem dX0_reachWants_47 : decode cX0_reachWants 47 = .ok (.bipush 10, 2) := by decide +kernel
theorem dX0_reachWants_49 : decode cX0_reachWants 49 = .ok (.imul, 1) := by decide +kernel
theorem dX0_reachWants_50 : decode cX0_reachWants 50 = .ok (.iload_n 3, 1) := by decide +kernel
theorem dX0_reachWants_51 : decode cX0_reachWants 51 = .ok (.iadd, 1) := by decide +kernel
theorem dX0_reachWants_52 : decode cX0_reachWants 52 = .ok (.iaload, 1) := by decide +kernel
theorem dX0_reachWants_53 : decode cX0_reachWants 53 = .ok (.iadd, 1) := by decide +kernel
theorem dX0_reachWants_54 : decode cX0_reachWants 54 = .ok (.istore 4, 2) := by decide +kernel
theorem dX0_reachWants_56 : decode cX0_reachWants 56 = .ok (.iload 4, 2) := by decide +kernel
theorem dX0_reachWants_58 : decode cX0_reachWants 58 = .ok (.aload_n 0, 1) := by decide +kernel
theorem dX0_reachWants_59 : decode cX0_reachWants 59 = .ok (.getfield 33, 3) := by decide +kernel
theorem dX0_reachWants_62 : decode cX0_reachWants 62 = .ok (.iload_n 3, 1) := by decide +kernel
theorem dX0_reachWants_63 : decode cX0_reachWants 63 = .ok (.iaload, 1) := by decide +kernel
theorem dX0_reachWants_64 : decode cX0_reachWants 64 = .ok (.if_icmp .ge 20, 3) := by decide +kernel
theorem dX0_reachWants_67 : decode cX0_reachWants 67 = .ok (.aload_n 0, 1) := by decide +kernel
theorem dX0_reachWants_68 : decode cX0_reachWants 68 = .ok (.getfield 33, 3) := by decide +kernel
theorem dX0_reachWants_71 : decode cX0_reachWants 71 = .ok (.iload_n 3, 1) := by decide +kernel
theorem dX0_reachWants_72 : decode cX0_reachWants 72 = .ok (.iload 4, 2) := by decide +kernel
theorem dX0_reachWants_74 : decode cX0_reachWants 74 = .ok (.iastore, 1) := by decide +kernel
theorem dX0_reachWants_75 : decode cX0_reachWants 75 = .ok (.aload_n 0, 1) := by decide +kernel
theorem dX0_reachWants_76 : decode cX0_reachWants 76 = .ok (.getfield 36, 3) := by decide +kernel
theorem dX0_reachWants_79 : decode cX0_reachWants 79 = .ok (.iload_n 3, 1) := by decide +kernel
theorem dX0_reachWants_80 : decode cX0_reachWants 80 = .ok (.iload_n 2, 1) := by decide +kernel
theorem dX0_reachWants_81 : decode cX0_reachWants 81 = .ok (.iastore, 1) := by decide +kernel
theorem dX0_reachWants_82 : decode cX0_reachWants 82 = .ok (.iconst 1, 1) := by decide +kernel
theorem dX0_reachWants_83 : decode cX0_reachWants 83 = .ok (.istore_n 1, 1) := by decide +kernel
theorem dX0_reachWants_84 : decode cX0_reachWants 84 = .ok (.iinc 3 1, 3) := by decide +kernel
theorem dX0_reachWants_87 : decode cX0_reachWants 87 = .ok (.goto (-59), 3) := by decide +kernel
theorem dX0_reachWants_90 : decode cX0_reachWants 90 = .ok (.iinc 2 1, 3) := by decide +kernel
theorem dX0_reachWants_93 : decode cX0_reachWants 93 = .ok (.goto (-89), 3) := by decide +kernel
theorem dX0_reachWants_96 : decode cX0_reachWants 96 = .ok (.iload_n 1, 1) := by decide +kernel
theorem dX0_reachWants_97 : decode cX0_reachWants 97 = .ok (.ireturn, 1) := by decide +kernel
theorem dX0_reachGivers_0 : decode cX0_reachGivers 0 = .ok (.iconst 0, 1) := by decide +kernel
theorem dX0_reachGivers_1 : decode cX0_reachGivers 1 = .ok (.istore_n 1, 1) := by decide +kernel
theorem dX0_reachGivers_2 : decode cX0_reachGivers 2 = .ok (.iconst 0, 1) := by decide +kernel
theorem dX0_reachGivers_3 : decode cX0_reachGivers 3 = .ok (.istore_n 2, 1) := by decide +kernel
theorem dX0_reachGivers_4 : decode cX0_reachGivers 4 = .ok (.iload_n 2, 1) := by decide +kernel
theorem dX0_reachGivers_5 : decode cX0_reachGivers 5 = .ok (.aload_n 0, 1) := by decide +kernel
theorem dX0_reachGivers_6 : decode cX0_reachGivers 6 = .ok (.getfield 48, 3) := by decide +kernel
theorem dX0_reachGivers_9 : decode cX0_reachGivers 9 = .ok (.if_icmp .ge 87, 3) := by decide +kernel
theorem dX0_reachGivers_12 : decode cX0_reachGivers 12 = .ok (.iconst 0, 1) := by decide +kernel
theorem dX0_reachGivers_13 : decode cX0_reachGivers 13 = .ok (.istore_n 3, 1) := by decide +kernel
theorem dX0_reachGivers_14 : decode cX0_reachGivers 14 = .ok (.iload_n 3, 1) := by decide +kernel
theorem dX0_reachGivers_15 : decode cX0_reachGivers 15 = .ok (.aload_n 0, 1) := by decide +kernel
theorem dX0_reachGivers_16 : decode cX0_reachGivers 16 = .ok (.getfield 48, 3) := by decide +kernel
theorem dX0_reachGivers_19 : decode cX0_reachGivers 19 = .ok (.if_icmp .ge 71, 3) := by decide +kernel
theorem dX0_reachGivers_22 : decode cX0_reachGivers 22 = .ok (.aload_n 0, 1) := by decide +kernel
theorem dX0_reachGivers_23 : decode cX0_reachGivers 23 = .ok (.getfield 33, 3) := by decide +kernel
theorem dX0_reachGivers_26 : decode cX0_reachGivers 26 = .ok (.iload_n 3, 1) := by decide +kernel
theorem dX0_reachGivers_27 : decode cX0_reachGivers 27 = .ok (.iaload, 1) := by decide +kernel
theorem dX0_reachGivers_28 : decode cX0_reachGivers 28 = .ok (.aload_n 0, 1) := by decide +kernel
theorem dX0_reachGivers_29 : decode cX0_reachGivers 29 = .ok (.getfield 18, 3) := by decide +kernel
theorem dX0_reachGivers_32 : decode cX0_reachGivers 32 = .ok (.iload_n 2, 1) := by decide +kernel
theorem dX0_reachGivers_33 : decode cX0_reachGivers 33 = .ok (.bipush 10, 2) := by decide +kernel
theorem dX0_reachGivers_35 : decode cX0_reachGivers 35 = .ok (.imul, 1) := by decide +kernel
theorem dX0_reachGivers_36 : decode cX0_reachGivers 36 = .ok (.iload_n 3, 1) := by decide +kernel
theorem dX0_reachGivers_37 : decode cX0_reachGivers 37 = .ok (.iadd, 1) := by decide +kernel
theorem dX0_reachGivers_38 : decode cX0_reachGivers 38 = .ok (.iaload, 1) := by decide +kernel
theorem dX0_reachGivers_39 : decode cX0_reachGivers 39 = .ok (.isub, 1) := by decide +kernel
theorem dX0_reachGivers_40 : decode cX0_reachGivers 40 = .ok (.istore 4, 2) := by decide +kernel
theorem dX0_reachGivers_42 : decode cX0_reachGivers 42 = .ok (.aload_n 0, 1) := by decide +kernel
theorem dX0_reachGivers_43 : decode cX0_reachGivers 43 = .ok (.getfield 21, 3) := by decide +kernel
theorem dX0_reachGivers_46 : decode cX0_reachGivers 46 = .ok (.iload_n 2, 1) := by decide +kernel
theorem dX0_reachGivers_47 : decode cX0_reachGivers 47 = .ok (.bipush 10, 2) := by decide +kernel
theorem dX0_reachGivers_49 : decode cX0_reachGivers 49 = .ok (.imul, 1) := by decide +kernel
theorem dX0_reachGivers_50 : decode cX0_reachGivers 50 = .ok (.iload_n 3, 1) := by decide +kernel
theorem dX0_reachGivers_51 : decode cX0_reachGivers 51 = .ok (.iadd, 1) := by decide +kernel
theorem dX0_reachGivers_52 : decode cX0_reachGivers 52 = .ok (.iaload, 1) := by decide +kernel
theorem dX0_reachGivers_53 : decode cX0_reachGivers 53 = .ok (.ifCond .le 31, 3) := by decide +kernel
theorem dX0_reachGivers_56 : decode cX0_reachGivers 56 = .ok (.iload 4, 2) := by decide +kernel
theorem dX0_reachGivers_58 : decode cX0_reachGivers 58 = .ok (.aload_n 0, 1) := by decide +kernel
theorem dX0_reachGivers_59 : decode cX0_reachGivers 59 = .ok (.getfield 30, 3) := by decide +kernel
theorem dX0_reachGivers_62 : decode cX0_reachGivers 62 = .ok (.iload_n 2, 1) := by decide +kernel
theorem dX0_reachGivers_63 : decode cX0_reachGivers 63 = .ok (.iaload, 1) := by decide +kernel
theorem dX0_reachGivers_64 : decode cX0_reachGivers 64 = .ok (.if_icmp .ge 20, 3) := by decide +kernel
theorem dX0_reachGivers_67 : decode cX0_reachGivers 67 = .ok (.aload_n 0, 1) := by decide +kernel
theorem dX0_reachGivers_68 : decode cX0_reachGivers 68 = .ok (.getfield 30, 3) := by decide +kernel
theorem dX0_reachGivers_71 : decode cX0_reachGivers 71 = .ok (.iload_n 2, 1) := by decide +kernel
theorem dX0_reachGivers_72 : decode cX0_reachGivers 72 = .ok (.iload 4, 2) := by decide +kernel
theorem dX0_reachGivers_74 : decode cX0_reachGivers 74 = .ok (.iastore, 1) := by decide +kernel
theorem dX0_reachGivers_75 : decode cX0_reachGivers 75 = .ok (.aload_n 0, 1) := by decide +kernel
theorem dX0_reachGivers_76 : decode cX0_reachGivers 76 = .ok (.getfield 39, 3) := by decide +kernel
theorem dX0_reachGivers_79 : decode cX0_reachGivers 79 = .ok (.iload_n 2, 1) := by decide +kernel
theorem dX0_reachGivers_80 : decode cX0_reachGivers 80 = .ok (.iload_n 3, 1) := by decide +kernel
theorem dX0_reachGivers_81 : decode cX0_reachGivers 81 = .ok (.iastore, 1) := by decide +kernel
theorem dX0_reachGivers_82 : decode cX0_reachGivers 82 = .ok (.iconst 1, 1) := by decide +kernel
theorem dX0_reachGivers_83 : decode cX0_reachGivers 83 = .ok (.istore_n 1, 1) := by decide +kernel
theorem dX0_reachGivers_84 : decode cX0_reachGivers 84 = .ok (.iinc 3 1, 3) := by decide +kernel
theorem dX0_reachGivers_87 : decode cX0_reachGivers 87 = .ok (.goto (-73), 3) := by decide +kernel
theorem dX0_reachGivers_90 : decode cX0_reachGivers 90 = .ok (.iinc 2 1, 3) := by decide +kernel
theorem dX0_reachGivers_93 : decode cX0_reachGivers 93 = .ok (.goto (-89), 3) := by decide +kernel
theorem dX0_reachGivers_96 : decode cX0_reachGivers 96 = .ok (.iload_n 1, 1) := by decide +kernel
theorem dX0_reachGivers_97 : decode cX0_reachGivers 97 = .ok (.ireturn, 1) := by decide +kernel
theorem dX0_cheapestUnmet_0 : decode cX0_cheapestUnmet 0 = .ok (.iconst (-1), 1) := by decide +kernel
theorem dX0_cheapestUnmet_1 : decode cX0_cheapestUnmet 1 = .ok (.istore_n 1, 1) := by decide +kernel
theorem dX0_cheapestUnmet_2 : decode cX0_cheapestUnmet 2 = .ok (.iconst 0, 1) := by decide +kernel
theorem dX0_cheapestUnmet_3 : decode cX0_cheapestUnmet 3 = .ok (.istore_n 2, 1) := by decide +kernel
theorem dX0_cheapestUnmet_4 : decode cX0_cheapestUnmet 4 = .ok (.iload_n 2, 1) := by decide +kernel
theorem dX0_cheapestUnmet_5 : decode cX0_cheapestUnmet 5 = .ok (.aload_n 0, 1) := by decide +kernel
theorem dX0_cheapestUnmet_6 : decode cX0_cheapestUnmet 6 = .ok (.getfield 48, 3) := by decide +kernel
theorem dX0_cheapestUnmet_9 : decode cX0_cheapestUnmet 9 = .ok (.if_icmp .ge 60, 3) := by decide +kernel
theorem dX0_cheapestUnmet_12 : decode cX0_cheapestUnmet 12 = .ok (.aload_n 0, 1) := by decide +kernel
theorem dX0_cheapestUnmet_13 : decode cX0_cheapestUnmet 13 = .ok (.getfield 27, 3) := by decide +kernel
theorem dX0_cheapestUnmet_16 : decode cX0_cheapestUnmet 16 = .ok (.iload_n 2, 1) := by decide +kernel
theorem dX0_cheapestUnmet_17 : decode cX0_cheapestUnmet 17 = .ok (.iaload, 1) := by decide +kernel
theorem dX0_cheapestUnmet_18 : decode cX0_cheapestUnmet 18 = .ok (.ifCond .le 18, 3) := by decide +kernel
theorem dX0_cheapestUnmet_21 : decode cX0_cheapestUnmet 21 = .ok (.aload_n 0, 1) := by decide +kernel
theorem dX0_cheapestUnmet_22 : decode cX0_cheapestUnmet 22 = .ok (.getfield 33, 3) := by decide +kernel
theorem dX0_cheapestUnmet_25 : decode cX0_cheapestUnmet 25 = .ok (.iload_n 2, 1) := by decide +kernel
theorem dX0_cheapestUnmet_26 : decode cX0_cheapestUnmet 26 = .ok (.iaload, 1) := by decide +kernel
theorem dX0_cheapestUnmet_27 : decode cX0_cheapestUnmet 27 = .ok (.ldc 75, 2) := by decide +kernel
theorem dX0_cheapestUnmet_29 : decode cX0_cheapestUnmet 29 = .ok (.if_icmp .ge 7, 3) := by decide +kernel
theorem dX0_cheapestUnmet_32 : decode cX0_cheapestUnmet 32 = .ok (.iconst 1, 1) := by decide +kernel
theorem dX0_cheapestUnmet_33 : decode cX0_cheapestUnmet 33 = .ok (.goto 4, 3) := by decide +kernel
theorem dX0_cheapestUnmet_36 : decode cX0_cheapestUnmet 36 = .ok (.iconst 0, 1) := by decide +kernel
theorem dX0_cheapestUnmet_37 : decode cX0_cheapestUnmet 37 = .ok (.istore_n 3, 1) := by decide +kernel
theorem dX0_cheapestUnmet_38 : decode cX0_cheapestUnmet 38 = .ok (.iload_n 3, 1) := by decide +kernel
theorem dX0_cheapestUnmet_39 : decode cX0_cheapestUnmet 39 = .ok (.ifCond .eq 24, 3) := by decide +kernel
theorem dX0_cheapestUnmet_42 : decode cX0_cheapestUnmet 42 = .ok (.iload_n 1, 1) := by decide +kernel
theorem dX0_cheapestUnmet_43 : decode cX0_cheapestUnmet 43 = .ok (.ifCond .lt 18, 3) := by decide +kernel
theorem dX0_cheapestUnmet_46 : decode cX0_cheapestUnmet 46 = .ok (.aload_n 0, 1) := by decide +kernel
theorem dX0_cheapestUnmet_47 : decode cX0_cheapestUnmet 47 = .ok (.getfield 33, 3) := by decide +kernel
theorem dX0_cheapestUnmet_50 : decode cX0_cheapestUnmet 50 = .ok (.iload_n 2, 1) := by decide +kernel
theorem dX0_cheapestUnmet_51 : decode cX0_cheapestUnmet 51 = .ok (.iaload, 1) := by decide +kernel
theorem dX0_cheapestUnmet_52 : decode cX0_cheapestUnmet 52 = .ok (.aload_n 0, 1) := by decide +kernel
theorem dX0_cheapestUnmet_53 : decode cX0_cheapestUnmet 53 = .ok (.getfield 33, 3) := by decide +kernel
theorem dX0_cheapestUnmet_56 : decode cX0_cheapestUnmet 56 = .ok (.iload_n 1, 1) := by decide +kernel
theorem dX0_cheapestUnmet_57 : decode cX0_cheapestUnmet 57 = .ok (.iaload, 1) := by decide +kernel
theorem dX0_cheapestUnmet_58 : decode cX0_cheapestUnmet 58 = .ok (.if_icmp .ge 5, 3) := by decide +kernel
theorem dX0_cheapestUnmet_61 : decode cX0_cheapestUnmet 61 = .ok (.iload_n 2, 1) := by decide +kernel
theorem dX0_cheapestUnmet_62 : decode cX0_cheapestUnmet 62 = .ok (.istore_n 1, 1) := by decide +kernel
theorem dX0_cheapestUnmet_63 : decode cX0_cheapestUnmet 63 = .ok (.iinc 2 1, 3) := by decide +kernel
theorem dX0_cheapestUnmet_66 : decode cX0_cheapestUnmet 66 = .ok (.goto (-62), 3) := by decide +kernel
theorem dX0_cheapestUnmet_69 : decode cX0_cheapestUnmet 69 = .ok (.iload_n 1, 1) := by decide +kernel
theorem dX0_cheapestUnmet_70 : decode cX0_cheapestUnmet 70 = .ok (.ireturn, 1) := by decide +kernel
theorem dX0_carryAlong_0 : decode cX0_carryAlong 0 = .ok (.aload_n 0, 1) := by decide +kernel
theorem dX0_carryAlong_1 : decode cX0_carryAlong 1 = .ok (.iload_n 1, 1) := by decide +kernel
theorem dX0_carryAlong_2 : decode cX0_carryAlong 2 = .ok (.invokevirtual 83, 3) := by decide +kernel
theorem dX0_carryAlong_5 : decode cX0_carryAlong 5 = .ok (.istore_n 2, 1) := by decide +kernel
theorem dX0_carryAlong_6 : decode cX0_carryAlong 6 = .ok (.aload_n 0, 1) := by decide +kernel
theorem dX0_carryAlong_7 : decode cX0_carryAlong 7 = .ok (.getfield 27, 3) := by decide +kernel
theorem dX0_carryAlong_10 : decode cX0_carryAlong 10 = .ok (.iload_n 1, 1) := by decide +kernel
theorem dX0_carryAlong_11 : decode cX0_carryAlong 11 = .ok (.dup2, 1) := by decide +kernel
theorem dX0_carryAlong_12 : decode cX0_carryAlong 12 = .ok (.iaload, 1) := by decide +kernel
theorem dX0_carryAlong_13 : decode cX0_carryAlong 13 = .ok (.iload_n 2, 1) := by decide +kernel
theorem dX0_carryAlong_14 : decode cX0_carryAlong 14 = .ok (.isub, 1) := by decide +kernel
theorem dX0_carryAlong_15 : decode cX0_carryAlong 15 = .ok (.iastore, 1) := by decide +kernel
theorem dX0_carryAlong_16 : decode cX0_carryAlong 16 = .ok (.iload_n 1, 1) := by decide +kernel
theorem dX0_carryAlong_17 : decode cX0_carryAlong 17 = .ok (.istore_n 3, 1) := by decide +kernel
theorem dX0_carryAlong_18 : decode cX0_carryAlong 18 = .ok (.iconst 0, 1) := by decide +kernel
theorem dX0_carryAlong_19 : decode cX0_carryAlong 19 = .ok (.istore 4, 2) := by decide +kernel
theorem dX0_carryAlong_21 : decode cX0_carryAlong 21 = .ok (.iload 4, 2) := by decide +kernel
theorem dX0_carryAlong_23 : decode cX0_carryAlong 23 = .ok (.bipush 10, 2) := by decide +kernel
theorem dX0_carryAlong_25 : decode cX0_carryAlong 25 = .ok (.if_icmp .ge 87, 3) := by decide +kernel
theorem dX0_carryAlong_28 : decode cX0_carryAlong 28 = .ok (.iload_n 3, 1) := by decide +kernel
theorem dX0_carryAlong_29 : decode cX0_carryAlong 29 = .ok (.ifCond .lt 83, 3) := by decide +kernel
theorem dX0_carryAlong_32 : decode cX0_carryAlong 32 = .ok (.aload_n 0, 1) := by decide +kernel
theorem dX0_carryAlong_33 : decode cX0_carryAlong 33 = .ok (.getfield 36, 3) := by decide +kernel
theorem dX0_carryAlong_36 : decode cX0_carryAlong 36 = .ok (.iload_n 3, 1) := by decide +kernel
theorem dX0_carryAlong_37 : decode cX0_carryAlong 37 = .ok (.iaload, 1) := by decide +kernel
theorem dX0_carryAlong_38 : decode cX0_carryAlong 38 = .ok (.istore 5, 2) := by decide +kernel
theorem dX0_carryAlong_40 : decode cX0_carryAlong 40 = .ok (.iload 5, 2) := by decide +kernel
theorem dX0_carryAlong_42 : decode cX0_carryAlong 42 = .ok (.ifCond .ge 6, 3) := by decide +kernel
theorem dX0_carryAlong_45 : decode cX0_carryAlong 45 = .ok (.goto 67, 3) := by decide +kernel
theorem dX0_carryAlong_48 : decode cX0_carryAlong 48 = .ok (.aload_n 0, 1) := by decide +kernel
theorem dX0_carryAlong_49 : decode cX0_carryAlong 49 = .ok (.getfield 21, 3) := by decide +kernel
theorem dX0_carryAlong_52 : decode cX0_carryAlong 52 = .ok (.iload 5, 2) := by decide +kernel
theorem dX0_carryAlong_54 : decode cX0_carryAlong 54 = .ok (.bipush 10, 2) := by decide +kernel
theorem dX0_carryAlong_56 : decode cX0_carryAlong 56 = .ok (.imul, 1) := by decide +kernel
theorem dX0_carryAlong_57 : decode cX0_carryAlong 57 = .ok (.iload_n 3, 1) := by decide +kernel
theorem dX0_carryAlong_58 : decode cX0_carryAlong 58 = .ok (.iadd, 1) := by decide +kernel
theorem dX0_carryAlong_59 : decode cX0_carryAlong 59 = .ok (.dup2, 1) := by decide +kernel
theorem dX0_carryAlong_60 : decode cX0_carryAlong 60 = .ok (.iaload, 1) := by decide +kernel
theorem dX0_carryAlong_61 : decode cX0_carryAlong 61 = .ok (.iload_n 2, 1) := by decide +kernel
theorem dX0_carryAlong_62 : decode cX0_carryAlong 62 = .ok (.iadd, 1) := by decide +kernel
theorem dX0_carryAlong_63 : decode cX0_carryAlong 63 = .ok (.iastore, 1) := by decide +kernel
theorem dX0_carryAlong_64 : decode cX0_carryAlong 64 = .ok (.aload_n 0, 1) := by decide +kernel
theorem dX0_carryAlong_65 : decode cX0_carryAlong 65 = .ok (.getfield 39, 3) := by decide +kernel
theorem dX0_carryAlong_68 : decode cX0_carryAlong 68 = .ok (.iload 5, 2) := by decide +kernel
theorem dX0_carryAlong_70 : decode cX0_carryAlong 70 = .ok (.iaload, 1) := by decide +kernel
theorem dX0_carryAlong_71 : decode cX0_carryAlong 71 = .ok (.istore_n 3, 1) := by decide +kernel
theorem dX0_carryAlong_72 : decode cX0_carryAlong 72 = .ok (.iload_n 3, 1) := by decide +kernel
theorem dX0_carryAlong_73 : decode cX0_carryAlong 73 = .ok (.ifCond .lt 22, 3) := by decide +kernel
theorem dX0_carryAlong_76 : decode cX0_carryAlong 76 = .ok (.aload_n 0, 1) := by decide +kernel
theorem dX0_carryAlong_77 : decode cX0_carryAlong 77 = .ok (.getfield 21, 3) := by decide +kernel
theorem dX0_carryAlong_80 : decode cX0_carryAlong 80 = .ok (.iload 5, 2) := by decide +kernel
theorem dX0_carryAlong_82 : decode cX0_carryAlong 82 = .ok (.bipush 10, 2) := by decide +kernel
theorem dX0_carryAlong_84 : decode cX0_carryAlong 84 = .ok (.imul, 1) := by decide +kernel
theorem dX0_carryAlong_85 : decode cX0_carryAlong 85 = .ok (.iload_n 3, 1) := by decide +kernel
theorem dX0_carryAlong_86 : decode cX0_carryAlong 86 = .ok (.iadd, 1) := by decide +kernel
theorem dX0_carryAlong_87 : decode cX0_carryAlong 87 = .ok (.dup2, 1) := by decide +kernel
theorem dX0_carryAlong_88 : decode cX0_carryAlong 88 = .ok (.iaload, 1) := by decide +kernel
theorem dX0_carryAlong_89 : decode cX0_carryAlong 89 = .ok (.iload_n 2, 1) := by decide +kernel
theorem dX0_carryAlong_90 : decode cX0_carryAlong 90 = .ok (.isub, 1) := by decide +kernel
theorem dX0_carryAlong_91 : decode cX0_carryAlong 91 = .ok (.iastore, 1) := by decide +kernel
theorem dX0_carryAlong_92 : decode cX0_carryAlong 92 = .ok (.goto 14, 3) := by decide +kernel
theorem dX0_carryAlong_95 : decode cX0_carryAlong 95 = .ok (.aload_n 0, 1) := by decide +kernel
theorem dX0_carryAlong_96 : decode cX0_carryAlong 96 = .ok (.getfield 24, 3) := by decide +kernel
theorem dX0_carryAlong_99 : decode cX0_carryAlong 99 = .ok (.iload 5, 2) := by decide +kernel
theorem dX0_carryAlong_101 : decode cX0_carryAlong 101 = .ok (.dup2, 1) := by decide +kernel
theorem dX0_carryAlong_102 : decode cX0_carryAlong 102 = .ok (.iaload, 1) := by decide +kernel
theorem dX0_carryAlong_103 : decode cX0_carryAlong 103 = .ok (.iload_n 2, 1) := by decide +kernel
theorem dX0_carryAlong_104 : decode cX0_carryAlong 104 = .ok (.isub, 1) := by decide +kernel
theorem dX0_carryAlong_105 : decode cX0_carryAlong 105 = .ok (.iastore, 1) := by decide +kernel
theorem dX0_carryAlong_106 : decode cX0_carryAlong 106 = .ok (.iinc 4 1, 3) := by decide +kernel
theorem dX0_carryAlong_109 : decode cX0_carryAlong 109 = .ok (.goto (-88), 3) := by decide +kernel
theorem dX0_carryAlong_112 : decode cX0_carryAlong 112 = .ok (.iload_n 2, 1) := by decide +kernel
theorem dX0_carryAlong_113 : decode cX0_carryAlong 113 = .ok (.ireturn, 1) := by decide +kernel
theorem dX0_amountAlong_0 : decode cX0_amountAlong 0 = .ok (.aload_n 0, 1) := by decide +kernel
theorem dX0_amountAlong_1 : decode cX0_amountAlong 1 = .ok (.getfield 27, 3) := by decide +kernel
theorem dX0_amountAlong_4 : decode cX0_amountAlong 4 = .ok (.iload_n 1, 1) := by decide +kernel
theorem dX0_amountAlong_5 : decode cX0_amountAlong 5 = .ok (.iaload, 1) := by decide +kernel
theorem dX0_amountAlong_6 : decode cX0_amountAlong 6 = .ok (.istore_n 2, 1) := by decide +kernel
theorem dX0_amountAlong_7 : decode cX0_amountAlong 7 = .ok (.iload_n 1, 1) := by decide +kernel
theorem dX0_amountAlong_8 : decode cX0_amountAlong 8 = .ok (.istore_n 3, 1) := by decide +kernel
theorem dX0_amountAlong_9 : decode cX0_amountAlong 9 = .ok (.iconst 0, 1) := by decide +kernel
theorem dX0_amountAlong_10 : decode cX0_amountAlong 10 = .ok (.istore 4, 2) := by decide +kernel
theorem dX0_amountAlong_12 : decode cX0_amountAlong 12 = .ok (.iload 4, 2) := by decide +kernel
theorem dX0_amountAlong_14 : decode cX0_amountAlong 14 = .ok (.bipush 10, 2) := by decide +kernel
theorem dX0_amountAlong_16 : decode cX0_amountAlong 16 = .ok (.if_icmp .ge 68, 3) := by decide +kernel
theorem dX0_amountAlong_19 : decode cX0_amountAlong 19 = .ok (.iload_n 3, 1) := by decide +kernel
theorem dX0_amountAlong_20 : decode cX0_amountAlong 20 = .ok (.ifCond .lt 64, 3) := by decide +kernel
theorem dX0_amountAlong_23 : decode cX0_amountAlong 23 = .ok (.aload_n 0, 1) := by decide +kernel
theorem dX0_amountAlong_24 : decode cX0_amountAlong 24 = .ok (.getfield 36, 3) := by decide +kernel
theorem dX0_amountAlong_27 : decode cX0_amountAlong 27 = .ok (.iload_n 3, 1) := by decide +kernel
theorem dX0_amountAlong_28 : decode cX0_amountAlong 28 = .ok (.iaload, 1) := by decide +kernel
theorem dX0_amountAlong_29 : decode cX0_amountAlong 29 = .ok (.istore 5, 2) := by decide +kernel
theorem dX0_amountAlong_31 : decode cX0_amountAlong 31 = .ok (.iload 5, 2) := by decide +kernel
theorem dX0_amountAlong_33 : decode cX0_amountAlong 33 = .ok (.ifCond .ge 6, 3) := by decide +kernel
theorem dX0_amountAlong_36 : decode cX0_amountAlong 36 = .ok (.goto 48, 3) := by decide +kernel
theorem dX0_amountAlong_39 : decode cX0_amountAlong 39 = .ok (.aload_n 0, 1) := by decide +kernel
theorem dX0_amountAlong_40 : decode cX0_amountAlong 40 = .ok (.getfield 39, 3) := by decide +kernel
theorem dX0_amountAlong_43 : decode cX0_amountAlong 43 = .ok (.iload 5, 2) := by decide +kernel
theorem dX0_amountAlong_45 : decode cX0_amountAlong 45 = .ok (.iaload, 1) := by decide +kernel
theorem dX0_amountAlong_46 : decode cX0_amountAlong 46 = .ok (.istore_n 3, 1) := by decide +kernel
theorem dX0_amountAlong_47 : decode cX0_amountAlong 47 = .ok (.iload_n 2, 1) := by decide +kernel
theorem dX0_amountAlong_48 : decode cX0_amountAlong 48 = .ok (.iload_n 3, 1) := by decide +kernel
theorem dX0_amountAlong_49 : decode cX0_amountAlong 49 = .ok (.ifCond .lt 18, 3) := by decide +kernel
theorem dX0_amountAlong_52 : decode cX0_amountAlong 52 = .ok (.aload_n 0, 1) := by decide +kernel
theorem dX0_amountAlong_53 : decode cX0_amountAlong 53 = .ok (.getfield 21, 3) := by decide +kernel
theorem dX0_amountAlong_56 : decode cX0_amountAlong 56 = .ok (.iload 5, 2) := by decide +kernel
theorem dX0_amountAlong_58 : decode cX0_amountAlong 58 = .ok (.bipush 10, 2) := by decide +kernel
theorem dX0_amountAlong_60 : decode cX0_amountAlong 60 = .ok (.imul, 1) := by decide +kernel
theorem dX0_amountAlong_61 : decode cX0_amountAlong 61 = .ok (.iload_n 3, 1) := by decide +kernel
theorem dX0_amountAlong_62 : decode cX0_amountAlong 62 = .ok (.iadd, 1) := by decide +kernel
theorem dX0_amountAlong_63 : decode cX0_amountAlong 63 = .ok (.iaload, 1) := by decide +kernel
theorem dX0_amountAlong_64 : decode cX0_amountAlong 64 = .ok (.goto 10, 3) := by decide +kernel
theorem dX0_amountAlong_67 : decode cX0_amountAlong 67 = .ok (.aload_n 0, 1) := by decide +kernel
theorem dX0_amountAlong_68 : decode cX0_amountAlong 68 = .ok (.getfield 24, 3) := by decide +kernel
theorem dX0_amountAlong_71 : decode cX0_amountAlong 71 = .ok (.iload 5, 2) := by decide +kernel
theorem dX0_amountAlong_73 : decode cX0_amountAlong 73 = .ok (.iaload, 1) := by decide +kernel
theorem dX0_amountAlong_74 : decode cX0_amountAlong 74 = .ok (.invokestatic 42, 3) := by decide +kernel
theorem dX0_amountAlong_77 : decode cX0_amountAlong 77 = .ok (.istore_n 2, 1) := by decide +kernel
theorem dX0_amountAlong_78 : decode cX0_amountAlong 78 = .ok (.iinc 4 1, 3) := by decide +kernel
theorem dX0_amountAlong_81 : decode cX0_amountAlong 81 = .ok (.goto (-69), 3) := by decide +kernel
theorem dX0_amountAlong_84 : decode cX0_amountAlong 84 = .ok (.iload_n 2, 1) := by decide +kernel
theorem dX0_amountAlong_85 : decode cX0_amountAlong 85 = .ok (.ireturn, 1) := by decide +kernel
theorem dX1_init_0 : decode cX1_init 0 = .ok (.aload_n 0, 1) := by decide +kernel
theorem dX1_init_1 : decode cX1_init 1 = .ok (.invokespecial 3, 3) := by decide +kernel
theorem dX1_init_4 : decode cX1_init 4 = .ok (.aload_n 0, 1) := by decide +kernel
theorem dX1_init_5 : decode cX1_init 5 = .ok (.sipush 600, 3) := by decide +kernel
theorem dX1_init_8 : decode cX1_init 8 = .ok (.newarray .int, 2) := by decide +kernel
theorem dX1_init_10 : decode cX1_init 10 = .ok (.putfield 9, 3) := by decide +kernel
theorem dX1_init_13 : decode cX1_init 13 = .ok (.aload_n 0, 1) := by decide +kernel
theorem dX1_init_14 : decode cX1_init 14 = .ok (.bipush 10, 2) := by decide +kernel
theorem dX1_init_16 : decode cX1_init 16 = .ok (.newarray .int, 2) := by decide +kernel
theorem dX1_init_18 : decode cX1_init 18 = .ok (.putfield 15, 3) := by decide +kernel
theorem dX1_init_21 : decode cX1_init 21 = .ok (.aload_n 0, 1) := by decide +kernel
theorem dX1_init_22 : decode cX1_init 22 = .ok (.bipush 10, 2) := by decide +kernel
theorem dX1_init_24 : decode cX1_init 24 = .ok (.newarray .int, 2) := by decide +kernel
theorem dX1_init_26 : decode cX1_init 26 = .ok (.putfield 18, 3) := by decide +kernel
theorem dX1_init_29 : decode cX1_init 29 = .ok (.aload_n 0, 1) := by decide +kernel
theorem dX1_init_30 : decode cX1_init 30 = .ok (.bipush 10, 2) := by decide +kernel
theorem dX1_init_32 : decode cX1_init 32 = .ok (.newarray .int, 2) := by decide +kernel
theorem dX1_init_34 : decode cX1_init 34 = .ok (.putfield 21, 3) := by decide +kernel
theorem dX1_init_37 : decode cX1_init 37 = .ok (.return_, 1) := by decide +kernel
theorem dX1_debt_0 : decode cX1_debt 0 = .ok (.aload_n 0, 1) := by decide +kernel
theorem dX1_debt_1 : decode cX1_debt 1 = .ok (.getfield 9, 3) := by decide +kernel
theorem dX1_debt_4 : decode cX1_debt 4 = .ok (.iload_n 1, 1) := by decide +kernel
theorem dX1_debt_5 : decode cX1_debt 5 = .ok (.bipush 10, 2) := by decide +kernel
theorem dX1_debt_7 : decode cX1_debt 7 = .ok (.imul, 1) := by decide +kernel
theorem dX1_debt_8 : decode cX1_debt 8 = .ok (.iload_n 2, 1) := by decide +kernel
theorem dX1_debt_9 : decode cX1_debt 9 = .ok (.iadd, 1) := by decide +kernel
theorem dX1_debt_10 : decode cX1_debt 10 = .ok (.bipush 10, 2) := by decide +kernel
theorem dX1_debt_12 : decode cX1_debt 12 = .ok (.imul, 1) := by decide +kernel
theorem dX1_debt_13 : decode cX1_debt 13 = .ok (.iload_n 3, 1) := by decide +kernel
theorem dX1_debt_14 : decode cX1_debt 14 = .ok (.iadd, 1) := by decide +kernel
theorem dX1_debt_15 : decode cX1_debt 15 = .ok (.iaload, 1) := by decide +kernel
theorem dX1_debt_16 : decode cX1_debt 16 = .ok (.ireturn, 1) := by decide +kernel
theorem dX1_add_0 : decode cX1_add 0 = .ok (.aload_n 0, 1) := by decide +kernel
theorem dX1_add_1 : decode cX1_add 1 = .ok (.getfield 9, 3) := by decide +kernel
theorem dX1_add_4 : decode cX1_add 4 = .ok (.iload_n 1, 1) := by decide +kernel
theorem dX1_add_5 : decode cX1_add 5 = .ok (.bipush 10, 2) := by decide +kernel
theorem dX1_add_7 : decode cX1_add 7 = .ok (.imul, 1) := by decide +kernel
theorem dX1_add_8 : decode cX1_add 8 = .ok (.iload_n 2, 1) := by decide +kernel
theorem dX1_add_9 : decode cX1_add 9 = .ok (.iadd, 1) := by decide +kernel
theorem dX1_add_10 : decode cX1_add 10 = .ok (.bipush 10, 2) := by decide +kernel
theorem dX1_add_12 : decode cX1_add 12 = .ok (.imul, 1) := by decide +kernel
theorem dX1_add_13 : decode cX1_add 13 = .ok (.iload_n 3, 1) := by decide +kernel
theorem dX1_add_14 : decode cX1_add 14 = .ok (.iadd, 1) := by decide +kernel
theorem dX1_add_15 : decode cX1_add 15 = .ok (.dup2, 1) := by decide +kernel
theorem dX1_add_16 : decode cX1_add 16 = .ok (.iaload, 1) := by decide +kernel
theorem dX1_add_17 : decode cX1_add 17 = .ok (.iload 4, 2) := by decide +kernel
theorem dX1_add_19 : decode cX1_add 19 = .ok (.iadd, 1) := by decide +kernel
theorem dX1_add_20 : decode cX1_add 20 = .ok (.iastore, 1) := by decide +kernel
theorem dX1_add_21 : decode cX1_add 21 = .ok (.return_, 1) := by decide +kernel
theorem dX1_ringHouse_0 : decode cX1_ringHouse 0 = .ok (.iload_n 1, 1) := by decide +kernel
theorem dX1_ringHouse_1 : decode cX1_ringHouse 1 = .ok (.ifCond .lt 20, 3) := by decide +kernel
theorem dX1_ringHouse_4 : decode cX1_ringHouse 4 = .ok (.iload_n 1, 1) := by decide +kernel
theorem dX1_ringHouse_5 : decode cX1_ringHouse 5 = .ok (.aload_n 0, 1) := by decide +kernel
theorem dX1_ringHouse_6 : decode cX1_ringHouse 6 = .ok (.getfield 24, 3) := by decide +kernel
theorem dX1_ringHouse_9 : decode cX1_ringHouse 9 = .ok (.if_icmp .ge 12, 3) := by decide +kernel
theorem dX1_ringHouse_12 : decode cX1_ringHouse 12 = .ok (.aload_n 0, 1) := by decide +kernel
theorem dX1_ringHouse_13 : decode cX1_ringHouse 13 = .ok (.getfield 15, 3) := by decide +kernel
theorem dX1_ringHouse_16 : decode cX1_ringHouse 16 = .ok (.iload_n 1, 1) := by decide +kernel
theorem dX1_ringHouse_17 : decode cX1_ringHouse 17 = .ok (.iaload, 1) := by decide +kernel
theorem dX1_ringHouse_18 : decode cX1_ringHouse 18 = .ok (.goto 5, 3) := by decide +kernel
theorem dX1_ringHouse_21 : decode cX1_ringHouse 21 = .ok (.bipush (-9), 2) := by decide +kernel
theorem dX1_ringHouse_23 : decode cX1_ringHouse 23 = .ok (.ireturn, 1) := by decide +kernel
theorem dX1_takeOff_0 : decode cX1_takeOff 0 = .ok (.iconst 0, 1) := by decide +kernel
theorem dX1_takeOff_1 : decode cX1_takeOff 1 = .ok (.istore_n 2, 1) := by decide +kernel
theorem dX1_takeOff_2 : decode cX1_takeOff 2 = .ok (.iconst 0, 1) := by decide +kernel
theorem dX1_takeOff_3 : decode cX1_takeOff 3 = .ok (.istore_n 3, 1) := by decide +kernel
theorem dX1_takeOff_4 : decode cX1_takeOff 4 = .ok (.iload_n 3, 1) := by decide +kernel
theorem dX1_takeOff_5 : decode cX1_takeOff 5 = .ok (.bipush 100, 2) := by decide +kernel
theorem dX1_takeOff_7 : decode cX1_takeOff 7 = .ok (.if_icmp .ge 32, 3) := by decide +kernel
theorem dX1_takeOff_10 : decode cX1_takeOff 10 = .ok (.aload_n 0, 1) := by decide +kernel
theorem dX1_takeOff_11 : decode cX1_takeOff 11 = .ok (.iload_n 1, 1) := by decide +kernel
theorem dX1_takeOff_12 : decode cX1_takeOff 12 = .ok (.invokevirtual 28, 3) := by decide +kernel
theorem dX1_takeOff_15 : decode cX1_takeOff 15 = .ok (.aload_n 0, 1) := by decide +kernel
theorem dX1_takeOff_16 : decode cX1_takeOff 16 = .ok (.getfield 24, 3) := by decide +kernel
theorem dX1_takeOff_19 : decode cX1_takeOff 19 = .ok (.ifCond .ne 6, 3) := by decide +kernel
theorem dX1_takeOff_22 : decode cX1_takeOff 22 = .ok (.goto 17, 3) := by decide +kernel
theorem dX1_takeOff_25 : decode cX1_takeOff 25 = .ok (.aload_n 0, 1) := by decide +kernel
theorem dX1_takeOff_26 : decode cX1_takeOff 26 = .ok (.iload_n 1, 1) := by decide +kernel
theorem dX1_takeOff_27 : decode cX1_takeOff 27 = .ok (.invokevirtual 32, 3) := by decide +kernel
theorem dX1_takeOff_30 : decode cX1_takeOff 30 = .ok (.iinc 2 1, 3) := by decide +kernel
theorem dX1_takeOff_33 : decode cX1_takeOff 33 = .ok (.iinc 3 1, 3) := by decide +kernel
theorem dX1_takeOff_36 : decode cX1_takeOff 36 = .ok (.goto (-32), 3) := by decide +kernel
theorem dX1_takeOff_39 : decode cX1_takeOff 39 = .ok (.iload_n 2, 1) := by decide +kernel
theorem dX1_takeOff_40 : decode cX1_takeOff 40 = .ok (.ireturn, 1) := by decide +kernel
theorem dX1_findFirstRing_0 : decode cX1_findFirstRing 0 = .ok (.aload_n 0, 1) := by decide +kernel
theorem dX1_findFirstRing_1 : decode cX1_findFirstRing 1 = .ok (.iconst 0, 1) := by decide +kernel
theorem dX1_findFirstRing_2 : decode cX1_findFirstRing 2 = .ok (.putfield 24, 3) := by decide +kernel
theorem dX1_findFirstRing_5 : decode cX1_findFirstRing 5 = .ok (.iconst 0, 1) := by decide +kernel
theorem dX1_findFirstRing_6 : decode cX1_findFirstRing 6 = .ok (.istore_n 2, 1) := by decide +kernel
theorem dX1_findFirstRing_7 : decode cX1_findFirstRing 7 = .ok (.iload_n 2, 1) := by decide +kernel
theorem dX1_findFirstRing_8 : decode cX1_findFirstRing 8 = .ok (.bipush 10, 2) := by decide +kernel
theorem dX1_findFirstRing_10 : decode cX1_findFirstRing 10 = .ok (.if_icmp .ge 48, 3) := by decide +kernel
theorem dX1_findFirstRing_13 : decode cX1_findFirstRing 13 = .ok (.aload_n 0, 1) := by decide +kernel
theorem dX1_findFirstRing_14 : decode cX1_findFirstRing 14 = .ok (.iload_n 1, 1) := by decide +kernel
theorem dX1_findFirstRing_15 : decode cX1_findFirstRing 15 = .ok (.iload_n 2, 1) := by decide +kernel
theorem dX1_findFirstRing_16 : decode cX1_findFirstRing 16 = .ok (.invokevirtual 35, 3) := by decide +kernel
theorem dX1_findFirstRing_19 : decode cX1_findFirstRing 19 = .ok (.aload_n 0, 1) := by decide +kernel
theorem dX1_findFirstRing_20 : decode cX1_findFirstRing 20 = .ok (.iload_n 1, 1) := by decide +kernel
theorem dX1_findFirstRing_21 : decode cX1_findFirstRing 21 = .ok (.iload_n 2, 1) := by decide +kernel
theorem dX1_findFirstRing_22 : decode cX1_findFirstRing 22 = .ok (.invokevirtual 39, 3) := by decide +kernel
theorem dX1_findFirstRing_25 : decode cX1_findFirstRing 25 = .ok (.istore_n 3, 1) := by decide +kernel
theorem dX1_findFirstRing_26 : decode cX1_findFirstRing 26 = .ok (.iload_n 3, 1) := by decide +kernel
theorem dX1_findFirstRing_27 : decode cX1_findFirstRing 27 = .ok (.ifCond .le 25, 3) := by decide +kernel
theorem dX1_findFirstRing_30 : decode cX1_findFirstRing 30 = .ok (.aload_n 0, 1) := by decide +kernel
theorem dX1_findFirstRing_31 : decode cX1_findFirstRing 31 = .ok (.getfield 24, 3) := by decide +kernel
theorem dX1_findFirstRing_34 : decode cX1_findFirstRing 34 = .ok (.ifCond .eq 11, 3) := by decide +kernel
theorem dX1_findFirstRing_37 : decode cX1_findFirstRing 37 = .ok (.iload_n 3, 1) := by decide +kernel
theorem dX1_findFirstRing_38 : decode cX1_findFirstRing 38 = .ok (.aload_n 0, 1) := by decide +kernel
theorem dX1_findFirstRing_39 : decode cX1_findFirstRing 39 = .ok (.getfield 24, 3) := by decide +kernel
theorem dX1_findFirstRing_42 : decode cX1_findFirstRing 42 = .ok (.if_icmp .ge 10, 3) := by decide +kernel
theorem dX1_findFirstRing_45 : decode cX1_findFirstRing 45 = .ok (.aload_n 0, 1) := by decide +kernel
theorem dX1_findFirstRing_46 : decode cX1_findFirstRing 46 = .ok (.iload_n 1, 1) := by decide +kernel
theorem dX1_findFirstRing_47 : decode cX1_findFirstRing 47 = .ok (.iload_n 2, 1) := by decide +kernel
theorem dX1_findFirstRing_48 : decode cX1_findFirstRing 48 = .ok (.iload_n 3, 1) := by decide +kernel
theorem dX1_findFirstRing_49 : decode cX1_findFirstRing 49 = .ok (.invokevirtual 43, 3) := by decide +kernel
theorem dX1_findFirstRing_52 : decode cX1_findFirstRing 52 = .ok (.iinc 2 1, 3) := by decide +kernel
theorem dX1_findFirstRing_55 : decode cX1_findFirstRing 55 = .ok (.goto (-48), 3) := by decide +kernel
theorem dX1_findFirstRing_58 : decode cX1_findFirstRing 58 = .ok (.return_, 1) := by decide +kernel
theorem dX1_spreadBack_0 : decode cX1_spreadBack 0 = .ok (.aload_n 0, 1) := by decide +kernel
theorem dX1_spreadBack_1 : decode cX1_spreadBack 1 = .ok (.getfield 18, 3) := by decide +kernel
theorem dX1_spreadBack_4 : decode cX1_spreadBack 4 = .ok (.iconst 0, 1) := by decide +kernel
theorem dX1_spreadBack_5 : decode cX1_spreadBack 5 = .ok (.invokestatic 47, 3) := by decide +kernel
theorem dX1_spreadBack_8 : decode cX1_spreadBack 8 = .ok (.aload_n 0, 1) := by decide +kernel
theorem dX1_spreadBack_9 : decode cX1_spreadBack 9 = .ok (.getfield 21, 3) := by decide +kernel
theorem dX1_spreadBack_12 : decode cX1_spreadBack 12 = .ok (.iconst 0, 1) := by decide +kernel
theorem dX1_spreadBack_13 : decode cX1_spreadBack 13 = .ok (.iload_n 2, 1) := by decide +kernel
theorem dX1_spreadBack_14 : decode cX1_spreadBack 14 = .ok (.iastore, 1) := by decide +kernel
theorem dX1_spreadBack_15 : decode cX1_spreadBack 15 = .ok (.iconst 1, 1) := by decide +kernel
theorem dX1_spreadBack_16 : decode cX1_spreadBack 16 = .ok (.istore_n 3, 1) := by decide +kernel
theorem dX1_spreadBack_17 : decode cX1_spreadBack 17 = .ok (.iconst 0, 1) := by decide +kernel
theorem dX1_spreadBack_18 : decode cX1_spreadBack 18 = .ok (.istore 4, 2) := by decide +kernel
theorem dX1_spreadBack_20 : decode cX1_spreadBack 20 = .ok (.iload 4, 2) := by decide +kernel
theorem dX1_spreadBack_22 : decode cX1_spreadBack 22 = .ok (.iload_n 3, 1) := by decide +kernel
theorem dX1_spreadBack_23 : decode cX1_spreadBack 23 = .ok (.if_icmp .ge 98, 3) := by decide +kernel
theorem dX1_spreadBack_26 : decode cX1_spreadBack 26 = .ok (.iload 4, 2) := by decide +kernel
theorem dX1_spreadBack_28 : decode cX1_spreadBack 28 = .ok (.bipush 10, 2) := by decide +kernel
theorem dX1_spreadBack_30 : decode cX1_spreadBack 30 = .ok (.if_icmp .ge 91, 3) := by decide +kernel
theorem dX1_spreadBack_33 : decode cX1_spreadBack 33 = .ok (.aload_n 0, 1) := by decide +kernel
theorem dX1_spreadBack_34 : decode cX1_spreadBack 34 = .ok (.getfield 21, 3) := by decide +kernel
theorem dX1_spreadBack_37 : decode cX1_spreadBack 37 = .ok (.iload 4, 2) := by decide +kernel
theorem dX1_spreadBack_39 : decode cX1_spreadBack 39 = .ok (.iaload, 1) := by decide +kernel
theorem dX1_spreadBack_40 : decode cX1_spreadBack 40 = .ok (.istore 5, 2) := by decide +kernel
theorem dX1_spreadBack_42 : decode cX1_spreadBack 42 = .ok (.iload_n 2, 1) := by decide +kernel
theorem dX1_spreadBack_43 : decode cX1_spreadBack 43 = .ok (.iconst 1, 1) := by decide +kernel
theorem dX1_spreadBack_44 : decode cX1_spreadBack 44 = .ok (.iadd, 1) := by decide +kernel
theorem dX1_spreadBack_45 : decode cX1_spreadBack 45 = .ok (.istore 6, 2) := by decide +kernel
theorem dX1_spreadBack_47 : decode cX1_spreadBack 47 = .ok (.iload 6, 2) := by decide +kernel
theorem dX1_spreadBack_49 : decode cX1_spreadBack 49 = .ok (.bipush 10, 2) := by decide +kernel
theorem dX1_spreadBack_51 : decode cX1_spreadBack 51 = .ok (.if_icmp .ge 64, 3) := by decide +kernel
theorem dX1_spreadBack_54 : decode cX1_spreadBack 54 = .ok (.iload_n 3, 1) := by decide +kernel
theorem dX1_spreadBack_55 : decode cX1_spreadBack 55 = .ok (.bipush 10, 2) := by decide +kernel
theorem dX1_spreadBack_57 : decode cX1_spreadBack 57 = .ok (.if_icmp .ge 58, 3) := by decide +kernel
theorem dX1_spreadBack_60 : decode cX1_spreadBack 60 = .ok (.aload_n 0, 1) := by decide +kernel
theorem dX1_spreadBack_61 : decode cX1_spreadBack 61 = .ok (.getfield 18, 3) := by decide +kernel
theorem dX1_spreadBack_64 : decode cX1_spreadBack 64 = .ok (.iload 6, 2) := by decide +kernel
theorem dX1_spreadBack_66 : decode cX1_spreadBack 66 = .ok (.iaload, 1) := by decide +kernel
theorem dX1_spreadBack_67 : decode cX1_spreadBack 67 = .ok (.ifCond .ne 42, 3) := by decide +kernel
theorem dX1_spreadBack_70 : decode cX1_spreadBack 70 = .ok (.aload_n 0, 1) := by decide +kernel
theorem dX1_spreadBack_71 : decode cX1_spreadBack 71 = .ok (.iload_n 1, 1) := by decide +kernel
theorem dX1_spreadBack_72 : decode cX1_spreadBack 72 = .ok (.iload 6, 2) := by decide +kernel
theorem dX1_spreadBack_74 : decode cX1_spreadBack 74 = .ok (.iload 5, 2) := by decide +kernel
theorem dX1_spreadBack_76 : decode cX1_spreadBack 76 = .ok (.invokevirtual 53, 3) := by decide +kernel
theorem dX1_spreadBack_79 : decode cX1_spreadBack 79 = .ok (.ifCond .le 30, 3) := by decide +kernel
theorem dX1_spreadBack_82 : decode cX1_spreadBack 82 = .ok (.aload_n 0, 1) := by decide +kernel
theorem dX1_spreadBack_83 : decode cX1_spreadBack 83 = .ok (.getfield 18, 3) := by decide +kernel
theorem dX1_spreadBack_86 : decode cX1_spreadBack 86 = .ok (.iload 6, 2) := by decide +kernel
theorem dX1_spreadBack_88 : decode cX1_spreadBack 88 = .ok (.aload_n 0, 1) := by decide +kernel
theorem dX1_spreadBack_89 : decode cX1_spreadBack 89 = .ok (.getfield 18, 3) := by decide +kernel
theorem dX1_spreadBack_92 : decode cX1_spreadBack 92 = .ok (.iload 5, 2) := by decide +kernel
theorem dX1_spreadBack_94 : decode cX1_spreadBack 94 = .ok (.iaload, 1) := by decide +kernel
theorem dX1_spreadBack_95 : decode cX1_spreadBack 95 = .ok (.iconst 1, 1) := by decide +kernel
theorem dX1_spreadBack_96 : decode cX1_spreadBack 96 = .ok (.iadd, 1) := by decide +kernel
theorem dX1_spreadBack_97 : decode cX1_spreadBack 97 = .ok (.iastore, 1) := by decide +kernel
theorem dX1_spreadBack_98 : decode cX1_spreadBack 98 = .ok (.aload_n 0, 1) := by decide +kernel
theorem dX1_spreadBack_99 : decode cX1_spreadBack 99 = .ok (.getfield 21, 3) := by decide +kernel
theorem dX1_spreadBack_102 : decode cX1_spreadBack 102 = .ok (.iload_n 3, 1) := by decide +kernel
theorem dX1_spreadBack_103 : decode cX1_spreadBack 103 = .ok (.iload 6, 2) := by decide +kernel
theorem dX1_spreadBack_105 : decode cX1_spreadBack 105 = .ok (.iastore, 1) := by decide +kernel
theorem dX1_spreadBack_106 : decode cX1_spreadBack 106 = .ok (.iinc 3 1, 3) := by decide +kernel
theorem dX1_spreadBack_109 : decode cX1_spreadBack 109 = .ok (.iinc 6 1, 3) := by decide +kernel
theorem dX1_spreadBack_112 : decode cX1_spreadBack 112 = .ok (.goto (-65), 3) := by decide +kernel
theorem dX1_spreadBack_115 : decode cX1_spreadBack 115 = .ok (.iinc 4 1, 3) := by decide +kernel
theorem dX1_spreadBack_118 : decode cX1_spreadBack 118 = .ok (.goto (-98), 3) := by decide +kernel
theorem dX1_spreadBack_121 : decode cX1_spreadBack 121 = .ok (.return_, 1) := by decide +kernel
theorem dX1_sizeAt_0 : decode cX1_sizeAt 0 = .ok (.iconst 0, 1) := by decide +kernel
theorem dX1_sizeAt_1 : decode cX1_sizeAt 1 = .ok (.istore_n 3, 1) := by decide +kernel
theorem dX1_sizeAt_2 : decode cX1_sizeAt 2 = .ok (.iload_n 2, 1) := by decide +kernel
theorem dX1_sizeAt_3 : decode cX1_sizeAt 3 = .ok (.iconst 1, 1) := by decide +kernel
theorem dX1_sizeAt_4 : decode cX1_sizeAt 4 = .ok (.iadd, 1) := by decide +kernel
theorem dX1_sizeAt_5 : decode cX1_sizeAt 5 = .ok (.istore 4, 2) := by decide +kernel
theorem dX1_sizeAt_7 : decode cX1_sizeAt 7 = .ok (.iload 4, 2) := by decide +kernel
theorem dX1_sizeAt_9 : decode cX1_sizeAt 9 = .ok (.bipush 10, 2) := by decide +kernel
theorem dX1_sizeAt_11 : decode cX1_sizeAt 11 = .ok (.if_icmp .ge 69, 3) := by decide +kernel
theorem dX1_sizeAt_14 : decode cX1_sizeAt 14 = .ok (.aload_n 0, 1) := by decide +kernel
theorem dX1_sizeAt_15 : decode cX1_sizeAt 15 = .ok (.getfield 18, 3) := by decide +kernel
theorem dX1_sizeAt_18 : decode cX1_sizeAt 18 = .ok (.iload 4, 2) := by decide +kernel
theorem dX1_sizeAt_20 : decode cX1_sizeAt 20 = .ok (.iaload, 1) := by decide +kernel
theorem dX1_sizeAt_21 : decode cX1_sizeAt 21 = .ok (.ifCond .le 18, 3) := by decide +kernel
theorem dX1_sizeAt_24 : decode cX1_sizeAt 24 = .ok (.aload_n 0, 1) := by decide +kernel
theorem dX1_sizeAt_25 : decode cX1_sizeAt 25 = .ok (.iload_n 1, 1) := by decide +kernel
theorem dX1_sizeAt_26 : decode cX1_sizeAt 26 = .ok (.iload_n 2, 1) := by decide +kernel
theorem dX1_sizeAt_27 : decode cX1_sizeAt 27 = .ok (.iload 4, 2) := by decide +kernel
theorem dX1_sizeAt_29 : decode cX1_sizeAt 29 = .ok (.invokevirtual 53, 3) := by decide +kernel
theorem dX1_sizeAt_32 : decode cX1_sizeAt 32 = .ok (.ifCond .le 7, 3) := by decide +kernel
theorem dX1_sizeAt_35 : decode cX1_sizeAt 35 = .ok (.iconst 1, 1) := by decide +kernel
theorem dX1_sizeAt_36 : decode cX1_sizeAt 36 = .ok (.goto 4, 3) := by decide +kernel
theorem dX1_sizeAt_39 : decode cX1_sizeAt 39 = .ok (.iconst 0, 1) := by decide +kernel
theorem dX1_sizeAt_40 : decode cX1_sizeAt 40 = .ok (.istore 5, 2) := by decide +kernel
theorem dX1_sizeAt_42 : decode cX1_sizeAt 42 = .ok (.iload 5, 2) := by decide +kernel
theorem dX1_sizeAt_44 : decode cX1_sizeAt 44 = .ok (.ifCond .eq 30, 3) := by decide +kernel
theorem dX1_sizeAt_47 : decode cX1_sizeAt 47 = .ok (.iload_n 3, 1) := by decide +kernel
theorem dX1_sizeAt_48 : decode cX1_sizeAt 48 = .ok (.ifCond .eq 16, 3) := by decide +kernel
theorem dX1_sizeAt_51 : decode cX1_sizeAt 51 = .ok (.aload_n 0, 1) := by decide +kernel
theorem dX1_sizeAt_52 : decode cX1_sizeAt 52 = .ok (.getfield 18, 3) := by decide +kernel
theorem dX1_sizeAt_55 : decode cX1_sizeAt 55 = .ok (.iload 4, 2) := by decide +kernel
theorem dX1_sizeAt_57 : decode cX1_sizeAt 57 = .ok (.iaload, 1) := by decide +kernel
theorem dX1_sizeAt_58 : decode cX1_sizeAt 58 = .ok (.iconst 1, 1) := by decide +kernel
theorem dX1_sizeAt_59 : decode cX1_sizeAt 59 = .ok (.iadd, 1) := by decide +kernel
theorem dX1_sizeAt_60 : decode cX1_sizeAt 60 = .ok (.iload_n 3, 1) := by decide +kernel
theorem dX1_sizeAt_61 : decode cX1_sizeAt 61 = .ok (.if_icmp .ge 13, 3) := by decide +kernel
theorem dX1_sizeAt_64 : decode cX1_sizeAt 64 = .ok (.aload_n 0, 1) := by decide +kernel
theorem dX1_sizeAt_65 : decode cX1_sizeAt 65 = .ok (.getfield 18, 3) := by decide +kernel
theorem dX1_sizeAt_68 : decode cX1_sizeAt 68 = .ok (.iload 4, 2) := by decide +kernel
theorem dX1_sizeAt_70 : decode cX1_sizeAt 70 = .ok (.iaload, 1) := by decide +kernel
theorem dX1_sizeAt_71 : decode cX1_sizeAt 71 = .ok (.iconst 1, 1) := by decide +kernel
theorem dX1_sizeAt_72 : decode cX1_sizeAt 72 = .ok (.iadd, 1) := by decide +kernel
theorem dX1_sizeAt_73 : decode cX1_sizeAt 73 = .ok (.istore_n 3, 1) := by decide +kernel
theorem dX1_sizeAt_74 : decode cX1_sizeAt 74 = .ok (.iinc 4 1, 3) := by decide +kernel
theorem dX1_sizeAt_77 : decode cX1_sizeAt 77 = .ok (.goto (-70), 3) := by decide +kernel
theorem dX1_sizeAt_80 : decode cX1_sizeAt 80 = .ok (.iload_n 3, 1) := by decide +kernel
theorem dX1_sizeAt_81 : decode cX1_sizeAt 81 = .ok (.ireturn, 1) := by decide +kernel
theorem dX1_traceRing_0 : decode cX1_traceRing 0 = .ok (.aload_n 0, 1) := by decide +kernel
theorem dX1_traceRing_1 : decode cX1_traceRing 1 = .ok (.getfield 15, 3) := by decide +kernel
theorem dX1_traceRing_4 : decode cX1_traceRing 4 = .ok (.iconst 0, 1) := by decide +kernel
theorem dX1_traceRing_5 : decode cX1_traceRing 5 = .ok (.iload_n 2, 1) := by decide +kernel
theorem dX1_traceRing_6 : decode cX1_traceRing 6 = .ok (.iastore, 1) := by decide +kernel
theorem dX1_traceRing_7 : decode cX1_traceRing 7 = .ok (.aload_n 0, 1) := by decide +kernel
theorem dX1_traceRing_8 : decode cX1_traceRing 8 = .ok (.iconst 1, 1) := by decide +kernel
theorem dX1_traceRing_9 : decode cX1_traceRing 9 = .ok (.putfield 24, 3) := by decide +kernel
theorem dX1_traceRing_12 : decode cX1_traceRing 12 = .ok (.iload_n 3, 1) := by decide +kernel
theorem dX1_traceRing_13 : decode cX1_traceRing 13 = .ok (.iconst 1, 1) := by decide +kernel
theorem dX1_traceRing_14 : decode cX1_traceRing 14 = .ok (.isub, 1) := by decide +kernel
theorem dX1_traceRing_15 : decode cX1_traceRing 15 = .ok (.istore 4, 2) := by decide +kernel
theorem dX1_traceRing_17 : decode cX1_traceRing 17 = .ok (.iload 4, 2) := by decide +kernel
theorem dX1_traceRing_19 : decode cX1_traceRing 19 = .ok (.ifCond .le 57, 3) := by decide +kernel
theorem dX1_traceRing_22 : decode cX1_traceRing 22 = .ok (.aload_n 0, 1) := by decide +kernel
theorem dX1_traceRing_23 : decode cX1_traceRing 23 = .ok (.iload_n 1, 1) := by decide +kernel
theorem dX1_traceRing_24 : decode cX1_traceRing 24 = .ok (.iload_n 2, 1) := by decide +kernel
theorem dX1_traceRing_25 : decode cX1_traceRing 25 = .ok (.iload 4, 2) := by decide +kernel
theorem dX1_traceRing_27 : decode cX1_traceRing 27 = .ok (.invokevirtual 57, 3) := by decide +kernel
theorem dX1_traceRing_30 : decode cX1_traceRing 30 = .ok (.istore 5, 2) := by decide +kernel
theorem dX1_traceRing_32 : decode cX1_traceRing 32 = .ok (.iload 5, 2) := by decide +kernel
theorem dX1_traceRing_34 : decode cX1_traceRing 34 = .ok (.ifCond .lt 42, 3) := by decide +kernel
theorem dX1_traceRing_37 : decode cX1_traceRing 37 = .ok (.aload_n 0, 1) := by decide +kernel
theorem dX1_traceRing_38 : decode cX1_traceRing 38 = .ok (.getfield 24, 3) := by decide +kernel
theorem dX1_traceRing_41 : decode cX1_traceRing 41 = .ok (.bipush 10, 2) := by decide +kernel
theorem dX1_traceRing_43 : decode cX1_traceRing 43 = .ok (.if_icmp .lt 6, 3) := by decide +kernel
theorem dX1_traceRing_46 : decode cX1_traceRing 46 = .ok (.goto 30, 3) := by decide +kernel
theorem dX1_traceRing_49 : decode cX1_traceRing 49 = .ok (.aload_n 0, 1) := by decide +kernel
theorem dX1_traceRing_50 : decode cX1_traceRing 50 = .ok (.getfield 15, 3) := by decide +kernel
theorem dX1_traceRing_53 : decode cX1_traceRing 53 = .ok (.aload_n 0, 1) := by decide +kernel
theorem dX1_traceRing_54 : decode cX1_traceRing 54 = .ok (.getfield 24, 3) := by decide +kernel
theorem dX1_traceRing_57 : decode cX1_traceRing 57 = .ok (.iload 5, 2) := by decide +kernel
theorem dX1_traceRing_59 : decode cX1_traceRing 59 = .ok (.iastore, 1) := by decide +kernel
theorem dX1_traceRing_60 : decode cX1_traceRing 60 = .ok (.aload_n 0, 1) := by decide +kernel
theorem dX1_traceRing_61 : decode cX1_traceRing 61 = .ok (.dup, 1) := by decide +kernel
theorem dX1_traceRing_62 : decode cX1_traceRing 62 = .ok (.getfield 24, 3) := by decide +kernel
theorem dX1_traceRing_65 : decode cX1_traceRing 65 = .ok (.iconst 1, 1) := by decide +kernel
theorem dX1_traceRing_66 : decode cX1_traceRing 66 = .ok (.iadd, 1) := by decide +kernel
theorem dX1_traceRing_67 : decode cX1_traceRing 67 = .ok (.putfield 24, 3) := by decide +kernel
theorem dX1_traceRing_70 : decode cX1_traceRing 70 = .ok (.iinc 4 (-1), 3) := by decide +kernel
theorem dX1_traceRing_73 : decode cX1_traceRing 73 = .ok (.goto (-56), 3) := by decide +kernel
theorem dX1_traceRing_76 : decode cX1_traceRing 76 = .ok (.return_, 1) := by decide +kernel
theorem dX1_nextHouse_0 : decode cX1_nextHouse 0 = .ok (.aload_n 0, 1) := by decide +kernel
theorem dX1_nextHouse_1 : decode cX1_nextHouse 1 = .ok (.getfield 15, 3) := by decide +kernel
theorem dX1_nextHouse_4 : decode cX1_nextHouse 4 = .ok (.aload_n 0, 1) := by decide +kernel
theorem dX1_nextHouse_5 : decode cX1_nextHouse 5 = .ok (.getfield 24, 3) := by decide +kernel
theorem dX1_nextHouse_8 : decode cX1_nextHouse 8 = .ok (.iconst 1, 1) := by decide +kernel
theorem dX1_nextHouse_9 : decode cX1_nextHouse 9 = .ok (.isub, 1) := by decide +kernel
theorem dX1_nextHouse_10 : decode cX1_nextHouse 10 = .ok (.iaload, 1) := by decide +kernel
theorem dX1_nextHouse_11 : decode cX1_nextHouse 11 = .ok (.istore 4, 2) := by decide +kernel
theorem dX1_nextHouse_13 : decode cX1_nextHouse 13 = .ok (.iload_n 2, 1) := by decide +kernel
theorem dX1_nextHouse_14 : decode cX1_nextHouse 14 = .ok (.iconst 1, 1) := by decide +kernel
theorem dX1_nextHouse_15 : decode cX1_nextHouse 15 = .ok (.iadd, 1) := by decide +kernel
theorem dX1_nextHouse_16 : decode cX1_nextHouse 16 = .ok (.istore 5, 2) := by decide +kernel
theorem dX1_nextHouse_18 : decode cX1_nextHouse 18 = .ok (.iload 5, 2) := by decide +kernel
theorem dX1_nextHouse_20 : decode cX1_nextHouse 20 = .ok (.bipush 10, 2) := by decide +kernel
theorem dX1_nextHouse_22 : decode cX1_nextHouse 22 = .ok (.if_icmp .ge 35, 3) := by decide +kernel
theorem dX1_nextHouse_25 : decode cX1_nextHouse 25 = .ok (.aload_n 0, 1) := by decide +kernel
theorem dX1_nextHouse_26 : decode cX1_nextHouse 26 = .ok (.getfield 18, 3) := by decide +kernel
theorem dX1_nextHouse_29 : decode cX1_nextHouse 29 = .ok (.iload 5, 2) := by decide +kernel
theorem dX1_nextHouse_31 : decode cX1_nextHouse 31 = .ok (.iaload, 1) := by decide +kernel
theorem dX1_nextHouse_32 : decode cX1_nextHouse 32 = .ok (.iload_n 3, 1) := by decide +kernel
theorem dX1_nextHouse_33 : decode cX1_nextHouse 33 = .ok (.if_icmp .ne 18, 3) := by decide +kernel
theorem dX1_nextHouse_36 : decode cX1_nextHouse 36 = .ok (.aload_n 0, 1) := by decide +kernel
theorem dX1_nextHouse_37 : decode cX1_nextHouse 37 = .ok (.iload_n 1, 1) := by decide +kernel
theorem dX1_nextHouse_38 : decode cX1_nextHouse 38 = .ok (.iload 4, 2) := by decide +kernel
theorem dX1_nextHouse_40 : decode cX1_nextHouse 40 = .ok (.iload 5, 2) := by decide +kernel
theorem dX1_nextHouse_42 : decode cX1_nextHouse 42 = .ok (.invokevirtual 53, 3) := by decide +kernel
theorem dX1_nextHouse_45 : decode cX1_nextHouse 45 = .ok (.ifCond .le 6, 3) := by decide +kernel
theorem dX1_nextHouse_48 : decode cX1_nextHouse 48 = .ok (.iload 5, 2) := by decide +kernel
theorem dX1_nextHouse_50 : decode cX1_nextHouse 50 = .ok (.ireturn, 1) := by decide +kernel
theorem dX1_nextHouse_51 : decode cX1_nextHouse 51 = .ok (.iinc 5 1, 3) := by decide +kernel
theorem dX1_nextHouse_54 : decode cX1_nextHouse 54 = .ok (.goto (-36), 3) := by decide +kernel
theorem dX1_nextHouse_57 : decode cX1_nextHouse 57 = .ok (.iconst (-1), 1) := by decide +kernel
theorem dX1_nextHouse_58 : decode cX1_nextHouse 58 = .ok (.ireturn, 1) := by decide +kernel
theorem dX1_lessenRing_0 : decode cX1_lessenRing 0 = .ok (.ldc 60, 2) := by decide +kernel
theorem dX1_lessenRing_2 : decode cX1_lessenRing 2 = .ok (.istore_n 2, 1) := by decide +kernel
theorem dX1_lessenRing_3 : decode cX1_lessenRing 3 = .ok (.iconst 0, 1) := by decide +kernel
theorem dX1_lessenRing_4 : decode cX1_lessenRing 4 = .ok (.istore_n 3, 1) := by decide +kernel
theorem dX1_lessenRing_5 : decode cX1_lessenRing 5 = .ok (.iload_n 3, 1) := by decide +kernel
theorem dX1_lessenRing_6 : decode cX1_lessenRing 6 = .ok (.aload_n 0, 1) := by decide +kernel
theorem dX1_lessenRing_7 : decode cX1_lessenRing 7 = .ok (.getfield 24, 3) := by decide +kernel
theorem dX1_lessenRing_10 : decode cX1_lessenRing 10 = .ok (.if_icmp .ge 30, 3) := by decide +kernel
theorem dX1_lessenRing_13 : decode cX1_lessenRing 13 = .ok (.iload_n 2, 1) := by decide +kernel
theorem dX1_lessenRing_14 : decode cX1_lessenRing 14 = .ok (.aload_n 0, 1) := by decide +kernel
theorem dX1_lessenRing_15 : decode cX1_lessenRing 15 = .ok (.iload_n 1, 1) := by decide +kernel
theorem dX1_lessenRing_16 : decode cX1_lessenRing 16 = .ok (.aload_n 0, 1) := by decide +kernel
theorem dX1_lessenRing_17 : decode cX1_lessenRing 17 = .ok (.getfield 15, 3) := by decide +kernel
theorem dX1_lessenRing_20 : decode cX1_lessenRing 20 = .ok (.iload_n 3, 1) := by decide +kernel
theorem dX1_lessenRing_21 : decode cX1_lessenRing 21 = .ok (.iaload, 1) := by decide +kernel
theorem dX1_lessenRing_22 : decode cX1_lessenRing 22 = .ok (.aload_n 0, 1) := by decide +kernel
theorem dX1_lessenRing_23 : decode cX1_lessenRing 23 = .ok (.iload_n 3, 1) := by decide +kernel
theorem dX1_lessenRing_24 : decode cX1_lessenRing 24 = .ok (.invokevirtual 61, 3) := by decide +kernel
theorem dX1_lessenRing_27 : decode cX1_lessenRing 27 = .ok (.invokevirtual 53, 3) := by decide +kernel
theorem dX1_lessenRing_30 : decode cX1_lessenRing 30 = .ok (.invokestatic 65, 3) := by decide +kernel
theorem dX1_lessenRing_33 : decode cX1_lessenRing 33 = .ok (.istore_n 2, 1) := by decide +kernel
theorem dX1_lessenRing_34 : decode cX1_lessenRing 34 = .ok (.iinc 3 1, 3) := by decide +kernel
theorem dX1_lessenRing_37 : decode cX1_lessenRing 37 = .ok (.goto (-32), 3) := by decide +kernel
theorem dX1_lessenRing_40 : decode cX1_lessenRing 40 = .ok (.iconst 0, 1) := by decide +kernel
theorem dX1_lessenRing_41 : decode cX1_lessenRing 41 = .ok (.istore_n 3, 1) := by decide +kernel
theorem dX1_lessenRing_42 : decode cX1_lessenRing 42 = .ok (.iload_n 3, 1) := by decide +kernel
theorem dX1_lessenRing_43 : decode cX1_lessenRing 43 = .ok (.aload_n 0, 1) := by decide +kernel
theorem dX1_lessenRing_44 : decode cX1_lessenRing 44 = .ok (.getfield 24, 3) := by decide +kernel
theorem dX1_lessenRing_47 : decode cX1_lessenRing 47 = .ok (.if_icmp .ge 27, 3) := by decide +kernel
theorem dX1_lessenRing_50 : decode cX1_lessenRing 50 = .ok (.aload_n 0, 1) := by decide +kernel
theorem dX1_lessenRing_51 : decode cX1_lessenRing 51 = .ok (.iload_n 1, 1) := by decide +kernel
theorem dX1_lessenRing_52 : decode cX1_lessenRing 52 = .ok (.aload_n 0, 1) := by decide +kernel
theorem dX1_lessenRing_53 : decode cX1_lessenRing 53 = .ok (.getfield 15, 3) := by decide +kernel
theorem dX1_lessenRing_56 : decode cX1_lessenRing 56 = .ok (.iload_n 3, 1) := by decide +kernel
theorem dX1_lessenRing_57 : decode cX1_lessenRing 57 = .ok (.iaload, 1) := by decide +kernel
theorem dX1_lessenRing_58 : decode cX1_lessenRing 58 = .ok (.aload_n 0, 1) := by decide +kernel
theorem dX1_lessenRing_59 : decode cX1_lessenRing 59 = .ok (.iload_n 3, 1) := by decide +kernel
theorem dX1_lessenRing_60 : decode cX1_lessenRing 60 = .ok (.invokevirtual 61, 3) := by decide +kernel
theorem dX1_lessenRing_63 : decode cX1_lessenRing 63 = .ok (.iload_n 2, 1) := by decide +kernel
theorem dX1_lessenRing_64 : decode cX1_lessenRing 64 = .ok (.ineg, 1) := by decide +kernel
theorem dX1_lessenRing_65 : decode cX1_lessenRing 65 = .ok (.invokevirtual 70, 3) := by decide +kernel
theorem dX1_lessenRing_68 : decode cX1_lessenRing 68 = .ok (.iinc 3 1, 3) := by decide +kernel
theorem dX1_lessenRing_71 : decode cX1_lessenRing 71 = .ok (.goto (-29), 3) := by decide +kernel
theorem dX1_lessenRing_74 : decode cX1_lessenRing 74 = .ok (.return_, 1) := by decide +kernel
theorem dX1_afterInRing_0 : decode cX1_afterInRing 0 = .ok (.iload_n 1, 1) := by decide +kernel
theorem dX1_afterInRing_1 : decode cX1_afterInRing 1 = .ok (.iconst 1, 1) := by decide +kernel
theorem dX1_afterInRing_2 : decode cX1_afterInRing 2 = .ok (.iadd, 1) := by decide +kernel
theorem dX1_afterInRing_3 : decode cX1_afterInRing 3 = .ok (.aload_n 0, 1) := by decide +kernel
theorem dX1_afterInRing_4 : decode cX1_afterInRing 4 = .ok (.getfield 24, 3) := by decide +kernel
theorem dX1_afterInRing_7 : decode cX1_afterInRing 7 = .ok (.if_icmp .ge 14, 3) := by decide +kernel
theorem dX1_afterInRing_10 : decode cX1_afterInRing 10 = .ok (.aload_n 0, 1) := by decide +kernel
theorem dX1_afterInRing_11 : decode cX1_afterInRing 11 = .ok (.getfield 15, 3) := by decide +kernel
theorem dX1_afterInRing_14 : decode cX1_afterInRing 14 = .ok (.iload_n 1, 1) := by decide +kernel
theorem dX1_afterInRing_15 : decode cX1_afterInRing 15 = .ok (.iconst 1, 1) := by decide +kernel
theorem dX1_afterInRing_16 : decode cX1_afterInRing 16 = .ok (.iadd, 1) := by decide +kernel
theorem dX1_afterInRing_17 : decode cX1_afterInRing 17 = .ok (.iaload, 1) := by decide +kernel
theorem dX1_afterInRing_18 : decode cX1_afterInRing 18 = .ok (.goto 9, 3) := by decide +kernel
theorem dX1_afterInRing_21 : decode cX1_afterInRing 21 = .ok (.aload_n 0, 1) := by decide +kernel
theorem dX1_afterInRing_22 : decode cX1_afterInRing 22 = .ok (.getfield 15, 3) := by decide +kernel
theorem dX1_afterInRing_25 : decode cX1_afterInRing 25 = .ok (.iconst 0, 1) := by decide +kernel
theorem dX1_afterInRing_26 : decode cX1_afterInRing 26 = .ok (.iaload, 1) := by decide +kernel
theorem dX1_afterInRing_27 : decode cX1_afterInRing 27 = .ok (.ireturn, 1) := by decide +kernel
theorem dX2_init_0 : decode cX2_init 0 = .ok (.aload_n 0, 1) := by decide +kernel
theorem dX2_init_1 : decode cX2_init 1 = .ok (.invokespecial 3, 3) := by decide +kernel
theorem dX2_init_4 : decode cX2_init 4 = .ok (.aload_n 0, 1) := by decide +kernel
theorem dX2_init_5 : decode cX2_init 5 = .ok (.sipush 400, 3) := by decide +kernel
theorem dX2_init_8 : decode cX2_init 8 = .ok (.anewarray 9, 3) := by decide +kernel
theorem dX2_init_11 : decode cX2_init 11 = .ok (.putfield 11, 3) := by decide +kernel
theorem dX2_init_14 : decode cX2_init 14 = .ok (.aload_n 0, 1) := by decide +kernel
theorem dX2_init_15 : decode cX2_init 15 = .ok (.sipush 200, 3) := by decide +kernel
theorem dX2_init_18 : decode cX2_init 18 = .ok (.anewarray 17, 3) := by decide +kernel
theorem dX2_init_21 : decode cX2_init 21 = .ok (.putfield 19, 3) := by decide +kernel
theorem dX2_init_24 : decode cX2_init 24 = .ok (.aload_n 0, 1) := by decide +kernel
theorem dX2_init_25 : decode cX2_init 25 = .ok (.sipush 600, 3) := by decide +kernel
theorem dX2_init_28 : decode cX2_init 28 = .ok (.anewarray 9, 3) := by decide +kernel
theorem dX2_init_31 : decode cX2_init 31 = .ok (.putfield 23, 3) := by decide +kernel
theorem dX2_init_34 : decode cX2_init 34 = .ok (.aload_n 0, 1) := by decide +kernel
theorem dX2_init_35 : decode cX2_init 35 = .ok (.new 26, 3) := by decide +kernel
theorem dX2_init_38 : decode cX2_init 38 = .ok (.dup, 1) := by decide +kernel
theorem dX2_init_39 : decode cX2_init 39 = .ok (.invokespecial 28, 3) := by decide +kernel
theorem dX2_init_42 : decode cX2_init 42 = .ok (.putfield 29, 3) := by decide +kernel
theorem dX2_init_45 : decode cX2_init 45 = .ok (.return_, 1) := by decide +kernel
theorem dX2_tellingAt_0 : decode cX2_tellingAt 0 = .ok (.iload_n 1, 1) := by decide +kernel
theorem dX2_tellingAt_1 : decode cX2_tellingAt 1 = .ok (.ifCond .lt 20, 3) := by decide +kernel
theorem dX2_tellingAt_4 : decode cX2_tellingAt 4 = .ok (.iload_n 1, 1) := by decide +kernel
theorem dX2_tellingAt_5 : decode cX2_tellingAt 5 = .ok (.aload_n 0, 1) := by decide +kernel
theorem dX2_tellingAt_6 : decode cX2_tellingAt 6 = .ok (.getfield 33, 3) := by decide +kernel
theorem dX2_tellingAt_9 : decode cX2_tellingAt 9 = .ok (.if_icmp .ge 12, 3) := by decide +kernel
theorem dX2_tellingAt_12 : decode cX2_tellingAt 12 = .ok (.aload_n 0, 1) := by decide +kernel
theorem dX2_tellingAt_13 : decode cX2_tellingAt 13 = .ok (.getfield 11, 3) := by decide +kernel
theorem dX2_tellingAt_16 : decode cX2_tellingAt 16 = .ok (.iload_n 1, 1) := by decide +kernel
theorem dX2_tellingAt_17 : decode cX2_tellingAt 17 = .ok (.aaload, 1) := by decide +kernel
theorem dX2_tellingAt_18 : decode cX2_tellingAt 18 = .ok (.goto 4, 3) := by decide +kernel
theorem dX2_tellingAt_21 : decode cX2_tellingAt 21 = .ok (.aconst_null, 1) := by decide +kernel
theorem dX2_tellingAt_22 : decode cX2_tellingAt 22 = .ok (.areturn, 1) := by decide +kernel
theorem dX2_pairAt_0 : decode cX2_pairAt 0 = .ok (.iload_n 1, 1) := by decide +kernel
theorem dX2_pairAt_1 : decode cX2_pairAt 1 = .ok (.ifCond .lt 20, 3) := by decide +kernel
theorem dX2_pairAt_4 : decode cX2_pairAt 4 = .ok (.iload_n 1, 1) := by decide +kernel
theorem dX2_pairAt_5 : decode cX2_pairAt 5 = .ok (.aload_n 0, 1) := by decide +kernel
theorem dX2_pairAt_6 : decode cX2_pairAt 6 = .ok (.getfield 37, 3) := by decide +kernel
theorem dX2_pairAt_9 : decode cX2_pairAt 9 = .ok (.if_icmp .ge 12, 3) := by decide +kernel
theorem dX2_pairAt_12 : decode cX2_pairAt 12 = .ok (.aload_n 0, 1) := by decide +kernel
theorem dX2_pairAt_13 : decode cX2_pairAt 13 = .ok (.getfield 19, 3) := by decide +kernel
theorem dX2_pairAt_16 : decode cX2_pairAt 16 = .ok (.iload_n 1, 1) := by decide +kernel
theorem dX2_pairAt_17 : decode cX2_pairAt 17 = .ok (.aaload, 1) := by decide +kernel
theorem dX2_pairAt_18 : decode cX2_pairAt 18 = .ok (.goto 4, 3) := by decide +kernel
theorem dX2_pairAt_21 : decode cX2_pairAt 21 = .ok (.aconst_null, 1) := by decide +kernel
theorem dX2_pairAt_22 : decode cX2_pairAt 22 = .ok (.areturn, 1) := by decide +kernel
theorem dX2_keepTelling_0 : decode cX2_keepTelling 0 = .ok (.aload_n 0, 1) := by decide +kernel
theorem dX2_keepTelling_1 : decode cX2_keepTelling 1 = .ok (.getfield 33, 3) := by decide +kernel
theorem dX2_keepTelling_4 : decode cX2_keepTelling 4 = .ok (.sipush 400, 3) := by decide +kernel
theorem dX2_keepTelling_7 : decode cX2_keepTelling 7 = .ok (.if_icmp .ge 23, 3) := by decide +kernel
theorem dX2_keepTelling_10 : decode cX2_keepTelling 10 = .ok (.aload_n 0, 1) := by decide +kernel
theorem dX2_keepTelling_11 : decode cX2_keepTelling 11 = .ok (.getfield 11, 3) := by decide +kernel
theorem dX2_keepTelling_14 : decode cX2_keepTelling 14 = .ok (.aload_n 0, 1) := by decide +kernel
theorem dX2_keepTelling_15 : decode cX2_keepTelling 15 = .ok (.getfield 33, 3) := by decide +kernel
theorem dX2_keepTelling_18 : decode cX2_keepTelling 18 = .ok (.aload_n 1, 1) := by decide +kernel
theorem dX2_keepTelling_19 : decode cX2_keepTelling 19 = .ok (.aastore, 1) := by decide +kernel
theorem dX2_keepTelling_20 : decode cX2_keepTelling 20 = .ok (.aload_n 0, 1) := by decide +kernel
theorem dX2_keepTelling_21 : decode cX2_keepTelling 21 = .ok (.dup, 1) := by decide +kernel
theorem dX2_keepTelling_22 : decode cX2_keepTelling 22 = .ok (.getfield 33, 3) := by decide +kernel
theorem dX2_keepTelling_25 : decode cX2_keepTelling 25 = .ok (.iconst 1, 1) := by decide +kernel
theorem dX2_keepTelling_26 : decode cX2_keepTelling 26 = .ok (.iadd, 1) := by decide +kernel
theorem dX2_keepTelling_27 : decode cX2_keepTelling 27 = .ok (.putfield 33, 3) := by decide +kernel
theorem dX2_keepTelling_30 : decode cX2_keepTelling 30 = .ok (.return_, 1) := by decide +kernel
theorem dX2_openTellings_0 : decode cX2_openTellings 0 = .ok (.iconst 0, 1) := by decide +kernel
theorem dX2_openTellings_1 : decode cX2_openTellings 1 = .ok (.istore_n 1, 1) := by decide +kernel
theorem dX2_openTellings_2 : decode cX2_openTellings 2 = .ok (.iconst 0, 1) := by decide +kernel
theorem dX2_openTellings_3 : decode cX2_openTellings 3 = .ok (.istore_n 2, 1) := by decide +kernel
theorem dX2_openTellings_4 : decode cX2_openTellings 4 = .ok (.iload_n 2, 1) := by decide +kernel
theorem dX2_openTellings_5 : decode cX2_openTellings 5 = .ok (.aload_n 0, 1) := by decide +kernel
theorem dX2_openTellings_6 : decode cX2_openTellings 6 = .ok (.getfield 33, 3) := by decide +kernel
theorem dX2_openTellings_9 : decode cX2_openTellings 9 = .ok (.if_icmp .ge 30, 3) := by decide +kernel
theorem dX2_openTellings_12 : decode cX2_openTellings 12 = .ok (.aload_n 0, 1) := by decide +kernel
end
section
theorem dX2_openTellings_13 : decode cX2_openTellings 13 = .ok (.getfield 11, 3) := by decide +kernel
theorem dX2_openTellings_16 : decode cX2_openTellings 16 = .ok (.iload_n 2, 1) := by decide +kernel
theorem dX2_openTellings_17 : decode cX2_openTellings 17 = .ok (.aaload, 1) := by decide +kernel
theorem dX2_openTellings_18 : decode cX2_openTellings 18 = .ok (.astore_n 3, 1) := by decide +kernel
theorem dX2_openTellings_19 : decode cX2_openTellings 19 = .ok (.aload_n 3, 1) := by decide +kernel
theorem dX2_openTellings_20 : decode cX2_openTellings 20 = .ok (.ifnull 13, 3) := by decide +kernel
theorem dX2_openTellings_23 : decode cX2_openTellings 23 = .ok (.aload_n 3, 1) := by decide +kernel
theorem dX2_openTellings_24 : decode cX2_openTellings 24 = .ok (.getfield 40, 3) := by decide +kernel
theorem dX2_openTellings_27 : decode cX2_openTellings 27 = .ok (.ifCond .ne 6, 3) := by decide +kernel
theorem dX2_openTellings_30 : decode cX2_openTellings 30 = .ok (.iinc 1 1, 3) := by decide +kernel
theorem dX2_openTellings_33 : decode cX2_openTellings 33 = .ok (.iinc 2 1, 3) := by decide +kernel
theorem dX2_openTellings_36 : decode cX2_openTellings 36 = .ok (.goto (-32), 3) := by decide +kernel
theorem dX2_openTellings_39 : decode cX2_openTellings 39 = .ok (.iload_n 1, 1) := by decide +kernel
theorem dX2_openTellings_40 : decode cX2_openTellings 40 = .ok (.ireturn, 1) := by decide +kernel
theorem dX2_openQuarrels_0 : decode cX2_openQuarrels 0 = .ok (.iconst 0, 1) := by decide +kernel
theorem dX2_openQuarrels_1 : decode cX2_openQuarrels 1 = .ok (.istore_n 1, 1) := by decide +kernel
theorem dX2_openQuarrels_2 : decode cX2_openQuarrels 2 = .ok (.iconst 0, 1) := by decide +kernel
theorem dX2_openQuarrels_3 : decode cX2_openQuarrels 3 = .ok (.istore_n 2, 1) := by decide +kernel
theorem dX2_openQuarrels_4 : decode cX2_openQuarrels 4 = .ok (.iload_n 2, 1) := by decide +kernel
theorem dX2_openQuarrels_5 : decode cX2_openQuarrels 5 = .ok (.aload_n 0, 1) := by decide +kernel
theorem dX2_openQuarrels_6 : decode cX2_openQuarrels 6 = .ok (.getfield 37, 3) := by decide +kernel
theorem dX2_openQuarrels_9 : decode cX2_openQuarrels 9 = .ok (.if_icmp .ge 37, 3) := by decide +kernel
theorem dX2_openQuarrels_12 : decode cX2_openQuarrels 12 = .ok (.aload_n 0, 1) := by decide +kernel
theorem dX2_openQuarrels_13 : decode cX2_openQuarrels 13 = .ok (.getfield 19, 3) := by decide +kernel
theorem dX2_openQuarrels_16 : decode cX2_openQuarrels 16 = .ok (.iload_n 2, 1) := by decide +kernel
theorem dX2_openQuarrels_17 : decode cX2_openQuarrels 17 = .ok (.aaload, 1) := by decide +kernel
theorem dX2_openQuarrels_18 : decode cX2_openQuarrels 18 = .ok (.astore_n 3, 1) := by decide +kernel
theorem dX2_openQuarrels_19 : decode cX2_openQuarrels 19 = .ok (.aload_n 3, 1) := by decide +kernel
theorem dX2_openQuarrels_20 : decode cX2_openQuarrels 20 = .ok (.ifnull 20, 3) := by decide +kernel
theorem dX2_openQuarrels_23 : decode cX2_openQuarrels 23 = .ok (.aload_n 3, 1) := by decide +kernel
theorem dX2_openQuarrels_24 : decode cX2_openQuarrels 24 = .ok (.invokevirtual 43, 3) := by decide +kernel
theorem dX2_openQuarrels_27 : decode cX2_openQuarrels 27 = .ok (.ifCond .eq 13, 3) := by decide +kernel
theorem dX2_openQuarrels_30 : decode cX2_openQuarrels 30 = .ok (.aload_n 3, 1) := by decide +kernel
theorem dX2_openQuarrels_31 : decode cX2_openQuarrels 31 = .ok (.getfield 47, 3) := by decide +kernel
theorem dX2_openQuarrels_34 : decode cX2_openQuarrels 34 = .ok (.ifCond .ne 6, 3) := by decide +kernel
theorem dX2_openQuarrels_37 : decode cX2_openQuarrels 37 = .ok (.iinc 1 1, 3) := by decide +kernel
theorem dX2_openQuarrels_40 : decode cX2_openQuarrels 40 = .ok (.iinc 2 1, 3) := by decide +kernel
theorem dX2_openQuarrels_43 : decode cX2_openQuarrels 43 = .ok (.goto (-39), 3) := by decide +kernel
theorem dX2_openQuarrels_46 : decode cX2_openQuarrels 46 = .ok (.iload_n 1, 1) := by decide +kernel
theorem dX2_openQuarrels_47 : decode cX2_openQuarrels 47 = .ok (.ireturn, 1) := by decide +kernel
theorem dX2_cameTo_0 : decode cX2_cameTo 0 = .ok (.iconst 0, 1) := by decide +kernel
theorem dX2_cameTo_1 : decode cX2_cameTo 1 = .ok (.istore_n 3, 1) := by decide +kernel
theorem dX2_cameTo_2 : decode cX2_cameTo 2 = .ok (.iconst 0, 1) := by decide +kernel
theorem dX2_cameTo_3 : decode cX2_cameTo 3 = .ok (.istore 4, 2) := by decide +kernel
theorem dX2_cameTo_5 : decode cX2_cameTo 5 = .ok (.iload 4, 2) := by decide +kernel
theorem dX2_cameTo_7 : decode cX2_cameTo 7 = .ok (.aload_n 0, 1) := by decide +kernel
theorem dX2_cameTo_8 : decode cX2_cameTo 8 = .ok (.getfield 37, 3) := by decide +kernel
theorem dX2_cameTo_11 : decode cX2_cameTo 11 = .ok (.if_icmp .ge 55, 3) := by decide +kernel
theorem dX2_cameTo_14 : decode cX2_cameTo 14 = .ok (.aload_n 0, 1) := by decide +kernel
theorem dX2_cameTo_15 : decode cX2_cameTo 15 = .ok (.getfield 19, 3) := by decide +kernel
theorem dX2_cameTo_18 : decode cX2_cameTo 18 = .ok (.iload 4, 2) := by decide +kernel
theorem dX2_cameTo_20 : decode cX2_cameTo 20 = .ok (.aaload, 1) := by decide +kernel
theorem dX2_cameTo_21 : decode cX2_cameTo 21 = .ok (.astore 5, 2) := by decide +kernel
theorem dX2_cameTo_23 : decode cX2_cameTo 23 = .ok (.aload 5, 2) := by decide +kernel
theorem dX2_cameTo_25 : decode cX2_cameTo 25 = .ok (.ifnull 35, 3) := by decide +kernel
theorem dX2_cameTo_28 : decode cX2_cameTo 28 = .ok (.aload 5, 2) := by decide +kernel
theorem dX2_cameTo_30 : decode cX2_cameTo 30 = .ok (.getfield 51, 3) := by decide +kernel
theorem dX2_cameTo_33 : decode cX2_cameTo 33 = .ok (.getfield 55, 3) := by decide +kernel
theorem dX2_cameTo_36 : decode cX2_cameTo 36 = .ok (.iload_n 1, 1) := by decide +kernel
theorem dX2_cameTo_37 : decode cX2_cameTo 37 = .ok (.if_icmp .ne 23, 3) := by decide +kernel
theorem dX2_cameTo_40 : decode cX2_cameTo 40 = .ok (.aload 5, 2) := by decide +kernel
theorem dX2_cameTo_42 : decode cX2_cameTo 42 = .ok (.getfield 51, 3) := by decide +kernel
theorem dX2_cameTo_45 : decode cX2_cameTo 45 = .ok (.getfield 58, 3) := by decide +kernel
theorem dX2_cameTo_48 : decode cX2_cameTo 48 = .ok (.iload_n 2, 1) := by decide +kernel
theorem dX2_cameTo_49 : decode cX2_cameTo 49 = .ok (.if_icmp .ne 11, 3) := by decide +kernel
theorem dX2_cameTo_52 : decode cX2_cameTo 52 = .ok (.iload_n 3, 1) := by decide +kernel
theorem dX2_cameTo_53 : decode cX2_cameTo 53 = .ok (.aload 5, 2) := by decide +kernel
theorem dX2_cameTo_55 : decode cX2_cameTo 55 = .ok (.getfield 61, 3) := by decide +kernel
theorem dX2_cameTo_58 : decode cX2_cameTo 58 = .ok (.iadd, 1) := by decide +kernel
theorem dX2_cameTo_59 : decode cX2_cameTo 59 = .ok (.istore_n 3, 1) := by decide +kernel
theorem dX2_cameTo_60 : decode cX2_cameTo 60 = .ok (.iinc 4 1, 3) := by decide +kernel
theorem dX2_cameTo_63 : decode cX2_cameTo 63 = .ok (.goto (-58), 3) := by decide +kernel
theorem dX2_cameTo_66 : decode cX2_cameTo 66 = .ok (.iload_n 3, 1) := by decide +kernel
theorem dX2_cameTo_67 : decode cX2_cameTo 67 = .ok (.ireturn, 1) := by decide +kernel
theorem dX2_pairUp_0 : decode cX2_pairUp 0 = .ok (.aload_n 0, 1) := by decide +kernel
theorem dX2_pairUp_1 : decode cX2_pairUp 1 = .ok (.invokevirtual 64, 3) := by decide +kernel
theorem dX2_pairUp_4 : decode cX2_pairUp 4 = .ok (.iconst 0, 1) := by decide +kernel
theorem dX2_pairUp_5 : decode cX2_pairUp 5 = .ok (.istore_n 2, 1) := by decide +kernel
theorem dX2_pairUp_6 : decode cX2_pairUp 6 = .ok (.iconst 0, 1) := by decide +kernel
theorem dX2_pairUp_7 : decode cX2_pairUp 7 = .ok (.istore_n 3, 1) := by decide +kernel
theorem dX2_pairUp_8 : decode cX2_pairUp 8 = .ok (.iload_n 3, 1) := by decide +kernel
theorem dX2_pairUp_9 : decode cX2_pairUp 9 = .ok (.sipush 600, 3) := by decide +kernel
theorem dX2_pairUp_12 : decode cX2_pairUp 12 = .ok (.if_icmp .ge 37, 3) := by decide +kernel
theorem dX2_pairUp_15 : decode cX2_pairUp 15 = .ok (.iload_n 2, 1) := by decide +kernel
theorem dX2_pairUp_16 : decode cX2_pairUp 16 = .ok (.bipush 25, 2) := by decide +kernel
theorem dX2_pairUp_18 : decode cX2_pairUp 18 = .ok (.if_icmp .ge 31, 3) := by decide +kernel
theorem dX2_pairUp_21 : decode cX2_pairUp 21 = .ok (.aload_n 0, 1) := by decide +kernel
theorem dX2_pairUp_22 : decode cX2_pairUp 22 = .ok (.getfield 23, 3) := by decide +kernel
theorem dX2_pairUp_25 : decode cX2_pairUp 25 = .ok (.iload_n 3, 1) := by decide +kernel
theorem dX2_pairUp_26 : decode cX2_pairUp 26 = .ok (.aaload, 1) := by decide +kernel
theorem dX2_pairUp_27 : decode cX2_pairUp 27 = .ok (.ifnull 16, 3) := by decide +kernel
theorem dX2_pairUp_30 : decode cX2_pairUp 30 = .ok (.iload_n 2, 1) := by decide +kernel
theorem dX2_pairUp_31 : decode cX2_pairUp 31 = .ok (.aload_n 0, 1) := by decide +kernel
theorem dX2_pairUp_32 : decode cX2_pairUp 32 = .ok (.iload_n 3, 1) := by decide +kernel
theorem dX2_pairUp_33 : decode cX2_pairUp 33 = .ok (.iload_n 1, 1) := by decide +kernel
theorem dX2_pairUp_34 : decode cX2_pairUp 34 = .ok (.bipush 25, 2) := by decide +kernel
theorem dX2_pairUp_36 : decode cX2_pairUp 36 = .ok (.iload_n 2, 1) := by decide +kernel
theorem dX2_pairUp_37 : decode cX2_pairUp 37 = .ok (.isub, 1) := by decide +kernel
theorem dX2_pairUp_38 : decode cX2_pairUp 38 = .ok (.invokevirtual 67, 3) := by decide +kernel
theorem dX2_pairUp_41 : decode cX2_pairUp 41 = .ok (.iadd, 1) := by decide +kernel
theorem dX2_pairUp_42 : decode cX2_pairUp 42 = .ok (.istore_n 2, 1) := by decide +kernel
theorem dX2_pairUp_43 : decode cX2_pairUp 43 = .ok (.iinc 3 1, 3) := by decide +kernel
theorem dX2_pairUp_46 : decode cX2_pairUp 46 = .ok (.goto (-38), 3) := by decide +kernel
theorem dX2_pairUp_49 : decode cX2_pairUp 49 = .ok (.iload_n 2, 1) := by decide +kernel
theorem dX2_pairUp_50 : decode cX2_pairUp 50 = .ok (.ireturn, 1) := by decide +kernel
theorem dX2_chainOpenTellings_0 : decode cX2_chainOpenTellings 0 = .ok (.iconst 0, 1) := by decide +kernel
theorem dX2_chainOpenTellings_1 : decode cX2_chainOpenTellings 1 = .ok (.istore_n 1, 1) := by decide +kernel
theorem dX2_chainOpenTellings_2 : decode cX2_chainOpenTellings 2 = .ok (.iload_n 1, 1) := by decide +kernel
theorem dX2_chainOpenTellings_3 : decode cX2_chainOpenTellings 3 = .ok (.sipush 600, 3) := by decide +kernel
theorem dX2_chainOpenTellings_6 : decode cX2_chainOpenTellings 6 = .ok (.if_icmp .ge 16, 3) := by decide +kernel
theorem dX2_chainOpenTellings_9 : decode cX2_chainOpenTellings 9 = .ok (.aload_n 0, 1) := by decide +kernel
theorem dX2_chainOpenTellings_10 : decode cX2_chainOpenTellings 10 = .ok (.getfield 23, 3) := by decide +kernel
theorem dX2_chainOpenTellings_13 : decode cX2_chainOpenTellings 13 = .ok (.iload_n 1, 1) := by decide +kernel
theorem dX2_chainOpenTellings_14 : decode cX2_chainOpenTellings 14 = .ok (.aconst_null, 1) := by decide +kernel
theorem dX2_chainOpenTellings_15 : decode cX2_chainOpenTellings 15 = .ok (.aastore, 1) := by decide +kernel
theorem dX2_chainOpenTellings_16 : decode cX2_chainOpenTellings 16 = .ok (.iinc 1 1, 3) := by decide +kernel
theorem dX2_chainOpenTellings_19 : decode cX2_chainOpenTellings 19 = .ok (.goto (-17), 3) := by decide +kernel
theorem dX2_chainOpenTellings_22 : decode cX2_chainOpenTellings 22 = .ok (.aload_n 0, 1) := by decide +kernel
theorem dX2_chainOpenTellings_23 : decode cX2_chainOpenTellings 23 = .ok (.getfield 33, 3) := by decide +kernel
theorem dX2_chainOpenTellings_26 : decode cX2_chainOpenTellings 26 = .ok (.iconst 1, 1) := by decide +kernel
theorem dX2_chainOpenTellings_27 : decode cX2_chainOpenTellings 27 = .ok (.isub, 1) := by decide +kernel
theorem dX2_chainOpenTellings_28 : decode cX2_chainOpenTellings 28 = .ok (.istore_n 1, 1) := by decide +kernel
theorem dX2_chainOpenTellings_29 : decode cX2_chainOpenTellings 29 = .ok (.iload_n 1, 1) := by decide +kernel
theorem dX2_chainOpenTellings_30 : decode cX2_chainOpenTellings 30 = .ok (.ifCond .lt 63, 3) := by decide +kernel
theorem dX2_chainOpenTellings_33 : decode cX2_chainOpenTellings 33 = .ok (.aload_n 0, 1) := by decide +kernel
theorem dX2_chainOpenTellings_34 : decode cX2_chainOpenTellings 34 = .ok (.getfield 11, 3) := by decide +kernel
theorem dX2_chainOpenTellings_37 : decode cX2_chainOpenTellings 37 = .ok (.iload_n 1, 1) := by decide +kernel
theorem dX2_chainOpenTellings_38 : decode cX2_chainOpenTellings 38 = .ok (.aaload, 1) := by decide +kernel
theorem dX2_chainOpenTellings_39 : decode cX2_chainOpenTellings 39 = .ok (.astore_n 2, 1) := by decide +kernel
theorem dX2_chainOpenTellings_40 : decode cX2_chainOpenTellings 40 = .ok (.aload_n 2, 1) := by decide +kernel
theorem dX2_chainOpenTellings_41 : decode cX2_chainOpenTellings 41 = .ok (.ifnull 46, 3) := by decide +kernel
theorem dX2_chainOpenTellings_44 : decode cX2_chainOpenTellings 44 = .ok (.aload_n 2, 1) := by decide +kernel
theorem dX2_chainOpenTellings_45 : decode cX2_chainOpenTellings 45 = .ok (.getfield 40, 3) := by decide +kernel
theorem dX2_chainOpenTellings_48 : decode cX2_chainOpenTellings 48 = .ok (.ifCond .eq 6, 3) := by decide +kernel
theorem dX2_chainOpenTellings_51 : decode cX2_chainOpenTellings 51 = .ok (.goto 36, 3) := by decide +kernel
theorem dX2_chainOpenTellings_54 : decode cX2_chainOpenTellings 54 = .ok (.aload_n 2, 1) := by decide +kernel
theorem dX2_chainOpenTellings_55 : decode cX2_chainOpenTellings 55 = .ok (.invokevirtual 71, 3) := by decide +kernel
theorem dX2_chainOpenTellings_58 : decode cX2_chainOpenTellings 58 = .ok (.istore_n 3, 1) := by decide +kernel
theorem dX2_chainOpenTellings_59 : decode cX2_chainOpenTellings 59 = .ok (.iload_n 3, 1) := by decide +kernel
theorem dX2_chainOpenTellings_60 : decode cX2_chainOpenTellings 60 = .ok (.ifCond .lt 27, 3) := by decide +kernel
theorem dX2_chainOpenTellings_63 : decode cX2_chainOpenTellings 63 = .ok (.iload_n 3, 1) := by decide +kernel
theorem dX2_chainOpenTellings_64 : decode cX2_chainOpenTellings 64 = .ok (.sipush 600, 3) := by decide +kernel
theorem dX2_chainOpenTellings_67 : decode cX2_chainOpenTellings 67 = .ok (.if_icmp .ge 20, 3) := by decide +kernel
theorem dX2_chainOpenTellings_70 : decode cX2_chainOpenTellings 70 = .ok (.aload_n 2, 1) := by decide +kernel
theorem dX2_chainOpenTellings_71 : decode cX2_chainOpenTellings 71 = .ok (.aload_n 0, 1) := by decide +kernel
theorem dX2_chainOpenTellings_72 : decode cX2_chainOpenTellings 72 = .ok (.getfield 23, 3) := by decide +kernel
theorem dX2_chainOpenTellings_75 : decode cX2_chainOpenTellings 75 = .ok (.iload_n 3, 1) := by decide +kernel
theorem dX2_chainOpenTellings_76 : decode cX2_chainOpenTellings 76 = .ok (.aaload, 1) := by decide +kernel
theorem dX2_chainOpenTellings_77 : decode cX2_chainOpenTellings 77 = .ok (.putfield 75, 3) := by decide +kernel
theorem dX2_chainOpenTellings_80 : decode cX2_chainOpenTellings 80 = .ok (.aload_n 0, 1) := by decide +kernel
theorem dX2_chainOpenTellings_81 : decode cX2_chainOpenTellings 81 = .ok (.getfield 23, 3) := by decide +kernel
theorem dX2_chainOpenTellings_84 : decode cX2_chainOpenTellings 84 = .ok (.iload_n 3, 1) := by decide +kernel
theorem dX2_chainOpenTellings_85 : decode cX2_chainOpenTellings 85 = .ok (.aload_n 2, 1) := by decide +kernel
theorem dX2_chainOpenTellings_86 : decode cX2_chainOpenTellings 86 = .ok (.aastore, 1) := by decide +kernel
theorem dX2_chainOpenTellings_87 : decode cX2_chainOpenTellings 87 = .ok (.iinc 1 (-1), 3) := by decide +kernel
theorem dX2_chainOpenTellings_90 : decode cX2_chainOpenTellings 90 = .ok (.goto (-61), 3) := by decide +kernel
theorem dX2_chainOpenTellings_93 : decode cX2_chainOpenTellings 93 = .ok (.return_, 1) := by decide +kernel
theorem dX2_pairGroup_0 : decode cX2_pairGroup 0 = .ok (.aload_n 0, 1) := by decide +kernel
theorem dX2_pairGroup_1 : decode cX2_pairGroup 1 = .ok (.getfield 29, 3) := by decide +kernel
theorem dX2_pairGroup_4 : decode cX2_pairGroup 4 = .ok (.invokevirtual 78, 3) := by decide +kernel
theorem dX2_pairGroup_7 : decode cX2_pairGroup 7 = .ok (.aload_n 0, 1) := by decide +kernel
theorem dX2_pairGroup_8 : decode cX2_pairGroup 8 = .ok (.getfield 23, 3) := by decide +kernel
theorem dX2_pairGroup_11 : decode cX2_pairGroup 11 = .ok (.iload_n 1, 1) := by decide +kernel
theorem dX2_pairGroup_12 : decode cX2_pairGroup 12 = .ok (.aaload, 1) := by decide +kernel
theorem dX2_pairGroup_13 : decode cX2_pairGroup 13 = .ok (.astore 4, 2) := by decide +kernel
theorem dX2_pairGroup_15 : decode cX2_pairGroup 15 = .ok (.aload 4, 2) := by decide +kernel
theorem dX2_pairGroup_17 : decode cX2_pairGroup 17 = .ok (.ifnull 22, 3) := by decide +kernel
theorem dX2_pairGroup_20 : decode cX2_pairGroup 20 = .ok (.aload_n 0, 1) := by decide +kernel
theorem dX2_pairGroup_21 : decode cX2_pairGroup 21 = .ok (.getfield 29, 3) := by decide +kernel
theorem dX2_pairGroup_24 : decode cX2_pairGroup 24 = .ok (.aload 4, 2) := by decide +kernel
theorem dX2_pairGroup_26 : decode cX2_pairGroup 26 = .ok (.invokevirtual 81, 3) := by decide +kernel
theorem dX2_pairGroup_29 : decode cX2_pairGroup 29 = .ok (.aload 4, 2) := by decide +kernel
theorem dX2_pairGroup_31 : decode cX2_pairGroup 31 = .ok (.getfield 75, 3) := by decide +kernel
theorem dX2_pairGroup_34 : decode cX2_pairGroup 34 = .ok (.astore 4, 2) := by decide +kernel
theorem dX2_pairGroup_36 : decode cX2_pairGroup 36 = .ok (.goto (-21), 3) := by decide +kernel
theorem dX2_pairGroup_39 : decode cX2_pairGroup 39 = .ok (.aload_n 0, 1) := by decide +kernel
theorem dX2_pairGroup_40 : decode cX2_pairGroup 40 = .ok (.getfield 29, 3) := by decide +kernel
theorem dX2_pairGroup_43 : decode cX2_pairGroup 43 = .ok (.invokevirtual 85, 3) := by decide +kernel
theorem dX2_pairGroup_46 : decode cX2_pairGroup 46 = .ok (.ifCond .ne 5, 3) := by decide +kernel
theorem dX2_pairGroup_49 : decode cX2_pairGroup 49 = .ok (.iconst 0, 1) := by decide +kernel
theorem dX2_pairGroup_50 : decode cX2_pairGroup 50 = .ok (.ireturn, 1) := by decide +kernel
theorem dX2_pairGroup_51 : decode cX2_pairGroup 51 = .ok (.aload_n 0, 1) := by decide +kernel
theorem dX2_pairGroup_52 : decode cX2_pairGroup 52 = .ok (.getfield 29, 3) := by decide +kernel
theorem dX2_pairGroup_55 : decode cX2_pairGroup 55 = .ok (.invokevirtual 88, 3) := by decide +kernel
theorem dX2_pairGroup_58 : decode cX2_pairGroup 58 = .ok (.iconst 0, 1) := by decide +kernel
theorem dX2_pairGroup_59 : decode cX2_pairGroup 59 = .ok (.istore 4, 2) := by decide +kernel
theorem dX2_pairGroup_61 : decode cX2_pairGroup 61 = .ok (.iconst 0, 1) := by decide +kernel
theorem dX2_pairGroup_62 : decode cX2_pairGroup 62 = .ok (.istore 5, 2) := by decide +kernel
theorem dX2_pairGroup_64 : decode cX2_pairGroup 64 = .ok (.iload 5, 2) := by decide +kernel
theorem dX2_pairGroup_66 : decode cX2_pairGroup 66 = .ok (.bipush 8, 2) := by decide +kernel
theorem dX2_pairGroup_68 : decode cX2_pairGroup 68 = .ok (.if_icmp .ge 69, 3) := by decide +kernel
theorem dX2_pairGroup_71 : decode cX2_pairGroup 71 = .ok (.iload 4, 2) := by decide +kernel
theorem dX2_pairGroup_73 : decode cX2_pairGroup 73 = .ok (.iload_n 3, 1) := by decide +kernel
theorem dX2_pairGroup_74 : decode cX2_pairGroup 74 = .ok (.if_icmp .ge 63, 3) := by decide +kernel
theorem dX2_pairGroup_77 : decode cX2_pairGroup 77 = .ok (.aload_n 0, 1) := by decide +kernel
theorem dX2_pairGroup_78 : decode cX2_pairGroup 78 = .ok (.getfield 29, 3) := by decide +kernel
theorem dX2_pairGroup_81 : decode cX2_pairGroup 81 = .ok (.iload 5, 2) := by decide +kernel
theorem dX2_pairGroup_83 : decode cX2_pairGroup 83 = .ok (.invokevirtual 91, 3) := by decide +kernel
theorem dX2_pairGroup_86 : decode cX2_pairGroup 86 = .ok (.astore 6, 2) := by decide +kernel
theorem dX2_pairGroup_88 : decode cX2_pairGroup 88 = .ok (.aload_n 0, 1) := by decide +kernel
theorem dX2_pairGroup_89 : decode cX2_pairGroup 89 = .ok (.getfield 29, 3) := by decide +kernel
theorem dX2_pairGroup_92 : decode cX2_pairGroup 92 = .ok (.iload 5, 2) := by decide +kernel
theorem dX2_pairGroup_94 : decode cX2_pairGroup 94 = .ok (.invokevirtual 95, 3) := by decide +kernel
theorem dX2_pairGroup_97 : decode cX2_pairGroup 97 = .ok (.astore 7, 2) := by decide +kernel
theorem dX2_pairGroup_99 : decode cX2_pairGroup 99 = .ok (.aload 6, 2) := by decide +kernel
theorem dX2_pairGroup_101 : decode cX2_pairGroup 101 = .ok (.ifnull 30, 3) := by decide +kernel
theorem dX2_pairGroup_104 : decode cX2_pairGroup 104 = .ok (.aload 7, 2) := by decide +kernel
theorem dX2_pairGroup_106 : decode cX2_pairGroup 106 = .ok (.ifnull 25, 3) := by decide +kernel
theorem dX2_pairGroup_109 : decode cX2_pairGroup 109 = .ok (.aload_n 0, 1) := by decide +kernel
theorem dX2_pairGroup_110 : decode cX2_pairGroup 110 = .ok (.getfield 37, 3) := by decide +kernel
theorem dX2_pairGroup_113 : decode cX2_pairGroup 113 = .ok (.sipush 200, 3) := by decide +kernel
theorem dX2_pairGroup_116 : decode cX2_pairGroup 116 = .ok (.if_icmp .ge 15, 3) := by decide +kernel
theorem dX2_pairGroup_119 : decode cX2_pairGroup 119 = .ok (.aload_n 0, 1) := by decide +kernel
theorem dX2_pairGroup_120 : decode cX2_pairGroup 120 = .ok (.aload 6, 2) := by decide +kernel
theorem dX2_pairGroup_122 : decode cX2_pairGroup 122 = .ok (.aload 7, 2) := by decide +kernel
theorem dX2_pairGroup_124 : decode cX2_pairGroup 124 = .ok (.iload_n 2, 1) := by decide +kernel
theorem dX2_pairGroup_125 : decode cX2_pairGroup 125 = .ok (.invokevirtual 98, 3) := by decide +kernel
theorem dX2_pairGroup_128 : decode cX2_pairGroup 128 = .ok (.iinc 4 1, 3) := by decide +kernel
theorem dX2_pairGroup_131 : decode cX2_pairGroup 131 = .ok (.iinc 5 1, 3) := by decide +kernel
theorem dX2_pairGroup_134 : decode cX2_pairGroup 134 = .ok (.goto (-70), 3) := by decide +kernel
theorem dX2_pairGroup_137 : decode cX2_pairGroup 137 = .ok (.iload 4, 2) := by decide +kernel
theorem dX2_pairGroup_139 : decode cX2_pairGroup 139 = .ok (.ireturn, 1) := by decide +kernel
theorem dX2_keepPair_0 : decode cX2_keepPair 0 = .ok (.aload_n 1, 1) := by decide +kernel
theorem dX2_keepPair_1 : decode cX2_keepPair 1 = .ok (.iconst 1, 1) := by decide +kernel
theorem dX2_keepPair_2 : decode cX2_keepPair 2 = .ok (.putfield 40, 3) := by decide +kernel
theorem dX2_keepPair_5 : decode cX2_keepPair 5 = .ok (.aload_n 2, 1) := by decide +kernel
theorem dX2_keepPair_6 : decode cX2_keepPair 6 = .ok (.iconst 1, 1) := by decide +kernel
theorem dX2_keepPair_7 : decode cX2_keepPair 7 = .ok (.putfield 40, 3) := by decide +kernel
theorem dX2_keepPair_10 : decode cX2_keepPair 10 = .ok (.aload_n 1, 1) := by decide +kernel
theorem dX2_keepPair_11 : decode cX2_keepPair 11 = .ok (.aload_n 0, 1) := by decide +kernel
theorem dX2_keepPair_12 : decode cX2_keepPair 12 = .ok (.getfield 37, 3) := by decide +kernel
theorem dX2_keepPair_15 : decode cX2_keepPair 15 = .ok (.putfield 102, 3) := by decide +kernel
theorem dX2_keepPair_18 : decode cX2_keepPair 18 = .ok (.aload_n 2, 1) := by decide +kernel
theorem dX2_keepPair_19 : decode cX2_keepPair 19 = .ok (.aload_n 0, 1) := by decide +kernel
theorem dX2_keepPair_20 : decode cX2_keepPair 20 = .ok (.getfield 37, 3) := by decide +kernel
theorem dX2_keepPair_23 : decode cX2_keepPair 23 = .ok (.putfield 102, 3) := by decide +kernel
theorem dX2_keepPair_26 : decode cX2_keepPair 26 = .ok (.aload_n 0, 1) := by decide +kernel
theorem dX2_keepPair_27 : decode cX2_keepPair 27 = .ok (.getfield 19, 3) := by decide +kernel
theorem dX2_keepPair_30 : decode cX2_keepPair 30 = .ok (.aload_n 0, 1) := by decide +kernel
theorem dX2_keepPair_31 : decode cX2_keepPair 31 = .ok (.getfield 37, 3) := by decide +kernel
theorem dX2_keepPair_34 : decode cX2_keepPair 34 = .ok (.new 17, 3) := by decide +kernel
theorem dX2_keepPair_37 : decode cX2_keepPair 37 = .ok (.dup, 1) := by decide +kernel
theorem dX2_keepPair_38 : decode cX2_keepPair 38 = .ok (.aload_n 1, 1) := by decide +kernel
theorem dX2_keepPair_39 : decode cX2_keepPair 39 = .ok (.aload_n 2, 1) := by decide +kernel
theorem dX2_keepPair_40 : decode cX2_keepPair 40 = .ok (.iload_n 3, 1) := by decide +kernel
theorem dX2_keepPair_41 : decode cX2_keepPair 41 = .ok (.aload_n 1, 1) := by decide +kernel
theorem dX2_keepPair_42 : decode cX2_keepPair 42 = .ok (.aload_n 2, 1) := by decide +kernel
theorem dX2_keepPair_43 : decode cX2_keepPair 43 = .ok (.invokestatic 105, 3) := by decide +kernel
theorem dX2_keepPair_46 : decode cX2_keepPair 46 = .ok (.invokespecial 109, 3) := by decide +kernel
theorem dX2_keepPair_49 : decode cX2_keepPair 49 = .ok (.aastore, 1) := by decide +kernel
theorem dX2_keepPair_50 : decode cX2_keepPair 50 = .ok (.aload_n 0, 1) := by decide +kernel
theorem dX2_keepPair_51 : decode cX2_keepPair 51 = .ok (.dup, 1) := by decide +kernel
theorem dX2_keepPair_52 : decode cX2_keepPair 52 = .ok (.getfield 37, 3) := by decide +kernel
theorem dX2_keepPair_55 : decode cX2_keepPair 55 = .ok (.iconst 1, 1) := by decide +kernel
theorem dX2_keepPair_56 : decode cX2_keepPair 56 = .ok (.iadd, 1) := by decide +kernel
theorem dX2_keepPair_57 : decode cX2_keepPair 57 = .ok (.putfield 37, 3) := by decide +kernel
theorem dX2_keepPair_60 : decode cX2_keepPair 60 = .ok (.return_, 1) := by decide +kernel
theorem dX2_countedBy_0 : decode cX2_countedBy 0 = .ok (.iload_n 0, 1) := by decide +kernel
theorem dX2_countedBy_1 : decode cX2_countedBy 1 = .ok (.tableswitch 56 1 3 #[27, 39, 51], 27) := by decide +kernel
theorem dX2_countedBy_28 : decode cX2_countedBy 28 = .ok (.aload_n 1, 1) := by decide +kernel
theorem dX2_countedBy_29 : decode cX2_countedBy 29 = .ok (.getfield 111, 3) := by decide +kernel
theorem dX2_countedBy_32 : decode cX2_countedBy 32 = .ok (.aload_n 2, 1) := by decide +kernel
theorem dX2_countedBy_33 : decode cX2_countedBy 33 = .ok (.getfield 111, 3) := by decide +kernel
theorem dX2_countedBy_36 : decode cX2_countedBy 36 = .ok (.invokestatic 114, 3) := by decide +kernel
theorem dX2_countedBy_39 : decode cX2_countedBy 39 = .ok (.ireturn, 1) := by decide +kernel
theorem dX2_countedBy_40 : decode cX2_countedBy 40 = .ok (.aload_n 1, 1) := by decide +kernel
theorem dX2_countedBy_41 : decode cX2_countedBy 41 = .ok (.getfield 111, 3) := by decide +kernel
theorem dX2_countedBy_44 : decode cX2_countedBy 44 = .ok (.aload_n 2, 1) := by decide +kernel
theorem dX2_countedBy_45 : decode cX2_countedBy 45 = .ok (.getfield 111, 3) := by decide +kernel
theorem dX2_countedBy_48 : decode cX2_countedBy 48 = .ok (.invokestatic 120, 3) := by decide +kernel
theorem dX2_countedBy_51 : decode cX2_countedBy 51 = .ok (.ireturn, 1) := by decide +kernel
theorem dX2_countedBy_52 : decode cX2_countedBy 52 = .ok (.aload_n 1, 1) := by decide +kernel
theorem dX2_countedBy_53 : decode cX2_countedBy 53 = .ok (.getfield 111, 3) := by decide +kernel
theorem dX2_countedBy_56 : decode cX2_countedBy 56 = .ok (.ireturn, 1) := by decide +kernel
theorem dX2_countedBy_57 : decode cX2_countedBy 57 = .ok (.aload_n 2, 1) := by decide +kernel
theorem dX2_countedBy_58 : decode cX2_countedBy 58 = .ok (.getfield 111, 3) := by decide +kernel
theorem dX2_countedBy_61 : decode cX2_countedBy 61 = .ok (.ireturn, 1) := by decide +kernel
theorem dX3_init_0 : decode cX3_init 0 = .ok (.aload_n 0, 1) := by decide +kernel
theorem dX3_init_1 : decode cX3_init 1 = .ok (.invokespecial 3, 3) := by decide +kernel
theorem dX3_init_4 : decode cX3_init 4 = .ok (.aload_n 0, 1) := by decide +kernel
theorem dX3_init_5 : decode cX3_init 5 = .ok (.sipush 2000, 3) := by decide +kernel
theorem dX3_init_8 : decode cX3_init 8 = .ok (.newarray .int, 2) := by decide +kernel
theorem dX3_init_10 : decode cX3_init 10 = .ok (.putfield 9, 3) := by decide +kernel
theorem dX3_init_13 : decode cX3_init 13 = .ok (.aload_n 0, 1) := by decide +kernel
theorem dX3_init_14 : decode cX3_init 14 = .ok (.sipush 2000, 3) := by decide +kernel
theorem dX3_init_17 : decode cX3_init 17 = .ok (.newarray .int, 2) := by decide +kernel
theorem dX3_init_19 : decode cX3_init 19 = .ok (.putfield 15, 3) := by decide +kernel
theorem dX3_init_22 : decode cX3_init 22 = .ok (.aload_n 0, 1) := by decide +kernel
theorem dX3_init_23 : decode cX3_init 23 = .ok (.sipush 2000, 3) := by decide +kernel
theorem dX3_init_26 : decode cX3_init 26 = .ok (.newarray .int, 2) := by decide +kernel
theorem dX3_init_28 : decode cX3_init 28 = .ok (.putfield 18, 3) := by decide +kernel
theorem dX3_init_31 : decode cX3_init 31 = .ok (.aload_n 0, 1) := by decide +kernel
theorem dX3_init_32 : decode cX3_init 32 = .ok (.sipush 180, 3) := by decide +kernel
theorem dX3_init_35 : decode cX3_init 35 = .ok (.newarray .int, 2) := by decide +kernel
theorem dX3_init_37 : decode cX3_init 37 = .ok (.putfield 21, 3) := by decide +kernel
theorem dX3_init_40 : decode cX3_init 40 = .ok (.return_, 1) := by decide +kernel
theorem dX3_room_0 : decode cX3_room 0 = .ok (.sipush 2000, 3) := by decide +kernel
theorem dX3_room_3 : decode cX3_room 3 = .ok (.aload_n 0, 1) := by decide +kernel
theorem dX3_room_4 : decode cX3_room 4 = .ok (.getfield 24, 3) := by decide +kernel
theorem dX3_room_7 : decode cX3_room 7 = .ok (.isub, 1) := by decide +kernel
theorem dX3_room_8 : decode cX3_room 8 = .ok (.ireturn, 1) := by decide +kernel
theorem dX3_enter_0 : decode cX3_enter 0 = .ok (.aload_n 0, 1) := by decide +kernel
theorem dX3_enter_1 : decode cX3_enter 1 = .ok (.getfield 24, 3) := by decide +kernel
theorem dX3_enter_4 : decode cX3_enter 4 = .ok (.sipush 2000, 3) := by decide +kernel
theorem dX3_enter_7 : decode cX3_enter 7 = .ok (.if_icmp .lt 4, 3) := by decide +kernel
theorem dX3_enter_10 : decode cX3_enter 10 = .ok (.return_, 1) := by decide +kernel
theorem dX3_enter_11 : decode cX3_enter 11 = .ok (.aload_n 0, 1) := by decide +kernel
theorem dX3_enter_12 : decode cX3_enter 12 = .ok (.getfield 9, 3) := by decide +kernel
theorem dX3_enter_15 : decode cX3_enter 15 = .ok (.aload_n 0, 1) := by decide +kernel
theorem dX3_enter_16 : decode cX3_enter 16 = .ok (.getfield 24, 3) := by decide +kernel
theorem dX3_enter_19 : decode cX3_enter 19 = .ok (.iload_n 1, 1) := by decide +kernel
theorem dX3_enter_20 : decode cX3_enter 20 = .ok (.bipush 6, 2) := by decide +kernel
theorem dX3_enter_22 : decode cX3_enter 22 = .ok (.imul, 1) := by decide +kernel
theorem dX3_enter_23 : decode cX3_enter 23 = .ok (.iload_n 2, 1) := by decide +kernel
theorem dX3_enter_24 : decode cX3_enter 24 = .ok (.iadd, 1) := by decide +kernel
theorem dX3_enter_25 : decode cX3_enter 25 = .ok (.iastore, 1) := by decide +kernel
theorem dX3_enter_26 : decode cX3_enter 26 = .ok (.aload_n 0, 1) := by decide +kernel
theorem dX3_enter_27 : decode cX3_enter 27 = .ok (.getfield 15, 3) := by decide +kernel
theorem dX3_enter_30 : decode cX3_enter 30 = .ok (.aload_n 0, 1) := by decide +kernel
theorem dX3_enter_31 : decode cX3_enter 31 = .ok (.getfield 24, 3) := by decide +kernel
theorem dX3_enter_34 : decode cX3_enter 34 = .ok (.iload_n 3, 1) := by decide +kernel
theorem dX3_enter_35 : decode cX3_enter 35 = .ok (.aload_n 0, 1) := by decide +kernel
theorem dX3_enter_36 : decode cX3_enter 36 = .ok (.getfield 28, 3) := by decide +kernel
theorem dX3_enter_39 : decode cX3_enter 39 = .ok (.bipush 30, 2) := by decide +kernel
theorem dX3_enter_41 : decode cX3_enter 41 = .ok (.imul, 1) := by decide +kernel
theorem dX3_enter_42 : decode cX3_enter 42 = .ok (.invokestatic 31, 3) := by decide +kernel
theorem dX3_enter_45 : decode cX3_enter 45 = .ok (.iastore, 1) := by decide +kernel
theorem dX3_enter_46 : decode cX3_enter 46 = .ok (.aload_n 0, 1) := by decide +kernel
theorem dX3_enter_47 : decode cX3_enter 47 = .ok (.getfield 18, 3) := by decide +kernel
theorem dX3_enter_50 : decode cX3_enter 50 = .ok (.aload_n 0, 1) := by decide +kernel
theorem dX3_enter_51 : decode cX3_enter 51 = .ok (.getfield 24, 3) := by decide +kernel
theorem dX3_enter_54 : decode cX3_enter 54 = .ok (.iload 4, 2) := by decide +kernel
theorem dX3_enter_56 : decode cX3_enter 56 = .ok (.iastore, 1) := by decide +kernel
theorem dX3_enter_57 : decode cX3_enter 57 = .ok (.aload_n 0, 1) := by decide +kernel
theorem dX3_enter_58 : decode cX3_enter 58 = .ok (.dup, 1) := by decide +kernel
theorem dX3_enter_59 : decode cX3_enter 59 = .ok (.getfield 24, 3) := by decide +kernel
theorem dX3_enter_62 : decode cX3_enter 62 = .ok (.iconst 1, 1) := by decide +kernel
theorem dX3_enter_63 : decode cX3_enter 63 = .ok (.iadd, 1) := by decide +kernel
theorem dX3_enter_64 : decode cX3_enter 64 = .ok (.putfield 24, 3) := by decide +kernel
theorem dX3_enter_67 : decode cX3_enter 67 = .ok (.return_, 1) := by decide +kernel
theorem dX3_sumUpTo_0 : decode cX3_sumUpTo 0 = .ok (.iload_n 1, 1) := by decide +kernel
theorem dX3_sumUpTo_1 : decode cX3_sumUpTo 1 = .ok (.bipush 6, 2) := by decide +kernel
theorem dX3_sumUpTo_3 : decode cX3_sumUpTo 3 = .ok (.imul, 1) := by decide +kernel
theorem dX3_sumUpTo_4 : decode cX3_sumUpTo 4 = .ok (.iload_n 2, 1) := by decide +kernel
theorem dX3_sumUpTo_5 : decode cX3_sumUpTo 5 = .ok (.iadd, 1) := by decide +kernel
theorem dX3_sumUpTo_6 : decode cX3_sumUpTo 6 = .ok (.istore 4, 2) := by decide +kernel
theorem dX3_sumUpTo_8 : decode cX3_sumUpTo 8 = .ok (.iconst 0, 1) := by decide +kernel
theorem dX3_sumUpTo_9 : decode cX3_sumUpTo 9 = .ok (.istore 5, 2) := by decide +kernel
theorem dX3_sumUpTo_11 : decode cX3_sumUpTo 11 = .ok (.iconst 0, 1) := by decide +kernel
theorem dX3_sumUpTo_12 : decode cX3_sumUpTo 12 = .ok (.istore 6, 2) := by decide +kernel
theorem dX3_sumUpTo_14 : decode cX3_sumUpTo 14 = .ok (.iload 6, 2) := by decide +kernel
theorem dX3_sumUpTo_16 : decode cX3_sumUpTo 16 = .ok (.aload_n 0, 1) := by decide +kernel
theorem dX3_sumUpTo_17 : decode cX3_sumUpTo 17 = .ok (.getfield 24, 3) := by decide +kernel
theorem dX3_sumUpTo_20 : decode cX3_sumUpTo 20 = .ok (.if_icmp .ge 44, 3) := by decide +kernel
theorem dX3_sumUpTo_23 : decode cX3_sumUpTo 23 = .ok (.aload_n 0, 1) := by decide +kernel
theorem dX3_sumUpTo_24 : decode cX3_sumUpTo 24 = .ok (.getfield 9, 3) := by decide +kernel
theorem dX3_sumUpTo_27 : decode cX3_sumUpTo 27 = .ok (.iload 6, 2) := by decide +kernel
theorem dX3_sumUpTo_29 : decode cX3_sumUpTo 29 = .ok (.iaload, 1) := by decide +kernel
theorem dX3_sumUpTo_30 : decode cX3_sumUpTo 30 = .ok (.iload 4, 2) := by decide +kernel
theorem dX3_sumUpTo_32 : decode cX3_sumUpTo 32 = .ok (.if_icmp .ne 26, 3) := by decide +kernel
theorem dX3_sumUpTo_35 : decode cX3_sumUpTo 35 = .ok (.aload_n 0, 1) := by decide +kernel
theorem dX3_sumUpTo_36 : decode cX3_sumUpTo 36 = .ok (.getfield 15, 3) := by decide +kernel
theorem dX3_sumUpTo_39 : decode cX3_sumUpTo 39 = .ok (.iload 6, 2) := by decide +kernel
theorem dX3_sumUpTo_41 : decode cX3_sumUpTo 41 = .ok (.iaload, 1) := by decide +kernel
theorem dX3_sumUpTo_42 : decode cX3_sumUpTo 42 = .ok (.iload_n 3, 1) := by decide +kernel
theorem dX3_sumUpTo_43 : decode cX3_sumUpTo 43 = .ok (.if_icmp .gt 15, 3) := by decide +kernel
theorem dX3_sumUpTo_46 : decode cX3_sumUpTo 46 = .ok (.iload 5, 2) := by decide +kernel
theorem dX3_sumUpTo_48 : decode cX3_sumUpTo 48 = .ok (.aload_n 0, 1) := by decide +kernel
theorem dX3_sumUpTo_49 : decode cX3_sumUpTo 49 = .ok (.getfield 18, 3) := by decide +kernel
theorem dX3_sumUpTo_52 : decode cX3_sumUpTo 52 = .ok (.iload 6, 2) := by decide +kernel
theorem dX3_sumUpTo_54 : decode cX3_sumUpTo 54 = .ok (.iaload, 1) := by decide +kernel
theorem dX3_sumUpTo_55 : decode cX3_sumUpTo 55 = .ok (.iadd, 1) := by decide +kernel
theorem dX3_sumUpTo_56 : decode cX3_sumUpTo 56 = .ok (.istore 5, 2) := by decide +kernel
theorem dX3_sumUpTo_58 : decode cX3_sumUpTo 58 = .ok (.iinc 6 1, 3) := by decide +kernel
theorem dX3_sumUpTo_61 : decode cX3_sumUpTo 61 = .ok (.goto (-47), 3) := by decide +kernel
theorem dX3_sumUpTo_64 : decode cX3_sumUpTo 64 = .ok (.iload 5, 2) := by decide +kernel
theorem dX3_sumUpTo_66 : decode cX3_sumUpTo 66 = .ok (.ireturn, 1) := by decide +kernel
theorem dX3_sumOfKind_0 : decode cX3_sumOfKind 0 = .ok (.iconst 0, 1) := by decide +kernel
theorem dX3_sumOfKind_1 : decode cX3_sumOfKind 1 = .ok (.istore_n 2, 1) := by decide +kernel
theorem dX3_sumOfKind_2 : decode cX3_sumOfKind 2 = .ok (.iconst 0, 1) := by decide +kernel
theorem dX3_sumOfKind_3 : decode cX3_sumOfKind 3 = .ok (.istore_n 3, 1) := by decide +kernel
theorem dX3_sumOfKind_4 : decode cX3_sumOfKind 4 = .ok (.iload_n 3, 1) := by decide +kernel
theorem dX3_sumOfKind_5 : decode cX3_sumOfKind 5 = .ok (.aload_n 0, 1) := by decide +kernel
theorem dX3_sumOfKind_6 : decode cX3_sumOfKind 6 = .ok (.getfield 24, 3) := by decide +kernel
theorem dX3_sumOfKind_9 : decode cX3_sumOfKind 9 = .ok (.if_icmp .ge 31, 3) := by decide +kernel
theorem dX3_sumOfKind_12 : decode cX3_sumOfKind 12 = .ok (.aload_n 0, 1) := by decide +kernel
theorem dX3_sumOfKind_13 : decode cX3_sumOfKind 13 = .ok (.getfield 9, 3) := by decide +kernel
theorem dX3_sumOfKind_16 : decode cX3_sumOfKind 16 = .ok (.iload_n 3, 1) := by decide +kernel
theorem dX3_sumOfKind_17 : decode cX3_sumOfKind 17 = .ok (.iaload, 1) := by decide +kernel
theorem dX3_sumOfKind_18 : decode cX3_sumOfKind 18 = .ok (.bipush 6, 2) := by decide +kernel
theorem dX3_sumOfKind_20 : decode cX3_sumOfKind 20 = .ok (.irem, 1) := by decide +kernel
theorem dX3_sumOfKind_21 : decode cX3_sumOfKind 21 = .ok (.iload_n 1, 1) := by decide +kernel
theorem dX3_sumOfKind_22 : decode cX3_sumOfKind 22 = .ok (.if_icmp .ne 12, 3) := by decide +kernel
theorem dX3_sumOfKind_25 : decode cX3_sumOfKind 25 = .ok (.iload_n 2, 1) := by decide +kernel
theorem dX3_sumOfKind_26 : decode cX3_sumOfKind 26 = .ok (.aload_n 0, 1) := by decide +kernel
theorem dX3_sumOfKind_27 : decode cX3_sumOfKind 27 = .ok (.getfield 18, 3) := by decide +kernel
theorem dX3_sumOfKind_30 : decode cX3_sumOfKind 30 = .ok (.iload_n 3, 1) := by decide +kernel
theorem dX3_sumOfKind_31 : decode cX3_sumOfKind 31 = .ok (.iaload, 1) := by decide +kernel
theorem dX3_sumOfKind_32 : decode cX3_sumOfKind 32 = .ok (.iadd, 1) := by decide +kernel
theorem dX3_sumOfKind_33 : decode cX3_sumOfKind 33 = .ok (.istore_n 2, 1) := by decide +kernel
theorem dX3_sumOfKind_34 : decode cX3_sumOfKind 34 = .ok (.iinc 3 1, 3) := by decide +kernel
theorem dX3_sumOfKind_37 : decode cX3_sumOfKind 37 = .ok (.goto (-33), 3) := by decide +kernel
theorem dX3_sumOfKind_40 : decode cX3_sumOfKind 40 = .ok (.iload_n 2, 1) := by decide +kernel
theorem dX3_sumOfKind_41 : decode cX3_sumOfKind 41 = .ok (.ireturn, 1) := by decide +kernel
theorem dX3_feesOfMonth_0 : decode cX3_feesOfMonth 0 = .ok (.aload_n 0, 1) := by decide +kernel
theorem dX3_feesOfMonth_1 : decode cX3_feesOfMonth 1 = .ok (.iload_n 1, 1) := by decide +kernel
theorem dX3_feesOfMonth_2 : decode cX3_feesOfMonth 2 = .ok (.iload_n 2, 1) := by decide +kernel
theorem dX3_feesOfMonth_3 : decode cX3_feesOfMonth 3 = .ok (.bipush 30, 2) := by decide +kernel
theorem dX3_feesOfMonth_5 : decode cX3_feesOfMonth 5 = .ok (.imul, 1) := by decide +kernel
theorem dX3_feesOfMonth_6 : decode cX3_feesOfMonth 6 = .ok (.invokevirtual 37, 3) := by decide +kernel
theorem dX3_feesOfMonth_9 : decode cX3_feesOfMonth 9 = .ok (.lconst 0, 1) := by decide +kernel
theorem dX3_feesOfMonth_10 : decode cX3_feesOfMonth 10 = .ok (.lstore 4, 2) := by decide +kernel
theorem dX3_feesOfMonth_12 : decode cX3_feesOfMonth 12 = .ok (.iconst 0, 1) := by decide +kernel
theorem dX3_feesOfMonth_13 : decode cX3_feesOfMonth 13 = .ok (.istore 6, 2) := by decide +kernel
theorem dX3_feesOfMonth_15 : decode cX3_feesOfMonth 15 = .ok (.iload 6, 2) := by decide +kernel
theorem dX3_feesOfMonth_17 : decode cX3_feesOfMonth 17 = .ok (.bipush 6, 2) := by decide +kernel
theorem dX3_feesOfMonth_19 : decode cX3_feesOfMonth 19 = .ok (.if_icmp .ge 33, 3) := by decide +kernel
theorem dX3_feesOfMonth_22 : decode cX3_feesOfMonth 22 = .ok (.iload 6, 2) := by decide +kernel
theorem dX3_feesOfMonth_24 : decode cX3_feesOfMonth 24 = .ok (.aload_n 3, 1) := by decide +kernel
theorem dX3_feesOfMonth_25 : decode cX3_feesOfMonth 25 = .ok (.arraylength, 1) := by decide +kernel
theorem dX3_feesOfMonth_26 : decode cX3_feesOfMonth 26 = .ok (.if_icmp .ge 26, 3) := by decide +kernel
theorem dX3_feesOfMonth_29 : decode cX3_feesOfMonth 29 = .ok (.lload 4, 2) := by decide +kernel
theorem dX3_feesOfMonth_31 : decode cX3_feesOfMonth 31 = .ok (.aload_n 0, 1) := by decide +kernel
theorem dX3_feesOfMonth_32 : decode cX3_feesOfMonth 32 = .ok (.iload 6, 2) := by decide +kernel
theorem dX3_feesOfMonth_34 : decode cX3_feesOfMonth 34 = .ok (.invokevirtual 41, 3) := by decide +kernel
theorem dX3_feesOfMonth_37 : decode cX3_feesOfMonth 37 = .ok (.aload_n 3, 1) := by decide +kernel
theorem dX3_feesOfMonth_38 : decode cX3_feesOfMonth 38 = .ok (.iload 6, 2) := by decide +kernel
theorem dX3_feesOfMonth_40 : decode cX3_feesOfMonth 40 = .ok (.iaload, 1) := by decide +kernel
theorem dX3_feesOfMonth_41 : decode cX3_feesOfMonth 41 = .ok (.i2l, 1) := by decide +kernel
theorem dX3_feesOfMonth_42 : decode cX3_feesOfMonth 42 = .ok (.lmul, 1) := by decide +kernel
theorem dX3_feesOfMonth_43 : decode cX3_feesOfMonth 43 = .ok (.ladd, 1) := by decide +kernel
theorem dX3_feesOfMonth_44 : decode cX3_feesOfMonth 44 = .ok (.lstore 4, 2) := by decide +kernel
theorem dX3_feesOfMonth_46 : decode cX3_feesOfMonth 46 = .ok (.iinc 6 1, 3) := by decide +kernel
theorem dX3_feesOfMonth_49 : decode cX3_feesOfMonth 49 = .ok (.goto (-34), 3) := by decide +kernel
theorem dX3_feesOfMonth_52 : decode cX3_feesOfMonth 52 = .ok (.lload 4, 2) := by decide +kernel
theorem dX3_feesOfMonth_54 : decode cX3_feesOfMonth 54 = .ok (.lreturn, 1) := by decide +kernel
theorem dX3_gatherChanges_0 : decode cX3_gatherChanges 0 = .ok (.aload_n 0, 1) := by decide +kernel
theorem dX3_gatherChanges_1 : decode cX3_gatherChanges 1 = .ok (.getfield 21, 3) := by decide +kernel
theorem dX3_gatherChanges_4 : decode cX3_gatherChanges 4 = .ok (.iconst 0, 1) := by decide +kernel
theorem dX3_gatherChanges_5 : decode cX3_gatherChanges 5 = .ok (.invokestatic 45, 3) := by decide +kernel
theorem dX3_gatherChanges_8 : decode cX3_gatherChanges 8 = .ok (.iconst 0, 1) := by decide +kernel
theorem dX3_gatherChanges_9 : decode cX3_gatherChanges 9 = .ok (.istore_n 3, 1) := by decide +kernel
theorem dX3_gatherChanges_10 : decode cX3_gatherChanges 10 = .ok (.iload_n 3, 1) := by decide +kernel
theorem dX3_gatherChanges_11 : decode cX3_gatherChanges 11 = .ok (.aload_n 0, 1) := by decide +kernel
theorem dX3_gatherChanges_12 : decode cX3_gatherChanges 12 = .ok (.getfield 24, 3) := by decide +kernel
theorem dX3_gatherChanges_15 : decode cX3_gatherChanges 15 = .ok (.if_icmp .ge 77, 3) := by decide +kernel
theorem dX3_gatherChanges_18 : decode cX3_gatherChanges 18 = .ok (.aload_n 0, 1) := by decide +kernel
theorem dX3_gatherChanges_19 : decode cX3_gatherChanges 19 = .ok (.getfield 9, 3) := by decide +kernel
theorem dX3_gatherChanges_22 : decode cX3_gatherChanges 22 = .ok (.iload_n 3, 1) := by decide +kernel
theorem dX3_gatherChanges_23 : decode cX3_gatherChanges 23 = .ok (.iaload, 1) := by decide +kernel
theorem dX3_gatherChanges_24 : decode cX3_gatherChanges 24 = .ok (.iload_n 1, 1) := by decide +kernel
theorem dX3_gatherChanges_25 : decode cX3_gatherChanges 25 = .ok (.bipush 6, 2) := by decide +kernel
theorem dX3_gatherChanges_27 : decode cX3_gatherChanges 27 = .ok (.imul, 1) := by decide +kernel
theorem dX3_gatherChanges_28 : decode cX3_gatherChanges 28 = .ok (.isub, 1) := by decide +kernel
theorem dX3_gatherChanges_29 : decode cX3_gatherChanges 29 = .ok (.istore 4, 2) := by decide +kernel
theorem dX3_gatherChanges_31 : decode cX3_gatherChanges 31 = .ok (.aload_n 0, 1) := by decide +kernel
theorem dX3_gatherChanges_32 : decode cX3_gatherChanges 32 = .ok (.getfield 15, 3) := by decide +kernel
theorem dX3_gatherChanges_35 : decode cX3_gatherChanges 35 = .ok (.iload_n 3, 1) := by decide +kernel
theorem dX3_gatherChanges_36 : decode cX3_gatherChanges 36 = .ok (.iaload, 1) := by decide +kernel
theorem dX3_gatherChanges_37 : decode cX3_gatherChanges 37 = .ok (.iload_n 2, 1) := by decide +kernel
theorem dX3_gatherChanges_38 : decode cX3_gatherChanges 38 = .ok (.isub, 1) := by decide +kernel
theorem dX3_gatherChanges_39 : decode cX3_gatherChanges 39 = .ok (.iconst 0, 1) := by decide +kernel
theorem dX3_gatherChanges_40 : decode cX3_gatherChanges 40 = .ok (.invokestatic 31, 3) := by decide +kernel
theorem dX3_gatherChanges_43 : decode cX3_gatherChanges 43 = .ok (.istore 5, 2) := by decide +kernel
theorem dX3_gatherChanges_45 : decode cX3_gatherChanges 45 = .ok (.iload 4, 2) := by decide +kernel
theorem dX3_gatherChanges_47 : decode cX3_gatherChanges 47 = .ok (.ifCond .lt 39, 3) := by decide +kernel
theorem dX3_gatherChanges_50 : decode cX3_gatherChanges 50 = .ok (.iload 4, 2) := by decide +kernel
theorem dX3_gatherChanges_52 : decode cX3_gatherChanges 52 = .ok (.bipush 6, 2) := by decide +kernel
theorem dX3_gatherChanges_54 : decode cX3_gatherChanges 54 = .ok (.if_icmp .ge 32, 3) := by decide +kernel
theorem dX3_gatherChanges_57 : decode cX3_gatherChanges 57 = .ok (.iload 5, 2) := by decide +kernel
theorem dX3_gatherChanges_59 : decode cX3_gatherChanges 59 = .ok (.bipush 30, 2) := by decide +kernel
theorem dX3_gatherChanges_61 : decode cX3_gatherChanges 61 = .ok (.if_icmp .ge 25, 3) := by decide +kernel
theorem dX3_gatherChanges_64 : decode cX3_gatherChanges 64 = .ok (.aload_n 0, 1) := by decide +kernel
theorem dX3_gatherChanges_65 : decode cX3_gatherChanges 65 = .ok (.getfield 21, 3) := by decide +kernel
theorem dX3_gatherChanges_68 : decode cX3_gatherChanges 68 = .ok (.iload 4, 2) := by decide +kernel
theorem dX3_gatherChanges_70 : decode cX3_gatherChanges 70 = .ok (.bipush 30, 2) := by decide +kernel
theorem dX3_gatherChanges_72 : decode cX3_gatherChanges 72 = .ok (.imul, 1) := by decide +kernel
theorem dX3_gatherChanges_73 : decode cX3_gatherChanges 73 = .ok (.iload 5, 2) := by decide +kernel
theorem dX3_gatherChanges_75 : decode cX3_gatherChanges 75 = .ok (.iadd, 1) := by decide +kernel
theorem dX3_gatherChanges_76 : decode cX3_gatherChanges 76 = .ok (.dup2, 1) := by decide +kernel
theorem dX3_gatherChanges_77 : decode cX3_gatherChanges 77 = .ok (.iaload, 1) := by decide +kernel
theorem dX3_gatherChanges_78 : decode cX3_gatherChanges 78 = .ok (.aload_n 0, 1) := by decide +kernel
theorem dX3_gatherChanges_79 : decode cX3_gatherChanges 79 = .ok (.getfield 18, 3) := by decide +kernel
theorem dX3_gatherChanges_82 : decode cX3_gatherChanges 82 = .ok (.iload_n 3, 1) := by decide +kernel
theorem dX3_gatherChanges_83 : decode cX3_gatherChanges 83 = .ok (.iaload, 1) := by decide +kernel
theorem dX3_gatherChanges_84 : decode cX3_gatherChanges 84 = .ok (.iadd, 1) := by decide +kernel
theorem dX3_gatherChanges_85 : decode cX3_gatherChanges 85 = .ok (.iastore, 1) := by decide +kernel
theorem dX3_gatherChanges_86 : decode cX3_gatherChanges 86 = .ok (.iinc 3 1, 3) := by decide +kernel
theorem dX3_gatherChanges_89 : decode cX3_gatherChanges 89 = .ok (.goto (-79), 3) := by decide +kernel
theorem dX3_gatherChanges_92 : decode cX3_gatherChanges 92 = .ok (.return_, 1) := by decide +kernel
theorem dX3_daySums_0 : decode cX3_daySums 0 = .ok (.lconst 0, 1) := by decide +kernel
theorem dX3_daySums_1 : decode cX3_daySums 1 = .ok (.lstore_n 2, 1) := by decide +kernel
theorem dX3_daySums_2 : decode cX3_daySums 2 = .ok (.iconst 0, 1) := by decide +kernel
theorem dX3_daySums_3 : decode cX3_daySums 3 = .ok (.istore 4, 2) := by decide +kernel
theorem dX3_daySums_5 : decode cX3_daySums 5 = .ok (.iconst 0, 1) := by decide +kernel
theorem dX3_daySums_6 : decode cX3_daySums 6 = .ok (.istore 5, 2) := by decide +kernel
theorem dX3_daySums_8 : decode cX3_daySums 8 = .ok (.iload 5, 2) := by decide +kernel
theorem dX3_daySums_10 : decode cX3_daySums 10 = .ok (.bipush 30, 2) := by decide +kernel
theorem dX3_daySums_12 : decode cX3_daySums 12 = .ok (.if_icmp .ge 36, 3) := by decide +kernel
theorem dX3_daySums_15 : decode cX3_daySums 15 = .ok (.iload 4, 2) := by decide +kernel
theorem dX3_daySums_17 : decode cX3_daySums 17 = .ok (.aload_n 0, 1) := by decide +kernel
theorem dX3_daySums_18 : decode cX3_daySums 18 = .ok (.getfield 21, 3) := by decide +kernel
theorem dX3_daySums_21 : decode cX3_daySums 21 = .ok (.iload_n 1, 1) := by decide +kernel
theorem dX3_daySums_22 : decode cX3_daySums 22 = .ok (.bipush 30, 2) := by decide +kernel
theorem dX3_daySums_24 : decode cX3_daySums 24 = .ok (.imul, 1) := by decide +kernel
theorem dX3_daySums_25 : decode cX3_daySums 25 = .ok (.iload 5, 2) := by decide +kernel
theorem dX3_daySums_27 : decode cX3_daySums 27 = .ok (.iadd, 1) := by decide +kernel
theorem dX3_daySums_28 : decode cX3_daySums 28 = .ok (.iaload, 1) := by decide +kernel
theorem dX3_daySums_29 : decode cX3_daySums 29 = .ok (.iadd, 1) := by decide +kernel
theorem dX3_daySums_30 : decode cX3_daySums 30 = .ok (.istore 4, 2) := by decide +kernel
theorem dX3_daySums_32 : decode cX3_daySums 32 = .ok (.lload_n 2, 1) := by decide +kernel
theorem dX3_daySums_33 : decode cX3_daySums 33 = .ok (.iload 4, 2) := by decide +kernel
theorem dX3_daySums_35 : decode cX3_daySums 35 = .ok (.iconst 0, 1) := by decide +kernel
theorem dX3_daySums_36 : decode cX3_daySums 36 = .ok (.invokestatic 31, 3) := by decide +kernel
theorem dX3_daySums_39 : decode cX3_daySums 39 = .ok (.i2l, 1) := by decide +kernel
theorem dX3_daySums_40 : decode cX3_daySums 40 = .ok (.ladd, 1) := by decide +kernel
theorem dX3_daySums_41 : decode cX3_daySums 41 = .ok (.lstore_n 2, 1) := by decide +kernel
theorem dX3_daySums_42 : decode cX3_daySums 42 = .ok (.iinc 5 1, 3) := by decide +kernel
theorem dX3_daySums_45 : decode cX3_daySums 45 = .ok (.goto (-37), 3) := by decide +kernel
theorem dX3_daySums_48 : decode cX3_daySums 48 = .ok (.lload_n 2, 1) := by decide +kernel
theorem dX3_daySums_49 : decode cX3_daySums 49 = .ok (.lreturn, 1) := by decide +kernel
theorem dX4_init_0 : decode cX4_init 0 = .ok (.aload_n 0, 1) := by decide +kernel
theorem dX4_init_1 : decode cX4_init 1 = .ok (.invokespecial 1, 3) := by decide +kernel
theorem dX4_init_4 : decode cX4_init 4 = .ok (.aload_n 0, 1) := by decide +kernel
theorem dX4_init_5 : decode cX4_init 5 = .ok (.bipush 8, 2) := by decide +kernel
theorem dX4_init_7 : decode cX4_init 7 = .ok (.anewarray 9, 3) := by decide +kernel
theorem dX4_init_10 : decode cX4_init 10 = .ok (.putfield 11, 3) := by decide +kernel
theorem dX4_init_13 : decode cX4_init 13 = .ok (.aload_n 0, 1) := by decide +kernel
theorem dX4_init_14 : decode cX4_init 14 = .ok (.bipush 8, 2) := by decide +kernel
theorem dX4_init_16 : decode cX4_init 16 = .ok (.anewarray 9, 3) := by decide +kernel
theorem dX4_init_19 : decode cX4_init 19 = .ok (.putfield 15, 3) := by decide +kernel
theorem dX4_init_22 : decode cX4_init 22 = .ok (.aload_n 0, 1) := by decide +kernel
theorem dX4_init_23 : decode cX4_init 23 = .ok (.sipush 256, 3) := by decide +kernel
theorem dX4_init_26 : decode cX4_init 26 = .ok (.newarray .long, 2) := by decide +kernel
theorem dX4_init_28 : decode cX4_init 28 = .ok (.putfield 18, 3) := by decide +kernel
theorem dX4_init_31 : decode cX4_init 31 = .ok (.aload_n 0, 1) := by decide +kernel
theorem dX4_init_32 : decode cX4_init 32 = .ok (.bipush 8, 2) := by decide +kernel
theorem dX4_init_34 : decode cX4_init 34 = .ok (.newarray .long, 2) := by decide +kernel
theorem dX4_init_36 : decode cX4_init 36 = .ok (.putfield 22, 3) := by decide +kernel
theorem dX4_init_39 : decode cX4_init 39 = .ok (.return_, 1) := by decide +kernel
theorem dX4_clear_0 : decode cX4_clear 0 = .ok (.aload_n 0, 1) := by decide +kernel
theorem dX4_clear_1 : decode cX4_clear 1 = .ok (.iconst 0, 1) := by decide +kernel
theorem dX4_clear_2 : decode cX4_clear 2 = .ok (.putfield 25, 3) := by decide +kernel
theorem dX4_clear_5 : decode cX4_clear 5 = .ok (.aload_n 0, 1) := by decide +kernel
theorem dX4_clear_6 : decode cX4_clear 6 = .ok (.iconst 0, 1) := by decide +kernel
theorem dX4_clear_7 : decode cX4_clear 7 = .ok (.putfield 29, 3) := by decide +kernel
theorem dX4_clear_10 : decode cX4_clear 10 = .ok (.aload_n 0, 1) := by decide +kernel
theorem dX4_clear_11 : decode cX4_clear 11 = .ok (.lconst 0, 1) := by decide +kernel
theorem dX4_clear_12 : decode cX4_clear 12 = .ok (.putfield 32, 3) := by decide +kernel
theorem dX4_clear_15 : decode cX4_clear 15 = .ok (.return_, 1) := by decide +kernel
theorem dX4_offer_0 : decode cX4_offer 0 = .ok (.aload_n 1, 1) := by decide +kernel
theorem dX4_offer_1 : decode cX4_offer 1 = .ok (.getfield 36, 3) := by decide +kernel
theorem dX4_offer_4 : decode cX4_offer 4 = .ok (.ifCond .eq 35, 3) := by decide +kernel
theorem dX4_offer_7 : decode cX4_offer 7 = .ok (.aload_n 0, 1) := by decide +kernel
theorem dX4_offer_8 : decode cX4_offer 8 = .ok (.getfield 25, 3) := by decide +kernel
theorem dX4_offer_11 : decode cX4_offer 11 = .ok (.bipush 8, 2) := by decide +kernel
theorem dX4_offer_13 : decode cX4_offer 13 = .ok (.if_icmp .ge 26, 3) := by decide +kernel
theorem dX4_offer_16 : decode cX4_offer 16 = .ok (.aload_n 0, 1) := by decide +kernel
theorem dX4_offer_17 : decode cX4_offer 17 = .ok (.getfield 11, 3) := by decide +kernel
theorem dX4_offer_20 : decode cX4_offer 20 = .ok (.aload_n 0, 1) := by decide +kernel
theorem dX4_offer_21 : decode cX4_offer 21 = .ok (.getfield 25, 3) := by decide +kernel
theorem dX4_offer_24 : decode cX4_offer 24 = .ok (.aload_n 1, 1) := by decide +kernel
theorem dX4_offer_25 : decode cX4_offer 25 = .ok (.aastore, 1) := by decide +kernel
theorem dX4_offer_26 : decode cX4_offer 26 = .ok (.aload_n 0, 1) := by decide +kernel
theorem dX4_offer_27 : decode cX4_offer 27 = .ok (.dup, 1) := by decide +kernel
theorem dX4_offer_28 : decode cX4_offer 28 = .ok (.getfield 25, 3) := by decide +kernel
theorem dX4_offer_31 : decode cX4_offer 31 = .ok (.iconst 1, 1) := by decide +kernel
theorem dX4_offer_32 : decode cX4_offer 32 = .ok (.iadd, 1) := by decide +kernel
theorem dX4_offer_33 : decode cX4_offer 33 = .ok (.putfield 25, 3) := by decide +kernel
theorem dX4_offer_36 : decode cX4_offer 36 = .ok (.goto 39, 3) := by decide +kernel
theorem dX4_offer_39 : decode cX4_offer 39 = .ok (.aload_n 1, 1) := by decide +kernel
theorem dX4_offer_40 : decode cX4_offer 40 = .ok (.getfield 36, 3) := by decide +kernel
theorem dX4_offer_43 : decode cX4_offer 43 = .ok (.ifCond .ne 32, 3) := by decide +kernel
theorem dX4_offer_46 : decode cX4_offer 46 = .ok (.aload_n 0, 1) := by decide +kernel
theorem dX4_offer_47 : decode cX4_offer 47 = .ok (.getfield 29, 3) := by decide +kernel
theorem dX4_offer_50 : decode cX4_offer 50 = .ok (.bipush 8, 2) := by decide +kernel
theorem dX4_offer_52 : decode cX4_offer 52 = .ok (.if_icmp .ge 23, 3) := by decide +kernel
theorem dX4_offer_55 : decode cX4_offer 55 = .ok (.aload_n 0, 1) := by decide +kernel
theorem dX4_offer_56 : decode cX4_offer 56 = .ok (.getfield 15, 3) := by decide +kernel
theorem dX4_offer_59 : decode cX4_offer 59 = .ok (.aload_n 0, 1) := by decide +kernel
theorem dX4_offer_60 : decode cX4_offer 60 = .ok (.getfield 29, 3) := by decide +kernel
theorem dX4_offer_63 : decode cX4_offer 63 = .ok (.aload_n 1, 1) := by decide +kernel
theorem dX4_offer_64 : decode cX4_offer 64 = .ok (.aastore, 1) := by decide +kernel
theorem dX4_offer_65 : decode cX4_offer 65 = .ok (.aload_n 0, 1) := by decide +kernel
theorem dX4_offer_66 : decode cX4_offer 66 = .ok (.dup, 1) := by decide +kernel
theorem dX4_offer_67 : decode cX4_offer 67 = .ok (.getfield 29, 3) := by decide +kernel
theorem dX4_offer_70 : decode cX4_offer 70 = .ok (.iconst 1, 1) := by decide +kernel
theorem dX4_offer_71 : decode cX4_offer 71 = .ok (.iadd, 1) := by decide +kernel
theorem dX4_offer_72 : decode cX4_offer 72 = .ok (.putfield 29, 3) := by decide +kernel
theorem dX4_offer_75 : decode cX4_offer 75 = .ok (.return_, 1) := by decide +kernel
theorem dX4_giveAt_0 : decode cX4_giveAt 0 = .ok (.iload_n 1, 1) := by decide +kernel
theorem dX4_giveAt_1 : decode cX4_giveAt 1 = .ok (.ifCond .lt 20, 3) := by decide +kernel
theorem dX4_giveAt_4 : decode cX4_giveAt 4 = .ok (.iload_n 1, 1) := by decide +kernel
theorem dX4_giveAt_5 : decode cX4_giveAt 5 = .ok (.aload_n 0, 1) := by decide +kernel
theorem dX4_giveAt_6 : decode cX4_giveAt 6 = .ok (.getfield 25, 3) := by decide +kernel
theorem dX4_giveAt_9 : decode cX4_giveAt 9 = .ok (.if_icmp .ge 12, 3) := by decide +kernel
theorem dX4_giveAt_12 : decode cX4_giveAt 12 = .ok (.aload_n 0, 1) := by decide +kernel
theorem dX4_giveAt_13 : decode cX4_giveAt 13 = .ok (.getfield 11, 3) := by decide +kernel
theorem dX4_giveAt_16 : decode cX4_giveAt 16 = .ok (.iload_n 1, 1) := by decide +kernel
theorem dX4_giveAt_17 : decode cX4_giveAt 17 = .ok (.aaload, 1) := by decide +kernel
theorem dX4_giveAt_18 : decode cX4_giveAt 18 = .ok (.goto 4, 3) := by decide +kernel
theorem dX4_giveAt_21 : decode cX4_giveAt 21 = .ok (.aconst_null, 1) := by decide +kernel
theorem dX4_giveAt_22 : decode cX4_giveAt 22 = .ok (.areturn, 1) := by decide +kernel
theorem dX4_takeAt_0 : decode cX4_takeAt 0 = .ok (.iload_n 1, 1) := by decide +kernel
theorem dX4_takeAt_1 : decode cX4_takeAt 1 = .ok (.ifCond .lt 20, 3) := by decide +kernel
theorem dX4_takeAt_4 : decode cX4_takeAt 4 = .ok (.iload_n 1, 1) := by decide +kernel
theorem dX4_takeAt_5 : decode cX4_takeAt 5 = .ok (.aload_n 0, 1) := by decide +kernel
theorem dX4_takeAt_6 : decode cX4_takeAt 6 = .ok (.getfield 29, 3) := by decide +kernel
theorem dX4_takeAt_9 : decode cX4_takeAt 9 = .ok (.if_icmp .ge 12, 3) := by decide +kernel
theorem dX4_takeAt_12 : decode cX4_takeAt 12 = .ok (.aload_n 0, 1) := by decide +kernel
theorem dX4_takeAt_13 : decode cX4_takeAt 13 = .ok (.getfield 15, 3) := by decide +kernel
theorem dX4_takeAt_16 : decode cX4_takeAt 16 = .ok (.iload_n 1, 1) := by decide +kernel
theorem dX4_takeAt_17 : decode cX4_takeAt 17 = .ok (.aaload, 1) := by decide +kernel
theorem dX4_takeAt_18 : decode cX4_takeAt 18 = .ok (.goto 4, 3) := by decide +kernel
theorem dX4_takeAt_21 : decode cX4_takeAt 21 = .ok (.aconst_null, 1) := by decide +kernel
theorem dX4_takeAt_22 : decode cX4_takeAt 22 = .ok (.areturn, 1) := by decide +kernel
theorem dX4_hasNear_0 : decode cX4_hasNear 0 = .ok (.iconst 0, 1) := by decide +kernel
theorem dX4_hasNear_1 : decode cX4_hasNear 1 = .ok (.istore_n 1, 1) := by decide +kernel
theorem dX4_hasNear_2 : decode cX4_hasNear 2 = .ok (.iload_n 1, 1) := by decide +kernel
theorem dX4_hasNear_3 : decode cX4_hasNear 3 = .ok (.aload_n 0, 1) := by decide +kernel
theorem dX4_hasNear_4 : decode cX4_hasNear 4 = .ok (.getfield 25, 3) := by decide +kernel
theorem dX4_hasNear_7 : decode cX4_hasNear 7 = .ok (.if_icmp .ge 43, 3) := by decide +kernel
theorem dX4_hasNear_10 : decode cX4_hasNear 10 = .ok (.iconst 0, 1) := by decide +kernel
theorem dX4_hasNear_11 : decode cX4_hasNear 11 = .ok (.istore_n 2, 1) := by decide +kernel
theorem dX4_hasNear_12 : decode cX4_hasNear 12 = .ok (.iload_n 2, 1) := by decide +kernel
theorem dX4_hasNear_13 : decode cX4_hasNear 13 = .ok (.aload_n 0, 1) := by decide +kernel
theorem dX4_hasNear_14 : decode cX4_hasNear 14 = .ok (.getfield 29, 3) := by decide +kernel
theorem dX4_hasNear_17 : decode cX4_hasNear 17 = .ok (.if_icmp .ge 27, 3) := by decide +kernel
theorem dX4_hasNear_20 : decode cX4_hasNear 20 = .ok (.aload_n 0, 1) := by decide +kernel
theorem dX4_hasNear_21 : decode cX4_hasNear 21 = .ok (.iload_n 1, 1) := by decide +kernel
theorem dX4_hasNear_22 : decode cX4_hasNear 22 = .ok (.invokevirtual 40, 3) := by decide +kernel
theorem dX4_hasNear_25 : decode cX4_hasNear 25 = .ok (.aload_n 0, 1) := by decide +kernel
theorem dX4_hasNear_26 : decode cX4_hasNear 26 = .ok (.iload_n 2, 1) := by decide +kernel
theorem dX4_hasNear_27 : decode cX4_hasNear 27 = .ok (.invokevirtual 44, 3) := by decide +kernel
theorem dX4_hasNear_30 : decode cX4_hasNear 30 = .ok (.invokestatic 47, 3) := by decide +kernel
theorem dX4_hasNear_33 : decode cX4_hasNear 33 = .ok (.ifCond .eq 5, 3) := by decide +kernel
theorem dX4_hasNear_36 : decode cX4_hasNear 36 = .ok (.iconst 1, 1) := by decide +kernel
theorem dX4_hasNear_37 : decode cX4_hasNear 37 = .ok (.ireturn, 1) := by decide +kernel
theorem dX4_hasNear_38 : decode cX4_hasNear 38 = .ok (.iinc 2 1, 3) := by decide +kernel
theorem dX4_hasNear_41 : decode cX4_hasNear 41 = .ok (.goto (-29), 3) := by decide +kernel
theorem dX4_hasNear_44 : decode cX4_hasNear 44 = .ok (.iinc 1 1, 3) := by decide +kernel
theorem dX4_hasNear_47 : decode cX4_hasNear 47 = .ok (.goto (-45), 3) := by decide +kernel
theorem dX4_hasNear_50 : decode cX4_hasNear 50 = .ok (.iconst 0, 1) := by decide +kernel
theorem dX4_hasNear_51 : decode cX4_hasNear 51 = .ok (.ireturn, 1) := by decide +kernel
theorem dX4_areNear_0 : decode cX4_areNear 0 = .ok (.aload_n 0, 1) := by decide +kernel
theorem dX4_areNear_1 : decode cX4_areNear 1 = .ok (.ifnull 19, 3) := by decide +kernel
theorem dX4_areNear_4 : decode cX4_areNear 4 = .ok (.aload_n 1, 1) := by decide +kernel
theorem dX4_areNear_5 : decode cX4_areNear 5 = .ok (.ifnull 15, 3) := by decide +kernel
theorem dX4_areNear_8 : decode cX4_areNear 8 = .ok (.aload_n 0, 1) := by decide +kernel
theorem dX4_areNear_9 : decode cX4_areNear 9 = .ok (.aload_n 1, 1) := by decide +kernel
theorem dX4_areNear_10 : decode cX4_areNear 10 = .ok (.invokevirtual 51, 3) := by decide +kernel
theorem dX4_areNear_13 : decode cX4_areNear 13 = .ok (.ifCond .eq 7, 3) := by decide +kernel
theorem dX4_areNear_16 : decode cX4_areNear 16 = .ok (.iconst 1, 1) := by decide +kernel
theorem dX4_areNear_17 : decode cX4_areNear 17 = .ok (.goto 4, 3) := by decide +kernel
theorem dX4_areNear_20 : decode cX4_areNear 20 = .ok (.iconst 0, 1) := by decide +kernel
theorem dX4_areNear_21 : decode cX4_areNear 21 = .ok (.ireturn, 1) := by decide +kernel
theorem dX4_solve_0 : decode cX4_solve 0 = .ok (.iconst 1, 1) := by decide +kernel
theorem dX4_solve_1 : decode cX4_solve 1 = .ok (.aload_n 0, 1) := by decide +kernel
theorem dX4_solve_2 : decode cX4_solve 2 = .ok (.getfield 29, 3) := by decide +kernel
theorem dX4_solve_5 : decode cX4_solve 5 = .ok (.ishl, 1) := by decide +kernel
theorem dX4_solve_6 : decode cX4_solve 6 = .ok (.istore_n 1, 1) := by decide +kernel
theorem dX4_solve_7 : decode cX4_solve 7 = .ok (.iconst 0, 1) := by decide +kernel
theorem dX4_solve_8 : decode cX4_solve 8 = .ok (.istore_n 2, 1) := by decide +kernel
theorem dX4_solve_9 : decode cX4_solve 9 = .ok (.iload_n 2, 1) := by decide +kernel
theorem dX4_solve_10 : decode cX4_solve 10 = .ok (.iload_n 1, 1) := by decide +kernel
theorem dX4_solve_11 : decode cX4_solve 11 = .ok (.if_icmp .ge 27, 3) := by decide +kernel
theorem dX4_solve_14 : decode cX4_solve 14 = .ok (.iload_n 2, 1) := by decide +kernel
theorem dX4_solve_15 : decode cX4_solve 15 = .ok (.aload_n 0, 1) := by decide +kernel
theorem dX4_solve_16 : decode cX4_solve 16 = .ok (.getfield 18, 3) := by decide +kernel
theorem dX4_solve_19 : decode cX4_solve 19 = .ok (.arraylength, 1) := by decide +kernel
theorem dX4_solve_20 : decode cX4_solve 20 = .ok (.if_icmp .ge 18, 3) := by decide +kernel
theorem dX4_solve_23 : decode cX4_solve 23 = .ok (.aload_n 0, 1) := by decide +kernel
theorem dX4_solve_24 : decode cX4_solve 24 = .ok (.getfield 18, 3) := by decide +kernel
theorem dX4_solve_27 : decode cX4_solve 27 = .ok (.iload_n 2, 1) := by decide +kernel
theorem dX4_solve_28 : decode cX4_solve 28 = .ok (.ldc2_w 55, 3) := by decide +kernel
theorem dX4_solve_31 : decode cX4_solve 31 = .ok (.lastore, 1) := by decide +kernel
theorem dX4_solve_32 : decode cX4_solve 32 = .ok (.iinc 2 1, 3) := by decide +kernel
theorem dX4_solve_35 : decode cX4_solve 35 = .ok (.goto (-26), 3) := by decide +kernel
theorem dX4_solve_38 : decode cX4_solve 38 = .ok (.aload_n 0, 1) := by decide +kernel
theorem dX4_solve_39 : decode cX4_solve 39 = .ok (.getfield 18, 3) := by decide +kernel
theorem dX4_solve_42 : decode cX4_solve 42 = .ok (.iconst 0, 1) := by decide +kernel
theorem dX4_solve_43 : decode cX4_solve 43 = .ok (.lconst 0, 1) := by decide +kernel
theorem dX4_solve_44 : decode cX4_solve 44 = .ok (.lastore, 1) := by decide +kernel
theorem dX4_solve_45 : decode cX4_solve 45 = .ok (.iconst 0, 1) := by decide +kernel
theorem dX4_solve_46 : decode cX4_solve 46 = .ok (.istore_n 2, 1) := by decide +kernel
theorem dX4_solve_47 : decode cX4_solve 47 = .ok (.iload_n 2, 1) := by decide +kernel
theorem dX4_solve_48 : decode cX4_solve 48 = .ok (.aload_n 0, 1) := by decide +kernel
theorem dX4_solve_49 : decode cX4_solve 49 = .ok (.getfield 25, 3) := by decide +kernel
theorem dX4_solve_52 : decode cX4_solve 52 = .ok (.if_icmp .ge 42, 3) := by decide +kernel
theorem dX4_solve_55 : decode cX4_solve 55 = .ok (.iconst 0, 1) := by decide +kernel
theorem dX4_solve_56 : decode cX4_solve 56 = .ok (.istore_n 3, 1) := by decide +kernel
theorem dX4_solve_57 : decode cX4_solve 57 = .ok (.iload_n 3, 1) := by decide +kernel
theorem dX4_solve_58 : decode cX4_solve 58 = .ok (.aload_n 0, 1) := by decide +kernel
theorem dX4_solve_59 : decode cX4_solve 59 = .ok (.getfield 29, 3) := by decide +kernel
theorem dX4_solve_62 : decode cX4_solve 62 = .ok (.if_icmp .ge 21, 3) := by decide +kernel
theorem dX4_solve_65 : decode cX4_solve 65 = .ok (.aload_n 0, 1) := by decide +kernel
theorem dX4_solve_66 : decode cX4_solve 66 = .ok (.getfield 22, 3) := by decide +kernel
theorem dX4_solve_69 : decode cX4_solve 69 = .ok (.iload_n 3, 1) := by decide +kernel
theorem dX4_solve_70 : decode cX4_solve 70 = .ok (.aload_n 0, 1) := by decide +kernel
theorem dX4_solve_71 : decode cX4_solve 71 = .ok (.iload_n 2, 1) := by decide +kernel
theorem dX4_solve_72 : decode cX4_solve 72 = .ok (.iload_n 3, 1) := by decide +kernel
theorem dX4_solve_73 : decode cX4_solve 73 = .ok (.invokevirtual 57, 3) := by decide +kernel
theorem dX4_solve_76 : decode cX4_solve 76 = .ok (.lastore, 1) := by decide +kernel
theorem dX4_solve_77 : decode cX4_solve 77 = .ok (.iinc 3 1, 3) := by decide +kernel
theorem dX4_solve_80 : decode cX4_solve 80 = .ok (.goto (-23), 3) := by decide +kernel
theorem dX4_solve_83 : decode cX4_solve 83 = .ok (.aload_n 0, 1) := by decide +kernel
theorem dX4_solve_84 : decode cX4_solve 84 = .ok (.iload_n 1, 1) := by decide +kernel
theorem dX4_solve_85 : decode cX4_solve 85 = .ok (.invokevirtual 61, 3) := by decide +kernel
theorem dX4_solve_88 : decode cX4_solve 88 = .ok (.iinc 2 1, 3) := by decide +kernel
theorem dX4_solve_91 : decode cX4_solve 91 = .ok (.goto (-44), 3) := by decide +kernel
theorem dX4_solve_94 : decode cX4_solve 94 = .ok (.iconst 0, 1) := by decide +kernel
theorem dX4_solve_95 : decode cX4_solve 95 = .ok (.istore_n 2, 1) := by decide +kernel
theorem dX4_solve_96 : decode cX4_solve 96 = .ok (.iload_n 2, 1) := by decide +kernel
theorem dX4_solve_97 : decode cX4_solve 97 = .ok (.iload_n 1, 1) := by decide +kernel
theorem dX4_solve_98 : decode cX4_solve 98 = .ok (.if_icmp .ge 35, 3) := by decide +kernel
theorem dX4_solve_101 : decode cX4_solve 101 = .ok (.iload_n 2, 1) := by decide +kernel
theorem dX4_solve_102 : decode cX4_solve 102 = .ok (.aload_n 0, 1) := by decide +kernel
theorem dX4_solve_103 : decode cX4_solve 103 = .ok (.getfield 18, 3) := by decide +kernel
theorem dX4_solve_106 : decode cX4_solve 106 = .ok (.arraylength, 1) := by decide +kernel
theorem dX4_solve_107 : decode cX4_solve 107 = .ok (.if_icmp .ge 26, 3) := by decide +kernel
theorem dX4_solve_110 : decode cX4_solve 110 = .ok (.aload_n 0, 1) := by decide +kernel
theorem dX4_solve_111 : decode cX4_solve 111 = .ok (.aload_n 0, 1) := by decide +kernel
theorem dX4_solve_112 : decode cX4_solve 112 = .ok (.getfield 32, 3) := by decide +kernel
theorem dX4_solve_115 : decode cX4_solve 115 = .ok (.aload_n 0, 1) := by decide +kernel
theorem dX4_solve_116 : decode cX4_solve 116 = .ok (.getfield 18, 3) := by decide +kernel
theorem dX4_solve_119 : decode cX4_solve 119 = .ok (.iload_n 2, 1) := by decide +kernel
theorem dX4_solve_120 : decode cX4_solve 120 = .ok (.laload, 1) := by decide +kernel
theorem dX4_solve_121 : decode cX4_solve 121 = .ok (.invokestatic 65, 3) := by decide +kernel
theorem dX4_solve_124 : decode cX4_solve 124 = .ok (.putfield 32, 3) := by decide +kernel
theorem dX4_solve_127 : decode cX4_solve 127 = .ok (.iinc 2 1, 3) := by decide +kernel
theorem dX4_solve_130 : decode cX4_solve 130 = .ok (.goto (-34), 3) := by decide +kernel
theorem dX4_solve_133 : decode cX4_solve 133 = .ok (.return_, 1) := by decide +kernel
theorem dX4_scoreOf_0 : decode cX4_scoreOf 0 = .ok (.aload_n 0, 1) := by decide +kernel
theorem dX4_scoreOf_1 : decode cX4_scoreOf 1 = .ok (.iload_n 1, 1) := by decide +kernel
theorem dX4_scoreOf_2 : decode cX4_scoreOf 2 = .ok (.invokevirtual 40, 3) := by decide +kernel
theorem dX4_scoreOf_5 : decode cX4_scoreOf 5 = .ok (.astore_n 3, 1) := by decide +kernel
theorem dX4_scoreOf_6 : decode cX4_scoreOf 6 = .ok (.aload_n 0, 1) := by decide +kernel
theorem dX4_scoreOf_7 : decode cX4_scoreOf 7 = .ok (.iload_n 2, 1) := by decide +kernel
theorem dX4_scoreOf_8 : decode cX4_scoreOf 8 = .ok (.invokevirtual 44, 3) := by decide +kernel
theorem dX4_scoreOf_11 : decode cX4_scoreOf 11 = .ok (.astore 4, 2) := by decide +kernel
theorem dX4_scoreOf_13 : decode cX4_scoreOf 13 = .ok (.aload_n 3, 1) := by decide +kernel
theorem dX4_scoreOf_14 : decode cX4_scoreOf 14 = .ok (.aload 4, 2) := by decide +kernel
theorem dX4_scoreOf_16 : decode cX4_scoreOf 16 = .ok (.invokestatic 47, 3) := by decide +kernel
theorem dX4_scoreOf_19 : decode cX4_scoreOf 19 = .ok (.ifCond .ne 7, 3) := by decide +kernel
theorem dX4_scoreOf_22 : decode cX4_scoreOf 22 = .ok (.ldc2_w 55, 3) := by decide +kernel
theorem dX4_scoreOf_25 : decode cX4_scoreOf 25 = .ok (.lreturn, 1) := by decide +kernel
theorem dX4_scoreOf_26 : decode cX4_scoreOf 26 = .ok (.aload_n 3, 1) := by decide +kernel
theorem dX4_scoreOf_27 : decode cX4_scoreOf 27 = .ok (.getfield 71, 3) := by decide +kernel
theorem dX4_scoreOf_30 : decode cX4_scoreOf 30 = .ok (.aload 4, 2) := by decide +kernel
theorem dX4_scoreOf_32 : decode cX4_scoreOf 32 = .ok (.getfield 71, 3) := by decide +kernel
theorem dX4_scoreOf_35 : decode cX4_scoreOf 35 = .ok (.isub, 1) := by decide +kernel
theorem dX4_scoreOf_36 : decode cX4_scoreOf 36 = .ok (.invokestatic 74, 3) := by decide +kernel
theorem dX4_scoreOf_39 : decode cX4_scoreOf 39 = .ok (.i2l, 1) := by decide +kernel
theorem dX4_scoreOf_40 : decode cX4_scoreOf 40 = .ok (.lstore 5, 2) := by decide +kernel
theorem dX4_scoreOf_42 : decode cX4_scoreOf 42 = .ok (.bipush 8, 2) := by decide +kernel
theorem dX4_scoreOf_44 : decode cX4_scoreOf 44 = .ok (.iload_n 2, 1) := by decide +kernel
theorem dX4_scoreOf_45 : decode cX4_scoreOf 45 = .ok (.isub, 1) := by decide +kernel
theorem dX4_scoreOf_46 : decode cX4_scoreOf 46 = .ok (.i2l, 1) := by decide +kernel
theorem dX4_scoreOf_47 : decode cX4_scoreOf 47 = .ok (.lstore 7, 2) := by decide +kernel
theorem dX4_scoreOf_49 : decode cX4_scoreOf 49 = .ok (.ldc2_w 78, 3) := by decide +kernel
theorem dX4_scoreOf_52 : decode cX4_scoreOf 52 = .ok (.lload 5, 2) := by decide +kernel
theorem dX4_scoreOf_54 : decode cX4_scoreOf 54 = .ok (.ldc2_w 80, 3) := by decide +kernel
theorem dX4_scoreOf_57 : decode cX4_scoreOf 57 = .ok (.lmul, 1) := by decide +kernel
theorem dX4_scoreOf_58 : decode cX4_scoreOf 58 = .ok (.lsub, 1) := by decide +kernel
theorem dX4_scoreOf_59 : decode cX4_scoreOf 59 = .ok (.lload 7, 2) := by decide +kernel
theorem dX4_scoreOf_61 : decode cX4_scoreOf 61 = .ok (.iload_n 1, 1) := by decide +kernel
theorem dX4_scoreOf_62 : decode cX4_scoreOf 62 = .ok (.invokestatic 82, 3) := by decide +kernel
theorem dX4_scoreOf_65 : decode cX4_scoreOf 65 = .ok (.lshl, 1) := by decide +kernel
theorem dX4_scoreOf_66 : decode cX4_scoreOf 66 = .ok (.ladd, 1) := by decide +kernel
theorem dX4_scoreOf_67 : decode cX4_scoreOf 67 = .ok (.lreturn, 1) := by decide +kernel
theorem dX4_addGive_0 : decode cX4_addGive 0 = .ok (.iload_n 1, 1) := by decide +kernel
theorem dX4_addGive_1 : decode cX4_addGive 1 = .ok (.aload_n 0, 1) := by decide +kernel
theorem dX4_addGive_2 : decode cX4_addGive 2 = .ok (.getfield 18, 3) := by decide +kernel
theorem dX4_addGive_5 : decode cX4_addGive 5 = .ok (.arraylength, 1) := by decide +kernel
theorem dX4_addGive_6 : decode cX4_addGive 6 = .ok (.invokestatic 85, 3) := by decide +kernel
theorem dX4_addGive_9 : decode cX4_addGive 9 = .ok (.iconst 1, 1) := by decide +kernel
theorem dX4_addGive_10 : decode cX4_addGive 10 = .ok (.isub, 1) := by decide +kernel
theorem dX4_addGive_11 : decode cX4_addGive 11 = .ok (.istore_n 2, 1) := by decide +kernel
theorem dX4_addGive_12 : decode cX4_addGive 12 = .ok (.iload_n 2, 1) := by decide +kernel
theorem dX4_addGive_13 : decode cX4_addGive 13 = .ok (.ifCond .le 102, 3) := by decide +kernel
theorem dX4_addGive_16 : decode cX4_addGive 16 = .ok (.iconst 0, 1) := by decide +kernel
theorem dX4_addGive_17 : decode cX4_addGive 17 = .ok (.istore_n 3, 1) := by decide +kernel
theorem dX4_addGive_18 : decode cX4_addGive 18 = .ok (.iload_n 3, 1) := by decide +kernel
theorem dX4_addGive_19 : decode cX4_addGive 19 = .ok (.aload_n 0, 1) := by decide +kernel
theorem dX4_addGive_20 : decode cX4_addGive 20 = .ok (.getfield 29, 3) := by decide +kernel
theorem dX4_addGive_23 : decode cX4_addGive 23 = .ok (.if_icmp .ge 86, 3) := by decide +kernel
theorem dX4_addGive_26 : decode cX4_addGive 26 = .ok (.iload_n 3, 1) := by decide +kernel
theorem dX4_addGive_27 : decode cX4_addGive 27 = .ok (.bipush 8, 2) := by decide +kernel
theorem dX4_addGive_29 : decode cX4_addGive 29 = .ok (.if_icmp .ge 80, 3) := by decide +kernel
theorem dX4_addGive_32 : decode cX4_addGive 32 = .ok (.iload_n 2, 1) := by decide +kernel
theorem dX4_addGive_33 : decode cX4_addGive 33 = .ok (.iconst 1, 1) := by decide +kernel
theorem dX4_addGive_34 : decode cX4_addGive 34 = .ok (.iload_n 3, 1) := by decide +kernel
theorem dX4_addGive_35 : decode cX4_addGive 35 = .ok (.ishl, 1) := by decide +kernel
theorem dX4_addGive_36 : decode cX4_addGive 36 = .ok (.iconst (-1), 1) := by decide +kernel
theorem dX4_addGive_37 : decode cX4_addGive 37 = .ok (.ixor, 1) := by decide +kernel
theorem dX4_addGive_38 : decode cX4_addGive 38 = .ok (.iand, 1) := by decide +kernel
theorem dX4_addGive_39 : decode cX4_addGive 39 = .ok (.istore 4, 2) := by decide +kernel
theorem dX4_addGive_41 : decode cX4_addGive 41 = .ok (.iload 4, 2) := by decide +kernel
theorem dX4_addGive_43 : decode cX4_addGive 43 = .ok (.iload_n 2, 1) := by decide +kernel
theorem dX4_addGive_44 : decode cX4_addGive 44 = .ok (.if_icmp .eq 59, 3) := by decide +kernel
theorem dX4_addGive_47 : decode cX4_addGive 47 = .ok (.aload_n 0, 1) := by decide +kernel
theorem dX4_addGive_48 : decode cX4_addGive 48 = .ok (.getfield 22, 3) := by decide +kernel
theorem dX4_addGive_51 : decode cX4_addGive 51 = .ok (.iload_n 3, 1) := by decide +kernel
theorem dX4_addGive_52 : decode cX4_addGive 52 = .ok (.laload, 1) := by decide +kernel
theorem dX4_addGive_53 : decode cX4_addGive 53 = .ok (.ldc2_w 55, 3) := by decide +kernel
theorem dX4_addGive_56 : decode cX4_addGive 56 = .ok (.lcmp, 1) := by decide +kernel
theorem dX4_addGive_57 : decode cX4_addGive 57 = .ok (.ifCond .eq 46, 3) := by decide +kernel
theorem dX4_addGive_60 : decode cX4_addGive 60 = .ok (.aload_n 0, 1) := by decide +kernel
theorem dX4_addGive_61 : decode cX4_addGive 61 = .ok (.getfield 18, 3) := by decide +kernel
theorem dX4_addGive_64 : decode cX4_addGive 64 = .ok (.iload 4, 2) := by decide +kernel
theorem dX4_addGive_66 : decode cX4_addGive 66 = .ok (.laload, 1) := by decide +kernel
theorem dX4_addGive_67 : decode cX4_addGive 67 = .ok (.ldc2_w 55, 3) := by decide +kernel
theorem dX4_addGive_70 : decode cX4_addGive 70 = .ok (.lcmp, 1) := by decide +kernel
theorem dX4_addGive_71 : decode cX4_addGive 71 = .ok (.ifCond .eq 32, 3) := by decide +kernel
theorem dX4_addGive_74 : decode cX4_addGive 74 = .ok (.aload_n 0, 1) := by decide +kernel
theorem dX4_addGive_75 : decode cX4_addGive 75 = .ok (.getfield 18, 3) := by decide +kernel
theorem dX4_addGive_78 : decode cX4_addGive 78 = .ok (.iload_n 2, 1) := by decide +kernel
theorem dX4_addGive_79 : decode cX4_addGive 79 = .ok (.aload_n 0, 1) := by decide +kernel
theorem dX4_addGive_80 : decode cX4_addGive 80 = .ok (.getfield 18, 3) := by decide +kernel
theorem dX4_addGive_83 : decode cX4_addGive 83 = .ok (.iload_n 2, 1) := by decide +kernel
theorem dX4_addGive_84 : decode cX4_addGive 84 = .ok (.laload, 1) := by decide +kernel
theorem dX4_addGive_85 : decode cX4_addGive 85 = .ok (.aload_n 0, 1) := by decide +kernel
theorem dX4_addGive_86 : decode cX4_addGive 86 = .ok (.getfield 18, 3) := by decide +kernel
theorem dX4_addGive_89 : decode cX4_addGive 89 = .ok (.iload 4, 2) := by decide +kernel
theorem dX4_addGive_91 : decode cX4_addGive 91 = .ok (.laload, 1) := by decide +kernel
theorem dX4_addGive_92 : decode cX4_addGive 92 = .ok (.aload_n 0, 1) := by decide +kernel
theorem dX4_addGive_93 : decode cX4_addGive 93 = .ok (.getfield 22, 3) := by decide +kernel
theorem dX4_addGive_96 : decode cX4_addGive 96 = .ok (.iload_n 3, 1) := by decide +kernel
theorem dX4_addGive_97 : decode cX4_addGive 97 = .ok (.laload, 1) := by decide +kernel
theorem dX4_addGive_98 : decode cX4_addGive 98 = .ok (.ladd, 1) := by decide +kernel
theorem dX4_addGive_99 : decode cX4_addGive 99 = .ok (.invokestatic 65, 3) := by decide +kernel
theorem dX4_addGive_102 : decode cX4_addGive 102 = .ok (.lastore, 1) := by decide +kernel
theorem dX4_addGive_103 : decode cX4_addGive 103 = .ok (.iinc 3 1, 3) := by decide +kernel
theorem dX4_addGive_106 : decode cX4_addGive 106 = .ok (.goto (-88), 3) := by decide +kernel
theorem dX4_addGive_109 : decode cX4_addGive 109 = .ok (.iinc 2 (-1), 3) := by decide +kernel
theorem dX4_addGive_112 : decode cX4_addGive 112 = .ok (.goto (-100), 3) := by decide +kernel
theorem dX4_addGive_115 : decode cX4_addGive 115 = .ok (.return_, 1) := by decide +kernel
theorem dX4_shiftOf_0 : decode cX4_shiftOf 0 = .ok (.iconst 4, 1) := by decide +kernel
theorem dX4_shiftOf_1 : decode cX4_shiftOf 1 = .ok (.bipush 7, 2) := by decide +kernel
theorem dX4_shiftOf_3 : decode cX4_shiftOf 3 = .ok (.iload_n 0, 1) := by decide +kernel
theorem dX4_shiftOf_4 : decode cX4_shiftOf 4 = .ok (.isub, 1) := by decide +kernel
theorem dX4_shiftOf_5 : decode cX4_shiftOf 5 = .ok (.imul, 1) := by decide +kernel
theorem dX4_shiftOf_6 : decode cX4_shiftOf 6 = .ok (.ireturn, 1) := by decide +kernel
theorem dX4_takeFor_0 : decode cX4_takeFor 0 = .ok (.iload_n 1, 1) := by decide +kernel
theorem dX4_takeFor_1 : decode cX4_takeFor 1 = .ok (.ifCond .lt 11, 3) := by decide +kernel
theorem dX4_takeFor_4 : decode cX4_takeFor 4 = .ok (.iload_n 1, 1) := by decide +kernel
theorem dX4_takeFor_5 : decode cX4_takeFor 5 = .ok (.aload_n 0, 1) := by decide +kernel
theorem dX4_takeFor_6 : decode cX4_takeFor 6 = .ok (.getfield 25, 3) := by decide +kernel
theorem dX4_takeFor_9 : decode cX4_takeFor 9 = .ok (.if_icmp .lt 5, 3) := by decide +kernel
theorem dX4_takeFor_12 : decode cX4_takeFor 12 = .ok (.aconst_null, 1) := by decide +kernel
theorem dX4_takeFor_13 : decode cX4_takeFor 13 = .ok (.areturn, 1) := by decide +kernel
theorem dX4_takeFor_14 : decode cX4_takeFor 14 = .ok (.aload_n 0, 1) := by decide +kernel
theorem dX4_takeFor_15 : decode cX4_takeFor 15 = .ok (.getfield 32, 3) := by decide +kernel
theorem dX4_takeFor_18 : decode cX4_takeFor 18 = .ok (.iload_n 1, 1) := by decide +kernel
theorem dX4_takeFor_19 : decode cX4_takeFor 19 = .ok (.invokestatic 82, 3) := by decide +kernel
theorem dX4_takeFor_22 : decode cX4_takeFor 22 = .ok (.lshr, 1) := by decide +kernel
theorem dX4_takeFor_23 : decode cX4_takeFor 23 = .ok (.l2i, 1) := by decide +kernel
theorem dX4_takeFor_24 : decode cX4_takeFor 24 = .ok (.bipush 15, 2) := by decide +kernel
theorem dX4_takeFor_26 : decode cX4_takeFor 26 = .ok (.iand, 1) := by decide +kernel
theorem dX4_takeFor_27 : decode cX4_takeFor 27 = .ok (.istore_n 2, 1) := by decide +kernel
theorem dX4_takeFor_28 : decode cX4_takeFor 28 = .ok (.iload_n 2, 1) := by decide +kernel
theorem dX4_takeFor_29 : decode cX4_takeFor 29 = .ok (.ifCond .ne 7, 3) := by decide +kernel
theorem dX4_takeFor_32 : decode cX4_takeFor 32 = .ok (.aconst_null, 1) := by decide +kernel
theorem dX4_takeFor_33 : decode cX4_takeFor 33 = .ok (.goto 11, 3) := by decide +kernel
theorem dX4_takeFor_36 : decode cX4_takeFor 36 = .ok (.aload_n 0, 1) := by decide +kernel
theorem dX4_takeFor_37 : decode cX4_takeFor 37 = .ok (.bipush 8, 2) := by decide +kernel
theorem dX4_takeFor_39 : decode cX4_takeFor 39 = .ok (.iload_n 2, 1) := by decide +kernel
theorem dX4_takeFor_40 : decode cX4_takeFor 40 = .ok (.isub, 1) := by decide +kernel
theorem dX4_takeFor_41 : decode cX4_takeFor 41 = .ok (.invokevirtual 44, 3) := by decide +kernel
theorem dX4_takeFor_44 : decode cX4_takeFor 44 = .ok (.areturn, 1) := by decide +kernel
theorem dX5_init_0 : decode cX5_init 0 = .ok (.aload_n 0, 1) := by decide +kernel
theorem dX5_init_1 : decode cX5_init 1 = .ok (.invokespecial 1, 3) := by decide +kernel
theorem dX5_init_4 : decode cX5_init 4 = .ok (.aload_n 0, 1) := by decide +kernel
theorem dX5_init_5 : decode cX5_init 5 = .ok (.aload_n 1, 1) := by decide +kernel
theorem dX5_init_6 : decode cX5_init 6 = .ok (.putfield 7, 3) := by decide +kernel
theorem dX5_init_9 : decode cX5_init 9 = .ok (.aload_n 0, 1) := by decide +kernel
theorem dX5_init_10 : decode cX5_init 10 = .ok (.aload_n 2, 1) := by decide +kernel
theorem dX5_init_11 : decode cX5_init 11 = .ok (.putfield 13, 3) := by decide +kernel
theorem dX5_init_14 : decode cX5_init 14 = .ok (.aload_n 0, 1) := by decide +kernel
theorem dX5_init_15 : decode cX5_init 15 = .ok (.iload_n 3, 1) := by decide +kernel
theorem dX5_init_16 : decode cX5_init 16 = .ok (.putfield 16, 3) := by decide +kernel
theorem dX5_init_19 : decode cX5_init 19 = .ok (.return_, 1) := by decide +kernel
theorem dX5_isQuarrel_0 : decode cX5_isQuarrel 0 = .ok (.aload_n 0, 1) := by decide +kernel
theorem dX5_isQuarrel_1 : decode cX5_isQuarrel 1 = .ok (.getfield 7, 3) := by decide +kernel
theorem dX5_isQuarrel_4 : decode cX5_isQuarrel 4 = .ok (.getfield 20, 3) := by decide +kernel
theorem dX5_isQuarrel_7 : decode cX5_isQuarrel 7 = .ok (.aload_n 0, 1) := by decide +kernel
theorem dX5_isQuarrel_8 : decode cX5_isQuarrel 8 = .ok (.getfield 13, 3) := by decide +kernel
theorem dX5_isQuarrel_11 : decode cX5_isQuarrel 11 = .ok (.getfield 20, 3) := by decide +kernel
theorem dX5_isQuarrel_14 : decode cX5_isQuarrel 14 = .ok (.if_icmp .eq 7, 3) := by decide +kernel
theorem dX5_isQuarrel_17 : decode cX5_isQuarrel 17 = .ok (.iconst 1, 1) := by decide +kernel
theorem dX5_isQuarrel_18 : decode cX5_isQuarrel 18 = .ok (.goto 4, 3) := by decide +kernel
theorem dX5_isQuarrel_21 : decode cX5_isQuarrel 21 = .ok (.iconst 0, 1) := by decide +kernel
theorem dX5_isQuarrel_22 : decode cX5_isQuarrel 22 = .ok (.ireturn, 1) := by decide +kernel
theorem dX6_init_0 : decode cX6_init 0 = .ok (.aload_n 0, 1) := by decide +kernel
theorem dX6_init_1 : decode cX6_init 1 = .ok (.invokespecial 3, 3) := by decide +kernel
theorem dX6_init_4 : decode cX6_init 4 = .ok (.aload_n 0, 1) := by decide +kernel
theorem dX6_init_5 : decode cX6_init 5 = .ok (.iconst 0, 1) := by decide +kernel
theorem dX6_init_6 : decode cX6_init 6 = .ok (.putfield 9, 3) := by decide +kernel
theorem dX6_init_9 : decode cX6_init 9 = .ok (.aload_n 0, 1) := by decide +kernel
theorem dX6_init_10 : decode cX6_init 10 = .ok (.bipush (-9), 2) := by decide +kernel
end
section
theorem dX6_init_12 : decode cX6_init 12 = .ok (.putfield 15, 3) := by decide +kernel
theorem dX6_init_15 : decode cX6_init 15 = .ok (.aload_n 0, 1) := by decide +kernel
theorem dX6_init_16 : decode cX6_init 16 = .ok (.iload_n 1, 1) := by decide +kernel
theorem dX6_init_17 : decode cX6_init 17 = .ok (.putfield 18, 3) := by decide +kernel
theorem dX6_init_20 : decode cX6_init 20 = .ok (.aload_n 0, 1) := by decide +kernel
theorem dX6_init_21 : decode cX6_init 21 = .ok (.iload_n 2, 1) := by decide +kernel
theorem dX6_init_22 : decode cX6_init 22 = .ok (.putfield 21, 3) := by decide +kernel
theorem dX6_init_25 : decode cX6_init 25 = .ok (.aload_n 0, 1) := by decide +kernel
theorem dX6_init_26 : decode cX6_init 26 = .ok (.iload_n 3, 1) := by decide +kernel
theorem dX6_init_27 : decode cX6_init 27 = .ok (.putfield 25, 3) := by decide +kernel
theorem dX6_init_30 : decode cX6_init 30 = .ok (.aload_n 0, 1) := by decide +kernel
theorem dX6_init_31 : decode cX6_init 31 = .ok (.iload 4, 2) := by decide +kernel
theorem dX6_init_33 : decode cX6_init 33 = .ok (.putfield 28, 3) := by decide +kernel
theorem dX6_init_36 : decode cX6_init 36 = .ok (.aload_n 0, 1) := by decide +kernel
theorem dX6_init_37 : decode cX6_init 37 = .ok (.iload 5, 2) := by decide +kernel
theorem dX6_init_39 : decode cX6_init 39 = .ok (.putfield 31, 3) := by decide +kernel
theorem dX6_init_42 : decode cX6_init 42 = .ok (.aload_n 0, 1) := by decide +kernel
theorem dX6_init_43 : decode cX6_init 43 = .ok (.iload 6, 2) := by decide +kernel
theorem dX6_init_45 : decode cX6_init 45 = .ok (.putfield 34, 3) := by decide +kernel
theorem dX6_init_48 : decode cX6_init 48 = .ok (.aload_n 0, 1) := by decide +kernel
theorem dX6_init_49 : decode cX6_init 49 = .ok (.iload 7, 2) := by decide +kernel
theorem dX6_init_51 : decode cX6_init 51 = .ok (.putfield 37, 3) := by decide +kernel
theorem dX6_init_54 : decode cX6_init 54 = .ok (.return_, 1) := by decide +kernel
theorem dX6_group_0 : decode cX6_group 0 = .ok (.aload_n 0, 1) := by decide +kernel
theorem dX6_group_1 : decode cX6_group 1 = .ok (.getfield 25, 3) := by decide +kernel
theorem dX6_group_4 : decode cX6_group 4 = .ok (.bipush 10, 2) := by decide +kernel
theorem dX6_group_6 : decode cX6_group 6 = .ok (.imul, 1) := by decide +kernel
theorem dX6_group_7 : decode cX6_group 7 = .ok (.aload_n 0, 1) := by decide +kernel
theorem dX6_group_8 : decode cX6_group 8 = .ok (.getfield 28, 3) := by decide +kernel
theorem dX6_group_11 : decode cX6_group 11 = .ok (.iadd, 1) := by decide +kernel
theorem dX6_group_12 : decode cX6_group 12 = .ok (.bipush 6, 2) := by decide +kernel
theorem dX6_group_14 : decode cX6_group 14 = .ok (.imul, 1) := by decide +kernel
theorem dX6_group_15 : decode cX6_group 15 = .ok (.aload_n 0, 1) := by decide +kernel
theorem dX6_group_16 : decode cX6_group 16 = .ok (.getfield 31, 3) := by decide +kernel
theorem dX6_group_19 : decode cX6_group 19 = .ok (.iadd, 1) := by decide +kernel
theorem dX6_group_20 : decode cX6_group 20 = .ok (.ireturn, 1) := by decide +kernel
theorem dX6_isNear_0 : decode cX6_isNear 0 = .ok (.aload_n 0, 1) := by decide +kernel
theorem dX6_isNear_1 : decode cX6_isNear 1 = .ok (.getfield 37, 3) := by decide +kernel
theorem dX6_isNear_4 : decode cX6_isNear 4 = .ok (.aload_n 1, 1) := by decide +kernel
theorem dX6_isNear_5 : decode cX6_isNear 5 = .ok (.getfield 37, 3) := by decide +kernel
theorem dX6_isNear_8 : decode cX6_isNear 8 = .ok (.isub, 1) := by decide +kernel
theorem dX6_isNear_9 : decode cX6_isNear 9 = .ok (.invokestatic 40, 3) := by decide +kernel
theorem dX6_isNear_12 : decode cX6_isNear 12 = .ok (.iconst 3, 1) := by decide +kernel
theorem dX6_isNear_13 : decode cX6_isNear 13 = .ok (.if_icmp .gt 7, 3) := by decide +kernel
theorem dX6_isNear_16 : decode cX6_isNear 16 = .ok (.iconst 1, 1) := by decide +kernel
theorem dX6_isNear_17 : decode cX6_isNear 17 = .ok (.goto 4, 3) := by decide +kernel
theorem dX6_isNear_20 : decode cX6_isNear 20 = .ok (.iconst 0, 1) := by decide +kernel
theorem dX6_isNear_21 : decode cX6_isNear 21 = .ok (.ireturn, 1) := by decide +kernel
theorem dX7_init_0 : decode cX7_init 0 = .ok (.aload_n 0, 1) := by decide +kernel
theorem dX7_init_1 : decode cX7_init 1 = .ok (.invokespecial 3, 3) := by decide +kernel
theorem dX7_init_4 : decode cX7_init 4 = .ok (.aload_n 0, 1) := by decide +kernel
theorem dX7_init_5 : decode cX7_init 5 = .ok (.bipush 6, 2) := by decide +kernel
theorem dX7_init_7 : decode cX7_init 7 = .ok (.newarray .int, 2) := by decide +kernel
theorem dX7_init_9 : decode cX7_init 9 = .ok (.putfield 9, 3) := by decide +kernel
theorem dX7_init_12 : decode cX7_init 12 = .ok (.aload_n 0, 1) := by decide +kernel
theorem dX7_init_13 : decode cX7_init 13 = .ok (.bipush 6, 2) := by decide +kernel
theorem dX7_init_15 : decode cX7_init 15 = .ok (.newarray .int, 2) := by decide +kernel
theorem dX7_init_17 : decode cX7_init 17 = .ok (.putfield 13, 3) := by decide +kernel
theorem dX7_init_20 : decode cX7_init 20 = .ok (.aload_n 0, 1) := by decide +kernel
theorem dX7_init_21 : decode cX7_init 21 = .ok (.bipush 6, 2) := by decide +kernel
theorem dX7_init_23 : decode cX7_init 23 = .ok (.newarray .int, 2) := by decide +kernel
theorem dX7_init_25 : decode cX7_init 25 = .ok (.putfield 16, 3) := by decide +kernel
theorem dX7_init_28 : decode cX7_init 28 = .ok (.aload_n 0, 1) := by decide +kernel
theorem dX7_init_29 : decode cX7_init 29 = .ok (.bipush 6, 2) := by decide +kernel
theorem dX7_init_31 : decode cX7_init 31 = .ok (.newarray .int, 2) := by decide +kernel
theorem dX7_init_33 : decode cX7_init 33 = .ok (.putfield 19, 3) := by decide +kernel
theorem dX7_init_36 : decode cX7_init 36 = .ok (.aload_n 0, 1) := by decide +kernel
theorem dX7_init_37 : decode cX7_init 37 = .ok (.bipush 60, 2) := by decide +kernel
theorem dX7_init_39 : decode cX7_init 39 = .ok (.newarray .int, 2) := by decide +kernel
theorem dX7_init_41 : decode cX7_init 41 = .ok (.putfield 22, 3) := by decide +kernel
theorem dX7_init_44 : decode cX7_init 44 = .ok (.aload_n 0, 1) := by decide +kernel
theorem dX7_init_45 : decode cX7_init 45 = .ok (.bipush 7, 2) := by decide +kernel
theorem dX7_init_47 : decode cX7_init 47 = .ok (.newarray .int, 2) := by decide +kernel
theorem dX7_init_49 : decode cX7_init 49 = .ok (.putfield 25, 3) := by decide +kernel
theorem dX7_init_52 : decode cX7_init 52 = .ok (.aload_n 0, 1) := by decide +kernel
theorem dX7_init_53 : decode cX7_init 53 = .ok (.sipush 200, 3) := by decide +kernel
theorem dX7_init_56 : decode cX7_init 56 = .ok (.newarray .long, 2) := by decide +kernel
theorem dX7_init_58 : decode cX7_init 58 = .ok (.putfield 28, 3) := by decide +kernel
theorem dX7_init_61 : decode cX7_init 61 = .ok (.aload_n 0, 1) := by decide +kernel
theorem dX7_init_62 : decode cX7_init 62 = .ok (.new 32, 3) := by decide +kernel
theorem dX7_init_65 : decode cX7_init 65 = .ok (.dup, 1) := by decide +kernel
theorem dX7_init_66 : decode cX7_init 66 = .ok (.invokespecial 34, 3) := by decide +kernel
theorem dX7_init_69 : decode cX7_init 69 = .ok (.putfield 35, 3) := by decide +kernel
theorem dX7_init_72 : decode cX7_init 72 = .ok (.aload_n 0, 1) := by decide +kernel
theorem dX7_init_73 : decode cX7_init 73 = .ok (.new 39, 3) := by decide +kernel
theorem dX7_init_76 : decode cX7_init 76 = .ok (.dup, 1) := by decide +kernel
theorem dX7_init_77 : decode cX7_init 77 = .ok (.invokespecial 41, 3) := by decide +kernel
theorem dX7_init_80 : decode cX7_init 80 = .ok (.putfield 42, 3) := by decide +kernel
theorem dX7_init_83 : decode cX7_init 83 = .ok (.aload_n 0, 1) := by decide +kernel
theorem dX7_init_84 : decode cX7_init 84 = .ok (.new 46, 3) := by decide +kernel
theorem dX7_init_87 : decode cX7_init 87 = .ok (.dup, 1) := by decide +kernel
theorem dX7_init_88 : decode cX7_init 88 = .ok (.invokespecial 48, 3) := by decide +kernel
theorem dX7_init_91 : decode cX7_init 91 = .ok (.putfield 49, 3) := by decide +kernel
theorem dX7_init_94 : decode cX7_init 94 = .ok (.aload_n 0, 1) := by decide +kernel
theorem dX7_init_95 : decode cX7_init 95 = .ok (.new 53, 3) := by decide +kernel
theorem dX7_init_98 : decode cX7_init 98 = .ok (.dup, 1) := by decide +kernel
theorem dX7_init_99 : decode cX7_init 99 = .ok (.invokespecial 55, 3) := by decide +kernel
theorem dX7_init_102 : decode cX7_init 102 = .ok (.putfield 56, 3) := by decide +kernel
theorem dX7_init_105 : decode cX7_init 105 = .ok (.aload_n 0, 1) := by decide +kernel
theorem dX7_init_106 : decode cX7_init 106 = .ok (.iconst 0, 1) := by decide +kernel
theorem dX7_init_107 : decode cX7_init 107 = .ok (.putfield 60, 3) := by decide +kernel
theorem dX7_init_110 : decode cX7_init 110 = .ok (.aload_n 0, 1) := by decide +kernel
theorem dX7_init_111 : decode cX7_init 111 = .ok (.iconst 0, 1) := by decide +kernel
theorem dX7_init_112 : decode cX7_init 112 = .ok (.putfield 64, 3) := by decide +kernel
theorem dX7_init_115 : decode cX7_init 115 = .ok (.aload_n 0, 1) := by decide +kernel
theorem dX7_init_116 : decode cX7_init 116 = .ok (.iconst 0, 1) := by decide +kernel
theorem dX7_init_117 : decode cX7_init 117 = .ok (.putfield 67, 3) := by decide +kernel
theorem dX7_init_120 : decode cX7_init 120 = .ok (.aload_n 0, 1) := by decide +kernel
theorem dX7_init_121 : decode cX7_init 121 = .ok (.iconst 0, 1) := by decide +kernel
theorem dX7_init_122 : decode cX7_init 122 = .ok (.putfield 70, 3) := by decide +kernel
theorem dX7_init_125 : decode cX7_init 125 = .ok (.return_, 1) := by decide +kernel
theorem dX7_house_0 : decode cX7_house 0 = .ok (.aload_n 0, 1) := by decide +kernel
theorem dX7_house_1 : decode cX7_house 1 = .ok (.getfield 64, 3) := by decide +kernel
theorem dX7_house_4 : decode cX7_house 4 = .ok (.bipush 10, 2) := by decide +kernel
theorem dX7_house_6 : decode cX7_house 6 = .ok (.if_icmp .lt 10, 3) := by decide +kernel
theorem dX7_house_9 : decode cX7_house 9 = .ok (.aload_n 0, 1) := by decide +kernel
theorem dX7_house_10 : decode cX7_house 10 = .ok (.bipush (-6), 2) := by decide +kernel
theorem dX7_house_12 : decode cX7_house 12 = .ok (.invokevirtual 73, 3) := by decide +kernel
theorem dX7_house_15 : decode cX7_house 15 = .ok (.ireturn, 1) := by decide +kernel
theorem dX7_house_16 : decode cX7_house 16 = .ok (.aload_n 0, 1) := by decide +kernel
theorem dX7_house_17 : decode cX7_house 17 = .ok (.dup, 1) := by decide +kernel
theorem dX7_house_18 : decode cX7_house 18 = .ok (.getfield 64, 3) := by decide +kernel
theorem dX7_house_21 : decode cX7_house 21 = .ok (.iconst 1, 1) := by decide +kernel
theorem dX7_house_22 : decode cX7_house 22 = .ok (.iadd, 1) := by decide +kernel
theorem dX7_house_23 : decode cX7_house 23 = .ok (.putfield 64, 3) := by decide +kernel
theorem dX7_house_26 : decode cX7_house 26 = .ok (.aload_n 0, 1) := by decide +kernel
theorem dX7_house_27 : decode cX7_house 27 = .ok (.getfield 64, 3) := by decide +kernel
theorem dX7_house_30 : decode cX7_house 30 = .ok (.iconst 1, 1) := by decide +kernel
theorem dX7_house_31 : decode cX7_house 31 = .ok (.isub, 1) := by decide +kernel
theorem dX7_house_32 : decode cX7_house 32 = .ok (.ireturn, 1) := by decide +kernel
theorem dX7_kind_0 : decode cX7_kind 0 = .ok (.iload_n 1, 1) := by decide +kernel
theorem dX7_kind_1 : decode cX7_kind 1 = .ok (.iconst 1, 1) := by decide +kernel
theorem dX7_kind_2 : decode cX7_kind 2 = .ok (.if_icmp .lt 7, 3) := by decide +kernel
theorem dX7_kind_5 : decode cX7_kind 5 = .ok (.iload_n 2, 1) := by decide +kernel
theorem dX7_kind_6 : decode cX7_kind 6 = .ok (.ifCond .ge 10, 3) := by decide +kernel
theorem dX7_kind_9 : decode cX7_kind 9 = .ok (.aload_n 0, 1) := by decide +kernel
theorem dX7_kind_10 : decode cX7_kind 10 = .ok (.bipush (-4), 2) := by decide +kernel
theorem dX7_kind_12 : decode cX7_kind 12 = .ok (.invokevirtual 73, 3) := by decide +kernel
theorem dX7_kind_15 : decode cX7_kind 15 = .ok (.ireturn, 1) := by decide +kernel
theorem dX7_kind_16 : decode cX7_kind 16 = .ok (.iload_n 1, 1) := by decide +kernel
theorem dX7_kind_17 : decode cX7_kind 17 = .ok (.sipush 1000, 3) := by decide +kernel
theorem dX7_kind_20 : decode cX7_kind 20 = .ok (.if_icmp .gt 18, 3) := by decide +kernel
theorem dX7_kind_23 : decode cX7_kind 23 = .ok (.iload_n 2, 1) := by decide +kernel
theorem dX7_kind_24 : decode cX7_kind 24 = .ok (.bipush 100, 2) := by decide +kernel
theorem dX7_kind_26 : decode cX7_kind 26 = .ok (.if_icmp .gt 12, 3) := by decide +kernel
theorem dX7_kind_29 : decode cX7_kind 29 = .ok (.aload_n 0, 1) := by decide +kernel
theorem dX7_kind_30 : decode cX7_kind 30 = .ok (.getfield 67, 3) := by decide +kernel
theorem dX7_kind_33 : decode cX7_kind 33 = .ok (.bipush 6, 2) := by decide +kernel
theorem dX7_kind_35 : decode cX7_kind 35 = .ok (.if_icmp .lt 10, 3) := by decide +kernel
theorem dX7_kind_38 : decode cX7_kind 38 = .ok (.aload_n 0, 1) := by decide +kernel
theorem dX7_kind_39 : decode cX7_kind 39 = .ok (.bipush (-6), 2) := by decide +kernel
theorem dX7_kind_41 : decode cX7_kind 41 = .ok (.invokevirtual 73, 3) := by decide +kernel
theorem dX7_kind_44 : decode cX7_kind 44 = .ok (.ireturn, 1) := by decide +kernel
theorem dX7_kind_45 : decode cX7_kind 45 = .ok (.aload_n 0, 1) := by decide +kernel
theorem dX7_kind_46 : decode cX7_kind 46 = .ok (.getfield 9, 3) := by decide +kernel
theorem dX7_kind_49 : decode cX7_kind 49 = .ok (.aload_n 0, 1) := by decide +kernel
theorem dX7_kind_50 : decode cX7_kind 50 = .ok (.getfield 67, 3) := by decide +kernel
theorem dX7_kind_53 : decode cX7_kind 53 = .ok (.iload_n 1, 1) := by decide +kernel
theorem dX7_kind_54 : decode cX7_kind 54 = .ok (.iastore, 1) := by decide +kernel
theorem dX7_kind_55 : decode cX7_kind 55 = .ok (.aload_n 0, 1) := by decide +kernel
theorem dX7_kind_56 : decode cX7_kind 56 = .ok (.getfield 13, 3) := by decide +kernel
theorem dX7_kind_59 : decode cX7_kind 59 = .ok (.aload_n 0, 1) := by decide +kernel
theorem dX7_kind_60 : decode cX7_kind 60 = .ok (.getfield 67, 3) := by decide +kernel
theorem dX7_kind_63 : decode cX7_kind 63 = .ok (.iload_n 2, 1) := by decide +kernel
theorem dX7_kind_64 : decode cX7_kind 64 = .ok (.iastore, 1) := by decide +kernel
theorem dX7_kind_65 : decode cX7_kind 65 = .ok (.aload_n 0, 1) := by decide +kernel
theorem dX7_kind_66 : decode cX7_kind 66 = .ok (.dup, 1) := by decide +kernel
theorem dX7_kind_67 : decode cX7_kind 67 = .ok (.getfield 67, 3) := by decide +kernel
theorem dX7_kind_70 : decode cX7_kind 70 = .ok (.iconst 1, 1) := by decide +kernel
theorem dX7_kind_71 : decode cX7_kind 71 = .ok (.iadd, 1) := by decide +kernel
theorem dX7_kind_72 : decode cX7_kind 72 = .ok (.putfield 67, 3) := by decide +kernel
theorem dX7_kind_75 : decode cX7_kind 75 = .ok (.aload_n 0, 1) := by decide +kernel
theorem dX7_kind_76 : decode cX7_kind 76 = .ok (.getfield 67, 3) := by decide +kernel
theorem dX7_kind_79 : decode cX7_kind 79 = .ok (.iconst 1, 1) := by decide +kernel
theorem dX7_kind_80 : decode cX7_kind 80 = .ok (.isub, 1) := by decide +kernel
theorem dX7_kind_81 : decode cX7_kind 81 = .ok (.ireturn, 1) := by decide +kernel
theorem dX7_days_0 : decode cX7_days 0 = .ok (.iload_n 1, 1) := by decide +kernel
theorem dX7_days_1 : decode cX7_days 1 = .ok (.iconst 1, 1) := by decide +kernel
theorem dX7_days_2 : decode cX7_days 2 = .ok (.if_icmp .ge 10, 3) := by decide +kernel
theorem dX7_days_5 : decode cX7_days 5 = .ok (.aload_n 0, 1) := by decide +kernel
theorem dX7_days_6 : decode cX7_days 6 = .ok (.bipush (-4), 2) := by decide +kernel
theorem dX7_days_8 : decode cX7_days 8 = .ok (.invokevirtual 73, 3) := by decide +kernel
theorem dX7_days_11 : decode cX7_days 11 = .ok (.ireturn, 1) := by decide +kernel
theorem dX7_days_12 : decode cX7_days 12 = .ok (.iload_n 1, 1) := by decide +kernel
theorem dX7_days_13 : decode cX7_days 13 = .ok (.sipush 599, 3) := by decide +kernel
theorem dX7_days_16 : decode cX7_days 16 = .ok (.aload_n 0, 1) := by decide +kernel
theorem dX7_days_17 : decode cX7_days 17 = .ok (.getfield 60, 3) := by decide +kernel
theorem dX7_days_20 : decode cX7_days 20 = .ok (.isub, 1) := by decide +kernel
theorem dX7_days_21 : decode cX7_days 21 = .ok (.if_icmp .le 10, 3) := by decide +kernel
theorem dX7_days_24 : decode cX7_days 24 = .ok (.aload_n 0, 1) := by decide +kernel
theorem dX7_days_25 : decode cX7_days 25 = .ok (.bipush (-6), 2) := by decide +kernel
theorem dX7_days_27 : decode cX7_days 27 = .ok (.invokevirtual 73, 3) := by decide +kernel
theorem dX7_days_30 : decode cX7_days 30 = .ok (.ireturn, 1) := by decide +kernel
theorem dX7_days_31 : decode cX7_days 31 = .ok (.aload_n 0, 1) := by decide +kernel
theorem dX7_days_32 : decode cX7_days 32 = .ok (.dup, 1) := by decide +kernel
theorem dX7_days_33 : decode cX7_days 33 = .ok (.getfield 60, 3) := by decide +kernel
theorem dX7_days_36 : decode cX7_days 36 = .ok (.iload_n 1, 1) := by decide +kernel
theorem dX7_days_37 : decode cX7_days 37 = .ok (.iadd, 1) := by decide +kernel
theorem dX7_days_38 : decode cX7_days 38 = .ok (.putfield 60, 3) := by decide +kernel
theorem dX7_days_41 : decode cX7_days 41 = .ok (.aload_n 0, 1) := by decide +kernel
theorem dX7_days_42 : decode cX7_days 42 = .ok (.getfield 60, 3) := by decide +kernel
theorem dX7_days_45 : decode cX7_days 45 = .ok (.ireturn, 1) := by decide +kernel
theorem dX7_buy_0 : decode cX7_buy 0 = .ok (.aload_n 0, 1) := by decide +kernel
theorem dX7_buy_1 : decode cX7_buy 1 = .ok (.iload_n 1, 1) := by decide +kernel
theorem dX7_buy_2 : decode cX7_buy 2 = .ok (.invokevirtual 77, 3) := by decide +kernel
theorem dX7_buy_5 : decode cX7_buy 5 = .ok (.ifCond .eq 11, 3) := by decide +kernel
theorem dX7_buy_8 : decode cX7_buy 8 = .ok (.aload_n 0, 1) := by decide +kernel
theorem dX7_buy_9 : decode cX7_buy 9 = .ok (.iload_n 2, 1) := by decide +kernel
theorem dX7_buy_10 : decode cX7_buy 10 = .ok (.invokevirtual 81, 3) := by decide +kernel
theorem dX7_buy_13 : decode cX7_buy 13 = .ok (.ifCond .ne 9, 3) := by decide +kernel
theorem dX7_buy_16 : decode cX7_buy 16 = .ok (.aload_n 0, 1) := by decide +kernel
theorem dX7_buy_17 : decode cX7_buy 17 = .ok (.iconst (-1), 1) := by decide +kernel
theorem dX7_buy_18 : decode cX7_buy 18 = .ok (.invokevirtual 84, 3) := by decide +kernel
theorem dX7_buy_21 : decode cX7_buy 21 = .ok (.ireturn, 1) := by decide +kernel
theorem dX7_buy_22 : decode cX7_buy 22 = .ok (.iload_n 3, 1) := by decide +kernel
theorem dX7_buy_23 : decode cX7_buy 23 = .ok (.iconst 1, 1) := by decide +kernel
theorem dX7_buy_24 : decode cX7_buy 24 = .ok (.if_icmp .ge 10, 3) := by decide +kernel
theorem dX7_buy_27 : decode cX7_buy 27 = .ok (.aload_n 0, 1) := by decide +kernel
theorem dX7_buy_28 : decode cX7_buy 28 = .ok (.bipush (-4), 2) := by decide +kernel
theorem dX7_buy_30 : decode cX7_buy 30 = .ok (.invokevirtual 84, 3) := by decide +kernel
theorem dX7_buy_33 : decode cX7_buy 33 = .ok (.ireturn, 1) := by decide +kernel
theorem dX7_buy_34 : decode cX7_buy 34 = .ok (.iload_n 3, 1) := by decide +kernel
theorem dX7_buy_35 : decode cX7_buy 35 = .ok (.sipush 1000, 3) := by decide +kernel
theorem dX7_buy_38 : decode cX7_buy 38 = .ok (.if_icmp .gt 14, 3) := by decide +kernel
theorem dX7_buy_41 : decode cX7_buy 41 = .ok (.aload_n 0, 1) := by decide +kernel
theorem dX7_buy_42 : decode cX7_buy 42 = .ok (.getfield 35, 3) := by decide +kernel
theorem dX7_buy_45 : decode cX7_buy 45 = .ok (.invokevirtual 87, 3) := by decide +kernel
theorem dX7_buy_48 : decode cX7_buy 48 = .ok (.iconst 1, 1) := by decide +kernel
theorem dX7_buy_49 : decode cX7_buy 49 = .ok (.if_icmp .ge 10, 3) := by decide +kernel
theorem dX7_buy_52 : decode cX7_buy 52 = .ok (.aload_n 0, 1) := by decide +kernel
theorem dX7_buy_53 : decode cX7_buy 53 = .ok (.bipush (-6), 2) := by decide +kernel
theorem dX7_buy_55 : decode cX7_buy 55 = .ok (.invokevirtual 84, 3) := by decide +kernel
theorem dX7_buy_58 : decode cX7_buy 58 = .ok (.ireturn, 1) := by decide +kernel
theorem dX7_buy_59 : decode cX7_buy 59 = .ok (.aload_n 0, 1) := by decide +kernel
theorem dX7_buy_60 : decode cX7_buy 60 = .ok (.getfield 35, 3) := by decide +kernel
theorem dX7_buy_63 : decode cX7_buy 63 = .ok (.iload_n 1, 1) := by decide +kernel
theorem dX7_buy_64 : decode cX7_buy 64 = .ok (.iload_n 2, 1) := by decide +kernel
theorem dX7_buy_65 : decode cX7_buy 65 = .ok (.aload_n 0, 1) := by decide +kernel
theorem dX7_buy_66 : decode cX7_buy 66 = .ok (.getfield 60, 3) := by decide +kernel
theorem dX7_buy_69 : decode cX7_buy 69 = .ok (.iload_n 3, 1) := by decide +kernel
theorem dX7_buy_70 : decode cX7_buy 70 = .ok (.invokevirtual 91, 3) := by decide +kernel
theorem dX7_buy_73 : decode cX7_buy 73 = .ok (.aload_n 0, 1) := by decide +kernel
theorem dX7_buy_74 : decode cX7_buy 74 = .ok (.getfield 16, 3) := by decide +kernel
theorem dX7_buy_77 : decode cX7_buy 77 = .ok (.iload_n 2, 1) := by decide +kernel
theorem dX7_buy_78 : decode cX7_buy 78 = .ok (.dup2, 1) := by decide +kernel
theorem dX7_buy_79 : decode cX7_buy 79 = .ok (.iaload, 1) := by decide +kernel
theorem dX7_buy_80 : decode cX7_buy 80 = .ok (.iload_n 3, 1) := by decide +kernel
theorem dX7_buy_81 : decode cX7_buy 81 = .ok (.iadd, 1) := by decide +kernel
theorem dX7_buy_82 : decode cX7_buy 82 = .ok (.iastore, 1) := by decide +kernel
theorem dX7_buy_83 : decode cX7_buy 83 = .ok (.aload_n 0, 1) := by decide +kernel
theorem dX7_buy_84 : decode cX7_buy 84 = .ok (.getfield 35, 3) := by decide +kernel
theorem dX7_buy_87 : decode cX7_buy 87 = .ok (.iload_n 1, 1) := by decide +kernel
theorem dX7_buy_88 : decode cX7_buy 88 = .ok (.iload_n 2, 1) := by decide +kernel
theorem dX7_buy_89 : decode cX7_buy 89 = .ok (.aload_n 0, 1) := by decide +kernel
theorem dX7_buy_90 : decode cX7_buy 90 = .ok (.getfield 60, 3) := by decide +kernel
theorem dX7_buy_93 : decode cX7_buy 93 = .ok (.invokevirtual 95, 3) := by decide +kernel
theorem dX7_buy_96 : decode cX7_buy 96 = .ok (.ireturn, 1) := by decide +kernel
theorem dX7_scrap_0 : decode cX7_scrap 0 = .ok (.aload_n 0, 1) := by decide +kernel
theorem dX7_scrap_1 : decode cX7_scrap 1 = .ok (.iload_n 1, 1) := by decide +kernel
theorem dX7_scrap_2 : decode cX7_scrap 2 = .ok (.invokevirtual 77, 3) := by decide +kernel
theorem dX7_scrap_5 : decode cX7_scrap 5 = .ok (.ifCond .eq 11, 3) := by decide +kernel
theorem dX7_scrap_8 : decode cX7_scrap 8 = .ok (.aload_n 0, 1) := by decide +kernel
theorem dX7_scrap_9 : decode cX7_scrap 9 = .ok (.iload_n 2, 1) := by decide +kernel
theorem dX7_scrap_10 : decode cX7_scrap 10 = .ok (.invokevirtual 81, 3) := by decide +kernel
theorem dX7_scrap_13 : decode cX7_scrap 13 = .ok (.ifCond .ne 9, 3) := by decide +kernel
theorem dX7_scrap_16 : decode cX7_scrap 16 = .ok (.aload_n 0, 1) := by decide +kernel
theorem dX7_scrap_17 : decode cX7_scrap 17 = .ok (.iconst (-1), 1) := by decide +kernel
theorem dX7_scrap_18 : decode cX7_scrap 18 = .ok (.invokevirtual 84, 3) := by decide +kernel
theorem dX7_scrap_21 : decode cX7_scrap 21 = .ok (.ireturn, 1) := by decide +kernel
theorem dX7_scrap_22 : decode cX7_scrap 22 = .ok (.iload_n 3, 1) := by decide +kernel
theorem dX7_scrap_23 : decode cX7_scrap 23 = .ok (.iconst 1, 1) := by decide +kernel
theorem dX7_scrap_24 : decode cX7_scrap 24 = .ok (.if_icmp .ge 10, 3) := by decide +kernel
theorem dX7_scrap_27 : decode cX7_scrap 27 = .ok (.aload_n 0, 1) := by decide +kernel
theorem dX7_scrap_28 : decode cX7_scrap 28 = .ok (.bipush (-4), 2) := by decide +kernel
theorem dX7_scrap_30 : decode cX7_scrap 30 = .ok (.invokevirtual 84, 3) := by decide +kernel
theorem dX7_scrap_33 : decode cX7_scrap 33 = .ok (.ireturn, 1) := by decide +kernel
theorem dX7_scrap_34 : decode cX7_scrap 34 = .ok (.iload_n 3, 1) := by decide +kernel
theorem dX7_scrap_35 : decode cX7_scrap 35 = .ok (.aload_n 0, 1) := by decide +kernel
theorem dX7_scrap_36 : decode cX7_scrap 36 = .ok (.getfield 35, 3) := by decide +kernel
theorem dX7_scrap_39 : decode cX7_scrap 39 = .ok (.iload_n 1, 1) := by decide +kernel
theorem dX7_scrap_40 : decode cX7_scrap 40 = .ok (.iload_n 2, 1) := by decide +kernel
theorem dX7_scrap_41 : decode cX7_scrap 41 = .ok (.aload_n 0, 1) := by decide +kernel
theorem dX7_scrap_42 : decode cX7_scrap 42 = .ok (.getfield 60, 3) := by decide +kernel
theorem dX7_scrap_45 : decode cX7_scrap 45 = .ok (.invokevirtual 95, 3) := by decide +kernel
theorem dX7_scrap_48 : decode cX7_scrap 48 = .ok (.if_icmp .le 10, 3) := by decide +kernel
theorem dX7_scrap_51 : decode cX7_scrap 51 = .ok (.aload_n 0, 1) := by decide +kernel
theorem dX7_scrap_52 : decode cX7_scrap 52 = .ok (.bipush (-5), 2) := by decide +kernel
theorem dX7_scrap_54 : decode cX7_scrap 54 = .ok (.invokevirtual 84, 3) := by decide +kernel
theorem dX7_scrap_57 : decode cX7_scrap 57 = .ok (.ireturn, 1) := by decide +kernel
theorem dX7_scrap_58 : decode cX7_scrap 58 = .ok (.aload_n 0, 1) := by decide +kernel
theorem dX7_scrap_59 : decode cX7_scrap 59 = .ok (.getfield 35, 3) := by decide +kernel
theorem dX7_scrap_62 : decode cX7_scrap 62 = .ok (.invokevirtual 87, 3) := by decide +kernel
theorem dX7_scrap_65 : decode cX7_scrap 65 = .ok (.iconst 1, 1) := by decide +kernel
theorem dX7_scrap_66 : decode cX7_scrap 66 = .ok (.if_icmp .ge 10, 3) := by decide +kernel
theorem dX7_scrap_69 : decode cX7_scrap 69 = .ok (.aload_n 0, 1) := by decide +kernel
theorem dX7_scrap_70 : decode cX7_scrap 70 = .ok (.bipush (-6), 2) := by decide +kernel
theorem dX7_scrap_72 : decode cX7_scrap 72 = .ok (.invokevirtual 84, 3) := by decide +kernel
theorem dX7_scrap_75 : decode cX7_scrap 75 = .ok (.ireturn, 1) := by decide +kernel
theorem dX7_scrap_76 : decode cX7_scrap 76 = .ok (.aload_n 0, 1) := by decide +kernel
theorem dX7_scrap_77 : decode cX7_scrap 77 = .ok (.getfield 35, 3) := by decide +kernel
theorem dX7_scrap_80 : decode cX7_scrap 80 = .ok (.iload_n 1, 1) := by decide +kernel
theorem dX7_scrap_81 : decode cX7_scrap 81 = .ok (.iload_n 2, 1) := by decide +kernel
theorem dX7_scrap_82 : decode cX7_scrap 82 = .ok (.aload_n 0, 1) := by decide +kernel
theorem dX7_scrap_83 : decode cX7_scrap 83 = .ok (.getfield 60, 3) := by decide +kernel
theorem dX7_scrap_86 : decode cX7_scrap 86 = .ok (.iload_n 3, 1) := by decide +kernel
theorem dX7_scrap_87 : decode cX7_scrap 87 = .ok (.ineg, 1) := by decide +kernel
theorem dX7_scrap_88 : decode cX7_scrap 88 = .ok (.invokevirtual 91, 3) := by decide +kernel
theorem dX7_scrap_91 : decode cX7_scrap 91 = .ok (.aload_n 0, 1) := by decide +kernel
theorem dX7_scrap_92 : decode cX7_scrap 92 = .ok (.getfield 19, 3) := by decide +kernel
theorem dX7_scrap_95 : decode cX7_scrap 95 = .ok (.iload_n 2, 1) := by decide +kernel
theorem dX7_scrap_96 : decode cX7_scrap 96 = .ok (.dup2, 1) := by decide +kernel
theorem dX7_scrap_97 : decode cX7_scrap 97 = .ok (.iaload, 1) := by decide +kernel
theorem dX7_scrap_98 : decode cX7_scrap 98 = .ok (.iload_n 3, 1) := by decide +kernel
theorem dX7_scrap_99 : decode cX7_scrap 99 = .ok (.iadd, 1) := by decide +kernel
theorem dX7_scrap_100 : decode cX7_scrap 100 = .ok (.iastore, 1) := by decide +kernel
theorem dX7_scrap_101 : decode cX7_scrap 101 = .ok (.aload_n 0, 1) := by decide +kernel
theorem dX7_scrap_102 : decode cX7_scrap 102 = .ok (.getfield 35, 3) := by decide +kernel
theorem dX7_scrap_105 : decode cX7_scrap 105 = .ok (.iload_n 1, 1) := by decide +kernel
theorem dX7_scrap_106 : decode cX7_scrap 106 = .ok (.iload_n 2, 1) := by decide +kernel
theorem dX7_scrap_107 : decode cX7_scrap 107 = .ok (.aload_n 0, 1) := by decide +kernel
theorem dX7_scrap_108 : decode cX7_scrap 108 = .ok (.getfield 60, 3) := by decide +kernel
theorem dX7_scrap_111 : decode cX7_scrap 111 = .ok (.invokevirtual 95, 3) := by decide +kernel
theorem dX7_scrap_114 : decode cX7_scrap 114 = .ok (.ireturn, 1) := by decide +kernel
theorem dX7_tell_0 : decode cX7_tell 0 = .ok (.aload_n 0, 1) := by decide +kernel
theorem dX7_tell_1 : decode cX7_tell 1 = .ok (.iload_n 2, 1) := by decide +kernel
theorem dX7_tell_2 : decode cX7_tell 2 = .ok (.iload_n 3, 1) := by decide +kernel
theorem dX7_tell_3 : decode cX7_tell 3 = .ok (.invokevirtual 99, 3) := by decide +kernel
theorem dX7_tell_6 : decode cX7_tell 6 = .ok (.ifCond .eq 12, 3) := by decide +kernel
theorem dX7_tell_9 : decode cX7_tell 9 = .ok (.aload_n 0, 1) := by decide +kernel
theorem dX7_tell_10 : decode cX7_tell 10 = .ok (.iload 4, 2) := by decide +kernel
theorem dX7_tell_12 : decode cX7_tell 12 = .ok (.invokevirtual 81, 3) := by decide +kernel
theorem dX7_tell_15 : decode cX7_tell 15 = .ok (.ifCond .ne 9, 3) := by decide +kernel
theorem dX7_tell_18 : decode cX7_tell 18 = .ok (.aload_n 0, 1) := by decide +kernel
theorem dX7_tell_19 : decode cX7_tell 19 = .ok (.iconst (-1), 1) := by decide +kernel
theorem dX7_tell_20 : decode cX7_tell 20 = .ok (.invokevirtual 73, 3) := by decide +kernel
theorem dX7_tell_23 : decode cX7_tell 23 = .ok (.ireturn, 1) := by decide +kernel
theorem dX7_tell_24 : decode cX7_tell 24 = .ok (.iload 5, 2) := by decide +kernel
theorem dX7_tell_26 : decode cX7_tell 26 = .ok (.iconst 1, 1) := by decide +kernel
theorem dX7_tell_27 : decode cX7_tell 27 = .ok (.if_icmp .ge 10, 3) := by decide +kernel
theorem dX7_tell_30 : decode cX7_tell 30 = .ok (.aload_n 0, 1) := by decide +kernel
theorem dX7_tell_31 : decode cX7_tell 31 = .ok (.bipush (-4), 2) := by decide +kernel
theorem dX7_tell_33 : decode cX7_tell 33 = .ok (.invokevirtual 73, 3) := by decide +kernel
theorem dX7_tell_36 : decode cX7_tell 36 = .ok (.ireturn, 1) := by decide +kernel
theorem dX7_tell_37 : decode cX7_tell 37 = .ok (.iload 5, 2) := by decide +kernel
theorem dX7_tell_39 : decode cX7_tell 39 = .ok (.sipush 1000, 3) := by decide +kernel
theorem dX7_tell_42 : decode cX7_tell 42 = .ok (.if_icmp .gt 16, 3) := by decide +kernel
theorem dX7_tell_45 : decode cX7_tell 45 = .ok (.aload_n 0, 1) := by decide +kernel
theorem dX7_tell_46 : decode cX7_tell 46 = .ok (.getfield 42, 3) := by decide +kernel
theorem dX7_tell_49 : decode cX7_tell 49 = .ok (.getfield 103, 3) := by decide +kernel
theorem dX7_tell_52 : decode cX7_tell 52 = .ok (.sipush 400, 3) := by decide +kernel
theorem dX7_tell_55 : decode cX7_tell 55 = .ok (.if_icmp .lt 10, 3) := by decide +kernel
theorem dX7_tell_58 : decode cX7_tell 58 = .ok (.aload_n 0, 1) := by decide +kernel
theorem dX7_tell_59 : decode cX7_tell 59 = .ok (.bipush (-6), 2) := by decide +kernel
theorem dX7_tell_61 : decode cX7_tell 61 = .ok (.invokevirtual 73, 3) := by decide +kernel
theorem dX7_tell_64 : decode cX7_tell 64 = .ok (.ireturn, 1) := by decide +kernel
theorem dX7_tell_65 : decode cX7_tell 65 = .ok (.aload_n 0, 1) := by decide +kernel
theorem dX7_tell_66 : decode cX7_tell 66 = .ok (.getfield 42, 3) := by decide +kernel
theorem dX7_tell_69 : decode cX7_tell 69 = .ok (.getfield 103, 3) := by decide +kernel
theorem dX7_tell_72 : decode cX7_tell 72 = .ok (.istore 6, 2) := by decide +kernel
theorem dX7_tell_74 : decode cX7_tell 74 = .ok (.aload_n 0, 1) := by decide +kernel
theorem dX7_tell_75 : decode cX7_tell 75 = .ok (.getfield 42, 3) := by decide +kernel
theorem dX7_tell_78 : decode cX7_tell 78 = .ok (.new 106, 3) := by decide +kernel
theorem dX7_tell_81 : decode cX7_tell 81 = .ok (.dup, 1) := by decide +kernel
theorem dX7_tell_82 : decode cX7_tell 82 = .ok (.iload 6, 2) := by decide +kernel
theorem dX7_tell_84 : decode cX7_tell 84 = .ok (.iload_n 1, 1) := by decide +kernel
theorem dX7_tell_85 : decode cX7_tell 85 = .ok (.iload_n 2, 1) := by decide +kernel
theorem dX7_tell_86 : decode cX7_tell 86 = .ok (.iload_n 3, 1) := by decide +kernel
theorem dX7_tell_87 : decode cX7_tell 87 = .ok (.iload 4, 2) := by decide +kernel
theorem dX7_tell_89 : decode cX7_tell 89 = .ok (.iload 5, 2) := by decide +kernel
theorem dX7_tell_91 : decode cX7_tell 91 = .ok (.aload_n 0, 1) := by decide +kernel
theorem dX7_tell_92 : decode cX7_tell 92 = .ok (.getfield 60, 3) := by decide +kernel
theorem dX7_tell_95 : decode cX7_tell 95 = .ok (.invokespecial 108, 3) := by decide +kernel
theorem dX7_tell_98 : decode cX7_tell 98 = .ok (.invokevirtual 111, 3) := by decide +kernel
theorem dX7_tell_101 : decode cX7_tell 101 = .ok (.iload 6, 2) := by decide +kernel
theorem dX7_tell_103 : decode cX7_tell 103 = .ok (.ireturn, 1) := by decide +kernel
theorem dX7_drop_0 : decode cX7_drop 0 = .ok (.aload_n 0, 1) := by decide +kernel
theorem dX7_drop_1 : decode cX7_drop 1 = .ok (.getfield 42, 3) := by decide +kernel
theorem dX7_drop_4 : decode cX7_drop 4 = .ok (.iload_n 1, 1) := by decide +kernel
theorem dX7_drop_5 : decode cX7_drop 5 = .ok (.invokevirtual 115, 3) := by decide +kernel
theorem dX7_drop_8 : decode cX7_drop 8 = .ok (.astore_n 2, 1) := by decide +kernel
theorem dX7_drop_9 : decode cX7_drop 9 = .ok (.aload_n 2, 1) := by decide +kernel
theorem dX7_drop_10 : decode cX7_drop 10 = .ok (.ifnonnull 9, 3) := by decide +kernel
theorem dX7_drop_13 : decode cX7_drop 13 = .ok (.aload_n 0, 1) := by decide +kernel
theorem dX7_drop_14 : decode cX7_drop 14 = .ok (.iconst (-1), 1) := by decide +kernel
theorem dX7_drop_15 : decode cX7_drop 15 = .ok (.invokevirtual 73, 3) := by decide +kernel
theorem dX7_drop_18 : decode cX7_drop 18 = .ok (.ireturn, 1) := by decide +kernel
theorem dX7_drop_19 : decode cX7_drop 19 = .ok (.aload_n 2, 1) := by decide +kernel
theorem dX7_drop_20 : decode cX7_drop 20 = .ok (.getfield 119, 3) := by decide +kernel
theorem dX7_drop_23 : decode cX7_drop 23 = .ok (.ifCond .eq 10, 3) := by decide +kernel
theorem dX7_drop_26 : decode cX7_drop 26 = .ok (.aload_n 0, 1) := by decide +kernel
theorem dX7_drop_27 : decode cX7_drop 27 = .ok (.bipush (-3), 2) := by decide +kernel
theorem dX7_drop_29 : decode cX7_drop 29 = .ok (.invokevirtual 73, 3) := by decide +kernel
theorem dX7_drop_32 : decode cX7_drop 32 = .ok (.ireturn, 1) := by decide +kernel
theorem dX7_drop_33 : decode cX7_drop 33 = .ok (.aload_n 2, 1) := by decide +kernel
theorem dX7_drop_34 : decode cX7_drop 34 = .ok (.iconst 2, 1) := by decide +kernel
theorem dX7_drop_35 : decode cX7_drop 35 = .ok (.putfield 119, 3) := by decide +kernel
theorem dX7_drop_38 : decode cX7_drop 38 = .ok (.iconst 1, 1) := by decide +kernel
theorem dX7_drop_39 : decode cX7_drop 39 = .ok (.ireturn, 1) := by decide +kernel
theorem dX7_rule_0 : decode cX7_rule 0 = .ok (.iload_n 1, 1) := by decide +kernel
theorem dX7_rule_1 : decode cX7_rule 1 = .ok (.ifCond .lt 8, 3) := by decide +kernel
theorem dX7_rule_4 : decode cX7_rule 4 = .ok (.iload_n 1, 1) := by decide +kernel
theorem dX7_rule_5 : decode cX7_rule 5 = .ok (.iconst 3, 1) := by decide +kernel
theorem dX7_rule_6 : decode cX7_rule 6 = .ok (.if_icmp .le 10, 3) := by decide +kernel
theorem dX7_rule_9 : decode cX7_rule 9 = .ok (.aload_n 0, 1) := by decide +kernel
theorem dX7_rule_10 : decode cX7_rule 10 = .ok (.bipush (-2), 2) := by decide +kernel
theorem dX7_rule_12 : decode cX7_rule 12 = .ok (.invokevirtual 73, 3) := by decide +kernel
theorem dX7_rule_15 : decode cX7_rule 15 = .ok (.ireturn, 1) := by decide +kernel
theorem dX7_rule_16 : decode cX7_rule 16 = .ok (.aload_n 0, 1) := by decide +kernel
theorem dX7_rule_17 : decode cX7_rule 17 = .ok (.getfield 70, 3) := by decide +kernel
theorem dX7_rule_20 : decode cX7_rule 20 = .ok (.istore_n 2, 1) := by decide +kernel
theorem dX7_rule_21 : decode cX7_rule 21 = .ok (.aload_n 0, 1) := by decide +kernel
theorem dX7_rule_22 : decode cX7_rule 22 = .ok (.iload_n 1, 1) := by decide +kernel
theorem dX7_rule_23 : decode cX7_rule 23 = .ok (.putfield 70, 3) := by decide +kernel
theorem dX7_rule_26 : decode cX7_rule 26 = .ok (.iload_n 2, 1) := by decide +kernel
theorem dX7_rule_27 : decode cX7_rule 27 = .ok (.ireturn, 1) := by decide +kernel
theorem dX7_pair_0 : decode cX7_pair 0 = .ok (.aload_n 0, 1) := by decide +kernel
theorem dX7_pair_1 : decode cX7_pair 1 = .ok (.getfield 35, 3) := by decide +kernel
theorem dX7_pair_4 : decode cX7_pair 4 = .ok (.getfield 122, 3) := by decide +kernel
theorem dX7_pair_7 : decode cX7_pair 7 = .ok (.sipush 1900, 3) := by decide +kernel
theorem dX7_pair_10 : decode cX7_pair 10 = .ok (.if_icmp .le 10, 3) := by decide +kernel
theorem dX7_pair_13 : decode cX7_pair 13 = .ok (.aload_n 0, 1) := by decide +kernel
theorem dX7_pair_14 : decode cX7_pair 14 = .ok (.bipush (-6), 2) := by decide +kernel
theorem dX7_pair_16 : decode cX7_pair 16 = .ok (.invokevirtual 73, 3) := by decide +kernel
theorem dX7_pair_19 : decode cX7_pair 19 = .ok (.ireturn, 1) := by decide +kernel
theorem dX7_pair_20 : decode cX7_pair 20 = .ok (.aload_n 0, 1) := by decide +kernel
theorem dX7_pair_21 : decode cX7_pair 21 = .ok (.getfield 42, 3) := by decide +kernel
theorem dX7_pair_24 : decode cX7_pair 24 = .ok (.getfield 125, 3) := by decide +kernel
theorem dX7_pair_27 : decode cX7_pair 27 = .ok (.istore_n 1, 1) := by decide +kernel
theorem dX7_pair_28 : decode cX7_pair 28 = .ok (.aload_n 0, 1) := by decide +kernel
theorem dX7_pair_29 : decode cX7_pair 29 = .ok (.getfield 42, 3) := by decide +kernel
theorem dX7_pair_32 : decode cX7_pair 32 = .ok (.aload_n 0, 1) := by decide +kernel
theorem dX7_pair_33 : decode cX7_pair 33 = .ok (.getfield 70, 3) := by decide +kernel
theorem dX7_pair_36 : decode cX7_pair 36 = .ok (.invokevirtual 128, 3) := by decide +kernel
theorem dX7_pair_39 : decode cX7_pair 39 = .ok (.istore_n 2, 1) := by decide +kernel
theorem dX7_pair_40 : decode cX7_pair 40 = .ok (.iload_n 1, 1) := by decide +kernel
theorem dX7_pair_41 : decode cX7_pair 41 = .ok (.istore_n 3, 1) := by decide +kernel
theorem dX7_pair_42 : decode cX7_pair 42 = .ok (.iload_n 3, 1) := by decide +kernel
theorem dX7_pair_43 : decode cX7_pair 43 = .ok (.iload_n 1, 1) := by decide +kernel
theorem dX7_pair_44 : decode cX7_pair 44 = .ok (.iload_n 2, 1) := by decide +kernel
theorem dX7_pair_45 : decode cX7_pair 45 = .ok (.iadd, 1) := by decide +kernel
theorem dX7_pair_46 : decode cX7_pair 46 = .ok (.if_icmp .ge 35, 3) := by decide +kernel
theorem dX7_pair_49 : decode cX7_pair 49 = .ok (.aload_n 0, 1) := by decide +kernel
theorem dX7_pair_50 : decode cX7_pair 50 = .ok (.getfield 42, 3) := by decide +kernel
theorem dX7_pair_53 : decode cX7_pair 53 = .ok (.iload_n 3, 1) := by decide +kernel
theorem dX7_pair_54 : decode cX7_pair 54 = .ok (.invokevirtual 131, 3) := by decide +kernel
theorem dX7_pair_57 : decode cX7_pair 57 = .ok (.astore 4, 2) := by decide +kernel
theorem dX7_pair_59 : decode cX7_pair 59 = .ok (.aload 4, 2) := by decide +kernel
theorem dX7_pair_61 : decode cX7_pair 61 = .ok (.ifnull 14, 3) := by decide +kernel
theorem dX7_pair_64 : decode cX7_pair 64 = .ok (.aload_n 0, 1) := by decide +kernel
theorem dX7_pair_65 : decode cX7_pair 65 = .ok (.aload 4, 2) := by decide +kernel
theorem dX7_pair_67 : decode cX7_pair 67 = .ok (.aload 4, 2) := by decide +kernel
theorem dX7_pair_69 : decode cX7_pair 69 = .ok (.getfield 135, 3) := by decide +kernel
theorem dX7_pair_72 : decode cX7_pair 72 = .ok (.invokevirtual 140, 3) := by decide +kernel
theorem dX7_pair_75 : decode cX7_pair 75 = .ok (.iinc 3 1, 3) := by decide +kernel
theorem dX7_pair_78 : decode cX7_pair 78 = .ok (.goto (-36), 3) := by decide +kernel
theorem dX7_pair_81 : decode cX7_pair 81 = .ok (.iload_n 2, 1) := by decide +kernel
theorem dX7_pair_82 : decode cX7_pair 82 = .ok (.ireturn, 1) := by decide +kernel
theorem dX7_judge_0 : decode cX7_judge 0 = .ok (.aload_n 0, 1) := by decide +kernel
theorem dX7_judge_1 : decode cX7_judge 1 = .ok (.getfield 42, 3) := by decide +kernel
theorem dX7_judge_4 : decode cX7_judge 4 = .ok (.iload_n 1, 1) := by decide +kernel
theorem dX7_judge_5 : decode cX7_judge 5 = .ok (.invokevirtual 131, 3) := by decide +kernel
theorem dX7_judge_8 : decode cX7_judge 8 = .ok (.astore_n 3, 1) := by decide +kernel
theorem dX7_judge_9 : decode cX7_judge 9 = .ok (.aload_n 3, 1) := by decide +kernel
theorem dX7_judge_10 : decode cX7_judge 10 = .ok (.ifnonnull 9, 3) := by decide +kernel
theorem dX7_judge_13 : decode cX7_judge 13 = .ok (.aload_n 0, 1) := by decide +kernel
theorem dX7_judge_14 : decode cX7_judge 14 = .ok (.iconst (-1), 1) := by decide +kernel
theorem dX7_judge_15 : decode cX7_judge 15 = .ok (.invokevirtual 73, 3) := by decide +kernel
theorem dX7_judge_18 : decode cX7_judge 18 = .ok (.ireturn, 1) := by decide +kernel
theorem dX7_judge_19 : decode cX7_judge 19 = .ok (.aload_n 3, 1) := by decide +kernel
theorem dX7_judge_20 : decode cX7_judge 20 = .ok (.invokevirtual 144, 3) := by decide +kernel
theorem dX7_judge_23 : decode cX7_judge 23 = .ok (.ifCond .ne 10, 3) := by decide +kernel
theorem dX7_judge_26 : decode cX7_judge 26 = .ok (.aload_n 0, 1) := by decide +kernel
theorem dX7_judge_27 : decode cX7_judge 27 = .ok (.bipush (-3), 2) := by decide +kernel
theorem dX7_judge_29 : decode cX7_judge 29 = .ok (.invokevirtual 73, 3) := by decide +kernel
theorem dX7_judge_32 : decode cX7_judge 32 = .ok (.ireturn, 1) := by decide +kernel
theorem dX7_judge_33 : decode cX7_judge 33 = .ok (.iload_n 2, 1) := by decide +kernel
theorem dX7_judge_34 : decode cX7_judge 34 = .ok (.ifCond .ge 10, 3) := by decide +kernel
theorem dX7_judge_37 : decode cX7_judge 37 = .ok (.aload_n 0, 1) := by decide +kernel
theorem dX7_judge_38 : decode cX7_judge 38 = .ok (.bipush (-4), 2) := by decide +kernel
theorem dX7_judge_40 : decode cX7_judge 40 = .ok (.invokevirtual 73, 3) := by decide +kernel
theorem dX7_judge_43 : decode cX7_judge 43 = .ok (.ireturn, 1) := by decide +kernel
theorem dX7_judge_44 : decode cX7_judge 44 = .ok (.iload_n 2, 1) := by decide +kernel
theorem dX7_judge_45 : decode cX7_judge 45 = .ok (.sipush 1000, 3) := by decide +kernel
theorem dX7_judge_48 : decode cX7_judge 48 = .ok (.if_icmp .gt 14, 3) := by decide +kernel
theorem dX7_judge_51 : decode cX7_judge 51 = .ok (.aload_n 0, 1) := by decide +kernel
theorem dX7_judge_52 : decode cX7_judge 52 = .ok (.getfield 35, 3) := by decide +kernel
theorem dX7_judge_55 : decode cX7_judge 55 = .ok (.invokevirtual 87, 3) := by decide +kernel
theorem dX7_judge_58 : decode cX7_judge 58 = .ok (.iconst 2, 1) := by decide +kernel
theorem dX7_judge_59 : decode cX7_judge 59 = .ok (.if_icmp .ge 10, 3) := by decide +kernel
theorem dX7_judge_62 : decode cX7_judge 62 = .ok (.aload_n 0, 1) := by decide +kernel
theorem dX7_judge_63 : decode cX7_judge 63 = .ok (.bipush (-6), 2) := by decide +kernel
theorem dX7_judge_65 : decode cX7_judge 65 = .ok (.invokevirtual 73, 3) := by decide +kernel
theorem dX7_judge_68 : decode cX7_judge 68 = .ok (.ireturn, 1) := by decide +kernel
theorem dX7_judge_69 : decode cX7_judge 69 = .ok (.aload_n 3, 1) := by decide +kernel
theorem dX7_judge_70 : decode cX7_judge 70 = .ok (.getfield 135, 3) := by decide +kernel
theorem dX7_judge_73 : decode cX7_judge 73 = .ok (.istore 4, 2) := by decide +kernel
theorem dX7_judge_75 : decode cX7_judge 75 = .ok (.iload_n 2, 1) := by decide +kernel
theorem dX7_judge_76 : decode cX7_judge 76 = .ok (.iload 4, 2) := by decide +kernel
theorem dX7_judge_78 : decode cX7_judge 78 = .ok (.if_icmp .eq 12, 3) := by decide +kernel
theorem dX7_judge_81 : decode cX7_judge 81 = .ok (.aload_n 0, 1) := by decide +kernel
theorem dX7_judge_82 : decode cX7_judge 82 = .ok (.aload_n 3, 1) := by decide +kernel
theorem dX7_judge_83 : decode cX7_judge 83 = .ok (.iload_n 2, 1) := by decide +kernel
theorem dX7_judge_84 : decode cX7_judge 84 = .ok (.iload 4, 2) := by decide +kernel
theorem dX7_judge_86 : decode cX7_judge 86 = .ok (.isub, 1) := by decide +kernel
theorem dX7_judge_87 : decode cX7_judge 87 = .ok (.invokevirtual 140, 3) := by decide +kernel
theorem dX7_judge_90 : decode cX7_judge 90 = .ok (.aload_n 3, 1) := by decide +kernel
theorem dX7_judge_91 : decode cX7_judge 91 = .ok (.iload_n 2, 1) := by decide +kernel
theorem dX7_judge_92 : decode cX7_judge 92 = .ok (.putfield 135, 3) := by decide +kernel
theorem dX7_judge_95 : decode cX7_judge 95 = .ok (.aload_n 3, 1) := by decide +kernel
theorem dX7_judge_96 : decode cX7_judge 96 = .ok (.iconst 1, 1) := by decide +kernel
theorem dX7_judge_97 : decode cX7_judge 97 = .ok (.putfield 148, 3) := by decide +kernel
theorem dX7_judge_100 : decode cX7_judge 100 = .ok (.iload 4, 2) := by decide +kernel
theorem dX7_judge_102 : decode cX7_judge 102 = .ok (.ireturn, 1) := by decide +kernel
theorem dX7_found_0 : decode cX7_found 0 = .ok (.aload_n 0, 1) := by decide +kernel
theorem dX7_found_1 : decode cX7_found 1 = .ok (.iload_n 1, 1) := by decide +kernel
theorem dX7_found_2 : decode cX7_found 2 = .ok (.invokevirtual 77, 3) := by decide +kernel
theorem dX7_found_5 : decode cX7_found 5 = .ok (.ifCond .eq 11, 3) := by decide +kernel
theorem dX7_found_8 : decode cX7_found 8 = .ok (.aload_n 0, 1) := by decide +kernel
theorem dX7_found_9 : decode cX7_found 9 = .ok (.iload_n 2, 1) := by decide +kernel
theorem dX7_found_10 : decode cX7_found 10 = .ok (.invokevirtual 81, 3) := by decide +kernel
theorem dX7_found_13 : decode cX7_found 13 = .ok (.ifCond .ne 9, 3) := by decide +kernel
theorem dX7_found_16 : decode cX7_found 16 = .ok (.aload_n 0, 1) := by decide +kernel
theorem dX7_found_17 : decode cX7_found 17 = .ok (.iconst (-1), 1) := by decide +kernel
theorem dX7_found_18 : decode cX7_found 18 = .ok (.invokevirtual 84, 3) := by decide +kernel
theorem dX7_found_21 : decode cX7_found 21 = .ok (.ireturn, 1) := by decide +kernel
theorem dX7_found_22 : decode cX7_found 22 = .ok (.iload_n 3, 1) := by decide +kernel
theorem dX7_found_23 : decode cX7_found 23 = .ok (.ifCond .ge 10, 3) := by decide +kernel
theorem dX7_found_26 : decode cX7_found 26 = .ok (.aload_n 0, 1) := by decide +kernel
theorem dX7_found_27 : decode cX7_found 27 = .ok (.bipush (-4), 2) := by decide +kernel
theorem dX7_found_29 : decode cX7_found 29 = .ok (.invokevirtual 84, 3) := by decide +kernel
theorem dX7_found_32 : decode cX7_found 32 = .ok (.ireturn, 1) := by decide +kernel
theorem dX7_found_33 : decode cX7_found 33 = .ok (.iload_n 3, 1) := by decide +kernel
theorem dX7_found_34 : decode cX7_found 34 = .ok (.ldc 152, 2) := by decide +kernel
theorem dX7_found_36 : decode cX7_found 36 = .ok (.if_icmp .gt 14, 3) := by decide +kernel
theorem dX7_found_39 : decode cX7_found 39 = .ok (.aload_n 0, 1) := by decide +kernel
theorem dX7_found_40 : decode cX7_found 40 = .ok (.getfield 35, 3) := by decide +kernel
theorem dX7_found_43 : decode cX7_found 43 = .ok (.invokevirtual 87, 3) := by decide +kernel
theorem dX7_found_46 : decode cX7_found 46 = .ok (.iconst 1, 1) := by decide +kernel
theorem dX7_found_47 : decode cX7_found 47 = .ok (.if_icmp .ge 10, 3) := by decide +kernel
theorem dX7_found_50 : decode cX7_found 50 = .ok (.aload_n 0, 1) := by decide +kernel
theorem dX7_found_51 : decode cX7_found 51 = .ok (.bipush (-6), 2) := by decide +kernel
theorem dX7_found_53 : decode cX7_found 53 = .ok (.invokevirtual 84, 3) := by decide +kernel
theorem dX7_found_56 : decode cX7_found 56 = .ok (.ireturn, 1) := by decide +kernel
theorem dX7_found_57 : decode cX7_found 57 = .ok (.aload_n 0, 1) := by decide +kernel
theorem dX7_found_58 : decode cX7_found 58 = .ok (.getfield 35, 3) := by decide +kernel
theorem dX7_found_61 : decode cX7_found 61 = .ok (.iload_n 1, 1) := by decide +kernel
theorem dX7_found_62 : decode cX7_found 62 = .ok (.iload_n 2, 1) := by decide +kernel
theorem dX7_found_63 : decode cX7_found 63 = .ok (.aload_n 0, 1) := by decide +kernel
theorem dX7_found_64 : decode cX7_found 64 = .ok (.getfield 60, 3) := by decide +kernel
theorem dX7_found_67 : decode cX7_found 67 = .ok (.invokevirtual 95, 3) := by decide +kernel
theorem dX7_found_70 : decode cX7_found 70 = .ok (.istore 4, 2) := by decide +kernel
theorem dX7_found_72 : decode cX7_found 72 = .ok (.iload 4, 2) := by decide +kernel
theorem dX7_found_74 : decode cX7_found 74 = .ok (.iload_n 3, 1) := by decide +kernel
theorem dX7_found_75 : decode cX7_found 75 = .ok (.if_icmp .eq 38, 3) := by decide +kernel
theorem dX7_found_78 : decode cX7_found 78 = .ok (.aload_n 0, 1) := by decide +kernel
theorem dX7_found_79 : decode cX7_found 79 = .ok (.getfield 35, 3) := by decide +kernel
theorem dX7_found_82 : decode cX7_found 82 = .ok (.iload_n 1, 1) := by decide +kernel
theorem dX7_found_83 : decode cX7_found 83 = .ok (.iload_n 2, 1) := by decide +kernel
theorem dX7_found_84 : decode cX7_found 84 = .ok (.aload_n 0, 1) := by decide +kernel
theorem dX7_found_85 : decode cX7_found 85 = .ok (.getfield 60, 3) := by decide +kernel
theorem dX7_found_88 : decode cX7_found 88 = .ok (.iload_n 3, 1) := by decide +kernel
theorem dX7_found_89 : decode cX7_found 89 = .ok (.iload 4, 2) := by decide +kernel
theorem dX7_found_91 : decode cX7_found 91 = .ok (.isub, 1) := by decide +kernel
theorem dX7_found_92 : decode cX7_found 92 = .ok (.invokevirtual 91, 3) := by decide +kernel
theorem dX7_found_95 : decode cX7_found 95 = .ok (.aload_n 0, 1) := by decide +kernel
theorem dX7_found_96 : decode cX7_found 96 = .ok (.getfield 22, 3) := by decide +kernel
theorem dX7_found_99 : decode cX7_found 99 = .ok (.iload_n 1, 1) := by decide +kernel
theorem dX7_found_100 : decode cX7_found 100 = .ok (.bipush 6, 2) := by decide +kernel
theorem dX7_found_102 : decode cX7_found 102 = .ok (.imul, 1) := by decide +kernel
theorem dX7_found_103 : decode cX7_found 103 = .ok (.iload_n 2, 1) := by decide +kernel
theorem dX7_found_104 : decode cX7_found 104 = .ok (.iadd, 1) := by decide +kernel
theorem dX7_found_105 : decode cX7_found 105 = .ok (.dup2, 1) := by decide +kernel
theorem dX7_found_106 : decode cX7_found 106 = .ok (.iaload, 1) := by decide +kernel
theorem dX7_found_107 : decode cX7_found 107 = .ok (.iload 4, 2) := by decide +kernel
theorem dX7_found_109 : decode cX7_found 109 = .ok (.iload_n 3, 1) := by decide +kernel
theorem dX7_found_110 : decode cX7_found 110 = .ok (.isub, 1) := by decide +kernel
theorem dX7_found_111 : decode cX7_found 111 = .ok (.iadd, 1) := by decide +kernel
theorem dX7_found_112 : decode cX7_found 112 = .ok (.iastore, 1) := by decide +kernel
theorem dX7_found_113 : decode cX7_found 113 = .ok (.iload 4, 2) := by decide +kernel
theorem dX7_found_115 : decode cX7_found 115 = .ok (.ireturn, 1) := by decide +kernel
theorem dX7_account_0 : decode cX7_account 0 = .ok (.aload_n 0, 1) := by decide +kernel
theorem dX7_account_1 : decode cX7_account 1 = .ok (.iload_n 1, 1) := by decide +kernel
theorem dX7_account_2 : decode cX7_account 2 = .ok (.invokevirtual 77, 3) := by decide +kernel
theorem dX7_account_5 : decode cX7_account 5 = .ok (.ifCond .eq 11, 3) := by decide +kernel
theorem dX7_account_8 : decode cX7_account 8 = .ok (.aload_n 0, 1) := by decide +kernel
theorem dX7_account_9 : decode cX7_account 9 = .ok (.iload_n 2, 1) := by decide +kernel
theorem dX7_account_10 : decode cX7_account 10 = .ok (.invokevirtual 81, 3) := by decide +kernel
theorem dX7_account_13 : decode cX7_account 13 = .ok (.ifCond .ne 9, 3) := by decide +kernel
theorem dX7_account_16 : decode cX7_account 16 = .ok (.aload_n 0, 1) := by decide +kernel
theorem dX7_account_17 : decode cX7_account 17 = .ok (.iconst (-1), 1) := by decide +kernel
theorem dX7_account_18 : decode cX7_account 18 = .ok (.invokevirtual 84, 3) := by decide +kernel
theorem dX7_account_21 : decode cX7_account 21 = .ok (.ireturn, 1) := by decide +kernel
theorem dX7_account_22 : decode cX7_account 22 = .ok (.iload_n 3, 1) := by decide +kernel
theorem dX7_account_23 : decode cX7_account 23 = .ok (.ifCond .ge 10, 3) := by decide +kernel
theorem dX7_account_26 : decode cX7_account 26 = .ok (.aload_n 0, 1) := by decide +kernel
theorem dX7_account_27 : decode cX7_account 27 = .ok (.bipush (-4), 2) := by decide +kernel
theorem dX7_account_29 : decode cX7_account 29 = .ok (.invokevirtual 84, 3) := by decide +kernel
theorem dX7_account_32 : decode cX7_account 32 = .ok (.ireturn, 1) := by decide +kernel
theorem dX7_account_33 : decode cX7_account 33 = .ok (.iload_n 3, 1) := by decide +kernel
theorem dX7_account_34 : decode cX7_account 34 = .ok (.sipush 600, 3) := by decide +kernel
theorem dX7_account_37 : decode cX7_account 37 = .ok (.if_icmp .lt 10, 3) := by decide +kernel
theorem dX7_account_40 : decode cX7_account 40 = .ok (.aload_n 0, 1) := by decide +kernel
theorem dX7_account_41 : decode cX7_account 41 = .ok (.bipush (-6), 2) := by decide +kernel
theorem dX7_account_43 : decode cX7_account 43 = .ok (.invokevirtual 84, 3) := by decide +kernel
theorem dX7_account_46 : decode cX7_account 46 = .ok (.ireturn, 1) := by decide +kernel
theorem dX7_account_47 : decode cX7_account 47 = .ok (.aload_n 0, 1) := by decide +kernel
theorem dX7_account_48 : decode cX7_account 48 = .ok (.getfield 35, 3) := by decide +kernel
theorem dX7_account_51 : decode cX7_account 51 = .ok (.iload_n 1, 1) := by decide +kernel
theorem dX7_account_52 : decode cX7_account 52 = .ok (.iload_n 2, 1) := by decide +kernel
theorem dX7_account_53 : decode cX7_account 53 = .ok (.iload_n 3, 1) := by decide +kernel
theorem dX7_account_54 : decode cX7_account 54 = .ok (.invokevirtual 95, 3) := by decide +kernel
theorem dX7_account_57 : decode cX7_account 57 = .ok (.ireturn, 1) := by decide +kernel
theorem dX7_lost_0 : decode cX7_lost 0 = .ok (.aload_n 0, 1) := by decide +kernel
theorem dX7_lost_1 : decode cX7_lost 1 = .ok (.iload_n 1, 1) := by decide +kernel
theorem dX7_lost_2 : decode cX7_lost 2 = .ok (.invokevirtual 77, 3) := by decide +kernel
theorem dX7_lost_5 : decode cX7_lost 5 = .ok (.ifCond .eq 11, 3) := by decide +kernel
theorem dX7_lost_8 : decode cX7_lost 8 = .ok (.aload_n 0, 1) := by decide +kernel
theorem dX7_lost_9 : decode cX7_lost 9 = .ok (.iload_n 2, 1) := by decide +kernel
theorem dX7_lost_10 : decode cX7_lost 10 = .ok (.invokevirtual 81, 3) := by decide +kernel
theorem dX7_lost_13 : decode cX7_lost 13 = .ok (.ifCond .ne 9, 3) := by decide +kernel
theorem dX7_lost_16 : decode cX7_lost 16 = .ok (.aload_n 0, 1) := by decide +kernel
theorem dX7_lost_17 : decode cX7_lost 17 = .ok (.iconst (-1), 1) := by decide +kernel
theorem dX7_lost_18 : decode cX7_lost 18 = .ok (.invokevirtual 84, 3) := by decide +kernel
theorem dX7_lost_21 : decode cX7_lost 21 = .ok (.ireturn, 1) := by decide +kernel
theorem dX7_lost_22 : decode cX7_lost 22 = .ok (.aload_n 0, 1) := by decide +kernel
theorem dX7_lost_23 : decode cX7_lost 23 = .ok (.getfield 22, 3) := by decide +kernel
theorem dX7_lost_26 : decode cX7_lost 26 = .ok (.iload_n 1, 1) := by decide +kernel
theorem dX7_lost_27 : decode cX7_lost 27 = .ok (.bipush 6, 2) := by decide +kernel
theorem dX7_lost_29 : decode cX7_lost 29 = .ok (.imul, 1) := by decide +kernel
theorem dX7_lost_30 : decode cX7_lost 30 = .ok (.iload_n 2, 1) := by decide +kernel
theorem dX7_lost_31 : decode cX7_lost 31 = .ok (.iadd, 1) := by decide +kernel
theorem dX7_lost_32 : decode cX7_lost 32 = .ok (.iaload, 1) := by decide +kernel
theorem dX7_lost_33 : decode cX7_lost 33 = .ok (.ireturn, 1) := by decide +kernel
theorem dX7_turns_0 : decode cX7_turns 0 = .ok (.aload_n 0, 1) := by decide +kernel
theorem dX7_turns_1 : decode cX7_turns 1 = .ok (.iload_n 1, 1) := by decide +kernel
theorem dX7_turns_2 : decode cX7_turns 2 = .ok (.invokevirtual 77, 3) := by decide +kernel
theorem dX7_turns_5 : decode cX7_turns 5 = .ok (.ifCond .eq 11, 3) := by decide +kernel
theorem dX7_turns_8 : decode cX7_turns 8 = .ok (.aload_n 0, 1) := by decide +kernel
theorem dX7_turns_9 : decode cX7_turns 9 = .ok (.iload_n 2, 1) := by decide +kernel
theorem dX7_turns_10 : decode cX7_turns 10 = .ok (.invokevirtual 81, 3) := by decide +kernel
theorem dX7_turns_13 : decode cX7_turns 13 = .ok (.ifCond .ne 9, 3) := by decide +kernel
theorem dX7_turns_16 : decode cX7_turns 16 = .ok (.aload_n 0, 1) := by decide +kernel
theorem dX7_turns_17 : decode cX7_turns 17 = .ok (.iconst (-1), 1) := by decide +kernel
theorem dX7_turns_18 : decode cX7_turns 18 = .ok (.invokevirtual 73, 3) := by decide +kernel
theorem dX7_turns_21 : decode cX7_turns 21 = .ok (.ireturn, 1) := by decide +kernel
theorem dX7_turns_22 : decode cX7_turns 22 = .ok (.aload_n 0, 1) := by decide +kernel
theorem dX7_turns_23 : decode cX7_turns 23 = .ok (.getfield 42, 3) := by decide +kernel
theorem dX7_turns_26 : decode cX7_turns 26 = .ok (.iload_n 1, 1) := by decide +kernel
theorem dX7_turns_27 : decode cX7_turns 27 = .ok (.iload_n 2, 1) := by decide +kernel
theorem dX7_turns_28 : decode cX7_turns 28 = .ok (.invokevirtual 153, 3) := by decide +kernel
theorem dX7_turns_31 : decode cX7_turns 31 = .ok (.ireturn, 1) := by decide +kernel
theorem dX7_share_0 : decode cX7_share 0 = .ok (.aload_n 0, 1) := by decide +kernel
theorem dX7_share_1 : decode cX7_share 1 = .ok (.iload_n 1, 1) := by decide +kernel
theorem dX7_share_2 : decode cX7_share 2 = .ok (.invokevirtual 77, 3) := by decide +kernel
theorem dX7_share_5 : decode cX7_share 5 = .ok (.ifCond .eq 11, 3) := by decide +kernel
theorem dX7_share_8 : decode cX7_share 8 = .ok (.aload_n 0, 1) := by decide +kernel
theorem dX7_share_9 : decode cX7_share 9 = .ok (.iload_n 2, 1) := by decide +kernel
theorem dX7_share_10 : decode cX7_share 10 = .ok (.invokevirtual 81, 3) := by decide +kernel
theorem dX7_share_13 : decode cX7_share 13 = .ok (.ifCond .ne 9, 3) := by decide +kernel
theorem dX7_share_16 : decode cX7_share 16 = .ok (.aload_n 0, 1) := by decide +kernel
theorem dX7_share_17 : decode cX7_share 17 = .ok (.iconst (-1), 1) := by decide +kernel
theorem dX7_share_18 : decode cX7_share 18 = .ok (.invokevirtual 73, 3) := by decide +kernel
theorem dX7_share_21 : decode cX7_share 21 = .ok (.ireturn, 1) := by decide +kernel
theorem dX7_share_22 : decode cX7_share 22 = .ok (.aload_n 0, 1) := by decide +kernel
theorem dX7_share_23 : decode cX7_share 23 = .ok (.iload_n 1, 1) := by decide +kernel
theorem dX7_share_24 : decode cX7_share 24 = .ok (.iload_n 2, 1) := by decide +kernel
theorem dX7_share_25 : decode cX7_share 25 = .ok (.aload_n 0, 1) := by decide +kernel
theorem dX7_share_26 : decode cX7_share 26 = .ok (.iload_n 2, 1) := by decide +kernel
theorem dX7_share_27 : decode cX7_share 27 = .ok (.invokevirtual 157, 3) := by decide +kernel
theorem dX7_share_30 : decode cX7_share 30 = .ok (.i2l, 1) := by decide +kernel
theorem dX7_share_31 : decode cX7_share 31 = .ok (.aload_n 0, 1) := by decide +kernel
theorem dX7_share_32 : decode cX7_share 32 = .ok (.getfield 9, 3) := by decide +kernel
theorem dX7_share_35 : decode cX7_share 35 = .ok (.iload_n 2, 1) := by decide +kernel
theorem dX7_share_36 : decode cX7_share 36 = .ok (.iaload, 1) := by decide +kernel
theorem dX7_share_37 : decode cX7_share 37 = .ok (.i2l, 1) := by decide +kernel
theorem dX7_share_38 : decode cX7_share 38 = .ok (.lmul, 1) := by decide +kernel
theorem dX7_share_39 : decode cX7_share 39 = .ok (.invokevirtual 160, 3) := by decide +kernel
theorem dX7_share_42 : decode cX7_share 42 = .ok (.ireturn, 1) := by decide +kernel
theorem dX7_fees_0 : decode cX7_fees 0 = .ok (.aload_n 0, 1) := by decide +kernel
theorem dX7_fees_1 : decode cX7_fees 1 = .ok (.iload_n 1, 1) := by decide +kernel
theorem dX7_fees_2 : decode cX7_fees 2 = .ok (.iload_n 2, 1) := by decide +kernel
theorem dX7_fees_3 : decode cX7_fees 3 = .ok (.invokevirtual 164, 3) := by decide +kernel
theorem dX7_fees_6 : decode cX7_fees 6 = .ok (.istore_n 3, 1) := by decide +kernel
theorem dX7_fees_7 : decode cX7_fees 7 = .ok (.iload_n 3, 1) := by decide +kernel
theorem dX7_fees_8 : decode cX7_fees 8 = .ok (.ifCond .eq 10, 3) := by decide +kernel
theorem dX7_fees_11 : decode cX7_fees 11 = .ok (.aload_n 0, 1) := by decide +kernel
theorem dX7_fees_12 : decode cX7_fees 12 = .ok (.iload_n 3, 1) := by decide +kernel
theorem dX7_fees_13 : decode cX7_fees 13 = .ok (.invokevirtual 73, 3) := by decide +kernel
theorem dX7_fees_16 : decode cX7_fees 16 = .ok (.i2l, 1) := by decide +kernel
theorem dX7_fees_17 : decode cX7_fees 17 = .ok (.lreturn, 1) := by decide +kernel
theorem dX7_fees_18 : decode cX7_fees 18 = .ok (.aload_n 0, 1) := by decide +kernel
theorem dX7_fees_19 : decode cX7_fees 19 = .ok (.getfield 35, 3) := by decide +kernel
theorem dX7_fees_22 : decode cX7_fees 22 = .ok (.iload_n 1, 1) := by decide +kernel
theorem dX7_fees_23 : decode cX7_fees 23 = .ok (.iload_n 2, 1) := by decide +kernel
theorem dX7_fees_24 : decode cX7_fees 24 = .ok (.aload_n 0, 1) := by decide +kernel
theorem dX7_fees_25 : decode cX7_fees 25 = .ok (.getfield 13, 3) := by decide +kernel
theorem dX7_fees_28 : decode cX7_fees 28 = .ok (.invokevirtual 167, 3) := by decide +kernel
theorem dX7_fees_31 : decode cX7_fees 31 = .ok (.lreturn, 1) := by decide +kernel
theorem dX7_close_0 : decode cX7_close 0 = .ok (.aload_n 0, 1) := by decide +kernel
theorem dX7_close_1 : decode cX7_close 1 = .ok (.getfield 35, 3) := by decide +kernel
theorem dX7_close_4 : decode cX7_close 4 = .ok (.getfield 171, 3) := by decide +kernel
theorem dX7_close_7 : decode cX7_close 7 = .ok (.istore_n 1, 1) := by decide +kernel
theorem dX7_close_8 : decode cX7_close 8 = .ok (.iload_n 1, 1) := by decide +kernel
theorem dX7_close_9 : decode cX7_close 9 = .ok (.bipush 20, 2) := by decide +kernel
theorem dX7_close_11 : decode cX7_close 11 = .ok (.if_icmp .lt 10, 3) := by decide +kernel
theorem dX7_close_14 : decode cX7_close 14 = .ok (.aload_n 0, 1) := by decide +kernel
theorem dX7_close_15 : decode cX7_close 15 = .ok (.bipush (-6), 2) := by decide +kernel
theorem dX7_close_17 : decode cX7_close 17 = .ok (.invokevirtual 73, 3) := by decide +kernel
theorem dX7_close_20 : decode cX7_close 20 = .ok (.ireturn, 1) := by decide +kernel
theorem dX7_close_21 : decode cX7_close 21 = .ok (.iload_n 1, 1) := by decide +kernel
theorem dX7_close_22 : decode cX7_close 22 = .ok (.iconst 1, 1) := by decide +kernel
theorem dX7_close_23 : decode cX7_close 23 = .ok (.iadd, 1) := by decide +kernel
theorem dX7_close_24 : decode cX7_close 24 = .ok (.bipush 30, 2) := by decide +kernel
theorem dX7_close_26 : decode cX7_close 26 = .ok (.imul, 1) := by decide +kernel
theorem dX7_close_27 : decode cX7_close 27 = .ok (.aload_n 0, 1) := by decide +kernel
theorem dX7_close_28 : decode cX7_close 28 = .ok (.getfield 60, 3) := by decide +kernel
theorem dX7_close_31 : decode cX7_close 31 = .ok (.if_icmp .le 10, 3) := by decide +kernel
theorem dX7_close_34 : decode cX7_close 34 = .ok (.aload_n 0, 1) := by decide +kernel
theorem dX7_close_35 : decode cX7_close 35 = .ok (.bipush (-3), 2) := by decide +kernel
theorem dX7_close_37 : decode cX7_close 37 = .ok (.invokevirtual 73, 3) := by decide +kernel
theorem dX7_close_40 : decode cX7_close 40 = .ok (.ireturn, 1) := by decide +kernel
theorem dX7_close_41 : decode cX7_close 41 = .ok (.iconst 0, 1) := by decide +kernel
theorem dX7_close_42 : decode cX7_close 42 = .ok (.istore_n 2, 1) := by decide +kernel
theorem dX7_close_43 : decode cX7_close 43 = .ok (.iload_n 2, 1) := by decide +kernel
theorem dX7_close_44 : decode cX7_close 44 = .ok (.aload_n 0, 1) := by decide +kernel
theorem dX7_close_45 : decode cX7_close 45 = .ok (.getfield 64, 3) := by decide +kernel
theorem dX7_close_48 : decode cX7_close 48 = .ok (.if_icmp .ge 33, 3) := by decide +kernel
theorem dX7_close_51 : decode cX7_close 51 = .ok (.aload_n 0, 1) := by decide +kernel
theorem dX7_close_52 : decode cX7_close 52 = .ok (.getfield 28, 3) := by decide +kernel
theorem dX7_close_55 : decode cX7_close 55 = .ok (.iload_n 2, 1) := by decide +kernel
theorem dX7_close_56 : decode cX7_close 56 = .ok (.bipush 20, 2) := by decide +kernel
theorem dX7_close_58 : decode cX7_close 58 = .ok (.imul, 1) := by decide +kernel
theorem dX7_close_59 : decode cX7_close 59 = .ok (.iload_n 1, 1) := by decide +kernel
theorem dX7_close_60 : decode cX7_close 60 = .ok (.iadd, 1) := by decide +kernel
theorem dX7_close_61 : decode cX7_close 61 = .ok (.aload_n 0, 1) := by decide +kernel
theorem dX7_close_62 : decode cX7_close 62 = .ok (.getfield 35, 3) := by decide +kernel
theorem dX7_close_65 : decode cX7_close 65 = .ok (.iload_n 2, 1) := by decide +kernel
theorem dX7_close_66 : decode cX7_close 66 = .ok (.iload_n 1, 1) := by decide +kernel
theorem dX7_close_67 : decode cX7_close 67 = .ok (.aload_n 0, 1) := by decide +kernel
theorem dX7_close_68 : decode cX7_close 68 = .ok (.getfield 13, 3) := by decide +kernel
theorem dX7_close_71 : decode cX7_close 71 = .ok (.invokevirtual 167, 3) := by decide +kernel
theorem dX7_close_74 : decode cX7_close 74 = .ok (.lastore, 1) := by decide +kernel
theorem dX7_close_75 : decode cX7_close 75 = .ok (.iinc 2 1, 3) := by decide +kernel
theorem dX7_close_78 : decode cX7_close 78 = .ok (.goto (-35), 3) := by decide +kernel
theorem dX7_close_81 : decode cX7_close 81 = .ok (.aload_n 0, 1) := by decide +kernel
theorem dX7_close_82 : decode cX7_close 82 = .ok (.getfield 35, 3) := by decide +kernel
theorem dX7_close_85 : decode cX7_close 85 = .ok (.dup, 1) := by decide +kernel
theorem dX7_close_86 : decode cX7_close 86 = .ok (.getfield 171, 3) := by decide +kernel
theorem dX7_close_89 : decode cX7_close 89 = .ok (.iconst 1, 1) := by decide +kernel
theorem dX7_close_90 : decode cX7_close 90 = .ok (.iadd, 1) := by decide +kernel
theorem dX7_close_91 : decode cX7_close 91 = .ok (.putfield 171, 3) := by decide +kernel
theorem dX7_close_94 : decode cX7_close 94 = .ok (.iload_n 1, 1) := by decide +kernel
theorem dX7_close_95 : decode cX7_close 95 = .ok (.ireturn, 1) := by decide +kernel
theorem dX7_bill_0 : decode cX7_bill 0 = .ok (.aload_n 0, 1) := by decide +kernel
theorem dX7_bill_1 : decode cX7_bill 1 = .ok (.iload_n 1, 1) := by decide +kernel
theorem dX7_bill_2 : decode cX7_bill 2 = .ok (.iload_n 2, 1) := by decide +kernel
theorem dX7_bill_3 : decode cX7_bill 3 = .ok (.invokevirtual 164, 3) := by decide +kernel
theorem dX7_bill_6 : decode cX7_bill 6 = .ok (.istore_n 3, 1) := by decide +kernel
theorem dX7_bill_7 : decode cX7_bill 7 = .ok (.iload_n 3, 1) := by decide +kernel
theorem dX7_bill_8 : decode cX7_bill 8 = .ok (.ifCond .eq 10, 3) := by decide +kernel
theorem dX7_bill_11 : decode cX7_bill 11 = .ok (.aload_n 0, 1) := by decide +kernel
theorem dX7_bill_12 : decode cX7_bill 12 = .ok (.iload_n 3, 1) := by decide +kernel
theorem dX7_bill_13 : decode cX7_bill 13 = .ok (.invokevirtual 73, 3) := by decide +kernel
theorem dX7_bill_16 : decode cX7_bill 16 = .ok (.i2l, 1) := by decide +kernel
theorem dX7_bill_17 : decode cX7_bill 17 = .ok (.lreturn, 1) := by decide +kernel
theorem dX7_bill_18 : decode cX7_bill 18 = .ok (.iload_n 2, 1) := by decide +kernel
theorem dX7_bill_19 : decode cX7_bill 19 = .ok (.aload_n 0, 1) := by decide +kernel
theorem dX7_bill_20 : decode cX7_bill 20 = .ok (.getfield 35, 3) := by decide +kernel
theorem dX7_bill_23 : decode cX7_bill 23 = .ok (.getfield 171, 3) := by decide +kernel
theorem dX7_bill_26 : decode cX7_bill 26 = .ok (.if_icmp .lt 11, 3) := by decide +kernel
theorem dX7_bill_29 : decode cX7_bill 29 = .ok (.aload_n 0, 1) := by decide +kernel
theorem dX7_bill_30 : decode cX7_bill 30 = .ok (.bipush (-3), 2) := by decide +kernel
theorem dX7_bill_32 : decode cX7_bill 32 = .ok (.invokevirtual 73, 3) := by decide +kernel
theorem dX7_bill_35 : decode cX7_bill 35 = .ok (.i2l, 1) := by decide +kernel
theorem dX7_bill_36 : decode cX7_bill 36 = .ok (.lreturn, 1) := by decide +kernel
theorem dX7_bill_37 : decode cX7_bill 37 = .ok (.aload_n 0, 1) := by decide +kernel
theorem dX7_bill_38 : decode cX7_bill 38 = .ok (.getfield 28, 3) := by decide +kernel
theorem dX7_bill_41 : decode cX7_bill 41 = .ok (.iload_n 1, 1) := by decide +kernel
theorem dX7_bill_42 : decode cX7_bill 42 = .ok (.bipush 20, 2) := by decide +kernel
theorem dX7_bill_44 : decode cX7_bill 44 = .ok (.imul, 1) := by decide +kernel
theorem dX7_bill_45 : decode cX7_bill 45 = .ok (.iload_n 2, 1) := by decide +kernel
theorem dX7_bill_46 : decode cX7_bill 46 = .ok (.iadd, 1) := by decide +kernel
theorem dX7_bill_47 : decode cX7_bill 47 = .ok (.laload, 1) := by decide +kernel
theorem dX7_bill_48 : decode cX7_bill 48 = .ok (.lreturn, 1) := by decide +kernel
theorem dX7_telling_0 : decode cX7_telling 0 = .ok (.aload_n 0, 1) := by decide +kernel
theorem dX7_telling_1 : decode cX7_telling 1 = .ok (.getfield 42, 3) := by decide +kernel
theorem dX7_telling_4 : decode cX7_telling 4 = .ok (.iload_n 1, 1) := by decide +kernel
theorem dX7_telling_5 : decode cX7_telling 5 = .ok (.invokevirtual 115, 3) := by decide +kernel
theorem dX7_telling_8 : decode cX7_telling 8 = .ok (.astore_n 3, 1) := by decide +kernel
theorem dX7_telling_9 : decode cX7_telling 9 = .ok (.aload_n 3, 1) := by decide +kernel
theorem dX7_telling_10 : decode cX7_telling 10 = .ok (.ifnonnull 6, 3) := by decide +kernel
theorem dX7_telling_13 : decode cX7_telling 13 = .ok (.bipush (-9), 2) := by decide +kernel
theorem dX7_telling_15 : decode cX7_telling 15 = .ok (.ireturn, 1) := by decide +kernel
theorem dX7_telling_16 : decode cX7_telling 16 = .ok (.iload_n 2, 1) := by decide +kernel
theorem dX7_telling_17 : decode cX7_telling 17 = .ok (.tableswitch 95 0 7 #[47, 60, 65, 70, 75, 80, 85, 90], 47) := by decide +kernel
theorem dX7_telling_64 : decode cX7_telling 64 = .ok (.aload_n 3, 1) := by decide +kernel
theorem dX7_telling_65 : decode cX7_telling 65 = .ok (.getfield 174, 3) := by decide +kernel
theorem dX7_telling_68 : decode cX7_telling 68 = .ok (.ifCond .eq 7, 3) := by decide +kernel
theorem dX7_telling_71 : decode cX7_telling 71 = .ok (.iconst 1, 1) := by decide +kernel
theorem dX7_telling_72 : decode cX7_telling 72 = .ok (.goto 4, 3) := by decide +kernel
theorem dX7_telling_75 : decode cX7_telling 75 = .ok (.iconst 0, 1) := by decide +kernel
theorem dX7_telling_76 : decode cX7_telling 76 = .ok (.ireturn, 1) := by decide +kernel
theorem dX7_telling_77 : decode cX7_telling 77 = .ok (.aload_n 3, 1) := by decide +kernel
theorem dX7_telling_78 : decode cX7_telling 78 = .ok (.getfield 177, 3) := by decide +kernel
theorem dX7_telling_81 : decode cX7_telling 81 = .ok (.ireturn, 1) := by decide +kernel
theorem dX7_telling_82 : decode cX7_telling 82 = .ok (.aload_n 3, 1) := by decide +kernel
theorem dX7_telling_83 : decode cX7_telling 83 = .ok (.getfield 180, 3) := by decide +kernel
theorem dX7_telling_86 : decode cX7_telling 86 = .ok (.ireturn, 1) := by decide +kernel
theorem dX7_telling_87 : decode cX7_telling 87 = .ok (.aload_n 3, 1) := by decide +kernel
theorem dX7_telling_88 : decode cX7_telling 88 = .ok (.getfield 183, 3) := by decide +kernel
theorem dX7_telling_91 : decode cX7_telling 91 = .ok (.ireturn, 1) := by decide +kernel
theorem dX7_telling_92 : decode cX7_telling 92 = .ok (.aload_n 3, 1) := by decide +kernel
theorem dX7_telling_93 : decode cX7_telling 93 = .ok (.getfield 186, 3) := by decide +kernel
theorem dX7_telling_96 : decode cX7_telling 96 = .ok (.ireturn, 1) := by decide +kernel
theorem dX7_telling_97 : decode cX7_telling 97 = .ok (.aload_n 3, 1) := by decide +kernel
theorem dX7_telling_98 : decode cX7_telling 98 = .ok (.getfield 189, 3) := by decide +kernel
theorem dX7_telling_101 : decode cX7_telling 101 = .ok (.ireturn, 1) := by decide +kernel
theorem dX7_telling_102 : decode cX7_telling 102 = .ok (.aload_n 3, 1) := by decide +kernel
theorem dX7_telling_103 : decode cX7_telling 103 = .ok (.getfield 119, 3) := by decide +kernel
theorem dX7_telling_106 : decode cX7_telling 106 = .ok (.ireturn, 1) := by decide +kernel
theorem dX7_telling_107 : decode cX7_telling 107 = .ok (.aload_n 3, 1) := by decide +kernel
theorem dX7_telling_108 : decode cX7_telling 108 = .ok (.getfield 192, 3) := by decide +kernel
theorem dX7_telling_111 : decode cX7_telling 111 = .ok (.ireturn, 1) := by decide +kernel
theorem dX7_telling_112 : decode cX7_telling 112 = .ok (.bipush (-9), 2) := by decide +kernel
theorem dX7_telling_114 : decode cX7_telling 114 = .ok (.ireturn, 1) := by decide +kernel
theorem dX7_pairOf_0 : decode cX7_pairOf 0 = .ok (.aload_n 0, 1) := by decide +kernel
theorem dX7_pairOf_1 : decode cX7_pairOf 1 = .ok (.getfield 42, 3) := by decide +kernel
theorem dX7_pairOf_4 : decode cX7_pairOf 4 = .ok (.iload_n 1, 1) := by decide +kernel
theorem dX7_pairOf_5 : decode cX7_pairOf 5 = .ok (.invokevirtual 131, 3) := by decide +kernel
theorem dX7_pairOf_8 : decode cX7_pairOf 8 = .ok (.astore_n 3, 1) := by decide +kernel
theorem dX7_pairOf_9 : decode cX7_pairOf 9 = .ok (.aload_n 3, 1) := by decide +kernel
theorem dX7_pairOf_10 : decode cX7_pairOf 10 = .ok (.ifnonnull 6, 3) := by decide +kernel
theorem dX7_pairOf_13 : decode cX7_pairOf 13 = .ok (.bipush (-9), 2) := by decide +kernel
theorem dX7_pairOf_15 : decode cX7_pairOf 15 = .ok (.ireturn, 1) := by decide +kernel
theorem dX7_pairOf_16 : decode cX7_pairOf 16 = .ok (.iload_n 2, 1) := by decide +kernel
theorem dX7_pairOf_17 : decode cX7_pairOf 17 = .ok (.tableswitch 94 0 5 #[39, 47, 55, 63, 76, 81], 39) := by decide +kernel
theorem dX7_pairOf_56 : decode cX7_pairOf 56 = .ok (.aload_n 3, 1) := by decide +kernel
theorem dX7_pairOf_57 : decode cX7_pairOf 57 = .ok (.getfield 195, 3) := by decide +kernel
theorem dX7_pairOf_60 : decode cX7_pairOf 60 = .ok (.getfield 198, 3) := by decide +kernel
theorem dX7_pairOf_63 : decode cX7_pairOf 63 = .ok (.ireturn, 1) := by decide +kernel
theorem dX7_pairOf_64 : decode cX7_pairOf 64 = .ok (.aload_n 3, 1) := by decide +kernel
theorem dX7_pairOf_65 : decode cX7_pairOf 65 = .ok (.getfield 201, 3) := by decide +kernel
theorem dX7_pairOf_68 : decode cX7_pairOf 68 = .ok (.getfield 198, 3) := by decide +kernel
theorem dX7_pairOf_71 : decode cX7_pairOf 71 = .ok (.ireturn, 1) := by decide +kernel
theorem dX7_pairOf_72 : decode cX7_pairOf 72 = .ok (.aload_n 3, 1) := by decide +kernel
theorem dX7_pairOf_73 : decode cX7_pairOf 73 = .ok (.getfield 201, 3) := by decide +kernel
theorem dX7_pairOf_76 : decode cX7_pairOf 76 = .ok (.getfield 189, 3) := by decide +kernel
theorem dX7_pairOf_79 : decode cX7_pairOf 79 = .ok (.ireturn, 1) := by decide +kernel
theorem dX7_pairOf_80 : decode cX7_pairOf 80 = .ok (.aload_n 3, 1) := by decide +kernel
theorem dX7_pairOf_81 : decode cX7_pairOf 81 = .ok (.invokevirtual 144, 3) := by decide +kernel
theorem dX7_pairOf_84 : decode cX7_pairOf 84 = .ok (.ifCond .eq 7, 3) := by decide +kernel
theorem dX7_pairOf_87 : decode cX7_pairOf 87 = .ok (.iconst 1, 1) := by decide +kernel
theorem dX7_pairOf_88 : decode cX7_pairOf 88 = .ok (.goto 4, 3) := by decide +kernel
theorem dX7_pairOf_91 : decode cX7_pairOf 91 = .ok (.iconst 0, 1) := by decide +kernel
theorem dX7_pairOf_92 : decode cX7_pairOf 92 = .ok (.ireturn, 1) := by decide +kernel
theorem dX7_pairOf_93 : decode cX7_pairOf 93 = .ok (.aload_n 3, 1) := by decide +kernel
theorem dX7_pairOf_94 : decode cX7_pairOf 94 = .ok (.getfield 135, 3) := by decide +kernel
theorem dX7_pairOf_97 : decode cX7_pairOf 97 = .ok (.ireturn, 1) := by decide +kernel
theorem dX7_pairOf_98 : decode cX7_pairOf 98 = .ok (.aload_n 3, 1) := by decide +kernel
theorem dX7_pairOf_99 : decode cX7_pairOf 99 = .ok (.getfield 148, 3) := by decide +kernel
theorem dX7_pairOf_102 : decode cX7_pairOf 102 = .ok (.ifCond .eq 7, 3) := by decide +kernel
theorem dX7_pairOf_105 : decode cX7_pairOf 105 = .ok (.iconst 1, 1) := by decide +kernel
theorem dX7_pairOf_106 : decode cX7_pairOf 106 = .ok (.goto 4, 3) := by decide +kernel
theorem dX7_pairOf_109 : decode cX7_pairOf 109 = .ok (.iconst 0, 1) := by decide +kernel
theorem dX7_pairOf_110 : decode cX7_pairOf 110 = .ok (.ireturn, 1) := by decide +kernel
theorem dX7_pairOf_111 : decode cX7_pairOf 111 = .ok (.bipush (-9), 2) := by decide +kernel
theorem dX7_pairOf_113 : decode cX7_pairOf 113 = .ok (.ireturn, 1) := by decide +kernel
theorem dX7_owe_0 : decode cX7_owe 0 = .ok (.aload_n 0, 1) := by decide +kernel
theorem dX7_owe_1 : decode cX7_owe 1 = .ok (.iload_n 1, 1) := by decide +kernel
theorem dX7_owe_2 : decode cX7_owe 2 = .ok (.iload_n 2, 1) := by decide +kernel
theorem dX7_owe_3 : decode cX7_owe 3 = .ok (.invokevirtual 99, 3) := by decide +kernel
theorem dX7_owe_6 : decode cX7_owe 6 = .ok (.ifCond .eq 11, 3) := by decide +kernel
theorem dX7_owe_9 : decode cX7_owe 9 = .ok (.aload_n 0, 1) := by decide +kernel
theorem dX7_owe_10 : decode cX7_owe 10 = .ok (.iload_n 3, 1) := by decide +kernel
theorem dX7_owe_11 : decode cX7_owe 11 = .ok (.invokevirtual 81, 3) := by decide +kernel
theorem dX7_owe_14 : decode cX7_owe 14 = .ok (.ifCond .ne 9, 3) := by decide +kernel
theorem dX7_owe_17 : decode cX7_owe 17 = .ok (.aload_n 0, 1) := by decide +kernel
theorem dX7_owe_18 : decode cX7_owe 18 = .ok (.iconst (-1), 1) := by decide +kernel
theorem dX7_owe_19 : decode cX7_owe 19 = .ok (.invokevirtual 73, 3) := by decide +kernel
theorem dX7_owe_22 : decode cX7_owe 22 = .ok (.ireturn, 1) := by decide +kernel
theorem dX7_owe_23 : decode cX7_owe 23 = .ok (.iload 4, 2) := by decide +kernel
theorem dX7_owe_25 : decode cX7_owe 25 = .ok (.iconst 1, 1) := by decide +kernel
theorem dX7_owe_26 : decode cX7_owe 26 = .ok (.if_icmp .ge 10, 3) := by decide +kernel
theorem dX7_owe_29 : decode cX7_owe 29 = .ok (.aload_n 0, 1) := by decide +kernel
theorem dX7_owe_30 : decode cX7_owe 30 = .ok (.bipush (-4), 2) := by decide +kernel
theorem dX7_owe_32 : decode cX7_owe 32 = .ok (.invokevirtual 73, 3) := by decide +kernel
theorem dX7_owe_35 : decode cX7_owe 35 = .ok (.ireturn, 1) := by decide +kernel
theorem dX7_owe_36 : decode cX7_owe 36 = .ok (.iload 4, 2) := by decide +kernel
theorem dX7_owe_38 : decode cX7_owe 38 = .ok (.ldc 152, 2) := by decide +kernel
theorem dX7_owe_40 : decode cX7_owe 40 = .ok (.aload_n 0, 1) := by decide +kernel
theorem dX7_owe_41 : decode cX7_owe 41 = .ok (.getfield 49, 3) := by decide +kernel
theorem dX7_owe_44 : decode cX7_owe 44 = .ok (.iload_n 3, 1) := by decide +kernel
theorem dX7_owe_45 : decode cX7_owe 45 = .ok (.iload_n 1, 1) := by decide +kernel
theorem dX7_owe_46 : decode cX7_owe 46 = .ok (.iload_n 2, 1) := by decide +kernel
theorem dX7_owe_47 : decode cX7_owe 47 = .ok (.invokevirtual 204, 3) := by decide +kernel
theorem dX7_owe_50 : decode cX7_owe 50 = .ok (.isub, 1) := by decide +kernel
theorem dX7_owe_51 : decode cX7_owe 51 = .ok (.if_icmp .le 10, 3) := by decide +kernel
theorem dX7_owe_54 : decode cX7_owe 54 = .ok (.aload_n 0, 1) := by decide +kernel
theorem dX7_owe_55 : decode cX7_owe 55 = .ok (.bipush (-6), 2) := by decide +kernel
theorem dX7_owe_57 : decode cX7_owe 57 = .ok (.invokevirtual 73, 3) := by decide +kernel
end
section
theorem dX7_owe_60 : decode cX7_owe 60 = .ok (.ireturn, 1) := by decide +kernel
theorem dX7_owe_61 : decode cX7_owe 61 = .ok (.aload_n 0, 1) := by decide +kernel
theorem dX7_owe_62 : decode cX7_owe 62 = .ok (.getfield 49, 3) := by decide +kernel
theorem dX7_owe_65 : decode cX7_owe 65 = .ok (.iload_n 3, 1) := by decide +kernel
theorem dX7_owe_66 : decode cX7_owe 66 = .ok (.iload_n 1, 1) := by decide +kernel
theorem dX7_owe_67 : decode cX7_owe 67 = .ok (.iload_n 2, 1) := by decide +kernel
theorem dX7_owe_68 : decode cX7_owe 68 = .ok (.iload 4, 2) := by decide +kernel
theorem dX7_owe_70 : decode cX7_owe 70 = .ok (.invokevirtual 207, 3) := by decide +kernel
theorem dX7_owe_73 : decode cX7_owe 73 = .ok (.aload_n 0, 1) := by decide +kernel
theorem dX7_owe_74 : decode cX7_owe 74 = .ok (.getfield 49, 3) := by decide +kernel
theorem dX7_owe_77 : decode cX7_owe 77 = .ok (.iload_n 3, 1) := by decide +kernel
theorem dX7_owe_78 : decode cX7_owe 78 = .ok (.iload_n 1, 1) := by decide +kernel
theorem dX7_owe_79 : decode cX7_owe 79 = .ok (.iload_n 2, 1) := by decide +kernel
theorem dX7_owe_80 : decode cX7_owe 80 = .ok (.invokevirtual 204, 3) := by decide +kernel
theorem dX7_owe_83 : decode cX7_owe 83 = .ok (.ireturn, 1) := by decide +kernel
theorem dX7_owes_0 : decode cX7_owes 0 = .ok (.aload_n 0, 1) := by decide +kernel
theorem dX7_owes_1 : decode cX7_owes 1 = .ok (.iload_n 1, 1) := by decide +kernel
theorem dX7_owes_2 : decode cX7_owes 2 = .ok (.invokevirtual 77, 3) := by decide +kernel
theorem dX7_owes_5 : decode cX7_owes 5 = .ok (.ifCond .eq 19, 3) := by decide +kernel
theorem dX7_owes_8 : decode cX7_owes 8 = .ok (.aload_n 0, 1) := by decide +kernel
theorem dX7_owes_9 : decode cX7_owes 9 = .ok (.iload_n 2, 1) := by decide +kernel
theorem dX7_owes_10 : decode cX7_owes 10 = .ok (.invokevirtual 77, 3) := by decide +kernel
theorem dX7_owes_13 : decode cX7_owes 13 = .ok (.ifCond .eq 11, 3) := by decide +kernel
theorem dX7_owes_16 : decode cX7_owes 16 = .ok (.aload_n 0, 1) := by decide +kernel
theorem dX7_owes_17 : decode cX7_owes 17 = .ok (.iload_n 3, 1) := by decide +kernel
theorem dX7_owes_18 : decode cX7_owes 18 = .ok (.invokevirtual 81, 3) := by decide +kernel
theorem dX7_owes_21 : decode cX7_owes 21 = .ok (.ifCond .ne 9, 3) := by decide +kernel
theorem dX7_owes_24 : decode cX7_owes 24 = .ok (.aload_n 0, 1) := by decide +kernel
theorem dX7_owes_25 : decode cX7_owes 25 = .ok (.iconst (-1), 1) := by decide +kernel
theorem dX7_owes_26 : decode cX7_owes 26 = .ok (.invokevirtual 73, 3) := by decide +kernel
theorem dX7_owes_29 : decode cX7_owes 29 = .ok (.ireturn, 1) := by decide +kernel
theorem dX7_owes_30 : decode cX7_owes 30 = .ok (.aload_n 0, 1) := by decide +kernel
theorem dX7_owes_31 : decode cX7_owes 31 = .ok (.getfield 49, 3) := by decide +kernel
theorem dX7_owes_34 : decode cX7_owes 34 = .ok (.iload_n 3, 1) := by decide +kernel
theorem dX7_owes_35 : decode cX7_owes 35 = .ok (.iload_n 1, 1) := by decide +kernel
theorem dX7_owes_36 : decode cX7_owes 36 = .ok (.iload_n 2, 1) := by decide +kernel
theorem dX7_owes_37 : decode cX7_owes 37 = .ok (.invokevirtual 204, 3) := by decide +kernel
theorem dX7_owes_40 : decode cX7_owes 40 = .ok (.ireturn, 1) := by decide +kernel
theorem dX7_ring_0 : decode cX7_ring 0 = .ok (.aload_n 0, 1) := by decide +kernel
theorem dX7_ring_1 : decode cX7_ring 1 = .ok (.iload_n 1, 1) := by decide +kernel
theorem dX7_ring_2 : decode cX7_ring 2 = .ok (.invokevirtual 81, 3) := by decide +kernel
theorem dX7_ring_5 : decode cX7_ring 5 = .ok (.ifCond .ne 9, 3) := by decide +kernel
theorem dX7_ring_8 : decode cX7_ring 8 = .ok (.aload_n 0, 1) := by decide +kernel
theorem dX7_ring_9 : decode cX7_ring 9 = .ok (.iconst (-1), 1) := by decide +kernel
theorem dX7_ring_10 : decode cX7_ring 10 = .ok (.invokevirtual 73, 3) := by decide +kernel
theorem dX7_ring_13 : decode cX7_ring 13 = .ok (.ireturn, 1) := by decide +kernel
theorem dX7_ring_14 : decode cX7_ring 14 = .ok (.aload_n 0, 1) := by decide +kernel
theorem dX7_ring_15 : decode cX7_ring 15 = .ok (.getfield 49, 3) := by decide +kernel
theorem dX7_ring_18 : decode cX7_ring 18 = .ok (.iload_n 1, 1) := by decide +kernel
theorem dX7_ring_19 : decode cX7_ring 19 = .ok (.invokevirtual 210, 3) := by decide +kernel
theorem dX7_ring_22 : decode cX7_ring 22 = .ok (.aload_n 0, 1) := by decide +kernel
theorem dX7_ring_23 : decode cX7_ring 23 = .ok (.getfield 49, 3) := by decide +kernel
theorem dX7_ring_26 : decode cX7_ring 26 = .ok (.iload_n 2, 1) := by decide +kernel
theorem dX7_ring_27 : decode cX7_ring 27 = .ok (.invokevirtual 214, 3) := by decide +kernel
theorem dX7_ring_30 : decode cX7_ring 30 = .ok (.ireturn, 1) := by decide +kernel
theorem dX7_off_0 : decode cX7_off 0 = .ok (.aload_n 0, 1) := by decide +kernel
theorem dX7_off_1 : decode cX7_off 1 = .ok (.iload_n 1, 1) := by decide +kernel
theorem dX7_off_2 : decode cX7_off 2 = .ok (.invokevirtual 81, 3) := by decide +kernel
theorem dX7_off_5 : decode cX7_off 5 = .ok (.ifCond .ne 9, 3) := by decide +kernel
theorem dX7_off_8 : decode cX7_off 8 = .ok (.aload_n 0, 1) := by decide +kernel
theorem dX7_off_9 : decode cX7_off 9 = .ok (.iconst (-1), 1) := by decide +kernel
theorem dX7_off_10 : decode cX7_off 10 = .ok (.invokevirtual 73, 3) := by decide +kernel
theorem dX7_off_13 : decode cX7_off 13 = .ok (.ireturn, 1) := by decide +kernel
theorem dX7_off_14 : decode cX7_off 14 = .ok (.aload_n 0, 1) := by decide +kernel
theorem dX7_off_15 : decode cX7_off 15 = .ok (.getfield 49, 3) := by decide +kernel
theorem dX7_off_18 : decode cX7_off 18 = .ok (.iload_n 1, 1) := by decide +kernel
theorem dX7_off_19 : decode cX7_off 19 = .ok (.invokevirtual 217, 3) := by decide +kernel
theorem dX7_off_22 : decode cX7_off 22 = .ok (.ireturn, 1) := by decide +kernel
theorem dX7_want_0 : decode cX7_want 0 = .ok (.aload_n 0, 1) := by decide +kernel
theorem dX7_want_1 : decode cX7_want 1 = .ok (.iload_n 1, 1) := by decide +kernel
theorem dX7_want_2 : decode cX7_want 2 = .ok (.invokevirtual 77, 3) := by decide +kernel
theorem dX7_want_5 : decode cX7_want 5 = .ok (.ifCond .ne 9, 3) := by decide +kernel
theorem dX7_want_8 : decode cX7_want 8 = .ok (.aload_n 0, 1) := by decide +kernel
theorem dX7_want_9 : decode cX7_want 9 = .ok (.iconst (-1), 1) := by decide +kernel
theorem dX7_want_10 : decode cX7_want 10 = .ok (.invokevirtual 73, 3) := by decide +kernel
theorem dX7_want_13 : decode cX7_want 13 = .ok (.ireturn, 1) := by decide +kernel
theorem dX7_want_14 : decode cX7_want 14 = .ok (.iload_n 2, 1) := by decide +kernel
theorem dX7_want_15 : decode cX7_want 15 = .ok (.ifCond .lt 7, 3) := by decide +kernel
theorem dX7_want_18 : decode cX7_want 18 = .ok (.iload_n 3, 1) := by decide +kernel
theorem dX7_want_19 : decode cX7_want 19 = .ok (.ifCond .ge 10, 3) := by decide +kernel
theorem dX7_want_22 : decode cX7_want 22 = .ok (.aload_n 0, 1) := by decide +kernel
theorem dX7_want_23 : decode cX7_want 23 = .ok (.bipush (-4), 2) := by decide +kernel
theorem dX7_want_25 : decode cX7_want 25 = .ok (.invokevirtual 73, 3) := by decide +kernel
theorem dX7_want_28 : decode cX7_want 28 = .ok (.ireturn, 1) := by decide +kernel
theorem dX7_want_29 : decode cX7_want 29 = .ok (.iload_n 2, 1) := by decide +kernel
theorem dX7_want_30 : decode cX7_want 30 = .ok (.bipush 100, 2) := by decide +kernel
theorem dX7_want_32 : decode cX7_want 32 = .ok (.if_icmp .gt 9, 3) := by decide +kernel
theorem dX7_want_35 : decode cX7_want 35 = .ok (.iload_n 3, 1) := by decide +kernel
theorem dX7_want_36 : decode cX7_want 36 = .ok (.bipush 100, 2) := by decide +kernel
theorem dX7_want_38 : decode cX7_want 38 = .ok (.if_icmp .le 10, 3) := by decide +kernel
theorem dX7_want_41 : decode cX7_want 41 = .ok (.aload_n 0, 1) := by decide +kernel
theorem dX7_want_42 : decode cX7_want 42 = .ok (.bipush (-6), 2) := by decide +kernel
theorem dX7_want_44 : decode cX7_want 44 = .ok (.invokevirtual 73, 3) := by decide +kernel
theorem dX7_want_47 : decode cX7_want 47 = .ok (.ireturn, 1) := by decide +kernel
theorem dX7_want_48 : decode cX7_want 48 = .ok (.aload_n 0, 1) := by decide +kernel
theorem dX7_want_49 : decode cX7_want 49 = .ok (.getfield 56, 3) := by decide +kernel
theorem dX7_want_52 : decode cX7_want 52 = .ok (.getfield 220, 3) := by decide +kernel
theorem dX7_want_55 : decode cX7_want 55 = .ok (.iload_n 1, 1) := by decide +kernel
theorem dX7_want_56 : decode cX7_want 56 = .ok (.iload_n 2, 1) := by decide +kernel
theorem dX7_want_57 : decode cX7_want 57 = .ok (.iastore, 1) := by decide +kernel
theorem dX7_want_58 : decode cX7_want 58 = .ok (.aload_n 0, 1) := by decide +kernel
theorem dX7_want_59 : decode cX7_want 59 = .ok (.getfield 56, 3) := by decide +kernel
theorem dX7_want_62 : decode cX7_want 62 = .ok (.getfield 223, 3) := by decide +kernel
theorem dX7_want_65 : decode cX7_want 65 = .ok (.iload_n 1, 1) := by decide +kernel
theorem dX7_want_66 : decode cX7_want 66 = .ok (.iload_n 3, 1) := by decide +kernel
theorem dX7_want_67 : decode cX7_want 67 = .ok (.iastore, 1) := by decide +kernel
theorem dX7_want_68 : decode cX7_want 68 = .ok (.iconst 1, 1) := by decide +kernel
theorem dX7_want_69 : decode cX7_want 69 = .ok (.ireturn, 1) := by decide +kernel
theorem dX7_way_0 : decode cX7_way 0 = .ok (.aload_n 0, 1) := by decide +kernel
theorem dX7_way_1 : decode cX7_way 1 = .ok (.iload_n 1, 1) := by decide +kernel
theorem dX7_way_2 : decode cX7_way 2 = .ok (.iload_n 2, 1) := by decide +kernel
theorem dX7_way_3 : decode cX7_way 3 = .ok (.invokevirtual 99, 3) := by decide +kernel
theorem dX7_way_6 : decode cX7_way 6 = .ok (.ifCond .ne 9, 3) := by decide +kernel
theorem dX7_way_9 : decode cX7_way 9 = .ok (.aload_n 0, 1) := by decide +kernel
theorem dX7_way_10 : decode cX7_way 10 = .ok (.iconst (-1), 1) := by decide +kernel
theorem dX7_way_11 : decode cX7_way 11 = .ok (.invokevirtual 73, 3) := by decide +kernel
theorem dX7_way_14 : decode cX7_way 14 = .ok (.ireturn, 1) := by decide +kernel
theorem dX7_way_15 : decode cX7_way 15 = .ok (.iload_n 3, 1) := by decide +kernel
theorem dX7_way_16 : decode cX7_way 16 = .ok (.ifCond .ge 10, 3) := by decide +kernel
theorem dX7_way_19 : decode cX7_way 19 = .ok (.aload_n 0, 1) := by decide +kernel
theorem dX7_way_20 : decode cX7_way 20 = .ok (.bipush (-4), 2) := by decide +kernel
theorem dX7_way_22 : decode cX7_way 22 = .ok (.invokevirtual 73, 3) := by decide +kernel
theorem dX7_way_25 : decode cX7_way 25 = .ok (.ireturn, 1) := by decide +kernel
theorem dX7_way_26 : decode cX7_way 26 = .ok (.iload_n 3, 1) := by decide +kernel
theorem dX7_way_27 : decode cX7_way 27 = .ok (.sipush 1000, 3) := by decide +kernel
theorem dX7_way_30 : decode cX7_way 30 = .ok (.if_icmp .le 10, 3) := by decide +kernel
theorem dX7_way_33 : decode cX7_way 33 = .ok (.aload_n 0, 1) := by decide +kernel
theorem dX7_way_34 : decode cX7_way 34 = .ok (.bipush (-6), 2) := by decide +kernel
theorem dX7_way_36 : decode cX7_way 36 = .ok (.invokevirtual 73, 3) := by decide +kernel
theorem dX7_way_39 : decode cX7_way 39 = .ok (.ireturn, 1) := by decide +kernel
theorem dX7_way_40 : decode cX7_way 40 = .ok (.aload_n 0, 1) := by decide +kernel
theorem dX7_way_41 : decode cX7_way 41 = .ok (.getfield 56, 3) := by decide +kernel
theorem dX7_way_44 : decode cX7_way 44 = .ok (.getfield 226, 3) := by decide +kernel
theorem dX7_way_47 : decode cX7_way 47 = .ok (.iload_n 1, 1) := by decide +kernel
theorem dX7_way_48 : decode cX7_way 48 = .ok (.bipush 10, 2) := by decide +kernel
theorem dX7_way_50 : decode cX7_way 50 = .ok (.imul, 1) := by decide +kernel
theorem dX7_way_51 : decode cX7_way 51 = .ok (.iload_n 2, 1) := by decide +kernel
theorem dX7_way_52 : decode cX7_way 52 = .ok (.iadd, 1) := by decide +kernel
theorem dX7_way_53 : decode cX7_way 53 = .ok (.iaload, 1) := by decide +kernel
theorem dX7_way_54 : decode cX7_way 54 = .ok (.istore 4, 2) := by decide +kernel
theorem dX7_way_56 : decode cX7_way 56 = .ok (.aload_n 0, 1) := by decide +kernel
theorem dX7_way_57 : decode cX7_way 57 = .ok (.getfield 56, 3) := by decide +kernel
theorem dX7_way_60 : decode cX7_way 60 = .ok (.getfield 226, 3) := by decide +kernel
theorem dX7_way_63 : decode cX7_way 63 = .ok (.iload_n 1, 1) := by decide +kernel
theorem dX7_way_64 : decode cX7_way 64 = .ok (.bipush 10, 2) := by decide +kernel
theorem dX7_way_66 : decode cX7_way 66 = .ok (.imul, 1) := by decide +kernel
theorem dX7_way_67 : decode cX7_way 67 = .ok (.iload_n 2, 1) := by decide +kernel
theorem dX7_way_68 : decode cX7_way 68 = .ok (.iadd, 1) := by decide +kernel
theorem dX7_way_69 : decode cX7_way 69 = .ok (.iload_n 3, 1) := by decide +kernel
theorem dX7_way_70 : decode cX7_way 70 = .ok (.iastore, 1) := by decide +kernel
theorem dX7_way_71 : decode cX7_way 71 = .ok (.aload_n 0, 1) := by decide +kernel
theorem dX7_way_72 : decode cX7_way 72 = .ok (.getfield 56, 3) := by decide +kernel
theorem dX7_way_75 : decode cX7_way 75 = .ok (.getfield 226, 3) := by decide +kernel
theorem dX7_way_78 : decode cX7_way 78 = .ok (.iload_n 2, 1) := by decide +kernel
theorem dX7_way_79 : decode cX7_way 79 = .ok (.bipush 10, 2) := by decide +kernel
theorem dX7_way_81 : decode cX7_way 81 = .ok (.imul, 1) := by decide +kernel
theorem dX7_way_82 : decode cX7_way 82 = .ok (.iload_n 1, 1) := by decide +kernel
theorem dX7_way_83 : decode cX7_way 83 = .ok (.iadd, 1) := by decide +kernel
theorem dX7_way_84 : decode cX7_way 84 = .ok (.iload_n 3, 1) := by decide +kernel
theorem dX7_way_85 : decode cX7_way 85 = .ok (.iastore, 1) := by decide +kernel
theorem dX7_way_86 : decode cX7_way 86 = .ok (.iload 4, 2) := by decide +kernel
theorem dX7_way_88 : decode cX7_way 88 = .ok (.ireturn, 1) := by decide +kernel
theorem dX7_plan_0 : decode cX7_plan 0 = .ok (.aload_n 0, 1) := by decide +kernel
theorem dX7_plan_1 : decode cX7_plan 1 = .ok (.getfield 56, 3) := by decide +kernel
theorem dX7_plan_4 : decode cX7_plan 4 = .ok (.invokevirtual 229, 3) := by decide +kernel
theorem dX7_plan_7 : decode cX7_plan 7 = .ok (.ifCond .ne 10, 3) := by decide +kernel
theorem dX7_plan_10 : decode cX7_plan 10 = .ok (.aload_n 0, 1) := by decide +kernel
theorem dX7_plan_11 : decode cX7_plan 11 = .ok (.bipush (-5), 2) := by decide +kernel
theorem dX7_plan_13 : decode cX7_plan 13 = .ok (.invokevirtual 73, 3) := by decide +kernel
theorem dX7_plan_16 : decode cX7_plan 16 = .ok (.ireturn, 1) := by decide +kernel
theorem dX7_plan_17 : decode cX7_plan 17 = .ok (.aload_n 0, 1) := by decide +kernel
theorem dX7_plan_18 : decode cX7_plan 18 = .ok (.getfield 56, 3) := by decide +kernel
theorem dX7_plan_21 : decode cX7_plan 21 = .ok (.aload_n 0, 1) := by decide +kernel
theorem dX7_plan_22 : decode cX7_plan 22 = .ok (.getfield 64, 3) := by decide +kernel
theorem dX7_plan_25 : decode cX7_plan 25 = .ok (.invokevirtual 232, 3) := by decide +kernel
theorem dX7_plan_28 : decode cX7_plan 28 = .ok (.ireturn, 1) := by decide +kernel
theorem dX7_check_0 : decode cX7_check 0 = .ok (.aload_n 0, 1) := by decide +kernel
theorem dX7_check_1 : decode cX7_check 1 = .ok (.iload_n 1, 1) := by decide +kernel
theorem dX7_check_2 : decode cX7_check 2 = .ok (.invokevirtual 81, 3) := by decide +kernel
theorem dX7_check_5 : decode cX7_check 5 = .ok (.ifCond .ne 5, 3) := by decide +kernel
theorem dX7_check_8 : decode cX7_check 8 = .ok (.iconst 0, 1) := by decide +kernel
theorem dX7_check_9 : decode cX7_check 9 = .ok (.ireturn, 1) := by decide +kernel
theorem dX7_check_10 : decode cX7_check 10 = .ok (.aload_n 0, 1) := by decide +kernel
theorem dX7_check_11 : decode cX7_check 11 = .ok (.getfield 16, 3) := by decide +kernel
theorem dX7_check_14 : decode cX7_check 14 = .ok (.iload_n 1, 1) := by decide +kernel
theorem dX7_check_15 : decode cX7_check 15 = .ok (.iaload, 1) := by decide +kernel
theorem dX7_check_16 : decode cX7_check 16 = .ok (.aload_n 0, 1) := by decide +kernel
theorem dX7_check_17 : decode cX7_check 17 = .ok (.getfield 19, 3) := by decide +kernel
theorem dX7_check_20 : decode cX7_check 20 = .ok (.iload_n 1, 1) := by decide +kernel
theorem dX7_check_21 : decode cX7_check 21 = .ok (.iaload, 1) := by decide +kernel
theorem dX7_check_22 : decode cX7_check 22 = .ok (.isub, 1) := by decide +kernel
theorem dX7_check_23 : decode cX7_check 23 = .ok (.aload_n 0, 1) := by decide +kernel
theorem dX7_check_24 : decode cX7_check 24 = .ok (.getfield 35, 3) := by decide +kernel
theorem dX7_check_27 : decode cX7_check 27 = .ok (.iload_n 1, 1) := by decide +kernel
theorem dX7_check_28 : decode cX7_check 28 = .ok (.invokevirtual 235, 3) := by decide +kernel
theorem dX7_check_31 : decode cX7_check 31 = .ok (.aload_n 0, 1) := by decide +kernel
theorem dX7_check_32 : decode cX7_check 32 = .ok (.iload_n 1, 1) := by decide +kernel
theorem dX7_check_33 : decode cX7_check 33 = .ok (.invokevirtual 157, 3) := by decide +kernel
theorem dX7_check_36 : decode cX7_check 36 = .ok (.iadd, 1) := by decide +kernel
theorem dX7_check_37 : decode cX7_check 37 = .ok (.if_icmp .ne 7, 3) := by decide +kernel
theorem dX7_check_40 : decode cX7_check 40 = .ok (.iconst 1, 1) := by decide +kernel
theorem dX7_check_41 : decode cX7_check 41 = .ok (.goto 4, 3) := by decide +kernel
theorem dX7_check_44 : decode cX7_check 44 = .ok (.iconst 0, 1) := by decide +kernel
theorem dX7_check_45 : decode cX7_check 45 = .ok (.ireturn, 1) := by decide +kernel
theorem dX7_count_0 : decode cX7_count 0 = .ok (.iload_n 1, 1) := by decide +kernel
theorem dX7_count_1 : decode cX7_count 1 = .ok (.tableswitch 114 0 8 #[51, 56, 61, 66, 74, 82, 90, 98, 106], 51) := by decide +kernel
theorem dX7_count_52 : decode cX7_count 52 = .ok (.aload_n 0, 1) := by decide +kernel
theorem dX7_count_53 : decode cX7_count 53 = .ok (.getfield 60, 3) := by decide +kernel
theorem dX7_count_56 : decode cX7_count 56 = .ok (.ireturn, 1) := by decide +kernel
theorem dX7_count_57 : decode cX7_count 57 = .ok (.aload_n 0, 1) := by decide +kernel
theorem dX7_count_58 : decode cX7_count 58 = .ok (.getfield 64, 3) := by decide +kernel
theorem dX7_count_61 : decode cX7_count 61 = .ok (.ireturn, 1) := by decide +kernel
theorem dX7_count_62 : decode cX7_count 62 = .ok (.aload_n 0, 1) := by decide +kernel
theorem dX7_count_63 : decode cX7_count 63 = .ok (.getfield 67, 3) := by decide +kernel
theorem dX7_count_66 : decode cX7_count 66 = .ok (.ireturn, 1) := by decide +kernel
theorem dX7_count_67 : decode cX7_count 67 = .ok (.aload_n 0, 1) := by decide +kernel
theorem dX7_count_68 : decode cX7_count 68 = .ok (.getfield 35, 3) := by decide +kernel
theorem dX7_count_71 : decode cX7_count 71 = .ok (.getfield 122, 3) := by decide +kernel
theorem dX7_count_74 : decode cX7_count 74 = .ok (.ireturn, 1) := by decide +kernel
theorem dX7_count_75 : decode cX7_count 75 = .ok (.aload_n 0, 1) := by decide +kernel
theorem dX7_count_76 : decode cX7_count 76 = .ok (.getfield 42, 3) := by decide +kernel
theorem dX7_count_79 : decode cX7_count 79 = .ok (.getfield 103, 3) := by decide +kernel
theorem dX7_count_82 : decode cX7_count 82 = .ok (.ireturn, 1) := by decide +kernel
theorem dX7_count_83 : decode cX7_count 83 = .ok (.aload_n 0, 1) := by decide +kernel
theorem dX7_count_84 : decode cX7_count 84 = .ok (.getfield 42, 3) := by decide +kernel
theorem dX7_count_87 : decode cX7_count 87 = .ok (.invokevirtual 238, 3) := by decide +kernel
theorem dX7_count_90 : decode cX7_count 90 = .ok (.ireturn, 1) := by decide +kernel
theorem dX7_count_91 : decode cX7_count 91 = .ok (.aload_n 0, 1) := by decide +kernel
theorem dX7_count_92 : decode cX7_count 92 = .ok (.getfield 42, 3) := by decide +kernel
theorem dX7_count_95 : decode cX7_count 95 = .ok (.getfield 125, 3) := by decide +kernel
theorem dX7_count_98 : decode cX7_count 98 = .ok (.ireturn, 1) := by decide +kernel
theorem dX7_count_99 : decode cX7_count 99 = .ok (.aload_n 0, 1) := by decide +kernel
theorem dX7_count_100 : decode cX7_count 100 = .ok (.getfield 42, 3) := by decide +kernel
theorem dX7_count_103 : decode cX7_count 103 = .ok (.invokevirtual 241, 3) := by decide +kernel
theorem dX7_count_106 : decode cX7_count 106 = .ok (.ireturn, 1) := by decide +kernel
theorem dX7_count_107 : decode cX7_count 107 = .ok (.aload_n 0, 1) := by decide +kernel
theorem dX7_count_108 : decode cX7_count 108 = .ok (.getfield 35, 3) := by decide +kernel
theorem dX7_count_111 : decode cX7_count 111 = .ok (.getfield 171, 3) := by decide +kernel
theorem dX7_count_114 : decode cX7_count 114 = .ok (.ireturn, 1) := by decide +kernel
theorem dX7_count_115 : decode cX7_count 115 = .ok (.aload_n 0, 1) := by decide +kernel
theorem dX7_count_116 : decode cX7_count 116 = .ok (.bipush 10, 2) := by decide +kernel
theorem dX7_count_118 : decode cX7_count 118 = .ok (.iload_n 1, 1) := by decide +kernel
theorem dX7_count_119 : decode cX7_count 119 = .ok (.isub, 1) := by decide +kernel
theorem dX7_count_120 : decode cX7_count 120 = .ok (.invokevirtual 244, 3) := by decide +kernel
theorem dX7_count_123 : decode cX7_count 123 = .ok (.ireturn, 1) := by decide +kernel
theorem dX7_isHouse_0 : decode cX7_isHouse 0 = .ok (.iload_n 1, 1) := by decide +kernel
theorem dX7_isHouse_1 : decode cX7_isHouse 1 = .ok (.ifCond .lt 15, 3) := by decide +kernel
theorem dX7_isHouse_4 : decode cX7_isHouse 4 = .ok (.iload_n 1, 1) := by decide +kernel
theorem dX7_isHouse_5 : decode cX7_isHouse 5 = .ok (.aload_n 0, 1) := by decide +kernel
theorem dX7_isHouse_6 : decode cX7_isHouse 6 = .ok (.getfield 64, 3) := by decide +kernel
theorem dX7_isHouse_9 : decode cX7_isHouse 9 = .ok (.if_icmp .ge 7, 3) := by decide +kernel
theorem dX7_isHouse_12 : decode cX7_isHouse 12 = .ok (.iconst 1, 1) := by decide +kernel
theorem dX7_isHouse_13 : decode cX7_isHouse 13 = .ok (.goto 4, 3) := by decide +kernel
theorem dX7_isHouse_16 : decode cX7_isHouse 16 = .ok (.iconst 0, 1) := by decide +kernel
theorem dX7_isHouse_17 : decode cX7_isHouse 17 = .ok (.ireturn, 1) := by decide +kernel
theorem dX7_areTwoHouses_0 : decode cX7_areTwoHouses 0 = .ok (.aload_n 0, 1) := by decide +kernel
theorem dX7_areTwoHouses_1 : decode cX7_areTwoHouses 1 = .ok (.iload_n 1, 1) := by decide +kernel
theorem dX7_areTwoHouses_2 : decode cX7_areTwoHouses 2 = .ok (.invokevirtual 77, 3) := by decide +kernel
theorem dX7_areTwoHouses_5 : decode cX7_areTwoHouses 5 = .ok (.ifCond .eq 20, 3) := by decide +kernel
theorem dX7_areTwoHouses_8 : decode cX7_areTwoHouses 8 = .ok (.aload_n 0, 1) := by decide +kernel
theorem dX7_areTwoHouses_9 : decode cX7_areTwoHouses 9 = .ok (.iload_n 2, 1) := by decide +kernel
theorem dX7_areTwoHouses_10 : decode cX7_areTwoHouses 10 = .ok (.invokevirtual 77, 3) := by decide +kernel
theorem dX7_areTwoHouses_13 : decode cX7_areTwoHouses 13 = .ok (.ifCond .eq 12, 3) := by decide +kernel
theorem dX7_areTwoHouses_16 : decode cX7_areTwoHouses 16 = .ok (.iload_n 1, 1) := by decide +kernel
theorem dX7_areTwoHouses_17 : decode cX7_areTwoHouses 17 = .ok (.iload_n 2, 1) := by decide +kernel
theorem dX7_areTwoHouses_18 : decode cX7_areTwoHouses 18 = .ok (.if_icmp .eq 7, 3) := by decide +kernel
theorem dX7_areTwoHouses_21 : decode cX7_areTwoHouses 21 = .ok (.iconst 1, 1) := by decide +kernel
theorem dX7_areTwoHouses_22 : decode cX7_areTwoHouses 22 = .ok (.goto 4, 3) := by decide +kernel
theorem dX7_areTwoHouses_25 : decode cX7_areTwoHouses 25 = .ok (.iconst 0, 1) := by decide +kernel
theorem dX7_areTwoHouses_26 : decode cX7_areTwoHouses 26 = .ok (.ireturn, 1) := by decide +kernel
theorem dX7_isKind_0 : decode cX7_isKind 0 = .ok (.iload_n 1, 1) := by decide +kernel
theorem dX7_isKind_1 : decode cX7_isKind 1 = .ok (.ifCond .lt 15, 3) := by decide +kernel
theorem dX7_isKind_4 : decode cX7_isKind 4 = .ok (.iload_n 1, 1) := by decide +kernel
theorem dX7_isKind_5 : decode cX7_isKind 5 = .ok (.aload_n 0, 1) := by decide +kernel
theorem dX7_isKind_6 : decode cX7_isKind 6 = .ok (.getfield 67, 3) := by decide +kernel
theorem dX7_isKind_9 : decode cX7_isKind 9 = .ok (.if_icmp .ge 7, 3) := by decide +kernel
theorem dX7_isKind_12 : decode cX7_isKind 12 = .ok (.iconst 1, 1) := by decide +kernel
theorem dX7_isKind_13 : decode cX7_isKind 13 = .ok (.goto 4, 3) := by decide +kernel
theorem dX7_isKind_16 : decode cX7_isKind 16 = .ok (.iconst 0, 1) := by decide +kernel
theorem dX7_isKind_17 : decode cX7_isKind 17 = .ok (.ireturn, 1) := by decide +kernel
theorem dX7_whyNoMonth_0 : decode cX7_whyNoMonth 0 = .ok (.aload_n 0, 1) := by decide +kernel
theorem dX7_whyNoMonth_1 : decode cX7_whyNoMonth 1 = .ok (.iload_n 1, 1) := by decide +kernel
theorem dX7_whyNoMonth_2 : decode cX7_whyNoMonth 2 = .ok (.invokevirtual 77, 3) := by decide +kernel
theorem dX7_whyNoMonth_5 : decode cX7_whyNoMonth 5 = .ok (.ifCond .ne 5, 3) := by decide +kernel
theorem dX7_whyNoMonth_8 : decode cX7_whyNoMonth 8 = .ok (.iconst (-1), 1) := by decide +kernel
theorem dX7_whyNoMonth_9 : decode cX7_whyNoMonth 9 = .ok (.ireturn, 1) := by decide +kernel
theorem dX7_whyNoMonth_10 : decode cX7_whyNoMonth 10 = .ok (.iload_n 2, 1) := by decide +kernel
theorem dX7_whyNoMonth_11 : decode cX7_whyNoMonth 11 = .ok (.ifCond .ge 6, 3) := by decide +kernel
theorem dX7_whyNoMonth_14 : decode cX7_whyNoMonth 14 = .ok (.bipush (-4), 2) := by decide +kernel
theorem dX7_whyNoMonth_16 : decode cX7_whyNoMonth 16 = .ok (.ireturn, 1) := by decide +kernel
theorem dX7_whyNoMonth_17 : decode cX7_whyNoMonth 17 = .ok (.iload_n 2, 1) := by decide +kernel
theorem dX7_whyNoMonth_18 : decode cX7_whyNoMonth 18 = .ok (.bipush 20, 2) := by decide +kernel
theorem dX7_whyNoMonth_20 : decode cX7_whyNoMonth 20 = .ok (.if_icmp .lt 8, 3) := by decide +kernel
theorem dX7_whyNoMonth_23 : decode cX7_whyNoMonth 23 = .ok (.bipush (-6), 2) := by decide +kernel
theorem dX7_whyNoMonth_25 : decode cX7_whyNoMonth 25 = .ok (.goto 4, 3) := by decide +kernel
theorem dX7_whyNoMonth_28 : decode cX7_whyNoMonth 28 = .ok (.iconst 0, 1) := by decide +kernel
theorem dX7_whyNoMonth_29 : decode cX7_whyNoMonth 29 = .ok (.ireturn, 1) := by decide +kernel
theorem dX7_refuse_0 : decode cX7_refuse 0 = .ok (.iload_n 1, 1) := by decide +kernel
theorem dX7_refuse_1 : decode cX7_refuse 1 = .ok (.bipush (-6), 2) := by decide +kernel
theorem dX7_refuse_3 : decode cX7_refuse 3 = .ok (.if_icmp .lt 19, 3) := by decide +kernel
theorem dX7_refuse_6 : decode cX7_refuse 6 = .ok (.iload_n 1, 1) := by decide +kernel
theorem dX7_refuse_7 : decode cX7_refuse 7 = .ok (.iconst (-1), 1) := by decide +kernel
theorem dX7_refuse_8 : decode cX7_refuse 8 = .ok (.if_icmp .gt 14, 3) := by decide +kernel
theorem dX7_refuse_11 : decode cX7_refuse 11 = .ok (.aload_n 0, 1) := by decide +kernel
theorem dX7_refuse_12 : decode cX7_refuse 12 = .ok (.getfield 25, 3) := by decide +kernel
theorem dX7_refuse_15 : decode cX7_refuse 15 = .ok (.iload_n 1, 1) := by decide +kernel
theorem dX7_refuse_16 : decode cX7_refuse 16 = .ok (.ineg, 1) := by decide +kernel
theorem dX7_refuse_17 : decode cX7_refuse 17 = .ok (.dup2, 1) := by decide +kernel
theorem dX7_refuse_18 : decode cX7_refuse 18 = .ok (.iaload, 1) := by decide +kernel
theorem dX7_refuse_19 : decode cX7_refuse 19 = .ok (.iconst 1, 1) := by decide +kernel
theorem dX7_refuse_20 : decode cX7_refuse 20 = .ok (.iadd, 1) := by decide +kernel
theorem dX7_refuse_21 : decode cX7_refuse 21 = .ok (.iastore, 1) := by decide +kernel
theorem dX7_refuse_22 : decode cX7_refuse 22 = .ok (.iload_n 1, 1) := by decide +kernel
theorem dX7_refuse_23 : decode cX7_refuse 23 = .ok (.ireturn, 1) := by decide +kernel
theorem dX7_refuseAmount_0 : decode cX7_refuseAmount 0 = .ok (.ldc 247, 2) := by decide +kernel
theorem dX7_refuseAmount_2 : decode cX7_refuseAmount 2 = .ok (.aload_n 0, 1) := by decide +kernel
theorem dX7_refuseAmount_3 : decode cX7_refuseAmount 3 = .ok (.iload_n 1, 1) := by decide +kernel
theorem dX7_refuseAmount_4 : decode cX7_refuseAmount 4 = .ok (.invokevirtual 73, 3) := by decide +kernel
theorem dX7_refuseAmount_7 : decode cX7_refuseAmount 7 = .ok (.isub, 1) := by decide +kernel
theorem dX7_refuseAmount_8 : decode cX7_refuseAmount 8 = .ok (.ireturn, 1) := by decide +kernel
theorem dX7_refusalsOf_0 : decode cX7_refusalsOf 0 = .ok (.iload_n 1, 1) := by decide +kernel
theorem dX7_refusalsOf_1 : decode cX7_refusalsOf 1 = .ok (.bipush (-6), 2) := by decide +kernel
theorem dX7_refusalsOf_3 : decode cX7_refusalsOf 3 = .ok (.if_icmp .lt 8, 3) := by decide +kernel
theorem dX7_refusalsOf_6 : decode cX7_refusalsOf 6 = .ok (.iload_n 1, 1) := by decide +kernel
theorem dX7_refusalsOf_7 : decode cX7_refusalsOf 7 = .ok (.iconst (-1), 1) := by decide +kernel
theorem dX7_refusalsOf_8 : decode cX7_refusalsOf 8 = .ok (.if_icmp .le 6, 3) := by decide +kernel
theorem dX7_refusalsOf_11 : decode cX7_refusalsOf 11 = .ok (.bipush (-9), 2) := by decide +kernel
theorem dX7_refusalsOf_13 : decode cX7_refusalsOf 13 = .ok (.ireturn, 1) := by decide +kernel
theorem dX7_refusalsOf_14 : decode cX7_refusalsOf 14 = .ok (.aload_n 0, 1) := by decide +kernel
theorem dX7_refusalsOf_15 : decode cX7_refusalsOf 15 = .ok (.getfield 25, 3) := by decide +kernel
theorem dX7_refusalsOf_18 : decode cX7_refusalsOf 18 = .ok (.iload_n 1, 1) := by decide +kernel
theorem dX7_refusalsOf_19 : decode cX7_refusalsOf 19 = .ok (.ineg, 1) := by decide +kernel
theorem dX7_refusalsOf_20 : decode cX7_refusalsOf 20 = .ok (.iaload, 1) := by decide +kernel
theorem dX7_refusalsOf_21 : decode cX7_refusalsOf 21 = .ok (.ireturn, 1) := by decide +kernel
theorem dX7_enterMove_0 : decode cX7_enterMove 0 = .ok (.aload_n 1, 1) := by decide +kernel
theorem dX7_enterMove_1 : decode cX7_enterMove 1 = .ok (.getfield 201, 3) := by decide +kernel
theorem dX7_enterMove_4 : decode cX7_enterMove 4 = .ok (.astore_n 3, 1) := by decide +kernel
theorem dX7_enterMove_5 : decode cX7_enterMove 5 = .ok (.aload_n 0, 1) := by decide +kernel
theorem dX7_enterMove_6 : decode cX7_enterMove 6 = .ok (.getfield 35, 3) := by decide +kernel
theorem dX7_enterMove_9 : decode cX7_enterMove 9 = .ok (.aload_n 3, 1) := by decide +kernel
theorem dX7_enterMove_10 : decode cX7_enterMove 10 = .ok (.getfield 177, 3) := by decide +kernel
theorem dX7_enterMove_13 : decode cX7_enterMove 13 = .ok (.aload_n 3, 1) := by decide +kernel
theorem dX7_enterMove_14 : decode cX7_enterMove 14 = .ok (.getfield 183, 3) := by decide +kernel
theorem dX7_enterMove_17 : decode cX7_enterMove 17 = .ok (.aload_n 3, 1) := by decide +kernel
theorem dX7_enterMove_18 : decode cX7_enterMove 18 = .ok (.getfield 189, 3) := by decide +kernel
theorem dX7_enterMove_21 : decode cX7_enterMove 21 = .ok (.iload_n 2, 1) := by decide +kernel
theorem dX7_enterMove_22 : decode cX7_enterMove 22 = .ok (.ineg, 1) := by decide +kernel
theorem dX7_enterMove_23 : decode cX7_enterMove 23 = .ok (.invokevirtual 91, 3) := by decide +kernel
theorem dX7_enterMove_26 : decode cX7_enterMove 26 = .ok (.aload_n 0, 1) := by decide +kernel
theorem dX7_enterMove_27 : decode cX7_enterMove 27 = .ok (.getfield 35, 3) := by decide +kernel
theorem dX7_enterMove_30 : decode cX7_enterMove 30 = .ok (.aload_n 3, 1) := by decide +kernel
theorem dX7_enterMove_31 : decode cX7_enterMove 31 = .ok (.getfield 180, 3) := by decide +kernel
theorem dX7_enterMove_34 : decode cX7_enterMove 34 = .ok (.aload_n 3, 1) := by decide +kernel
theorem dX7_enterMove_35 : decode cX7_enterMove 35 = .ok (.getfield 183, 3) := by decide +kernel
theorem dX7_enterMove_38 : decode cX7_enterMove 38 = .ok (.aload_n 3, 1) := by decide +kernel
theorem dX7_enterMove_39 : decode cX7_enterMove 39 = .ok (.getfield 189, 3) := by decide +kernel
theorem dX7_enterMove_42 : decode cX7_enterMove 42 = .ok (.iload_n 2, 1) := by decide +kernel
theorem dX7_enterMove_43 : decode cX7_enterMove 43 = .ok (.invokevirtual 91, 3) := by decide +kernel
theorem dX7_enterMove_46 : decode cX7_enterMove 46 = .ok (.return_, 1) := by decide +kernel
theorem dX7_missingOfKind_0 : decode cX7_missingOfKind 0 = .ok (.iconst 0, 1) := by decide +kernel
theorem dX7_missingOfKind_1 : decode cX7_missingOfKind 1 = .ok (.istore_n 2, 1) := by decide +kernel
theorem dX7_missingOfKind_2 : decode cX7_missingOfKind 2 = .ok (.iconst 0, 1) := by decide +kernel
theorem dX7_missingOfKind_3 : decode cX7_missingOfKind 3 = .ok (.istore_n 3, 1) := by decide +kernel
theorem dX7_missingOfKind_4 : decode cX7_missingOfKind 4 = .ok (.iload_n 3, 1) := by decide +kernel
theorem dX7_missingOfKind_5 : decode cX7_missingOfKind 5 = .ok (.aload_n 0, 1) := by decide +kernel
theorem dX7_missingOfKind_6 : decode cX7_missingOfKind 6 = .ok (.getfield 64, 3) := by decide +kernel
theorem dX7_missingOfKind_9 : decode cX7_missingOfKind 9 = .ok (.if_icmp .ge 23, 3) := by decide +kernel
theorem dX7_missingOfKind_12 : decode cX7_missingOfKind 12 = .ok (.iload_n 2, 1) := by decide +kernel
theorem dX7_missingOfKind_13 : decode cX7_missingOfKind 13 = .ok (.aload_n 0, 1) := by decide +kernel
theorem dX7_missingOfKind_14 : decode cX7_missingOfKind 14 = .ok (.getfield 22, 3) := by decide +kernel
theorem dX7_missingOfKind_17 : decode cX7_missingOfKind 17 = .ok (.iload_n 3, 1) := by decide +kernel
theorem dX7_missingOfKind_18 : decode cX7_missingOfKind 18 = .ok (.bipush 6, 2) := by decide +kernel
theorem dX7_missingOfKind_20 : decode cX7_missingOfKind 20 = .ok (.imul, 1) := by decide +kernel
theorem dX7_missingOfKind_21 : decode cX7_missingOfKind 21 = .ok (.iload_n 1, 1) := by decide +kernel
theorem dX7_missingOfKind_22 : decode cX7_missingOfKind 22 = .ok (.iadd, 1) := by decide +kernel
theorem dX7_missingOfKind_23 : decode cX7_missingOfKind 23 = .ok (.iaload, 1) := by decide +kernel
theorem dX7_missingOfKind_24 : decode cX7_missingOfKind 24 = .ok (.iadd, 1) := by decide +kernel
theorem dX7_missingOfKind_25 : decode cX7_missingOfKind 25 = .ok (.istore_n 2, 1) := by decide +kernel
theorem dX7_missingOfKind_26 : decode cX7_missingOfKind 26 = .ok (.iinc 3 1, 3) := by decide +kernel
theorem dX7_missingOfKind_29 : decode cX7_missingOfKind 29 = .ok (.goto (-25), 3) := by decide +kernel
theorem dX7_missingOfKind_32 : decode cX7_missingOfKind 32 = .ok (.iload_n 2, 1) := by decide +kernel
theorem dX7_missingOfKind_33 : decode cX7_missingOfKind 33 = .ok (.ireturn, 1) := by decide +kernel
theorem dX7_shareOf_0 : decode cX7_shareOf 0 = .ok (.lconst 0, 1) := by decide +kernel
theorem dX7_shareOf_1 : decode cX7_shareOf 1 = .ok (.lstore 5, 2) := by decide +kernel
theorem dX7_shareOf_3 : decode cX7_shareOf 3 = .ok (.iconst 0, 1) := by decide +kernel
theorem dX7_shareOf_4 : decode cX7_shareOf 4 = .ok (.istore 7, 2) := by decide +kernel
theorem dX7_shareOf_6 : decode cX7_shareOf 6 = .ok (.iload 7, 2) := by decide +kernel
theorem dX7_shareOf_8 : decode cX7_shareOf 8 = .ok (.aload_n 0, 1) := by decide +kernel
theorem dX7_shareOf_9 : decode cX7_shareOf 9 = .ok (.getfield 64, 3) := by decide +kernel
theorem dX7_shareOf_12 : decode cX7_shareOf 12 = .ok (.if_icmp .ge 25, 3) := by decide +kernel
theorem dX7_shareOf_15 : decode cX7_shareOf 15 = .ok (.lload 5, 2) := by decide +kernel
theorem dX7_shareOf_17 : decode cX7_shareOf 17 = .ok (.aload_n 0, 1) := by decide +kernel
theorem dX7_shareOf_18 : decode cX7_shareOf 18 = .ok (.getfield 42, 3) := by decide +kernel
theorem dX7_shareOf_21 : decode cX7_shareOf 21 = .ok (.iload 7, 2) := by decide +kernel
theorem dX7_shareOf_23 : decode cX7_shareOf 23 = .ok (.iload_n 2, 1) := by decide +kernel
theorem dX7_shareOf_24 : decode cX7_shareOf 24 = .ok (.invokevirtual 153, 3) := by decide +kernel
theorem dX7_shareOf_27 : decode cX7_shareOf 27 = .ok (.i2l, 1) := by decide +kernel
theorem dX7_shareOf_28 : decode cX7_shareOf 28 = .ok (.ladd, 1) := by decide +kernel
theorem dX7_shareOf_29 : decode cX7_shareOf 29 = .ok (.lstore 5, 2) := by decide +kernel
theorem dX7_shareOf_31 : decode cX7_shareOf 31 = .ok (.iinc 7 1, 3) := by decide +kernel
theorem dX7_shareOf_34 : decode cX7_shareOf 34 = .ok (.goto (-28), 3) := by decide +kernel
theorem dX7_shareOf_37 : decode cX7_shareOf 37 = .ok (.lload_n 3, 1) := by decide +kernel
theorem dX7_shareOf_38 : decode cX7_shareOf 38 = .ok (.lconst 0, 1) := by decide +kernel
theorem dX7_shareOf_39 : decode cX7_shareOf 39 = .ok (.lcmp, 1) := by decide +kernel
theorem dX7_shareOf_40 : decode cX7_shareOf 40 = .ok (.ifCond .le 10, 3) := by decide +kernel
theorem dX7_shareOf_43 : decode cX7_shareOf 43 = .ok (.lload 5, 2) := by decide +kernel
theorem dX7_shareOf_45 : decode cX7_shareOf 45 = .ok (.lconst 0, 1) := by decide +kernel
theorem dX7_shareOf_46 : decode cX7_shareOf 46 = .ok (.lcmp, 1) := by decide +kernel
theorem dX7_shareOf_47 : decode cX7_shareOf 47 = .ok (.ifCond .gt 5, 3) := by decide +kernel
theorem dX7_shareOf_50 : decode cX7_shareOf 50 = .ok (.iconst 0, 1) := by decide +kernel
theorem dX7_shareOf_51 : decode cX7_shareOf 51 = .ok (.ireturn, 1) := by decide +kernel
theorem dX7_shareOf_52 : decode cX7_shareOf 52 = .ok (.lload_n 3, 1) := by decide +kernel
theorem dX7_shareOf_53 : decode cX7_shareOf 53 = .ok (.aload_n 0, 1) := by decide +kernel
theorem dX7_shareOf_54 : decode cX7_shareOf 54 = .ok (.getfield 42, 3) := by decide +kernel
theorem dX7_shareOf_57 : decode cX7_shareOf 57 = .ok (.iload_n 1, 1) := by decide +kernel
theorem dX7_shareOf_58 : decode cX7_shareOf 58 = .ok (.iload_n 2, 1) := by decide +kernel
theorem dX7_shareOf_59 : decode cX7_shareOf 59 = .ok (.invokevirtual 153, 3) := by decide +kernel
theorem dX7_shareOf_62 : decode cX7_shareOf 62 = .ok (.i2l, 1) := by decide +kernel
theorem dX7_shareOf_63 : decode cX7_shareOf 63 = .ok (.lmul, 1) := by decide +kernel
theorem dX7_shareOf_64 : decode cX7_shareOf 64 = .ok (.lstore 7, 2) := by decide +kernel
theorem dX7_shareOf_66 : decode cX7_shareOf 66 = .ok (.lload_n 3, 1) := by decide +kernel
theorem dX7_shareOf_67 : decode cX7_shareOf 67 = .ok (.lstore 9, 2) := by decide +kernel
theorem dX7_shareOf_69 : decode cX7_shareOf 69 = .ok (.iconst 0, 1) := by decide +kernel
theorem dX7_shareOf_70 : decode cX7_shareOf 70 = .ok (.istore 11, 2) := by decide +kernel
theorem dX7_shareOf_72 : decode cX7_shareOf 72 = .ok (.iconst 0, 1) := by decide +kernel
theorem dX7_shareOf_73 : decode cX7_shareOf 73 = .ok (.istore 12, 2) := by decide +kernel
theorem dX7_shareOf_75 : decode cX7_shareOf 75 = .ok (.iload 12, 2) := by decide +kernel
theorem dX7_shareOf_77 : decode cX7_shareOf 77 = .ok (.aload_n 0, 1) := by decide +kernel
theorem dX7_shareOf_78 : decode cX7_shareOf 78 = .ok (.getfield 64, 3) := by decide +kernel
theorem dX7_shareOf_81 : decode cX7_shareOf 81 = .ok (.if_icmp .ge 56, 3) := by decide +kernel
theorem dX7_shareOf_84 : decode cX7_shareOf 84 = .ok (.lload_n 3, 1) := by decide +kernel
theorem dX7_shareOf_85 : decode cX7_shareOf 85 = .ok (.aload_n 0, 1) := by decide +kernel
theorem dX7_shareOf_86 : decode cX7_shareOf 86 = .ok (.getfield 42, 3) := by decide +kernel
theorem dX7_shareOf_89 : decode cX7_shareOf 89 = .ok (.iload 12, 2) := by decide +kernel
theorem dX7_shareOf_91 : decode cX7_shareOf 91 = .ok (.iload_n 2, 1) := by decide +kernel
theorem dX7_shareOf_92 : decode cX7_shareOf 92 = .ok (.invokevirtual 153, 3) := by decide +kernel
theorem dX7_shareOf_95 : decode cX7_shareOf 95 = .ok (.i2l, 1) := by decide +kernel
theorem dX7_shareOf_96 : decode cX7_shareOf 96 = .ok (.lmul, 1) := by decide +kernel
theorem dX7_shareOf_97 : decode cX7_shareOf 97 = .ok (.lstore 13, 2) := by decide +kernel
theorem dX7_shareOf_99 : decode cX7_shareOf 99 = .ok (.lload 9, 2) := by decide +kernel
theorem dX7_shareOf_101 : decode cX7_shareOf 101 = .ok (.lload 13, 2) := by decide +kernel
theorem dX7_shareOf_103 : decode cX7_shareOf 103 = .ok (.lload 5, 2) := by decide +kernel
theorem dX7_shareOf_105 : decode cX7_shareOf 105 = .ok (.ldiv, 1) := by decide +kernel
theorem dX7_shareOf_106 : decode cX7_shareOf 106 = .ok (.lsub, 1) := by decide +kernel
theorem dX7_shareOf_107 : decode cX7_shareOf 107 = .ok (.lstore 9, 2) := by decide +kernel
theorem dX7_shareOf_109 : decode cX7_shareOf 109 = .ok (.lload 13, 2) := by decide +kernel
theorem dX7_shareOf_111 : decode cX7_shareOf 111 = .ok (.lload 5, 2) := by decide +kernel
theorem dX7_shareOf_113 : decode cX7_shareOf 113 = .ok (.lrem, 1) := by decide +kernel
theorem dX7_shareOf_114 : decode cX7_shareOf 114 = .ok (.iload 12, 2) := by decide +kernel
theorem dX7_shareOf_116 : decode cX7_shareOf 116 = .ok (.lload 7, 2) := by decide +kernel
theorem dX7_shareOf_118 : decode cX7_shareOf 118 = .ok (.lload 5, 2) := by decide +kernel
theorem dX7_shareOf_120 : decode cX7_shareOf 120 = .ok (.lrem, 1) := by decide +kernel
theorem dX7_shareOf_121 : decode cX7_shareOf 121 = .ok (.iload_n 1, 1) := by decide +kernel
theorem dX7_shareOf_122 : decode cX7_shareOf 122 = .ok (.invokestatic 248, 3) := by decide +kernel
theorem dX7_shareOf_125 : decode cX7_shareOf 125 = .ok (.ifCond .eq 6, 3) := by decide +kernel
theorem dX7_shareOf_128 : decode cX7_shareOf 128 = .ok (.iinc 11 1, 3) := by decide +kernel
theorem dX7_shareOf_131 : decode cX7_shareOf 131 = .ok (.iinc 12 1, 3) := by decide +kernel
theorem dX7_shareOf_134 : decode cX7_shareOf 134 = .ok (.goto (-59), 3) := by decide +kernel
theorem dX7_shareOf_137 : decode cX7_shareOf 137 = .ok (.lload 7, 2) := by decide +kernel
theorem dX7_shareOf_139 : decode cX7_shareOf 139 = .ok (.lload 5, 2) := by decide +kernel
theorem dX7_shareOf_141 : decode cX7_shareOf 141 = .ok (.ldiv, 1) := by decide +kernel
theorem dX7_shareOf_142 : decode cX7_shareOf 142 = .ok (.lstore 12, 2) := by decide +kernel
theorem dX7_shareOf_144 : decode cX7_shareOf 144 = .ok (.iload 11, 2) := by decide +kernel
theorem dX7_shareOf_146 : decode cX7_shareOf 146 = .ok (.i2l, 1) := by decide +kernel
theorem dX7_shareOf_147 : decode cX7_shareOf 147 = .ok (.lload 9, 2) := by decide +kernel
theorem dX7_shareOf_149 : decode cX7_shareOf 149 = .ok (.lcmp, 1) := by decide +kernel
theorem dX7_shareOf_150 : decode cX7_shareOf 150 = .ok (.ifCond .ge 10, 3) := by decide +kernel
theorem dX7_shareOf_153 : decode cX7_shareOf 153 = .ok (.lload 12, 2) := by decide +kernel
theorem dX7_shareOf_155 : decode cX7_shareOf 155 = .ok (.lconst 1, 1) := by decide +kernel
theorem dX7_shareOf_156 : decode cX7_shareOf 156 = .ok (.ladd, 1) := by decide +kernel
theorem dX7_shareOf_157 : decode cX7_shareOf 157 = .ok (.goto 5, 3) := by decide +kernel
theorem dX7_shareOf_160 : decode cX7_shareOf 160 = .ok (.lload 12, 2) := by decide +kernel
theorem dX7_shareOf_162 : decode cX7_shareOf 162 = .ok (.l2i, 1) := by decide +kernel
theorem dX7_shareOf_163 : decode cX7_shareOf 163 = .ok (.ireturn, 1) := by decide +kernel
theorem dX7_isAhead_0 : decode cX7_isAhead 0 = .ok (.lload_n 0, 1) := by decide +kernel
theorem dX7_isAhead_1 : decode cX7_isAhead 1 = .ok (.lload_n 3, 1) := by decide +kernel
theorem dX7_isAhead_2 : decode cX7_isAhead 2 = .ok (.lcmp, 1) := by decide +kernel
theorem dX7_isAhead_3 : decode cX7_isAhead 3 = .ok (.ifCond .gt 15, 3) := by decide +kernel
theorem dX7_isAhead_6 : decode cX7_isAhead 6 = .ok (.lload_n 0, 1) := by decide +kernel
theorem dX7_isAhead_7 : decode cX7_isAhead 7 = .ok (.lload_n 3, 1) := by decide +kernel
theorem dX7_isAhead_8 : decode cX7_isAhead 8 = .ok (.lcmp, 1) := by decide +kernel
theorem dX7_isAhead_9 : decode cX7_isAhead 9 = .ok (.ifCond .ne 13, 3) := by decide +kernel
theorem dX7_isAhead_12 : decode cX7_isAhead 12 = .ok (.iload_n 2, 1) := by decide +kernel
theorem dX7_isAhead_13 : decode cX7_isAhead 13 = .ok (.iload 5, 2) := by decide +kernel
theorem dX7_isAhead_15 : decode cX7_isAhead 15 = .ok (.if_icmp .ge 7, 3) := by decide +kernel
theorem dX7_isAhead_18 : decode cX7_isAhead 18 = .ok (.iconst 1, 1) := by decide +kernel
theorem dX7_isAhead_19 : decode cX7_isAhead 19 = .ok (.goto 4, 3) := by decide +kernel
theorem dX7_isAhead_22 : decode cX7_isAhead 22 = .ok (.iconst 0, 1) := by decide +kernel
theorem dX7_isAhead_23 : decode cX7_isAhead 23 = .ok (.ireturn, 1) := by decide +kernel
theorem dX8_init_0 : decode cX8_init 0 = .ok (.aload_n 0, 1) := by decide +kernel
theorem dX8_init_1 : decode cX8_init 1 = .ok (.invokespecial 1, 3) := by decide +kernel
theorem dX8_init_4 : decode cX8_init 4 = .ok (.aload_n 0, 1) := by decide +kernel
theorem dX8_init_5 : decode cX8_init 5 = .ok (.bipush 6, 2) := by decide +kernel
theorem dX8_init_7 : decode cX8_init 7 = .ok (.newarray .int, 2) := by decide +kernel
theorem dX8_init_9 : decode cX8_init 9 = .ok (.putfield 7, 3) := by decide +kernel
theorem dX8_init_12 : decode cX8_init 12 = .ok (.aload_n 0, 1) := by decide +kernel
theorem dX8_init_13 : decode cX8_init 13 = .ok (.bipush 6, 2) := by decide +kernel
theorem dX8_init_15 : decode cX8_init 15 = .ok (.newarray .int, 2) := by decide +kernel
theorem dX8_init_17 : decode cX8_init 17 = .ok (.putfield 13, 3) := by decide +kernel
theorem dX8_init_20 : decode cX8_init 20 = .ok (.aload_n 0, 1) := by decide +kernel
theorem dX8_init_21 : decode cX8_init 21 = .ok (.sipush 2000, 3) := by decide +kernel
theorem dX8_init_24 : decode cX8_init 24 = .ok (.newarray .int, 2) := by decide +kernel
theorem dX8_init_26 : decode cX8_init 26 = .ok (.putfield 16, 3) := by decide +kernel
theorem dX8_init_29 : decode cX8_init 29 = .ok (.aload_n 0, 1) := by decide +kernel
theorem dX8_init_30 : decode cX8_init 30 = .ok (.sipush 2000, 3) := by decide +kernel
theorem dX8_init_33 : decode cX8_init 33 = .ok (.newarray .int, 2) := by decide +kernel
theorem dX8_init_35 : decode cX8_init 35 = .ok (.putfield 19, 3) := by decide +kernel
theorem dX8_init_38 : decode cX8_init 38 = .ok (.aload_n 0, 1) := by decide +kernel
theorem dX8_init_39 : decode cX8_init 39 = .ok (.sipush 2000, 3) := by decide +kernel
theorem dX8_init_42 : decode cX8_init 42 = .ok (.newarray .int, 2) := by decide +kernel
theorem dX8_init_44 : decode cX8_init 44 = .ok (.putfield 22, 3) := by decide +kernel
theorem dX8_init_47 : decode cX8_init 47 = .ok (.aload_n 0, 1) := by decide +kernel
theorem dX8_init_48 : decode cX8_init 48 = .ok (.sipush 2000, 3) := by decide +kernel
theorem dX8_init_51 : decode cX8_init 51 = .ok (.newarray .int, 2) := by decide +kernel
theorem dX8_init_53 : decode cX8_init 53 = .ok (.putfield 25, 3) := by decide +kernel
theorem dX8_init_56 : decode cX8_init 56 = .ok (.aload_n 0, 1) := by decide +kernel
theorem dX8_init_57 : decode cX8_init 57 = .ok (.bipush 6, 2) := by decide +kernel
theorem dX8_init_59 : decode cX8_init 59 = .ok (.newarray .long, 2) := by decide +kernel
theorem dX8_init_61 : decode cX8_init 61 = .ok (.putfield 28, 3) := by decide +kernel
theorem dX8_init_64 : decode cX8_init 64 = .ok (.aload_n 0, 1) := by decide +kernel
theorem dX8_init_65 : decode cX8_init 65 = .ok (.sipush 200, 3) := by decide +kernel
theorem dX8_init_68 : decode cX8_init 68 = .ok (.newarray .long, 2) := by decide +kernel
theorem dX8_init_70 : decode cX8_init 70 = .ok (.putfield 32, 3) := by decide +kernel
theorem dX8_init_73 : decode cX8_init 73 = .ok (.aload_n 0, 1) := by decide +kernel
theorem dX8_init_74 : decode cX8_init 74 = .ok (.sipush 400, 3) := by decide +kernel
theorem dX8_init_77 : decode cX8_init 77 = .ok (.newarray .boolean, 2) := by decide +kernel
theorem dX8_init_79 : decode cX8_init 79 = .ok (.putfield 35, 3) := by decide +kernel
theorem dX8_init_82 : decode cX8_init 82 = .ok (.aload_n 0, 1) := by decide +kernel
theorem dX8_init_83 : decode cX8_init 83 = .ok (.sipush 400, 3) := by decide +kernel
theorem dX8_init_86 : decode cX8_init 86 = .ok (.newarray .int, 2) := by decide +kernel
theorem dX8_init_88 : decode cX8_init 88 = .ok (.putfield 39, 3) := by decide +kernel
theorem dX8_init_91 : decode cX8_init 91 = .ok (.aload_n 0, 1) := by decide +kernel
theorem dX8_init_92 : decode cX8_init 92 = .ok (.sipush 400, 3) := by decide +kernel
theorem dX8_init_95 : decode cX8_init 95 = .ok (.newarray .int, 2) := by decide +kernel
theorem dX8_init_97 : decode cX8_init 97 = .ok (.putfield 42, 3) := by decide +kernel
theorem dX8_init_100 : decode cX8_init 100 = .ok (.aload_n 0, 1) := by decide +kernel
theorem dX8_init_101 : decode cX8_init 101 = .ok (.sipush 400, 3) := by decide +kernel
theorem dX8_init_104 : decode cX8_init 104 = .ok (.newarray .int, 2) := by decide +kernel
theorem dX8_init_106 : decode cX8_init 106 = .ok (.putfield 45, 3) := by decide +kernel
theorem dX8_init_109 : decode cX8_init 109 = .ok (.aload_n 0, 1) := by decide +kernel
theorem dX8_init_110 : decode cX8_init 110 = .ok (.sipush 400, 3) := by decide +kernel
theorem dX8_init_113 : decode cX8_init 113 = .ok (.newarray .int, 2) := by decide +kernel
theorem dX8_init_115 : decode cX8_init 115 = .ok (.putfield 48, 3) := by decide +kernel
theorem dX8_init_118 : decode cX8_init 118 = .ok (.aload_n 0, 1) := by decide +kernel
theorem dX8_init_119 : decode cX8_init 119 = .ok (.sipush 400, 3) := by decide +kernel
theorem dX8_init_122 : decode cX8_init 122 = .ok (.newarray .int, 2) := by decide +kernel
theorem dX8_init_124 : decode cX8_init 124 = .ok (.putfield 51, 3) := by decide +kernel
theorem dX8_init_127 : decode cX8_init 127 = .ok (.aload_n 0, 1) := by decide +kernel
theorem dX8_init_128 : decode cX8_init 128 = .ok (.sipush 400, 3) := by decide +kernel
theorem dX8_init_131 : decode cX8_init 131 = .ok (.newarray .int, 2) := by decide +kernel
theorem dX8_init_133 : decode cX8_init 133 = .ok (.putfield 54, 3) := by decide +kernel
theorem dX8_init_136 : decode cX8_init 136 = .ok (.aload_n 0, 1) := by decide +kernel
theorem dX8_init_137 : decode cX8_init 137 = .ok (.sipush 400, 3) := by decide +kernel
theorem dX8_init_140 : decode cX8_init 140 = .ok (.newarray .int, 2) := by decide +kernel
theorem dX8_init_142 : decode cX8_init 142 = .ok (.putfield 57, 3) := by decide +kernel
theorem dX8_init_145 : decode cX8_init 145 = .ok (.aload_n 0, 1) := by decide +kernel
theorem dX8_init_146 : decode cX8_init 146 = .ok (.sipush 200, 3) := by decide +kernel
theorem dX8_init_149 : decode cX8_init 149 = .ok (.newarray .int, 2) := by decide +kernel
theorem dX8_init_151 : decode cX8_init 151 = .ok (.putfield 60, 3) := by decide +kernel
theorem dX8_init_154 : decode cX8_init 154 = .ok (.aload_n 0, 1) := by decide +kernel
theorem dX8_init_155 : decode cX8_init 155 = .ok (.sipush 200, 3) := by decide +kernel
theorem dX8_init_158 : decode cX8_init 158 = .ok (.newarray .int, 2) := by decide +kernel
theorem dX8_init_160 : decode cX8_init 160 = .ok (.putfield 63, 3) := by decide +kernel
theorem dX8_init_163 : decode cX8_init 163 = .ok (.aload_n 0, 1) := by decide +kernel
theorem dX8_init_164 : decode cX8_init 164 = .ok (.sipush 200, 3) := by decide +kernel
theorem dX8_init_167 : decode cX8_init 167 = .ok (.newarray .int, 2) := by decide +kernel
theorem dX8_init_169 : decode cX8_init 169 = .ok (.putfield 66, 3) := by decide +kernel
theorem dX8_init_172 : decode cX8_init 172 = .ok (.aload_n 0, 1) := by decide +kernel
theorem dX8_init_173 : decode cX8_init 173 = .ok (.sipush 200, 3) := by decide +kernel
theorem dX8_init_176 : decode cX8_init 176 = .ok (.newarray .boolean, 2) := by decide +kernel
theorem dX8_init_178 : decode cX8_init 178 = .ok (.putfield 69, 3) := by decide +kernel
theorem dX8_init_181 : decode cX8_init 181 = .ok (.aload_n 0, 1) := by decide +kernel
theorem dX8_init_182 : decode cX8_init 182 = .ok (.bipush 60, 2) := by decide +kernel
theorem dX8_init_184 : decode cX8_init 184 = .ok (.newarray .int, 2) := by decide +kernel
theorem dX8_init_186 : decode cX8_init 186 = .ok (.putfield 72, 3) := by decide +kernel
theorem dX8_init_189 : decode cX8_init 189 = .ok (.aload_n 0, 1) := by decide +kernel
theorem dX8_init_190 : decode cX8_init 190 = .ok (.sipush 600, 3) := by decide +kernel
theorem dX8_init_193 : decode cX8_init 193 = .ok (.newarray .int, 2) := by decide +kernel
theorem dX8_init_195 : decode cX8_init 195 = .ok (.putfield 75, 3) := by decide +kernel
theorem dX8_init_198 : decode cX8_init 198 = .ok (.aload_n 0, 1) := by decide +kernel
theorem dX8_init_199 : decode cX8_init 199 = .ok (.bipush 10, 2) := by decide +kernel
theorem dX8_init_201 : decode cX8_init 201 = .ok (.newarray .int, 2) := by decide +kernel
theorem dX8_init_203 : decode cX8_init 203 = .ok (.putfield 78, 3) := by decide +kernel
theorem dX8_init_206 : decode cX8_init 206 = .ok (.aload_n 0, 1) := by decide +kernel
theorem dX8_init_207 : decode cX8_init 207 = .ok (.bipush 10, 2) := by decide +kernel
theorem dX8_init_209 : decode cX8_init 209 = .ok (.newarray .int, 2) := by decide +kernel
theorem dX8_init_211 : decode cX8_init 211 = .ok (.putfield 81, 3) := by decide +kernel
theorem dX8_init_214 : decode cX8_init 214 = .ok (.aload_n 0, 1) := by decide +kernel
theorem dX8_init_215 : decode cX8_init 215 = .ok (.bipush 100, 2) := by decide +kernel
theorem dX8_init_217 : decode cX8_init 217 = .ok (.newarray .int, 2) := by decide +kernel
theorem dX8_init_219 : decode cX8_init 219 = .ok (.putfield 84, 3) := by decide +kernel
theorem dX8_init_222 : decode cX8_init 222 = .ok (.aload_n 0, 1) := by decide +kernel
theorem dX8_init_223 : decode cX8_init 223 = .ok (.bipush 7, 2) := by decide +kernel
theorem dX8_init_225 : decode cX8_init 225 = .ok (.newarray .int, 2) := by decide +kernel
theorem dX8_init_227 : decode cX8_init 227 = .ok (.putfield 87, 3) := by decide +kernel
theorem dX8_init_230 : decode cX8_init 230 = .ok (.aload_n 0, 1) := by decide +kernel
theorem dX8_init_231 : decode cX8_init 231 = .ok (.bipush 8, 2) := by decide +kernel
theorem dX8_init_233 : decode cX8_init 233 = .ok (.newarray .int, 2) := by decide +kernel
theorem dX8_init_235 : decode cX8_init 235 = .ok (.putfield 90, 3) := by decide +kernel
theorem dX8_init_238 : decode cX8_init 238 = .ok (.aload_n 0, 1) := by decide +kernel
theorem dX8_init_239 : decode cX8_init 239 = .ok (.bipush 8, 2) := by decide +kernel
theorem dX8_init_241 : decode cX8_init 241 = .ok (.newarray .int, 2) := by decide +kernel
theorem dX8_init_243 : decode cX8_init 243 = .ok (.putfield 93, 3) := by decide +kernel
theorem dX8_init_246 : decode cX8_init 246 = .ok (.aload_n 0, 1) := by decide +kernel
theorem dX8_init_247 : decode cX8_init 247 = .ok (.sipush 2304, 3) := by decide +kernel
theorem dX8_init_250 : decode cX8_init 250 = .ok (.newarray .int, 2) := by decide +kernel
theorem dX8_init_252 : decode cX8_init 252 = .ok (.putfield 96, 3) := by decide +kernel
theorem dX8_init_255 : decode cX8_init 255 = .ok (.aload_n 0, 1) := by decide +kernel
theorem dX8_init_256 : decode cX8_init 256 = .ok (.bipush 10, 2) := by decide +kernel
theorem dX8_init_258 : decode cX8_init 258 = .ok (.newarray .int, 2) := by decide +kernel
theorem dX8_init_260 : decode cX8_init 260 = .ok (.putfield 99, 3) := by decide +kernel
theorem dX8_init_263 : decode cX8_init 263 = .ok (.aload_n 0, 1) := by decide +kernel
theorem dX8_init_264 : decode cX8_init 264 = .ok (.bipush 10, 2) := by decide +kernel
theorem dX8_init_266 : decode cX8_init 266 = .ok (.newarray .int, 2) := by decide +kernel
theorem dX8_init_268 : decode cX8_init 268 = .ok (.putfield 102, 3) := by decide +kernel
theorem dX8_init_271 : decode cX8_init 271 = .ok (.aload_n 0, 1) := by decide +kernel
theorem dX8_init_272 : decode cX8_init 272 = .ok (.bipush 100, 2) := by decide +kernel
theorem dX8_init_274 : decode cX8_init 274 = .ok (.newarray .int, 2) := by decide +kernel
theorem dX8_init_276 : decode cX8_init 276 = .ok (.putfield 105, 3) := by decide +kernel
theorem dX8_init_279 : decode cX8_init 279 = .ok (.aload_n 0, 1) := by decide +kernel
theorem dX8_init_280 : decode cX8_init 280 = .ok (.bipush 20, 2) := by decide +kernel
theorem dX8_init_282 : decode cX8_init 282 = .ok (.newarray .int, 2) := by decide +kernel
theorem dX8_init_284 : decode cX8_init 284 = .ok (.putfield 108, 3) := by decide +kernel
theorem dX8_init_287 : decode cX8_init 287 = .ok (.aload_n 0, 1) := by decide +kernel
theorem dX8_init_288 : decode cX8_init 288 = .ok (.bipush 20, 2) := by decide +kernel
theorem dX8_init_290 : decode cX8_init 290 = .ok (.newarray .int, 2) := by decide +kernel
theorem dX8_init_292 : decode cX8_init 292 = .ok (.putfield 111, 3) := by decide +kernel
theorem dX8_init_295 : decode cX8_init 295 = .ok (.return_, 1) := by decide +kernel
theorem dX8_in_0 : decode cX8_in 0 = .ok (.iload_n 0, 1) := by decide +kernel
theorem dX8_in_1 : decode cX8_in 1 = .ok (.iload_n 1, 1) := by decide +kernel
theorem dX8_in_2 : decode cX8_in 2 = .ok (.if_icmp .lt 12, 3) := by decide +kernel
theorem dX8_in_5 : decode cX8_in 5 = .ok (.iload_n 0, 1) := by decide +kernel
theorem dX8_in_6 : decode cX8_in 6 = .ok (.iload_n 2, 1) := by decide +kernel
theorem dX8_in_7 : decode cX8_in 7 = .ok (.if_icmp .gt 7, 3) := by decide +kernel
theorem dX8_in_10 : decode cX8_in 10 = .ok (.iconst 1, 1) := by decide +kernel
theorem dX8_in_11 : decode cX8_in 11 = .ok (.goto 4, 3) := by decide +kernel
theorem dX8_in_14 : decode cX8_in 14 = .ok (.iconst 0, 1) := by decide +kernel
theorem dX8_in_15 : decode cX8_in 15 = .ok (.ireturn, 1) := by decide +kernel
theorem dX8_refuse_0 : decode cX8_refuse 0 = .ok (.aload_n 0, 1) := by decide +kernel
theorem dX8_refuse_1 : decode cX8_refuse 1 = .ok (.getfield 87, 3) := by decide +kernel
theorem dX8_refuse_4 : decode cX8_refuse 4 = .ok (.iload_n 1, 1) := by decide +kernel
theorem dX8_refuse_5 : decode cX8_refuse 5 = .ok (.ineg, 1) := by decide +kernel
theorem dX8_refuse_6 : decode cX8_refuse 6 = .ok (.dup2, 1) := by decide +kernel
theorem dX8_refuse_7 : decode cX8_refuse 7 = .ok (.iaload, 1) := by decide +kernel
theorem dX8_refuse_8 : decode cX8_refuse 8 = .ok (.iconst 1, 1) := by decide +kernel
theorem dX8_refuse_9 : decode cX8_refuse 9 = .ok (.iadd, 1) := by decide +kernel
theorem dX8_refuse_10 : decode cX8_refuse 10 = .ok (.iastore, 1) := by decide +kernel
theorem dX8_refuse_11 : decode cX8_refuse 11 = .ok (.iload_n 1, 1) := by decide +kernel
theorem dX8_refuse_12 : decode cX8_refuse 12 = .ok (.ireturn, 1) := by decide +kernel
theorem dX8_refuseBig_0 : decode cX8_refuseBig 0 = .ok (.aload_n 0, 1) := by decide +kernel
theorem dX8_refuseBig_1 : decode cX8_refuseBig 1 = .ok (.getfield 87, 3) := by decide +kernel
theorem dX8_refuseBig_4 : decode cX8_refuseBig 4 = .ok (.iload_n 1, 1) := by decide +kernel
theorem dX8_refuseBig_5 : decode cX8_refuseBig 5 = .ok (.ineg, 1) := by decide +kernel
theorem dX8_refuseBig_6 : decode cX8_refuseBig 6 = .ok (.dup2, 1) := by decide +kernel
theorem dX8_refuseBig_7 : decode cX8_refuseBig 7 = .ok (.iaload, 1) := by decide +kernel
theorem dX8_refuseBig_8 : decode cX8_refuseBig 8 = .ok (.iconst 1, 1) := by decide +kernel
theorem dX8_refuseBig_9 : decode cX8_refuseBig 9 = .ok (.iadd, 1) := by decide +kernel
theorem dX8_refuseBig_10 : decode cX8_refuseBig 10 = .ok (.iastore, 1) := by decide +kernel
theorem dX8_refuseBig_11 : decode cX8_refuseBig 11 = .ok (.ldc 114, 2) := by decide +kernel
theorem dX8_refuseBig_13 : decode cX8_refuseBig 13 = .ok (.iload_n 1, 1) := by decide +kernel
theorem dX8_refuseBig_14 : decode cX8_refuseBig 14 = .ok (.isub, 1) := by decide +kernel
theorem dX8_refuseBig_15 : decode cX8_refuseBig 15 = .ok (.ireturn, 1) := by decide +kernel
theorem dX8_isHouse_0 : decode cX8_isHouse 0 = .ok (.iload_n 1, 1) := by decide +kernel
theorem dX8_isHouse_1 : decode cX8_isHouse 1 = .ok (.iconst 0, 1) := by decide +kernel
theorem dX8_isHouse_2 : decode cX8_isHouse 2 = .ok (.aload_n 0, 1) := by decide +kernel
theorem dX8_isHouse_3 : decode cX8_isHouse 3 = .ok (.getfield 115, 3) := by decide +kernel
theorem dX8_isHouse_6 : decode cX8_isHouse 6 = .ok (.iconst 1, 1) := by decide +kernel
theorem dX8_isHouse_7 : decode cX8_isHouse 7 = .ok (.isub, 1) := by decide +kernel
theorem dX8_isHouse_8 : decode cX8_isHouse 8 = .ok (.invokestatic 119, 3) := by decide +kernel
theorem dX8_isHouse_11 : decode cX8_isHouse 11 = .ok (.ireturn, 1) := by decide +kernel
theorem dX8_isKind_0 : decode cX8_isKind 0 = .ok (.iload_n 1, 1) := by decide +kernel
theorem dX8_isKind_1 : decode cX8_isKind 1 = .ok (.iconst 0, 1) := by decide +kernel
theorem dX8_isKind_2 : decode cX8_isKind 2 = .ok (.aload_n 0, 1) := by decide +kernel
theorem dX8_isKind_3 : decode cX8_isKind 3 = .ok (.getfield 123, 3) := by decide +kernel
theorem dX8_isKind_6 : decode cX8_isKind 6 = .ok (.iconst 1, 1) := by decide +kernel
theorem dX8_isKind_7 : decode cX8_isKind 7 = .ok (.isub, 1) := by decide +kernel
theorem dX8_isKind_8 : decode cX8_isKind 8 = .ok (.invokestatic 119, 3) := by decide +kernel
theorem dX8_isKind_11 : decode cX8_isKind 11 = .ok (.ireturn, 1) := by decide +kernel
theorem dX8_house_0 : decode cX8_house 0 = .ok (.aload_n 0, 1) := by decide +kernel
theorem dX8_house_1 : decode cX8_house 1 = .ok (.getfield 115, 3) := by decide +kernel
theorem dX8_house_4 : decode cX8_house 4 = .ok (.bipush 10, 2) := by decide +kernel
theorem dX8_house_6 : decode cX8_house 6 = .ok (.if_icmp .ne 10, 3) := by decide +kernel
theorem dX8_house_9 : decode cX8_house 9 = .ok (.aload_n 0, 1) := by decide +kernel
theorem dX8_house_10 : decode cX8_house 10 = .ok (.bipush (-6), 2) := by decide +kernel
theorem dX8_house_12 : decode cX8_house 12 = .ok (.invokevirtual 126, 3) := by decide +kernel
theorem dX8_house_15 : decode cX8_house 15 = .ok (.ireturn, 1) := by decide +kernel
theorem dX8_house_16 : decode cX8_house 16 = .ok (.aload_n 0, 1) := by decide +kernel
theorem dX8_house_17 : decode cX8_house 17 = .ok (.dup, 1) := by decide +kernel
theorem dX8_house_18 : decode cX8_house 18 = .ok (.getfield 115, 3) := by decide +kernel
theorem dX8_house_21 : decode cX8_house 21 = .ok (.iconst 1, 1) := by decide +kernel
theorem dX8_house_22 : decode cX8_house 22 = .ok (.iadd, 1) := by decide +kernel
theorem dX8_house_23 : decode cX8_house 23 = .ok (.putfield 115, 3) := by decide +kernel
theorem dX8_house_26 : decode cX8_house 26 = .ok (.aload_n 0, 1) := by decide +kernel
theorem dX8_house_27 : decode cX8_house 27 = .ok (.getfield 115, 3) := by decide +kernel
theorem dX8_house_30 : decode cX8_house 30 = .ok (.iconst 1, 1) := by decide +kernel
theorem dX8_house_31 : decode cX8_house 31 = .ok (.isub, 1) := by decide +kernel
theorem dX8_house_32 : decode cX8_house 32 = .ok (.ireturn, 1) := by decide +kernel
theorem dX8_kind_0 : decode cX8_kind 0 = .ok (.iload_n 1, 1) := by decide +kernel
theorem dX8_kind_1 : decode cX8_kind 1 = .ok (.iconst 1, 1) := by decide +kernel
theorem dX8_kind_2 : decode cX8_kind 2 = .ok (.if_icmp .lt 7, 3) := by decide +kernel
theorem dX8_kind_5 : decode cX8_kind 5 = .ok (.iload_n 2, 1) := by decide +kernel
theorem dX8_kind_6 : decode cX8_kind 6 = .ok (.ifCond .ge 10, 3) := by decide +kernel
theorem dX8_kind_9 : decode cX8_kind 9 = .ok (.aload_n 0, 1) := by decide +kernel
theorem dX8_kind_10 : decode cX8_kind 10 = .ok (.bipush (-4), 2) := by decide +kernel
theorem dX8_kind_12 : decode cX8_kind 12 = .ok (.invokevirtual 126, 3) := by decide +kernel
theorem dX8_kind_15 : decode cX8_kind 15 = .ok (.ireturn, 1) := by decide +kernel
theorem dX8_kind_16 : decode cX8_kind 16 = .ok (.iload_n 1, 1) := by decide +kernel
theorem dX8_kind_17 : decode cX8_kind 17 = .ok (.sipush 1000, 3) := by decide +kernel
theorem dX8_kind_20 : decode cX8_kind 20 = .ok (.if_icmp .gt 18, 3) := by decide +kernel
theorem dX8_kind_23 : decode cX8_kind 23 = .ok (.iload_n 2, 1) := by decide +kernel
theorem dX8_kind_24 : decode cX8_kind 24 = .ok (.bipush 100, 2) := by decide +kernel
theorem dX8_kind_26 : decode cX8_kind 26 = .ok (.if_icmp .gt 12, 3) := by decide +kernel
theorem dX8_kind_29 : decode cX8_kind 29 = .ok (.aload_n 0, 1) := by decide +kernel
theorem dX8_kind_30 : decode cX8_kind 30 = .ok (.getfield 123, 3) := by decide +kernel
theorem dX8_kind_33 : decode cX8_kind 33 = .ok (.bipush 6, 2) := by decide +kernel
theorem dX8_kind_35 : decode cX8_kind 35 = .ok (.if_icmp .ne 10, 3) := by decide +kernel
theorem dX8_kind_38 : decode cX8_kind 38 = .ok (.aload_n 0, 1) := by decide +kernel
theorem dX8_kind_39 : decode cX8_kind 39 = .ok (.bipush (-6), 2) := by decide +kernel
theorem dX8_kind_41 : decode cX8_kind 41 = .ok (.invokevirtual 126, 3) := by decide +kernel
theorem dX8_kind_44 : decode cX8_kind 44 = .ok (.ireturn, 1) := by decide +kernel
theorem dX8_kind_45 : decode cX8_kind 45 = .ok (.aload_n 0, 1) := by decide +kernel
theorem dX8_kind_46 : decode cX8_kind 46 = .ok (.getfield 7, 3) := by decide +kernel
theorem dX8_kind_49 : decode cX8_kind 49 = .ok (.aload_n 0, 1) := by decide +kernel
theorem dX8_kind_50 : decode cX8_kind 50 = .ok (.getfield 123, 3) := by decide +kernel
theorem dX8_kind_53 : decode cX8_kind 53 = .ok (.iload_n 1, 1) := by decide +kernel
theorem dX8_kind_54 : decode cX8_kind 54 = .ok (.iastore, 1) := by decide +kernel
theorem dX8_kind_55 : decode cX8_kind 55 = .ok (.aload_n 0, 1) := by decide +kernel
theorem dX8_kind_56 : decode cX8_kind 56 = .ok (.getfield 13, 3) := by decide +kernel
theorem dX8_kind_59 : decode cX8_kind 59 = .ok (.aload_n 0, 1) := by decide +kernel
theorem dX8_kind_60 : decode cX8_kind 60 = .ok (.getfield 123, 3) := by decide +kernel
theorem dX8_kind_63 : decode cX8_kind 63 = .ok (.iload_n 2, 1) := by decide +kernel
theorem dX8_kind_64 : decode cX8_kind 64 = .ok (.iastore, 1) := by decide +kernel
theorem dX8_kind_65 : decode cX8_kind 65 = .ok (.aload_n 0, 1) := by decide +kernel
theorem dX8_kind_66 : decode cX8_kind 66 = .ok (.dup, 1) := by decide +kernel
theorem dX8_kind_67 : decode cX8_kind 67 = .ok (.getfield 123, 3) := by decide +kernel
theorem dX8_kind_70 : decode cX8_kind 70 = .ok (.iconst 1, 1) := by decide +kernel
theorem dX8_kind_71 : decode cX8_kind 71 = .ok (.iadd, 1) := by decide +kernel
theorem dX8_kind_72 : decode cX8_kind 72 = .ok (.putfield 123, 3) := by decide +kernel
theorem dX8_kind_75 : decode cX8_kind 75 = .ok (.aload_n 0, 1) := by decide +kernel
theorem dX8_kind_76 : decode cX8_kind 76 = .ok (.getfield 123, 3) := by decide +kernel
theorem dX8_kind_79 : decode cX8_kind 79 = .ok (.iconst 1, 1) := by decide +kernel
theorem dX8_kind_80 : decode cX8_kind 80 = .ok (.isub, 1) := by decide +kernel
theorem dX8_kind_81 : decode cX8_kind 81 = .ok (.ireturn, 1) := by decide +kernel
theorem dX8_days_0 : decode cX8_days 0 = .ok (.iload_n 1, 1) := by decide +kernel
theorem dX8_days_1 : decode cX8_days 1 = .ok (.iconst 1, 1) := by decide +kernel
theorem dX8_days_2 : decode cX8_days 2 = .ok (.if_icmp .ge 10, 3) := by decide +kernel
theorem dX8_days_5 : decode cX8_days 5 = .ok (.aload_n 0, 1) := by decide +kernel
theorem dX8_days_6 : decode cX8_days 6 = .ok (.bipush (-4), 2) := by decide +kernel
theorem dX8_days_8 : decode cX8_days 8 = .ok (.invokevirtual 126, 3) := by decide +kernel
theorem dX8_days_11 : decode cX8_days 11 = .ok (.ireturn, 1) := by decide +kernel
theorem dX8_days_12 : decode cX8_days 12 = .ok (.iload_n 1, 1) := by decide +kernel
theorem dX8_days_13 : decode cX8_days 13 = .ok (.sipush 599, 3) := by decide +kernel
theorem dX8_days_16 : decode cX8_days 16 = .ok (.aload_n 0, 1) := by decide +kernel
theorem dX8_days_17 : decode cX8_days 17 = .ok (.getfield 130, 3) := by decide +kernel
theorem dX8_days_20 : decode cX8_days 20 = .ok (.isub, 1) := by decide +kernel
theorem dX8_days_21 : decode cX8_days 21 = .ok (.if_icmp .le 10, 3) := by decide +kernel
theorem dX8_days_24 : decode cX8_days 24 = .ok (.aload_n 0, 1) := by decide +kernel
theorem dX8_days_25 : decode cX8_days 25 = .ok (.bipush (-6), 2) := by decide +kernel
theorem dX8_days_27 : decode cX8_days 27 = .ok (.invokevirtual 126, 3) := by decide +kernel
theorem dX8_days_30 : decode cX8_days 30 = .ok (.ireturn, 1) := by decide +kernel
theorem dX8_days_31 : decode cX8_days 31 = .ok (.aload_n 0, 1) := by decide +kernel
theorem dX8_days_32 : decode cX8_days 32 = .ok (.dup, 1) := by decide +kernel
theorem dX8_days_33 : decode cX8_days 33 = .ok (.getfield 130, 3) := by decide +kernel
theorem dX8_days_36 : decode cX8_days 36 = .ok (.iload_n 1, 1) := by decide +kernel
theorem dX8_days_37 : decode cX8_days 37 = .ok (.iadd, 1) := by decide +kernel
theorem dX8_days_38 : decode cX8_days 38 = .ok (.putfield 130, 3) := by decide +kernel
theorem dX8_days_41 : decode cX8_days 41 = .ok (.aload_n 0, 1) := by decide +kernel
theorem dX8_days_42 : decode cX8_days 42 = .ok (.getfield 130, 3) := by decide +kernel
theorem dX8_days_45 : decode cX8_days 45 = .ok (.ireturn, 1) := by decide +kernel
theorem dX8_enter_0 : decode cX8_enter 0 = .ok (.aload_n 0, 1) := by decide +kernel
theorem dX8_enter_1 : decode cX8_enter 1 = .ok (.getfield 16, 3) := by decide +kernel
theorem dX8_enter_4 : decode cX8_enter 4 = .ok (.aload_n 0, 1) := by decide +kernel
theorem dX8_enter_5 : decode cX8_enter 5 = .ok (.getfield 133, 3) := by decide +kernel
theorem dX8_enter_8 : decode cX8_enter 8 = .ok (.iload_n 1, 1) := by decide +kernel
theorem dX8_enter_9 : decode cX8_enter 9 = .ok (.iastore, 1) := by decide +kernel
theorem dX8_enter_10 : decode cX8_enter 10 = .ok (.aload_n 0, 1) := by decide +kernel
theorem dX8_enter_11 : decode cX8_enter 11 = .ok (.getfield 19, 3) := by decide +kernel
theorem dX8_enter_14 : decode cX8_enter 14 = .ok (.aload_n 0, 1) := by decide +kernel
theorem dX8_enter_15 : decode cX8_enter 15 = .ok (.getfield 133, 3) := by decide +kernel
theorem dX8_enter_18 : decode cX8_enter 18 = .ok (.iload_n 2, 1) := by decide +kernel
theorem dX8_enter_19 : decode cX8_enter 19 = .ok (.iastore, 1) := by decide +kernel
theorem dX8_enter_20 : decode cX8_enter 20 = .ok (.aload_n 0, 1) := by decide +kernel
theorem dX8_enter_21 : decode cX8_enter 21 = .ok (.getfield 22, 3) := by decide +kernel
theorem dX8_enter_24 : decode cX8_enter 24 = .ok (.aload_n 0, 1) := by decide +kernel
theorem dX8_enter_25 : decode cX8_enter 25 = .ok (.getfield 133, 3) := by decide +kernel
theorem dX8_enter_28 : decode cX8_enter 28 = .ok (.iload_n 3, 1) := by decide +kernel
theorem dX8_enter_29 : decode cX8_enter 29 = .ok (.bipush 30, 2) := by decide +kernel
theorem dX8_enter_31 : decode cX8_enter 31 = .ok (.aload_n 0, 1) := by decide +kernel
theorem dX8_enter_32 : decode cX8_enter 32 = .ok (.getfield 136, 3) := by decide +kernel
theorem dX8_enter_35 : decode cX8_enter 35 = .ok (.imul, 1) := by decide +kernel
theorem dX8_enter_36 : decode cX8_enter 36 = .ok (.if_icmp .ge 13, 3) := by decide +kernel
theorem dX8_enter_39 : decode cX8_enter 39 = .ok (.bipush 30, 2) := by decide +kernel
theorem dX8_enter_41 : decode cX8_enter 41 = .ok (.aload_n 0, 1) := by decide +kernel
theorem dX8_enter_42 : decode cX8_enter 42 = .ok (.getfield 136, 3) := by decide +kernel
theorem dX8_enter_45 : decode cX8_enter 45 = .ok (.imul, 1) := by decide +kernel
theorem dX8_enter_46 : decode cX8_enter 46 = .ok (.goto 4, 3) := by decide +kernel
theorem dX8_enter_49 : decode cX8_enter 49 = .ok (.iload_n 3, 1) := by decide +kernel
theorem dX8_enter_50 : decode cX8_enter 50 = .ok (.iastore, 1) := by decide +kernel
theorem dX8_enter_51 : decode cX8_enter 51 = .ok (.aload_n 0, 1) := by decide +kernel
theorem dX8_enter_52 : decode cX8_enter 52 = .ok (.getfield 25, 3) := by decide +kernel
theorem dX8_enter_55 : decode cX8_enter 55 = .ok (.aload_n 0, 1) := by decide +kernel
theorem dX8_enter_56 : decode cX8_enter 56 = .ok (.getfield 133, 3) := by decide +kernel
theorem dX8_enter_59 : decode cX8_enter 59 = .ok (.iload 4, 2) := by decide +kernel
theorem dX8_enter_61 : decode cX8_enter 61 = .ok (.iastore, 1) := by decide +kernel
theorem dX8_enter_62 : decode cX8_enter 62 = .ok (.aload_n 0, 1) := by decide +kernel
theorem dX8_enter_63 : decode cX8_enter 63 = .ok (.dup, 1) := by decide +kernel
theorem dX8_enter_64 : decode cX8_enter 64 = .ok (.getfield 133, 3) := by decide +kernel
theorem dX8_enter_67 : decode cX8_enter 67 = .ok (.iconst 1, 1) := by decide +kernel
theorem dX8_enter_68 : decode cX8_enter 68 = .ok (.iadd, 1) := by decide +kernel
theorem dX8_enter_69 : decode cX8_enter 69 = .ok (.putfield 133, 3) := by decide +kernel
theorem dX8_enter_72 : decode cX8_enter 72 = .ok (.return_, 1) := by decide +kernel
theorem dX8_accountOf_0 : decode cX8_accountOf 0 = .ok (.iconst 0, 1) := by decide +kernel
theorem dX8_accountOf_1 : decode cX8_accountOf 1 = .ok (.istore 4, 2) := by decide +kernel
theorem dX8_accountOf_3 : decode cX8_accountOf 3 = .ok (.iconst 0, 1) := by decide +kernel
theorem dX8_accountOf_4 : decode cX8_accountOf 4 = .ok (.istore 5, 2) := by decide +kernel
theorem dX8_accountOf_6 : decode cX8_accountOf 6 = .ok (.iload 5, 2) := by decide +kernel
theorem dX8_accountOf_8 : decode cX8_accountOf 8 = .ok (.aload_n 0, 1) := by decide +kernel
theorem dX8_accountOf_9 : decode cX8_accountOf 9 = .ok (.getfield 133, 3) := by decide +kernel
theorem dX8_accountOf_12 : decode cX8_accountOf 12 = .ok (.if_icmp .ge 58, 3) := by decide +kernel
theorem dX8_accountOf_15 : decode cX8_accountOf 15 = .ok (.iload 4, 2) := by decide +kernel
theorem dX8_accountOf_17 : decode cX8_accountOf 17 = .ok (.aload_n 0, 1) := by decide +kernel
theorem dX8_accountOf_18 : decode cX8_accountOf 18 = .ok (.getfield 16, 3) := by decide +kernel
theorem dX8_accountOf_21 : decode cX8_accountOf 21 = .ok (.iload 5, 2) := by decide +kernel
theorem dX8_accountOf_23 : decode cX8_accountOf 23 = .ok (.iaload, 1) := by decide +kernel
theorem dX8_accountOf_24 : decode cX8_accountOf 24 = .ok (.iload_n 1, 1) := by decide +kernel
theorem dX8_accountOf_25 : decode cX8_accountOf 25 = .ok (.if_icmp .ne 35, 3) := by decide +kernel
theorem dX8_accountOf_28 : decode cX8_accountOf 28 = .ok (.aload_n 0, 1) := by decide +kernel
theorem dX8_accountOf_29 : decode cX8_accountOf 29 = .ok (.getfield 19, 3) := by decide +kernel
theorem dX8_accountOf_32 : decode cX8_accountOf 32 = .ok (.iload 5, 2) := by decide +kernel
theorem dX8_accountOf_34 : decode cX8_accountOf 34 = .ok (.iaload, 1) := by decide +kernel
theorem dX8_accountOf_35 : decode cX8_accountOf 35 = .ok (.iload_n 2, 1) := by decide +kernel
theorem dX8_accountOf_36 : decode cX8_accountOf 36 = .ok (.if_icmp .ne 24, 3) := by decide +kernel
theorem dX8_accountOf_39 : decode cX8_accountOf 39 = .ok (.aload_n 0, 1) := by decide +kernel
theorem dX8_accountOf_40 : decode cX8_accountOf 40 = .ok (.getfield 22, 3) := by decide +kernel
theorem dX8_accountOf_43 : decode cX8_accountOf 43 = .ok (.iload 5, 2) := by decide +kernel
theorem dX8_accountOf_45 : decode cX8_accountOf 45 = .ok (.iaload, 1) := by decide +kernel
theorem dX8_accountOf_46 : decode cX8_accountOf 46 = .ok (.iload_n 3, 1) := by decide +kernel
theorem dX8_accountOf_47 : decode cX8_accountOf 47 = .ok (.if_icmp .gt 13, 3) := by decide +kernel
theorem dX8_accountOf_50 : decode cX8_accountOf 50 = .ok (.aload_n 0, 1) := by decide +kernel
theorem dX8_accountOf_51 : decode cX8_accountOf 51 = .ok (.getfield 25, 3) := by decide +kernel
theorem dX8_accountOf_54 : decode cX8_accountOf 54 = .ok (.iload 5, 2) := by decide +kernel
theorem dX8_accountOf_56 : decode cX8_accountOf 56 = .ok (.iaload, 1) := by decide +kernel
theorem dX8_accountOf_57 : decode cX8_accountOf 57 = .ok (.goto 4, 3) := by decide +kernel
theorem dX8_accountOf_60 : decode cX8_accountOf 60 = .ok (.iconst 0, 1) := by decide +kernel
theorem dX8_accountOf_61 : decode cX8_accountOf 61 = .ok (.iadd, 1) := by decide +kernel
theorem dX8_accountOf_62 : decode cX8_accountOf 62 = .ok (.istore 4, 2) := by decide +kernel
theorem dX8_accountOf_64 : decode cX8_accountOf 64 = .ok (.iinc 5 1, 3) := by decide +kernel
theorem dX8_accountOf_67 : decode cX8_accountOf 67 = .ok (.goto (-61), 3) := by decide +kernel
theorem dX8_accountOf_70 : decode cX8_accountOf 70 = .ok (.iload 4, 2) := by decide +kernel
theorem dX8_accountOf_72 : decode cX8_accountOf 72 = .ok (.ireturn, 1) := by decide +kernel
theorem dX8_account_0 : decode cX8_account 0 = .ok (.aload_n 0, 1) := by decide +kernel
theorem dX8_account_1 : decode cX8_account 1 = .ok (.iload_n 1, 1) := by decide +kernel
theorem dX8_account_2 : decode cX8_account 2 = .ok (.invokevirtual 139, 3) := by decide +kernel
theorem dX8_account_5 : decode cX8_account 5 = .ok (.ifCond .eq 11, 3) := by decide +kernel
theorem dX8_account_8 : decode cX8_account 8 = .ok (.aload_n 0, 1) := by decide +kernel
theorem dX8_account_9 : decode cX8_account 9 = .ok (.iload_n 2, 1) := by decide +kernel
theorem dX8_account_10 : decode cX8_account 10 = .ok (.invokevirtual 143, 3) := by decide +kernel
theorem dX8_account_13 : decode cX8_account 13 = .ok (.ifCond .ne 9, 3) := by decide +kernel
theorem dX8_account_16 : decode cX8_account 16 = .ok (.aload_n 0, 1) := by decide +kernel
theorem dX8_account_17 : decode cX8_account 17 = .ok (.iconst (-1), 1) := by decide +kernel
theorem dX8_account_18 : decode cX8_account 18 = .ok (.invokevirtual 146, 3) := by decide +kernel
theorem dX8_account_21 : decode cX8_account 21 = .ok (.ireturn, 1) := by decide +kernel
theorem dX8_account_22 : decode cX8_account 22 = .ok (.iload_n 3, 1) := by decide +kernel
theorem dX8_account_23 : decode cX8_account 23 = .ok (.ifCond .ge 10, 3) := by decide +kernel
theorem dX8_account_26 : decode cX8_account 26 = .ok (.aload_n 0, 1) := by decide +kernel
theorem dX8_account_27 : decode cX8_account 27 = .ok (.bipush (-4), 2) := by decide +kernel
theorem dX8_account_29 : decode cX8_account 29 = .ok (.invokevirtual 146, 3) := by decide +kernel
theorem dX8_account_32 : decode cX8_account 32 = .ok (.ireturn, 1) := by decide +kernel
theorem dX8_account_33 : decode cX8_account 33 = .ok (.iload_n 3, 1) := by decide +kernel
theorem dX8_account_34 : decode cX8_account 34 = .ok (.sipush 599, 3) := by decide +kernel
theorem dX8_account_37 : decode cX8_account 37 = .ok (.if_icmp .le 12, 3) := by decide +kernel
theorem dX8_account_40 : decode cX8_account 40 = .ok (.aload_n 0, 1) := by decide +kernel
theorem dX8_account_41 : decode cX8_account 41 = .ok (.bipush (-6), 2) := by decide +kernel
theorem dX8_account_43 : decode cX8_account 43 = .ok (.invokevirtual 146, 3) := by decide +kernel
theorem dX8_account_46 : decode cX8_account 46 = .ok (.goto 10, 3) := by decide +kernel
theorem dX8_account_49 : decode cX8_account 49 = .ok (.aload_n 0, 1) := by decide +kernel
theorem dX8_account_50 : decode cX8_account 50 = .ok (.iload_n 1, 1) := by decide +kernel
theorem dX8_account_51 : decode cX8_account 51 = .ok (.iload_n 2, 1) := by decide +kernel
theorem dX8_account_52 : decode cX8_account 52 = .ok (.iload_n 3, 1) := by decide +kernel
theorem dX8_account_53 : decode cX8_account 53 = .ok (.invokevirtual 149, 3) := by decide +kernel
theorem dX8_account_56 : decode cX8_account 56 = .ok (.ireturn, 1) := by decide +kernel
theorem dX8_buy_0 : decode cX8_buy 0 = .ok (.aload_n 0, 1) := by decide +kernel
theorem dX8_buy_1 : decode cX8_buy 1 = .ok (.iload_n 1, 1) := by decide +kernel
theorem dX8_buy_2 : decode cX8_buy 2 = .ok (.invokevirtual 139, 3) := by decide +kernel
theorem dX8_buy_5 : decode cX8_buy 5 = .ok (.ifCond .eq 11, 3) := by decide +kernel
theorem dX8_buy_8 : decode cX8_buy 8 = .ok (.aload_n 0, 1) := by decide +kernel
theorem dX8_buy_9 : decode cX8_buy 9 = .ok (.iload_n 2, 1) := by decide +kernel
theorem dX8_buy_10 : decode cX8_buy 10 = .ok (.invokevirtual 143, 3) := by decide +kernel
theorem dX8_buy_13 : decode cX8_buy 13 = .ok (.ifCond .ne 9, 3) := by decide +kernel
theorem dX8_buy_16 : decode cX8_buy 16 = .ok (.aload_n 0, 1) := by decide +kernel
theorem dX8_buy_17 : decode cX8_buy 17 = .ok (.iconst (-1), 1) := by decide +kernel
theorem dX8_buy_18 : decode cX8_buy 18 = .ok (.invokevirtual 146, 3) := by decide +kernel
theorem dX8_buy_21 : decode cX8_buy 21 = .ok (.ireturn, 1) := by decide +kernel
theorem dX8_buy_22 : decode cX8_buy 22 = .ok (.iload_n 3, 1) := by decide +kernel
theorem dX8_buy_23 : decode cX8_buy 23 = .ok (.iconst 1, 1) := by decide +kernel
theorem dX8_buy_24 : decode cX8_buy 24 = .ok (.if_icmp .ge 10, 3) := by decide +kernel
theorem dX8_buy_27 : decode cX8_buy 27 = .ok (.aload_n 0, 1) := by decide +kernel
theorem dX8_buy_28 : decode cX8_buy 28 = .ok (.bipush (-4), 2) := by decide +kernel
theorem dX8_buy_30 : decode cX8_buy 30 = .ok (.invokevirtual 146, 3) := by decide +kernel
theorem dX8_buy_33 : decode cX8_buy 33 = .ok (.ireturn, 1) := by decide +kernel
end
section
theorem dX8_buy_34 : decode cX8_buy 34 = .ok (.iload_n 3, 1) := by decide +kernel
theorem dX8_buy_35 : decode cX8_buy 35 = .ok (.sipush 1000, 3) := by decide +kernel
theorem dX8_buy_38 : decode cX8_buy 38 = .ok (.if_icmp .gt 13, 3) := by decide +kernel
theorem dX8_buy_41 : decode cX8_buy 41 = .ok (.aload_n 0, 1) := by decide +kernel
theorem dX8_buy_42 : decode cX8_buy 42 = .ok (.getfield 133, 3) := by decide +kernel
theorem dX8_buy_45 : decode cX8_buy 45 = .ok (.sipush 2000, 3) := by decide +kernel
theorem dX8_buy_48 : decode cX8_buy 48 = .ok (.if_icmp .ne 10, 3) := by decide +kernel
theorem dX8_buy_51 : decode cX8_buy 51 = .ok (.aload_n 0, 1) := by decide +kernel
theorem dX8_buy_52 : decode cX8_buy 52 = .ok (.bipush (-6), 2) := by decide +kernel
theorem dX8_buy_54 : decode cX8_buy 54 = .ok (.invokevirtual 146, 3) := by decide +kernel
theorem dX8_buy_57 : decode cX8_buy 57 = .ok (.ireturn, 1) := by decide +kernel
theorem dX8_buy_58 : decode cX8_buy 58 = .ok (.aload_n 0, 1) := by decide +kernel
theorem dX8_buy_59 : decode cX8_buy 59 = .ok (.iload_n 1, 1) := by decide +kernel
theorem dX8_buy_60 : decode cX8_buy 60 = .ok (.iload_n 2, 1) := by decide +kernel
theorem dX8_buy_61 : decode cX8_buy 61 = .ok (.aload_n 0, 1) := by decide +kernel
theorem dX8_buy_62 : decode cX8_buy 62 = .ok (.getfield 130, 3) := by decide +kernel
theorem dX8_buy_65 : decode cX8_buy 65 = .ok (.iload_n 3, 1) := by decide +kernel
theorem dX8_buy_66 : decode cX8_buy 66 = .ok (.invokevirtual 153, 3) := by decide +kernel
theorem dX8_buy_69 : decode cX8_buy 69 = .ok (.aload_n 0, 1) := by decide +kernel
theorem dX8_buy_70 : decode cX8_buy 70 = .ok (.getfield 28, 3) := by decide +kernel
theorem dX8_buy_73 : decode cX8_buy 73 = .ok (.iload_n 2, 1) := by decide +kernel
theorem dX8_buy_74 : decode cX8_buy 74 = .ok (.dup2, 1) := by decide +kernel
theorem dX8_buy_75 : decode cX8_buy 75 = .ok (.laload, 1) := by decide +kernel
theorem dX8_buy_76 : decode cX8_buy 76 = .ok (.iload_n 3, 1) := by decide +kernel
theorem dX8_buy_77 : decode cX8_buy 77 = .ok (.i2l, 1) := by decide +kernel
theorem dX8_buy_78 : decode cX8_buy 78 = .ok (.ladd, 1) := by decide +kernel
theorem dX8_buy_79 : decode cX8_buy 79 = .ok (.lastore, 1) := by decide +kernel
theorem dX8_buy_80 : decode cX8_buy 80 = .ok (.aload_n 0, 1) := by decide +kernel
theorem dX8_buy_81 : decode cX8_buy 81 = .ok (.iload_n 1, 1) := by decide +kernel
theorem dX8_buy_82 : decode cX8_buy 82 = .ok (.iload_n 2, 1) := by decide +kernel
theorem dX8_buy_83 : decode cX8_buy 83 = .ok (.aload_n 0, 1) := by decide +kernel
theorem dX8_buy_84 : decode cX8_buy 84 = .ok (.getfield 130, 3) := by decide +kernel
theorem dX8_buy_87 : decode cX8_buy 87 = .ok (.invokevirtual 149, 3) := by decide +kernel
theorem dX8_buy_90 : decode cX8_buy 90 = .ok (.ireturn, 1) := by decide +kernel
theorem dX8_scrap_0 : decode cX8_scrap 0 = .ok (.aload_n 0, 1) := by decide +kernel
theorem dX8_scrap_1 : decode cX8_scrap 1 = .ok (.iload_n 1, 1) := by decide +kernel
theorem dX8_scrap_2 : decode cX8_scrap 2 = .ok (.invokevirtual 139, 3) := by decide +kernel
theorem dX8_scrap_5 : decode cX8_scrap 5 = .ok (.ifCond .eq 11, 3) := by decide +kernel
theorem dX8_scrap_8 : decode cX8_scrap 8 = .ok (.aload_n 0, 1) := by decide +kernel
theorem dX8_scrap_9 : decode cX8_scrap 9 = .ok (.iload_n 2, 1) := by decide +kernel
theorem dX8_scrap_10 : decode cX8_scrap 10 = .ok (.invokevirtual 143, 3) := by decide +kernel
theorem dX8_scrap_13 : decode cX8_scrap 13 = .ok (.ifCond .ne 9, 3) := by decide +kernel
theorem dX8_scrap_16 : decode cX8_scrap 16 = .ok (.aload_n 0, 1) := by decide +kernel
theorem dX8_scrap_17 : decode cX8_scrap 17 = .ok (.iconst (-1), 1) := by decide +kernel
theorem dX8_scrap_18 : decode cX8_scrap 18 = .ok (.invokevirtual 146, 3) := by decide +kernel
theorem dX8_scrap_21 : decode cX8_scrap 21 = .ok (.ireturn, 1) := by decide +kernel
theorem dX8_scrap_22 : decode cX8_scrap 22 = .ok (.iload_n 3, 1) := by decide +kernel
theorem dX8_scrap_23 : decode cX8_scrap 23 = .ok (.iconst 1, 1) := by decide +kernel
theorem dX8_scrap_24 : decode cX8_scrap 24 = .ok (.if_icmp .ge 10, 3) := by decide +kernel
theorem dX8_scrap_27 : decode cX8_scrap 27 = .ok (.aload_n 0, 1) := by decide +kernel
theorem dX8_scrap_28 : decode cX8_scrap 28 = .ok (.bipush (-4), 2) := by decide +kernel
theorem dX8_scrap_30 : decode cX8_scrap 30 = .ok (.invokevirtual 146, 3) := by decide +kernel
theorem dX8_scrap_33 : decode cX8_scrap 33 = .ok (.ireturn, 1) := by decide +kernel
theorem dX8_scrap_34 : decode cX8_scrap 34 = .ok (.iload_n 3, 1) := by decide +kernel
theorem dX8_scrap_35 : decode cX8_scrap 35 = .ok (.aload_n 0, 1) := by decide +kernel
theorem dX8_scrap_36 : decode cX8_scrap 36 = .ok (.iload_n 1, 1) := by decide +kernel
theorem dX8_scrap_37 : decode cX8_scrap 37 = .ok (.iload_n 2, 1) := by decide +kernel
theorem dX8_scrap_38 : decode cX8_scrap 38 = .ok (.aload_n 0, 1) := by decide +kernel
theorem dX8_scrap_39 : decode cX8_scrap 39 = .ok (.getfield 130, 3) := by decide +kernel
theorem dX8_scrap_42 : decode cX8_scrap 42 = .ok (.invokevirtual 149, 3) := by decide +kernel
theorem dX8_scrap_45 : decode cX8_scrap 45 = .ok (.if_icmp .le 10, 3) := by decide +kernel
theorem dX8_scrap_48 : decode cX8_scrap 48 = .ok (.aload_n 0, 1) := by decide +kernel
theorem dX8_scrap_49 : decode cX8_scrap 49 = .ok (.bipush (-5), 2) := by decide +kernel
theorem dX8_scrap_51 : decode cX8_scrap 51 = .ok (.invokevirtual 146, 3) := by decide +kernel
theorem dX8_scrap_54 : decode cX8_scrap 54 = .ok (.ireturn, 1) := by decide +kernel
theorem dX8_scrap_55 : decode cX8_scrap 55 = .ok (.aload_n 0, 1) := by decide +kernel
theorem dX8_scrap_56 : decode cX8_scrap 56 = .ok (.getfield 133, 3) := by decide +kernel
theorem dX8_scrap_59 : decode cX8_scrap 59 = .ok (.sipush 2000, 3) := by decide +kernel
theorem dX8_scrap_62 : decode cX8_scrap 62 = .ok (.if_icmp .ne 10, 3) := by decide +kernel
theorem dX8_scrap_65 : decode cX8_scrap 65 = .ok (.aload_n 0, 1) := by decide +kernel
theorem dX8_scrap_66 : decode cX8_scrap 66 = .ok (.bipush (-6), 2) := by decide +kernel
theorem dX8_scrap_68 : decode cX8_scrap 68 = .ok (.invokevirtual 146, 3) := by decide +kernel
theorem dX8_scrap_71 : decode cX8_scrap 71 = .ok (.ireturn, 1) := by decide +kernel
theorem dX8_scrap_72 : decode cX8_scrap 72 = .ok (.aload_n 0, 1) := by decide +kernel
theorem dX8_scrap_73 : decode cX8_scrap 73 = .ok (.iload_n 1, 1) := by decide +kernel
theorem dX8_scrap_74 : decode cX8_scrap 74 = .ok (.iload_n 2, 1) := by decide +kernel
theorem dX8_scrap_75 : decode cX8_scrap 75 = .ok (.aload_n 0, 1) := by decide +kernel
theorem dX8_scrap_76 : decode cX8_scrap 76 = .ok (.getfield 130, 3) := by decide +kernel
theorem dX8_scrap_79 : decode cX8_scrap 79 = .ok (.iload_n 3, 1) := by decide +kernel
theorem dX8_scrap_80 : decode cX8_scrap 80 = .ok (.ineg, 1) := by decide +kernel
theorem dX8_scrap_81 : decode cX8_scrap 81 = .ok (.invokevirtual 153, 3) := by decide +kernel
theorem dX8_scrap_84 : decode cX8_scrap 84 = .ok (.aload_n 0, 1) := by decide +kernel
theorem dX8_scrap_85 : decode cX8_scrap 85 = .ok (.getfield 28, 3) := by decide +kernel
theorem dX8_scrap_88 : decode cX8_scrap 88 = .ok (.iload_n 2, 1) := by decide +kernel
theorem dX8_scrap_89 : decode cX8_scrap 89 = .ok (.dup2, 1) := by decide +kernel
theorem dX8_scrap_90 : decode cX8_scrap 90 = .ok (.laload, 1) := by decide +kernel
theorem dX8_scrap_91 : decode cX8_scrap 91 = .ok (.iload_n 3, 1) := by decide +kernel
theorem dX8_scrap_92 : decode cX8_scrap 92 = .ok (.i2l, 1) := by decide +kernel
theorem dX8_scrap_93 : decode cX8_scrap 93 = .ok (.lsub, 1) := by decide +kernel
theorem dX8_scrap_94 : decode cX8_scrap 94 = .ok (.lastore, 1) := by decide +kernel
theorem dX8_scrap_95 : decode cX8_scrap 95 = .ok (.aload_n 0, 1) := by decide +kernel
theorem dX8_scrap_96 : decode cX8_scrap 96 = .ok (.iload_n 1, 1) := by decide +kernel
theorem dX8_scrap_97 : decode cX8_scrap 97 = .ok (.iload_n 2, 1) := by decide +kernel
theorem dX8_scrap_98 : decode cX8_scrap 98 = .ok (.aload_n 0, 1) := by decide +kernel
theorem dX8_scrap_99 : decode cX8_scrap 99 = .ok (.getfield 130, 3) := by decide +kernel
theorem dX8_scrap_102 : decode cX8_scrap 102 = .ok (.invokevirtual 149, 3) := by decide +kernel
theorem dX8_scrap_105 : decode cX8_scrap 105 = .ok (.ireturn, 1) := by decide +kernel
theorem dX8_found_0 : decode cX8_found 0 = .ok (.aload_n 0, 1) := by decide +kernel
theorem dX8_found_1 : decode cX8_found 1 = .ok (.iload_n 1, 1) := by decide +kernel
theorem dX8_found_2 : decode cX8_found 2 = .ok (.invokevirtual 139, 3) := by decide +kernel
theorem dX8_found_5 : decode cX8_found 5 = .ok (.ifCond .eq 11, 3) := by decide +kernel
theorem dX8_found_8 : decode cX8_found 8 = .ok (.aload_n 0, 1) := by decide +kernel
theorem dX8_found_9 : decode cX8_found 9 = .ok (.iload_n 2, 1) := by decide +kernel
theorem dX8_found_10 : decode cX8_found 10 = .ok (.invokevirtual 143, 3) := by decide +kernel
theorem dX8_found_13 : decode cX8_found 13 = .ok (.ifCond .ne 9, 3) := by decide +kernel
theorem dX8_found_16 : decode cX8_found 16 = .ok (.aload_n 0, 1) := by decide +kernel
theorem dX8_found_17 : decode cX8_found 17 = .ok (.iconst (-1), 1) := by decide +kernel
theorem dX8_found_18 : decode cX8_found 18 = .ok (.invokevirtual 146, 3) := by decide +kernel
theorem dX8_found_21 : decode cX8_found 21 = .ok (.ireturn, 1) := by decide +kernel
theorem dX8_found_22 : decode cX8_found 22 = .ok (.iload_n 3, 1) := by decide +kernel
theorem dX8_found_23 : decode cX8_found 23 = .ok (.ifCond .ge 10, 3) := by decide +kernel
theorem dX8_found_26 : decode cX8_found 26 = .ok (.aload_n 0, 1) := by decide +kernel
theorem dX8_found_27 : decode cX8_found 27 = .ok (.bipush (-4), 2) := by decide +kernel
theorem dX8_found_29 : decode cX8_found 29 = .ok (.invokevirtual 146, 3) := by decide +kernel
theorem dX8_found_32 : decode cX8_found 32 = .ok (.ireturn, 1) := by decide +kernel
theorem dX8_found_33 : decode cX8_found 33 = .ok (.iload_n 3, 1) := by decide +kernel
theorem dX8_found_34 : decode cX8_found 34 = .ok (.ldc 157, 2) := by decide +kernel
theorem dX8_found_36 : decode cX8_found 36 = .ok (.if_icmp .gt 13, 3) := by decide +kernel
theorem dX8_found_39 : decode cX8_found 39 = .ok (.aload_n 0, 1) := by decide +kernel
theorem dX8_found_40 : decode cX8_found 40 = .ok (.getfield 133, 3) := by decide +kernel
theorem dX8_found_43 : decode cX8_found 43 = .ok (.sipush 2000, 3) := by decide +kernel
theorem dX8_found_46 : decode cX8_found 46 = .ok (.if_icmp .ne 10, 3) := by decide +kernel
theorem dX8_found_49 : decode cX8_found 49 = .ok (.aload_n 0, 1) := by decide +kernel
theorem dX8_found_50 : decode cX8_found 50 = .ok (.bipush (-6), 2) := by decide +kernel
theorem dX8_found_52 : decode cX8_found 52 = .ok (.invokevirtual 146, 3) := by decide +kernel
theorem dX8_found_55 : decode cX8_found 55 = .ok (.ireturn, 1) := by decide +kernel
theorem dX8_found_56 : decode cX8_found 56 = .ok (.aload_n 0, 1) := by decide +kernel
theorem dX8_found_57 : decode cX8_found 57 = .ok (.iload_n 1, 1) := by decide +kernel
theorem dX8_found_58 : decode cX8_found 58 = .ok (.iload_n 2, 1) := by decide +kernel
theorem dX8_found_59 : decode cX8_found 59 = .ok (.aload_n 0, 1) := by decide +kernel
theorem dX8_found_60 : decode cX8_found 60 = .ok (.getfield 130, 3) := by decide +kernel
theorem dX8_found_63 : decode cX8_found 63 = .ok (.invokevirtual 149, 3) := by decide +kernel
theorem dX8_found_66 : decode cX8_found 66 = .ok (.istore 4, 2) := by decide +kernel
theorem dX8_found_68 : decode cX8_found 68 = .ok (.iload 4, 2) := by decide +kernel
theorem dX8_found_70 : decode cX8_found 70 = .ok (.iload_n 3, 1) := by decide +kernel
theorem dX8_found_71 : decode cX8_found 71 = .ok (.if_icmp .eq 35, 3) := by decide +kernel
theorem dX8_found_74 : decode cX8_found 74 = .ok (.aload_n 0, 1) := by decide +kernel
theorem dX8_found_75 : decode cX8_found 75 = .ok (.iload_n 1, 1) := by decide +kernel
theorem dX8_found_76 : decode cX8_found 76 = .ok (.iload_n 2, 1) := by decide +kernel
theorem dX8_found_77 : decode cX8_found 77 = .ok (.aload_n 0, 1) := by decide +kernel
theorem dX8_found_78 : decode cX8_found 78 = .ok (.getfield 130, 3) := by decide +kernel
theorem dX8_found_81 : decode cX8_found 81 = .ok (.iload_n 3, 1) := by decide +kernel
theorem dX8_found_82 : decode cX8_found 82 = .ok (.iload 4, 2) := by decide +kernel
theorem dX8_found_84 : decode cX8_found 84 = .ok (.isub, 1) := by decide +kernel
theorem dX8_found_85 : decode cX8_found 85 = .ok (.invokevirtual 153, 3) := by decide +kernel
theorem dX8_found_88 : decode cX8_found 88 = .ok (.aload_n 0, 1) := by decide +kernel
theorem dX8_found_89 : decode cX8_found 89 = .ok (.getfield 72, 3) := by decide +kernel
theorem dX8_found_92 : decode cX8_found 92 = .ok (.bipush 6, 2) := by decide +kernel
theorem dX8_found_94 : decode cX8_found 94 = .ok (.iload_n 1, 1) := by decide +kernel
theorem dX8_found_95 : decode cX8_found 95 = .ok (.imul, 1) := by decide +kernel
theorem dX8_found_96 : decode cX8_found 96 = .ok (.iload_n 2, 1) := by decide +kernel
theorem dX8_found_97 : decode cX8_found 97 = .ok (.iadd, 1) := by decide +kernel
theorem dX8_found_98 : decode cX8_found 98 = .ok (.dup2, 1) := by decide +kernel
theorem dX8_found_99 : decode cX8_found 99 = .ok (.iaload, 1) := by decide +kernel
theorem dX8_found_100 : decode cX8_found 100 = .ok (.iload 4, 2) := by decide +kernel
theorem dX8_found_102 : decode cX8_found 102 = .ok (.iload_n 3, 1) := by decide +kernel
theorem dX8_found_103 : decode cX8_found 103 = .ok (.isub, 1) := by decide +kernel
theorem dX8_found_104 : decode cX8_found 104 = .ok (.iadd, 1) := by decide +kernel
theorem dX8_found_105 : decode cX8_found 105 = .ok (.iastore, 1) := by decide +kernel
theorem dX8_found_106 : decode cX8_found 106 = .ok (.iload 4, 2) := by decide +kernel
theorem dX8_found_108 : decode cX8_found 108 = .ok (.ireturn, 1) := by decide +kernel
theorem dX8_lost_0 : decode cX8_lost 0 = .ok (.aload_n 0, 1) := by decide +kernel
theorem dX8_lost_1 : decode cX8_lost 1 = .ok (.iload_n 1, 1) := by decide +kernel
theorem dX8_lost_2 : decode cX8_lost 2 = .ok (.invokevirtual 139, 3) := by decide +kernel
theorem dX8_lost_5 : decode cX8_lost 5 = .ok (.ifCond .eq 25, 3) := by decide +kernel
theorem dX8_lost_8 : decode cX8_lost 8 = .ok (.aload_n 0, 1) := by decide +kernel
theorem dX8_lost_9 : decode cX8_lost 9 = .ok (.iload_n 2, 1) := by decide +kernel
theorem dX8_lost_10 : decode cX8_lost 10 = .ok (.invokevirtual 143, 3) := by decide +kernel
theorem dX8_lost_13 : decode cX8_lost 13 = .ok (.ifCond .eq 17, 3) := by decide +kernel
theorem dX8_lost_16 : decode cX8_lost 16 = .ok (.aload_n 0, 1) := by decide +kernel
theorem dX8_lost_17 : decode cX8_lost 17 = .ok (.getfield 72, 3) := by decide +kernel
theorem dX8_lost_20 : decode cX8_lost 20 = .ok (.bipush 6, 2) := by decide +kernel
theorem dX8_lost_22 : decode cX8_lost 22 = .ok (.iload_n 1, 1) := by decide +kernel
theorem dX8_lost_23 : decode cX8_lost 23 = .ok (.imul, 1) := by decide +kernel
theorem dX8_lost_24 : decode cX8_lost 24 = .ok (.iload_n 2, 1) := by decide +kernel
theorem dX8_lost_25 : decode cX8_lost 25 = .ok (.iadd, 1) := by decide +kernel
theorem dX8_lost_26 : decode cX8_lost 26 = .ok (.iaload, 1) := by decide +kernel
theorem dX8_lost_27 : decode cX8_lost 27 = .ok (.goto 8, 3) := by decide +kernel
theorem dX8_lost_30 : decode cX8_lost 30 = .ok (.aload_n 0, 1) := by decide +kernel
theorem dX8_lost_31 : decode cX8_lost 31 = .ok (.iconst (-1), 1) := by decide +kernel
theorem dX8_lost_32 : decode cX8_lost 32 = .ok (.invokevirtual 146, 3) := by decide +kernel
theorem dX8_lost_35 : decode cX8_lost 35 = .ok (.ireturn, 1) := by decide +kernel
theorem dX8_tell_0 : decode cX8_tell 0 = .ok (.aload_n 0, 1) := by decide +kernel
theorem dX8_tell_1 : decode cX8_tell 1 = .ok (.iload_n 2, 1) := by decide +kernel
theorem dX8_tell_2 : decode cX8_tell 2 = .ok (.invokevirtual 139, 3) := by decide +kernel
theorem dX8_tell_5 : decode cX8_tell 5 = .ok (.ifCond .eq 25, 3) := by decide +kernel
theorem dX8_tell_8 : decode cX8_tell 8 = .ok (.aload_n 0, 1) := by decide +kernel
theorem dX8_tell_9 : decode cX8_tell 9 = .ok (.iload_n 3, 1) := by decide +kernel
theorem dX8_tell_10 : decode cX8_tell 10 = .ok (.invokevirtual 139, 3) := by decide +kernel
theorem dX8_tell_13 : decode cX8_tell 13 = .ok (.ifCond .eq 17, 3) := by decide +kernel
theorem dX8_tell_16 : decode cX8_tell 16 = .ok (.iload_n 2, 1) := by decide +kernel
theorem dX8_tell_17 : decode cX8_tell 17 = .ok (.iload_n 3, 1) := by decide +kernel
theorem dX8_tell_18 : decode cX8_tell 18 = .ok (.if_icmp .eq 12, 3) := by decide +kernel
theorem dX8_tell_21 : decode cX8_tell 21 = .ok (.aload_n 0, 1) := by decide +kernel
theorem dX8_tell_22 : decode cX8_tell 22 = .ok (.iload 4, 2) := by decide +kernel
theorem dX8_tell_24 : decode cX8_tell 24 = .ok (.invokevirtual 143, 3) := by decide +kernel
theorem dX8_tell_27 : decode cX8_tell 27 = .ok (.ifCond .ne 9, 3) := by decide +kernel
theorem dX8_tell_30 : decode cX8_tell 30 = .ok (.aload_n 0, 1) := by decide +kernel
theorem dX8_tell_31 : decode cX8_tell 31 = .ok (.iconst (-1), 1) := by decide +kernel
theorem dX8_tell_32 : decode cX8_tell 32 = .ok (.invokevirtual 126, 3) := by decide +kernel
theorem dX8_tell_35 : decode cX8_tell 35 = .ok (.ireturn, 1) := by decide +kernel
theorem dX8_tell_36 : decode cX8_tell 36 = .ok (.iload 5, 2) := by decide +kernel
theorem dX8_tell_38 : decode cX8_tell 38 = .ok (.iconst 1, 1) := by decide +kernel
theorem dX8_tell_39 : decode cX8_tell 39 = .ok (.if_icmp .ge 10, 3) := by decide +kernel
theorem dX8_tell_42 : decode cX8_tell 42 = .ok (.aload_n 0, 1) := by decide +kernel
theorem dX8_tell_43 : decode cX8_tell 43 = .ok (.bipush (-4), 2) := by decide +kernel
theorem dX8_tell_45 : decode cX8_tell 45 = .ok (.invokevirtual 126, 3) := by decide +kernel
theorem dX8_tell_48 : decode cX8_tell 48 = .ok (.ireturn, 1) := by decide +kernel
theorem dX8_tell_49 : decode cX8_tell 49 = .ok (.iload 5, 2) := by decide +kernel
theorem dX8_tell_51 : decode cX8_tell 51 = .ok (.sipush 1000, 3) := by decide +kernel
theorem dX8_tell_54 : decode cX8_tell 54 = .ok (.if_icmp .gt 13, 3) := by decide +kernel
theorem dX8_tell_57 : decode cX8_tell 57 = .ok (.aload_n 0, 1) := by decide +kernel
theorem dX8_tell_58 : decode cX8_tell 58 = .ok (.getfield 158, 3) := by decide +kernel
theorem dX8_tell_61 : decode cX8_tell 61 = .ok (.sipush 400, 3) := by decide +kernel
theorem dX8_tell_64 : decode cX8_tell 64 = .ok (.if_icmp .ne 10, 3) := by decide +kernel
theorem dX8_tell_67 : decode cX8_tell 67 = .ok (.aload_n 0, 1) := by decide +kernel
theorem dX8_tell_68 : decode cX8_tell 68 = .ok (.bipush (-6), 2) := by decide +kernel
theorem dX8_tell_70 : decode cX8_tell 70 = .ok (.invokevirtual 126, 3) := by decide +kernel
theorem dX8_tell_73 : decode cX8_tell 73 = .ok (.ireturn, 1) := by decide +kernel
theorem dX8_tell_74 : decode cX8_tell 74 = .ok (.aload_n 0, 1) := by decide +kernel
theorem dX8_tell_75 : decode cX8_tell 75 = .ok (.getfield 158, 3) := by decide +kernel
theorem dX8_tell_78 : decode cX8_tell 78 = .ok (.istore 6, 2) := by decide +kernel
theorem dX8_tell_80 : decode cX8_tell 80 = .ok (.aload_n 0, 1) := by decide +kernel
theorem dX8_tell_81 : decode cX8_tell 81 = .ok (.dup, 1) := by decide +kernel
theorem dX8_tell_82 : decode cX8_tell 82 = .ok (.getfield 158, 3) := by decide +kernel
theorem dX8_tell_85 : decode cX8_tell 85 = .ok (.iconst 1, 1) := by decide +kernel
theorem dX8_tell_86 : decode cX8_tell 86 = .ok (.iadd, 1) := by decide +kernel
theorem dX8_tell_87 : decode cX8_tell 87 = .ok (.putfield 158, 3) := by decide +kernel
theorem dX8_tell_90 : decode cX8_tell 90 = .ok (.aload_n 0, 1) := by decide +kernel
theorem dX8_tell_91 : decode cX8_tell 91 = .ok (.getfield 35, 3) := by decide +kernel
theorem dX8_tell_94 : decode cX8_tell 94 = .ok (.iload 6, 2) := by decide +kernel
theorem dX8_tell_96 : decode cX8_tell 96 = .ok (.iload_n 1, 1) := by decide +kernel
theorem dX8_tell_97 : decode cX8_tell 97 = .ok (.bastore, 1) := by decide +kernel
theorem dX8_tell_98 : decode cX8_tell 98 = .ok (.aload_n 0, 1) := by decide +kernel
theorem dX8_tell_99 : decode cX8_tell 99 = .ok (.getfield 39, 3) := by decide +kernel
theorem dX8_tell_102 : decode cX8_tell 102 = .ok (.iload 6, 2) := by decide +kernel
theorem dX8_tell_104 : decode cX8_tell 104 = .ok (.iload_n 2, 1) := by decide +kernel
theorem dX8_tell_105 : decode cX8_tell 105 = .ok (.iastore, 1) := by decide +kernel
theorem dX8_tell_106 : decode cX8_tell 106 = .ok (.aload_n 0, 1) := by decide +kernel
theorem dX8_tell_107 : decode cX8_tell 107 = .ok (.getfield 42, 3) := by decide +kernel
theorem dX8_tell_110 : decode cX8_tell 110 = .ok (.iload 6, 2) := by decide +kernel
theorem dX8_tell_112 : decode cX8_tell 112 = .ok (.iload_n 3, 1) := by decide +kernel
theorem dX8_tell_113 : decode cX8_tell 113 = .ok (.iastore, 1) := by decide +kernel
theorem dX8_tell_114 : decode cX8_tell 114 = .ok (.aload_n 0, 1) := by decide +kernel
theorem dX8_tell_115 : decode cX8_tell 115 = .ok (.getfield 45, 3) := by decide +kernel
theorem dX8_tell_118 : decode cX8_tell 118 = .ok (.iload 6, 2) := by decide +kernel
theorem dX8_tell_120 : decode cX8_tell 120 = .ok (.iload 4, 2) := by decide +kernel
theorem dX8_tell_122 : decode cX8_tell 122 = .ok (.iastore, 1) := by decide +kernel
theorem dX8_tell_123 : decode cX8_tell 123 = .ok (.aload_n 0, 1) := by decide +kernel
theorem dX8_tell_124 : decode cX8_tell 124 = .ok (.getfield 48, 3) := by decide +kernel
theorem dX8_tell_127 : decode cX8_tell 127 = .ok (.iload 6, 2) := by decide +kernel
theorem dX8_tell_129 : decode cX8_tell 129 = .ok (.iload 5, 2) := by decide +kernel
theorem dX8_tell_131 : decode cX8_tell 131 = .ok (.iastore, 1) := by decide +kernel
theorem dX8_tell_132 : decode cX8_tell 132 = .ok (.aload_n 0, 1) := by decide +kernel
theorem dX8_tell_133 : decode cX8_tell 133 = .ok (.getfield 51, 3) := by decide +kernel
theorem dX8_tell_136 : decode cX8_tell 136 = .ok (.iload 6, 2) := by decide +kernel
theorem dX8_tell_138 : decode cX8_tell 138 = .ok (.aload_n 0, 1) := by decide +kernel
theorem dX8_tell_139 : decode cX8_tell 139 = .ok (.getfield 130, 3) := by decide +kernel
theorem dX8_tell_142 : decode cX8_tell 142 = .ok (.iastore, 1) := by decide +kernel
theorem dX8_tell_143 : decode cX8_tell 143 = .ok (.aload_n 0, 1) := by decide +kernel
theorem dX8_tell_144 : decode cX8_tell 144 = .ok (.getfield 57, 3) := by decide +kernel
theorem dX8_tell_147 : decode cX8_tell 147 = .ok (.iload 6, 2) := by decide +kernel
theorem dX8_tell_149 : decode cX8_tell 149 = .ok (.bipush (-9), 2) := by decide +kernel
theorem dX8_tell_151 : decode cX8_tell 151 = .ok (.iastore, 1) := by decide +kernel
theorem dX8_tell_152 : decode cX8_tell 152 = .ok (.iload 6, 2) := by decide +kernel
theorem dX8_tell_154 : decode cX8_tell 154 = .ok (.ireturn, 1) := by decide +kernel
theorem dX8_drop_0 : decode cX8_drop 0 = .ok (.iload_n 1, 1) := by decide +kernel
theorem dX8_drop_1 : decode cX8_drop 1 = .ok (.iconst 0, 1) := by decide +kernel
theorem dX8_drop_2 : decode cX8_drop 2 = .ok (.aload_n 0, 1) := by decide +kernel
theorem dX8_drop_3 : decode cX8_drop 3 = .ok (.getfield 158, 3) := by decide +kernel
theorem dX8_drop_6 : decode cX8_drop 6 = .ok (.iconst 1, 1) := by decide +kernel
theorem dX8_drop_7 : decode cX8_drop 7 = .ok (.isub, 1) := by decide +kernel
theorem dX8_drop_8 : decode cX8_drop 8 = .ok (.invokestatic 119, 3) := by decide +kernel
theorem dX8_drop_11 : decode cX8_drop 11 = .ok (.ifCond .ne 9, 3) := by decide +kernel
theorem dX8_drop_14 : decode cX8_drop 14 = .ok (.aload_n 0, 1) := by decide +kernel
theorem dX8_drop_15 : decode cX8_drop 15 = .ok (.iconst (-1), 1) := by decide +kernel
theorem dX8_drop_16 : decode cX8_drop 16 = .ok (.invokevirtual 126, 3) := by decide +kernel
theorem dX8_drop_19 : decode cX8_drop 19 = .ok (.ireturn, 1) := by decide +kernel
theorem dX8_drop_20 : decode cX8_drop 20 = .ok (.aload_n 0, 1) := by decide +kernel
theorem dX8_drop_21 : decode cX8_drop 21 = .ok (.getfield 54, 3) := by decide +kernel
theorem dX8_drop_24 : decode cX8_drop 24 = .ok (.iload_n 1, 1) := by decide +kernel
theorem dX8_drop_25 : decode cX8_drop 25 = .ok (.iaload, 1) := by decide +kernel
theorem dX8_drop_26 : decode cX8_drop 26 = .ok (.ifCond .eq 10, 3) := by decide +kernel
theorem dX8_drop_29 : decode cX8_drop 29 = .ok (.aload_n 0, 1) := by decide +kernel
theorem dX8_drop_30 : decode cX8_drop 30 = .ok (.bipush (-3), 2) := by decide +kernel
theorem dX8_drop_32 : decode cX8_drop 32 = .ok (.invokevirtual 126, 3) := by decide +kernel
theorem dX8_drop_35 : decode cX8_drop 35 = .ok (.ireturn, 1) := by decide +kernel
theorem dX8_drop_36 : decode cX8_drop 36 = .ok (.aload_n 0, 1) := by decide +kernel
theorem dX8_drop_37 : decode cX8_drop 37 = .ok (.getfield 54, 3) := by decide +kernel
theorem dX8_drop_40 : decode cX8_drop 40 = .ok (.iload_n 1, 1) := by decide +kernel
theorem dX8_drop_41 : decode cX8_drop 41 = .ok (.iconst 2, 1) := by decide +kernel
theorem dX8_drop_42 : decode cX8_drop 42 = .ok (.iastore, 1) := by decide +kernel
theorem dX8_drop_43 : decode cX8_drop 43 = .ok (.iconst 1, 1) := by decide +kernel
theorem dX8_drop_44 : decode cX8_drop 44 = .ok (.ireturn, 1) := by decide +kernel
theorem dX8_rule_0 : decode cX8_rule 0 = .ok (.iload_n 1, 1) := by decide +kernel
theorem dX8_rule_1 : decode cX8_rule 1 = .ok (.iconst 0, 1) := by decide +kernel
theorem dX8_rule_2 : decode cX8_rule 2 = .ok (.iconst 3, 1) := by decide +kernel
theorem dX8_rule_3 : decode cX8_rule 3 = .ok (.invokestatic 119, 3) := by decide +kernel
theorem dX8_rule_6 : decode cX8_rule 6 = .ok (.ifCond .ne 10, 3) := by decide +kernel
theorem dX8_rule_9 : decode cX8_rule 9 = .ok (.aload_n 0, 1) := by decide +kernel
theorem dX8_rule_10 : decode cX8_rule 10 = .ok (.bipush (-2), 2) := by decide +kernel
theorem dX8_rule_12 : decode cX8_rule 12 = .ok (.invokevirtual 126, 3) := by decide +kernel
theorem dX8_rule_15 : decode cX8_rule 15 = .ok (.ireturn, 1) := by decide +kernel
theorem dX8_rule_16 : decode cX8_rule 16 = .ok (.aload_n 0, 1) := by decide +kernel
theorem dX8_rule_17 : decode cX8_rule 17 = .ok (.getfield 161, 3) := by decide +kernel
theorem dX8_rule_20 : decode cX8_rule 20 = .ok (.istore_n 2, 1) := by decide +kernel
theorem dX8_rule_21 : decode cX8_rule 21 = .ok (.aload_n 0, 1) := by decide +kernel
theorem dX8_rule_22 : decode cX8_rule 22 = .ok (.iload_n 1, 1) := by decide +kernel
theorem dX8_rule_23 : decode cX8_rule 23 = .ok (.putfield 161, 3) := by decide +kernel
theorem dX8_rule_26 : decode cX8_rule 26 = .ok (.iload_n 2, 1) := by decide +kernel
theorem dX8_rule_27 : decode cX8_rule 27 = .ok (.ireturn, 1) := by decide +kernel
theorem dX8_gather_0 : decode cX8_gather 0 = .ok (.iconst 0, 1) := by decide +kernel
theorem dX8_gather_1 : decode cX8_gather 1 = .ok (.istore 6, 2) := by decide +kernel
theorem dX8_gather_3 : decode cX8_gather 3 = .ok (.iconst 0, 1) := by decide +kernel
theorem dX8_gather_4 : decode cX8_gather 4 = .ok (.istore 7, 2) := by decide +kernel
theorem dX8_gather_6 : decode cX8_gather 6 = .ok (.iload 7, 2) := by decide +kernel
theorem dX8_gather_8 : decode cX8_gather 8 = .ok (.aload_n 0, 1) := by decide +kernel
theorem dX8_gather_9 : decode cX8_gather 9 = .ok (.getfield 158, 3) := by decide +kernel
theorem dX8_gather_12 : decode cX8_gather 12 = .ok (.if_icmp .ge 81, 3) := by decide +kernel
theorem dX8_gather_15 : decode cX8_gather 15 = .ok (.iload 6, 2) := by decide +kernel
theorem dX8_gather_17 : decode cX8_gather 17 = .ok (.bipush 8, 2) := by decide +kernel
theorem dX8_gather_19 : decode cX8_gather 19 = .ok (.if_icmp .ge 74, 3) := by decide +kernel
theorem dX8_gather_22 : decode cX8_gather 22 = .ok (.aload_n 0, 1) := by decide +kernel
theorem dX8_gather_23 : decode cX8_gather 23 = .ok (.getfield 35, 3) := by decide +kernel
theorem dX8_gather_26 : decode cX8_gather 26 = .ok (.iload 7, 2) := by decide +kernel
theorem dX8_gather_28 : decode cX8_gather 28 = .ok (.baload, 1) := by decide +kernel
theorem dX8_gather_29 : decode cX8_gather 29 = .ok (.iload_n 1, 1) := by decide +kernel
theorem dX8_gather_30 : decode cX8_gather 30 = .ok (.if_icmp .ne 57, 3) := by decide +kernel
theorem dX8_gather_33 : decode cX8_gather 33 = .ok (.aload_n 0, 1) := by decide +kernel
theorem dX8_gather_34 : decode cX8_gather 34 = .ok (.getfield 54, 3) := by decide +kernel
theorem dX8_gather_37 : decode cX8_gather 37 = .ok (.iload 7, 2) := by decide +kernel
theorem dX8_gather_39 : decode cX8_gather 39 = .ok (.iaload, 1) := by decide +kernel
theorem dX8_gather_40 : decode cX8_gather 40 = .ok (.ifCond .ne 47, 3) := by decide +kernel
theorem dX8_gather_43 : decode cX8_gather 43 = .ok (.aload_n 0, 1) := by decide +kernel
theorem dX8_gather_44 : decode cX8_gather 44 = .ok (.getfield 39, 3) := by decide +kernel
theorem dX8_gather_47 : decode cX8_gather 47 = .ok (.iload 7, 2) := by decide +kernel
theorem dX8_gather_49 : decode cX8_gather 49 = .ok (.iaload, 1) := by decide +kernel
theorem dX8_gather_50 : decode cX8_gather 50 = .ok (.iload_n 2, 1) := by decide +kernel
theorem dX8_gather_51 : decode cX8_gather 51 = .ok (.if_icmp .ne 36, 3) := by decide +kernel
theorem dX8_gather_54 : decode cX8_gather 54 = .ok (.aload_n 0, 1) := by decide +kernel
theorem dX8_gather_55 : decode cX8_gather 55 = .ok (.getfield 42, 3) := by decide +kernel
theorem dX8_gather_58 : decode cX8_gather 58 = .ok (.iload 7, 2) := by decide +kernel
theorem dX8_gather_60 : decode cX8_gather 60 = .ok (.iaload, 1) := by decide +kernel
theorem dX8_gather_61 : decode cX8_gather 61 = .ok (.iload_n 3, 1) := by decide +kernel
theorem dX8_gather_62 : decode cX8_gather 62 = .ok (.if_icmp .ne 25, 3) := by decide +kernel
theorem dX8_gather_65 : decode cX8_gather 65 = .ok (.aload_n 0, 1) := by decide +kernel
theorem dX8_gather_66 : decode cX8_gather 66 = .ok (.getfield 45, 3) := by decide +kernel
theorem dX8_gather_69 : decode cX8_gather 69 = .ok (.iload 7, 2) := by decide +kernel
theorem dX8_gather_71 : decode cX8_gather 71 = .ok (.iaload, 1) := by decide +kernel
theorem dX8_gather_72 : decode cX8_gather 72 = .ok (.iload 4, 2) := by decide +kernel
theorem dX8_gather_74 : decode cX8_gather 74 = .ok (.if_icmp .ne 13, 3) := by decide +kernel
theorem dX8_gather_77 : decode cX8_gather 77 = .ok (.aload 5, 2) := by decide +kernel
theorem dX8_gather_79 : decode cX8_gather 79 = .ok (.iload 6, 2) := by decide +kernel
theorem dX8_gather_81 : decode cX8_gather 81 = .ok (.iload 7, 2) := by decide +kernel
theorem dX8_gather_83 : decode cX8_gather 83 = .ok (.iastore, 1) := by decide +kernel
theorem dX8_gather_84 : decode cX8_gather 84 = .ok (.iinc 6 1, 3) := by decide +kernel
theorem dX8_gather_87 : decode cX8_gather 87 = .ok (.iinc 7 1, 3) := by decide +kernel
theorem dX8_gather_90 : decode cX8_gather 90 = .ok (.goto (-84), 3) := by decide +kernel
theorem dX8_gather_93 : decode cX8_gather 93 = .ok (.iload 6, 2) := by decide +kernel
theorem dX8_gather_95 : decode cX8_gather 95 = .ok (.ireturn, 1) := by decide +kernel
theorem dX8_worthOf_0 : decode cX8_worthOf 0 = .ok (.aload_n 0, 1) := by decide +kernel
theorem dX8_worthOf_1 : decode cX8_worthOf 1 = .ok (.getfield 51, 3) := by decide +kernel
theorem dX8_worthOf_4 : decode cX8_worthOf 4 = .ok (.aload_n 0, 1) := by decide +kernel
theorem dX8_worthOf_5 : decode cX8_worthOf 5 = .ok (.getfield 90, 3) := by decide +kernel
theorem dX8_worthOf_8 : decode cX8_worthOf 8 = .ok (.iload_n 1, 1) := by decide +kernel
theorem dX8_worthOf_9 : decode cX8_worthOf 9 = .ok (.iaload, 1) := by decide +kernel
theorem dX8_worthOf_10 : decode cX8_worthOf 10 = .ok (.iaload, 1) := by decide +kernel
theorem dX8_worthOf_11 : decode cX8_worthOf 11 = .ok (.aload_n 0, 1) := by decide +kernel
theorem dX8_worthOf_12 : decode cX8_worthOf 12 = .ok (.getfield 51, 3) := by decide +kernel
theorem dX8_worthOf_15 : decode cX8_worthOf 15 = .ok (.aload_n 0, 1) := by decide +kernel
theorem dX8_worthOf_16 : decode cX8_worthOf 16 = .ok (.getfield 93, 3) := by decide +kernel
theorem dX8_worthOf_19 : decode cX8_worthOf 19 = .ok (.iload_n 2, 1) := by decide +kernel
theorem dX8_worthOf_20 : decode cX8_worthOf 20 = .ok (.iaload, 1) := by decide +kernel
theorem dX8_worthOf_21 : decode cX8_worthOf 21 = .ok (.iaload, 1) := by decide +kernel
theorem dX8_worthOf_22 : decode cX8_worthOf 22 = .ok (.isub, 1) := by decide +kernel
theorem dX8_worthOf_23 : decode cX8_worthOf 23 = .ok (.istore_n 3, 1) := by decide +kernel
theorem dX8_worthOf_24 : decode cX8_worthOf 24 = .ok (.iload_n 3, 1) := by decide +kernel
theorem dX8_worthOf_25 : decode cX8_worthOf 25 = .ok (.ifCond .ge 8, 3) := by decide +kernel
theorem dX8_worthOf_28 : decode cX8_worthOf 28 = .ok (.iload_n 3, 1) := by decide +kernel
theorem dX8_worthOf_29 : decode cX8_worthOf 29 = .ok (.ineg, 1) := by decide +kernel
theorem dX8_worthOf_30 : decode cX8_worthOf 30 = .ok (.goto 4, 3) := by decide +kernel
theorem dX8_worthOf_33 : decode cX8_worthOf 33 = .ok (.iload_n 3, 1) := by decide +kernel
theorem dX8_worthOf_34 : decode cX8_worthOf 34 = .ok (.istore_n 3, 1) := by decide +kernel
theorem dX8_worthOf_35 : decode cX8_worthOf 35 = .ok (.iload_n 3, 1) := by decide +kernel
theorem dX8_worthOf_36 : decode cX8_worthOf 36 = .ok (.iconst 3, 1) := by decide +kernel
theorem dX8_worthOf_37 : decode cX8_worthOf 37 = .ok (.if_icmp .le 7, 3) := by decide +kernel
theorem dX8_worthOf_40 : decode cX8_worthOf 40 = .ok (.iconst (-1), 1) := by decide +kernel
theorem dX8_worthOf_41 : decode cX8_worthOf 41 = .ok (.goto 8, 3) := by decide +kernel
theorem dX8_worthOf_44 : decode cX8_worthOf 44 = .ok (.sipush 1000, 3) := by decide +kernel
theorem dX8_worthOf_47 : decode cX8_worthOf 47 = .ok (.iload_n 3, 1) := by decide +kernel
theorem dX8_worthOf_48 : decode cX8_worthOf 48 = .ok (.isub, 1) := by decide +kernel
theorem dX8_worthOf_49 : decode cX8_worthOf 49 = .ok (.ireturn, 1) := by decide +kernel
theorem dX8_pairThose_0 : decode cX8_pairThose 0 = .ok (.aload_n 0, 1) := by decide +kernel
theorem dX8_pairThose_1 : decode cX8_pairThose 1 = .ok (.iconst 1, 1) := by decide +kernel
theorem dX8_pairThose_2 : decode cX8_pairThose 2 = .ok (.iload_n 1, 1) := by decide +kernel
theorem dX8_pairThose_3 : decode cX8_pairThose 3 = .ok (.iload_n 2, 1) := by decide +kernel
theorem dX8_pairThose_4 : decode cX8_pairThose 4 = .ok (.iload_n 3, 1) := by decide +kernel
theorem dX8_pairThose_5 : decode cX8_pairThose 5 = .ok (.aload_n 0, 1) := by decide +kernel
theorem dX8_pairThose_6 : decode cX8_pairThose 6 = .ok (.getfield 90, 3) := by decide +kernel
theorem dX8_pairThose_9 : decode cX8_pairThose 9 = .ok (.invokevirtual 164, 3) := by decide +kernel
theorem dX8_pairThose_12 : decode cX8_pairThose 12 = .ok (.istore 5, 2) := by decide +kernel
theorem dX8_pairThose_14 : decode cX8_pairThose 14 = .ok (.aload_n 0, 1) := by decide +kernel
theorem dX8_pairThose_15 : decode cX8_pairThose 15 = .ok (.iconst 0, 1) := by decide +kernel
theorem dX8_pairThose_16 : decode cX8_pairThose 16 = .ok (.iload_n 1, 1) := by decide +kernel
theorem dX8_pairThose_17 : decode cX8_pairThose 17 = .ok (.iload_n 2, 1) := by decide +kernel
theorem dX8_pairThose_18 : decode cX8_pairThose 18 = .ok (.iload_n 3, 1) := by decide +kernel
theorem dX8_pairThose_19 : decode cX8_pairThose 19 = .ok (.aload_n 0, 1) := by decide +kernel
theorem dX8_pairThose_20 : decode cX8_pairThose 20 = .ok (.getfield 93, 3) := by decide +kernel
theorem dX8_pairThose_23 : decode cX8_pairThose 23 = .ok (.invokevirtual 164, 3) := by decide +kernel
theorem dX8_pairThose_26 : decode cX8_pairThose 26 = .ok (.istore 6, 2) := by decide +kernel
theorem dX8_pairThose_28 : decode cX8_pairThose 28 = .ok (.iconst 0, 1) := by decide +kernel
theorem dX8_pairThose_29 : decode cX8_pairThose 29 = .ok (.istore 7, 2) := by decide +kernel
theorem dX8_pairThose_31 : decode cX8_pairThose 31 = .ok (.iload 7, 2) := by decide +kernel
theorem dX8_pairThose_33 : decode cX8_pairThose 33 = .ok (.sipush 256, 3) := by decide +kernel
theorem dX8_pairThose_36 : decode cX8_pairThose 36 = .ok (.if_icmp .ge 24, 3) := by decide +kernel
theorem dX8_pairThose_39 : decode cX8_pairThose 39 = .ok (.aload_n 0, 1) := by decide +kernel
theorem dX8_pairThose_40 : decode cX8_pairThose 40 = .ok (.getfield 96, 3) := by decide +kernel
theorem dX8_pairThose_43 : decode cX8_pairThose 43 = .ok (.sipush 256, 3) := by decide +kernel
theorem dX8_pairThose_46 : decode cX8_pairThose 46 = .ok (.iload 5, 2) := by decide +kernel
theorem dX8_pairThose_48 : decode cX8_pairThose 48 = .ok (.imul, 1) := by decide +kernel
theorem dX8_pairThose_49 : decode cX8_pairThose 49 = .ok (.iload 7, 2) := by decide +kernel
theorem dX8_pairThose_51 : decode cX8_pairThose 51 = .ok (.iadd, 1) := by decide +kernel
theorem dX8_pairThose_52 : decode cX8_pairThose 52 = .ok (.iconst 0, 1) := by decide +kernel
theorem dX8_pairThose_53 : decode cX8_pairThose 53 = .ok (.iastore, 1) := by decide +kernel
theorem dX8_pairThose_54 : decode cX8_pairThose 54 = .ok (.iinc 7 1, 3) := by decide +kernel
theorem dX8_pairThose_57 : decode cX8_pairThose 57 = .ok (.goto (-26), 3) := by decide +kernel
theorem dX8_pairThose_60 : decode cX8_pairThose 60 = .ok (.iload 5, 2) := by decide +kernel
theorem dX8_pairThose_62 : decode cX8_pairThose 62 = .ok (.iconst 1, 1) := by decide +kernel
theorem dX8_pairThose_63 : decode cX8_pairThose 63 = .ok (.isub, 1) := by decide +kernel
theorem dX8_pairThose_64 : decode cX8_pairThose 64 = .ok (.istore 7, 2) := by decide +kernel
theorem dX8_pairThose_66 : decode cX8_pairThose 66 = .ok (.iload 7, 2) := by decide +kernel
theorem dX8_pairThose_68 : decode cX8_pairThose 68 = .ok (.ifCond .lt 153, 3) := by decide +kernel
theorem dX8_pairThose_71 : decode cX8_pairThose 71 = .ok (.iconst 0, 1) := by decide +kernel
theorem dX8_pairThose_72 : decode cX8_pairThose 72 = .ok (.istore 8, 2) := by decide +kernel
theorem dX8_pairThose_74 : decode cX8_pairThose 74 = .ok (.iload 8, 2) := by decide +kernel
theorem dX8_pairThose_76 : decode cX8_pairThose 76 = .ok (.iconst 1, 1) := by decide +kernel
theorem dX8_pairThose_77 : decode cX8_pairThose 77 = .ok (.iload 6, 2) := by decide +kernel
theorem dX8_pairThose_79 : decode cX8_pairThose 79 = .ok (.ishl, 1) := by decide +kernel
theorem dX8_pairThose_80 : decode cX8_pairThose 80 = .ok (.if_icmp .ge 135, 3) := by decide +kernel
theorem dX8_pairThose_83 : decode cX8_pairThose 83 = .ok (.aload_n 0, 1) := by decide +kernel
theorem dX8_pairThose_84 : decode cX8_pairThose 84 = .ok (.getfield 96, 3) := by decide +kernel
theorem dX8_pairThose_87 : decode cX8_pairThose 87 = .ok (.sipush 256, 3) := by decide +kernel
theorem dX8_pairThose_90 : decode cX8_pairThose 90 = .ok (.iload 7, 2) := by decide +kernel
theorem dX8_pairThose_92 : decode cX8_pairThose 92 = .ok (.iconst 1, 1) := by decide +kernel
theorem dX8_pairThose_93 : decode cX8_pairThose 93 = .ok (.iadd, 1) := by decide +kernel
theorem dX8_pairThose_94 : decode cX8_pairThose 94 = .ok (.imul, 1) := by decide +kernel
theorem dX8_pairThose_95 : decode cX8_pairThose 95 = .ok (.iload 8, 2) := by decide +kernel
theorem dX8_pairThose_97 : decode cX8_pairThose 97 = .ok (.iadd, 1) := by decide +kernel
theorem dX8_pairThose_98 : decode cX8_pairThose 98 = .ok (.iaload, 1) := by decide +kernel
theorem dX8_pairThose_99 : decode cX8_pairThose 99 = .ok (.istore 9, 2) := by decide +kernel
theorem dX8_pairThose_101 : decode cX8_pairThose 101 = .ok (.iconst 0, 1) := by decide +kernel
theorem dX8_pairThose_102 : decode cX8_pairThose 102 = .ok (.istore 10, 2) := by decide +kernel
theorem dX8_pairThose_104 : decode cX8_pairThose 104 = .ok (.iload 10, 2) := by decide +kernel
theorem dX8_pairThose_106 : decode cX8_pairThose 106 = .ok (.iload 6, 2) := by decide +kernel
theorem dX8_pairThose_108 : decode cX8_pairThose 108 = .ok (.if_icmp .ge 85, 3) := by decide +kernel
theorem dX8_pairThose_111 : decode cX8_pairThose 111 = .ok (.iload 8, 2) := by decide +kernel
theorem dX8_pairThose_113 : decode cX8_pairThose 113 = .ok (.iload 10, 2) := by decide +kernel
theorem dX8_pairThose_115 : decode cX8_pairThose 115 = .ok (.ishr, 1) := by decide +kernel
theorem dX8_pairThose_116 : decode cX8_pairThose 116 = .ok (.iconst 1, 1) := by decide +kernel
theorem dX8_pairThose_117 : decode cX8_pairThose 117 = .ok (.iand, 1) := by decide +kernel
theorem dX8_pairThose_118 : decode cX8_pairThose 118 = .ok (.iconst 1, 1) := by decide +kernel
theorem dX8_pairThose_119 : decode cX8_pairThose 119 = .ok (.if_icmp .ne 7, 3) := by decide +kernel
theorem dX8_pairThose_122 : decode cX8_pairThose 122 = .ok (.iconst (-1), 1) := by decide +kernel
theorem dX8_pairThose_123 : decode cX8_pairThose 123 = .ok (.goto 11, 3) := by decide +kernel
theorem dX8_pairThose_126 : decode cX8_pairThose 126 = .ok (.aload_n 0, 1) := by decide +kernel
theorem dX8_pairThose_127 : decode cX8_pairThose 127 = .ok (.iload 7, 2) := by decide +kernel
theorem dX8_pairThose_129 : decode cX8_pairThose 129 = .ok (.iload 10, 2) := by decide +kernel
theorem dX8_pairThose_131 : decode cX8_pairThose 131 = .ok (.invokevirtual 168, 3) := by decide +kernel
theorem dX8_pairThose_134 : decode cX8_pairThose 134 = .ok (.istore 11, 2) := by decide +kernel
theorem dX8_pairThose_136 : decode cX8_pairThose 136 = .ok (.iload 11, 2) := by decide +kernel
theorem dX8_pairThose_138 : decode cX8_pairThose 138 = .ok (.ifCond .ge 7, 3) := by decide +kernel
theorem dX8_pairThose_141 : decode cX8_pairThose 141 = .ok (.iconst 0, 1) := by decide +kernel
theorem dX8_pairThose_142 : decode cX8_pairThose 142 = .ok (.goto 27, 3) := by decide +kernel
theorem dX8_pairThose_145 : decode cX8_pairThose 145 = .ok (.iload 11, 2) := by decide +kernel
theorem dX8_pairThose_147 : decode cX8_pairThose 147 = .ok (.aload_n 0, 1) := by decide +kernel
theorem dX8_pairThose_148 : decode cX8_pairThose 148 = .ok (.getfield 96, 3) := by decide +kernel
theorem dX8_pairThose_151 : decode cX8_pairThose 151 = .ok (.sipush 256, 3) := by decide +kernel
theorem dX8_pairThose_154 : decode cX8_pairThose 154 = .ok (.iload 7, 2) := by decide +kernel
theorem dX8_pairThose_156 : decode cX8_pairThose 156 = .ok (.iconst 1, 1) := by decide +kernel
theorem dX8_pairThose_157 : decode cX8_pairThose 157 = .ok (.iadd, 1) := by decide +kernel
theorem dX8_pairThose_158 : decode cX8_pairThose 158 = .ok (.imul, 1) := by decide +kernel
theorem dX8_pairThose_159 : decode cX8_pairThose 159 = .ok (.iload 8, 2) := by decide +kernel
theorem dX8_pairThose_161 : decode cX8_pairThose 161 = .ok (.iconst 1, 1) := by decide +kernel
theorem dX8_pairThose_162 : decode cX8_pairThose 162 = .ok (.iload 10, 2) := by decide +kernel
theorem dX8_pairThose_164 : decode cX8_pairThose 164 = .ok (.ishl, 1) := by decide +kernel
theorem dX8_pairThose_165 : decode cX8_pairThose 165 = .ok (.ior, 1) := by decide +kernel
theorem dX8_pairThose_166 : decode cX8_pairThose 166 = .ok (.iadd, 1) := by decide +kernel
theorem dX8_pairThose_167 : decode cX8_pairThose 167 = .ok (.iaload, 1) := by decide +kernel
theorem dX8_pairThose_168 : decode cX8_pairThose 168 = .ok (.iadd, 1) := by decide +kernel
theorem dX8_pairThose_169 : decode cX8_pairThose 169 = .ok (.istore 12, 2) := by decide +kernel
theorem dX8_pairThose_171 : decode cX8_pairThose 171 = .ok (.iload 12, 2) := by decide +kernel
theorem dX8_pairThose_173 : decode cX8_pairThose 173 = .ok (.iload 9, 2) := by decide +kernel
theorem dX8_pairThose_175 : decode cX8_pairThose 175 = .ok (.if_icmp .le 8, 3) := by decide +kernel
theorem dX8_pairThose_178 : decode cX8_pairThose 178 = .ok (.iload 12, 2) := by decide +kernel
theorem dX8_pairThose_180 : decode cX8_pairThose 180 = .ok (.goto 5, 3) := by decide +kernel
theorem dX8_pairThose_183 : decode cX8_pairThose 183 = .ok (.iload 9, 2) := by decide +kernel
theorem dX8_pairThose_185 : decode cX8_pairThose 185 = .ok (.istore 9, 2) := by decide +kernel
theorem dX8_pairThose_187 : decode cX8_pairThose 187 = .ok (.iinc 10 1, 3) := by decide +kernel
theorem dX8_pairThose_190 : decode cX8_pairThose 190 = .ok (.goto (-86), 3) := by decide +kernel
theorem dX8_pairThose_193 : decode cX8_pairThose 193 = .ok (.aload_n 0, 1) := by decide +kernel
theorem dX8_pairThose_194 : decode cX8_pairThose 194 = .ok (.getfield 96, 3) := by decide +kernel
theorem dX8_pairThose_197 : decode cX8_pairThose 197 = .ok (.sipush 256, 3) := by decide +kernel
theorem dX8_pairThose_200 : decode cX8_pairThose 200 = .ok (.iload 7, 2) := by decide +kernel
theorem dX8_pairThose_202 : decode cX8_pairThose 202 = .ok (.imul, 1) := by decide +kernel
theorem dX8_pairThose_203 : decode cX8_pairThose 203 = .ok (.iload 8, 2) := by decide +kernel
theorem dX8_pairThose_205 : decode cX8_pairThose 205 = .ok (.iadd, 1) := by decide +kernel
theorem dX8_pairThose_206 : decode cX8_pairThose 206 = .ok (.iload 9, 2) := by decide +kernel
theorem dX8_pairThose_208 : decode cX8_pairThose 208 = .ok (.iastore, 1) := by decide +kernel
theorem dX8_pairThose_209 : decode cX8_pairThose 209 = .ok (.iinc 8 1, 3) := by decide +kernel
theorem dX8_pairThose_212 : decode cX8_pairThose 212 = .ok (.goto (-138), 3) := by decide +kernel
theorem dX8_pairThose_215 : decode cX8_pairThose 215 = .ok (.iinc 7 (-1), 3) := by decide +kernel
theorem dX8_pairThose_218 : decode cX8_pairThose 218 = .ok (.goto (-152), 3) := by decide +kernel
theorem dX8_pairThose_221 : decode cX8_pairThose 221 = .ok (.iconst 0, 1) := by decide +kernel
theorem dX8_pairThose_222 : decode cX8_pairThose 222 = .ok (.istore 7, 2) := by decide +kernel
theorem dX8_pairThose_224 : decode cX8_pairThose 224 = .ok (.iconst 0, 1) := by decide +kernel
theorem dX8_pairThose_225 : decode cX8_pairThose 225 = .ok (.istore 8, 2) := by decide +kernel
theorem dX8_pairThose_227 : decode cX8_pairThose 227 = .ok (.iconst 0, 1) := by decide +kernel
theorem dX8_pairThose_228 : decode cX8_pairThose 228 = .ok (.istore 9, 2) := by decide +kernel
theorem dX8_pairThose_230 : decode cX8_pairThose 230 = .ok (.iload 9, 2) := by decide +kernel
theorem dX8_pairThose_232 : decode cX8_pairThose 232 = .ok (.iload 5, 2) := by decide +kernel
theorem dX8_pairThose_234 : decode cX8_pairThose 234 = .ok (.if_icmp .ge 151, 3) := by decide +kernel
theorem dX8_pairThose_237 : decode cX8_pairThose 237 = .ok (.iload 8, 2) := by decide +kernel
theorem dX8_pairThose_239 : decode cX8_pairThose 239 = .ok (.iload 4, 2) := by decide +kernel
theorem dX8_pairThose_241 : decode cX8_pairThose 241 = .ok (.if_icmp .ge 144, 3) := by decide +kernel
theorem dX8_pairThose_244 : decode cX8_pairThose 244 = .ok (.iconst (-1), 1) := by decide +kernel
theorem dX8_pairThose_245 : decode cX8_pairThose 245 = .ok (.istore 10, 2) := by decide +kernel
theorem dX8_pairThose_247 : decode cX8_pairThose 247 = .ok (.iload 6, 2) := by decide +kernel
theorem dX8_pairThose_249 : decode cX8_pairThose 249 = .ok (.iconst 1, 1) := by decide +kernel
theorem dX8_pairThose_250 : decode cX8_pairThose 250 = .ok (.isub, 1) := by decide +kernel
theorem dX8_pairThose_251 : decode cX8_pairThose 251 = .ok (.istore 11, 2) := by decide +kernel
theorem dX8_pairThose_253 : decode cX8_pairThose 253 = .ok (.iload 11, 2) := by decide +kernel
theorem dX8_pairThose_255 : decode cX8_pairThose 255 = .ok (.ifCond .lt 89, 3) := by decide +kernel
theorem dX8_pairThose_258 : decode cX8_pairThose 258 = .ok (.iload 7, 2) := by decide +kernel
theorem dX8_pairThose_260 : decode cX8_pairThose 260 = .ok (.iload 11, 2) := by decide +kernel
theorem dX8_pairThose_262 : decode cX8_pairThose 262 = .ok (.ishr, 1) := by decide +kernel
theorem dX8_pairThose_263 : decode cX8_pairThose 263 = .ok (.iconst 1, 1) := by decide +kernel
theorem dX8_pairThose_264 : decode cX8_pairThose 264 = .ok (.iand, 1) := by decide +kernel
theorem dX8_pairThose_265 : decode cX8_pairThose 265 = .ok (.iconst 1, 1) := by decide +kernel
theorem dX8_pairThose_266 : decode cX8_pairThose 266 = .ok (.if_icmp .ne 7, 3) := by decide +kernel
theorem dX8_pairThose_269 : decode cX8_pairThose 269 = .ok (.iconst (-1), 1) := by decide +kernel
theorem dX8_pairThose_270 : decode cX8_pairThose 270 = .ok (.goto 11, 3) := by decide +kernel
theorem dX8_pairThose_273 : decode cX8_pairThose 273 = .ok (.aload_n 0, 1) := by decide +kernel
theorem dX8_pairThose_274 : decode cX8_pairThose 274 = .ok (.iload 9, 2) := by decide +kernel
theorem dX8_pairThose_276 : decode cX8_pairThose 276 = .ok (.iload 11, 2) := by decide +kernel
theorem dX8_pairThose_278 : decode cX8_pairThose 278 = .ok (.invokevirtual 168, 3) := by decide +kernel
theorem dX8_pairThose_281 : decode cX8_pairThose 281 = .ok (.istore 12, 2) := by decide +kernel
theorem dX8_pairThose_283 : decode cX8_pairThose 283 = .ok (.iload 12, 2) := by decide +kernel
theorem dX8_pairThose_285 : decode cX8_pairThose 285 = .ok (.ifCond .lt 49, 3) := by decide +kernel
theorem dX8_pairThose_288 : decode cX8_pairThose 288 = .ok (.iload 12, 2) := by decide +kernel
theorem dX8_pairThose_290 : decode cX8_pairThose 290 = .ok (.aload_n 0, 1) := by decide +kernel
theorem dX8_pairThose_291 : decode cX8_pairThose 291 = .ok (.getfield 96, 3) := by decide +kernel
theorem dX8_pairThose_294 : decode cX8_pairThose 294 = .ok (.sipush 256, 3) := by decide +kernel
theorem dX8_pairThose_297 : decode cX8_pairThose 297 = .ok (.iload 9, 2) := by decide +kernel
theorem dX8_pairThose_299 : decode cX8_pairThose 299 = .ok (.iconst 1, 1) := by decide +kernel
theorem dX8_pairThose_300 : decode cX8_pairThose 300 = .ok (.iadd, 1) := by decide +kernel
theorem dX8_pairThose_301 : decode cX8_pairThose 301 = .ok (.imul, 1) := by decide +kernel
theorem dX8_pairThose_302 : decode cX8_pairThose 302 = .ok (.iload 7, 2) := by decide +kernel
theorem dX8_pairThose_304 : decode cX8_pairThose 304 = .ok (.iconst 1, 1) := by decide +kernel
theorem dX8_pairThose_305 : decode cX8_pairThose 305 = .ok (.iload 11, 2) := by decide +kernel
theorem dX8_pairThose_307 : decode cX8_pairThose 307 = .ok (.ishl, 1) := by decide +kernel
theorem dX8_pairThose_308 : decode cX8_pairThose 308 = .ok (.ior, 1) := by decide +kernel
theorem dX8_pairThose_309 : decode cX8_pairThose 309 = .ok (.iadd, 1) := by decide +kernel
theorem dX8_pairThose_310 : decode cX8_pairThose 310 = .ok (.iaload, 1) := by decide +kernel
theorem dX8_pairThose_311 : decode cX8_pairThose 311 = .ok (.iadd, 1) := by decide +kernel
theorem dX8_pairThose_312 : decode cX8_pairThose 312 = .ok (.aload_n 0, 1) := by decide +kernel
theorem dX8_pairThose_313 : decode cX8_pairThose 313 = .ok (.getfield 96, 3) := by decide +kernel
theorem dX8_pairThose_316 : decode cX8_pairThose 316 = .ok (.sipush 256, 3) := by decide +kernel
theorem dX8_pairThose_319 : decode cX8_pairThose 319 = .ok (.iload 9, 2) := by decide +kernel
theorem dX8_pairThose_321 : decode cX8_pairThose 321 = .ok (.imul, 1) := by decide +kernel
theorem dX8_pairThose_322 : decode cX8_pairThose 322 = .ok (.iload 7, 2) := by decide +kernel
theorem dX8_pairThose_324 : decode cX8_pairThose 324 = .ok (.iadd, 1) := by decide +kernel
theorem dX8_pairThose_325 : decode cX8_pairThose 325 = .ok (.iaload, 1) := by decide +kernel
theorem dX8_pairThose_326 : decode cX8_pairThose 326 = .ok (.if_icmp .ne 8, 3) := by decide +kernel
theorem dX8_pairThose_329 : decode cX8_pairThose 329 = .ok (.iload 11, 2) := by decide +kernel
theorem dX8_pairThose_331 : decode cX8_pairThose 331 = .ok (.goto 5, 3) := by decide +kernel
theorem dX8_pairThose_334 : decode cX8_pairThose 334 = .ok (.iload 10, 2) := by decide +kernel
theorem dX8_pairThose_336 : decode cX8_pairThose 336 = .ok (.istore 10, 2) := by decide +kernel
theorem dX8_pairThose_338 : decode cX8_pairThose 338 = .ok (.iinc 11 (-1), 3) := by decide +kernel
theorem dX8_pairThose_341 : decode cX8_pairThose 341 = .ok (.goto (-88), 3) := by decide +kernel
theorem dX8_pairThose_344 : decode cX8_pairThose 344 = .ok (.iload 10, 2) := by decide +kernel
theorem dX8_pairThose_346 : decode cX8_pairThose 346 = .ok (.ifCond .lt 33, 3) := by decide +kernel
theorem dX8_pairThose_349 : decode cX8_pairThose 349 = .ok (.iload 7, 2) := by decide +kernel
theorem dX8_pairThose_351 : decode cX8_pairThose 351 = .ok (.iconst 1, 1) := by decide +kernel
theorem dX8_pairThose_352 : decode cX8_pairThose 352 = .ok (.iload 10, 2) := by decide +kernel
theorem dX8_pairThose_354 : decode cX8_pairThose 354 = .ok (.ishl, 1) := by decide +kernel
theorem dX8_pairThose_355 : decode cX8_pairThose 355 = .ok (.ior, 1) := by decide +kernel
theorem dX8_pairThose_356 : decode cX8_pairThose 356 = .ok (.istore 7, 2) := by decide +kernel
theorem dX8_pairThose_358 : decode cX8_pairThose 358 = .ok (.aload_n 0, 1) := by decide +kernel
theorem dX8_pairThose_359 : decode cX8_pairThose 359 = .ok (.aload_n 0, 1) := by decide +kernel
theorem dX8_pairThose_360 : decode cX8_pairThose 360 = .ok (.getfield 90, 3) := by decide +kernel
theorem dX8_pairThose_363 : decode cX8_pairThose 363 = .ok (.iload 9, 2) := by decide +kernel
theorem dX8_pairThose_365 : decode cX8_pairThose 365 = .ok (.iaload, 1) := by decide +kernel
theorem dX8_pairThose_366 : decode cX8_pairThose 366 = .ok (.aload_n 0, 1) := by decide +kernel
theorem dX8_pairThose_367 : decode cX8_pairThose 367 = .ok (.getfield 93, 3) := by decide +kernel
theorem dX8_pairThose_370 : decode cX8_pairThose 370 = .ok (.iload 10, 2) := by decide +kernel
theorem dX8_pairThose_372 : decode cX8_pairThose 372 = .ok (.iaload, 1) := by decide +kernel
theorem dX8_pairThose_373 : decode cX8_pairThose 373 = .ok (.invokevirtual 172, 3) := by decide +kernel
theorem dX8_pairThose_376 : decode cX8_pairThose 376 = .ok (.iinc 8 1, 3) := by decide +kernel
theorem dX8_pairThose_379 : decode cX8_pairThose 379 = .ok (.iinc 9 1, 3) := by decide +kernel
theorem dX8_pairThose_382 : decode cX8_pairThose 382 = .ok (.goto (-152), 3) := by decide +kernel
theorem dX8_pairThose_385 : decode cX8_pairThose 385 = .ok (.iload 8, 2) := by decide +kernel
theorem dX8_pairThose_387 : decode cX8_pairThose 387 = .ok (.ireturn, 1) := by decide +kernel
theorem dX8_made_0 : decode cX8_made 0 = .ok (.aload_n 0, 1) := by decide +kernel
theorem dX8_made_1 : decode cX8_made 1 = .ok (.getfield 176, 3) := by decide +kernel
theorem dX8_made_4 : decode cX8_made 4 = .ok (.istore_n 3, 1) := by decide +kernel
theorem dX8_made_5 : decode cX8_made 5 = .ok (.aload_n 0, 1) := by decide +kernel
theorem dX8_made_6 : decode cX8_made 6 = .ok (.dup, 1) := by decide +kernel
theorem dX8_made_7 : decode cX8_made 7 = .ok (.getfield 176, 3) := by decide +kernel
theorem dX8_made_10 : decode cX8_made 10 = .ok (.iconst 1, 1) := by decide +kernel
theorem dX8_made_11 : decode cX8_made 11 = .ok (.iadd, 1) := by decide +kernel
theorem dX8_made_12 : decode cX8_made 12 = .ok (.putfield 176, 3) := by decide +kernel
theorem dX8_made_15 : decode cX8_made 15 = .ok (.aload_n 0, 1) := by decide +kernel
theorem dX8_made_16 : decode cX8_made 16 = .ok (.getfield 60, 3) := by decide +kernel
theorem dX8_made_19 : decode cX8_made 19 = .ok (.iload_n 3, 1) := by decide +kernel
theorem dX8_made_20 : decode cX8_made 20 = .ok (.iload_n 1, 1) := by decide +kernel
theorem dX8_made_21 : decode cX8_made 21 = .ok (.iastore, 1) := by decide +kernel
theorem dX8_made_22 : decode cX8_made 22 = .ok (.aload_n 0, 1) := by decide +kernel
theorem dX8_made_23 : decode cX8_made 23 = .ok (.getfield 63, 3) := by decide +kernel
theorem dX8_made_26 : decode cX8_made 26 = .ok (.iload_n 3, 1) := by decide +kernel
theorem dX8_made_27 : decode cX8_made 27 = .ok (.iload_n 2, 1) := by decide +kernel
theorem dX8_made_28 : decode cX8_made 28 = .ok (.iastore, 1) := by decide +kernel
theorem dX8_made_29 : decode cX8_made 29 = .ok (.aload_n 0, 1) := by decide +kernel
theorem dX8_made_30 : decode cX8_made 30 = .ok (.getfield 54, 3) := by decide +kernel
theorem dX8_made_33 : decode cX8_made 33 = .ok (.iload_n 1, 1) := by decide +kernel
theorem dX8_made_34 : decode cX8_made 34 = .ok (.iconst 1, 1) := by decide +kernel
theorem dX8_made_35 : decode cX8_made 35 = .ok (.iastore, 1) := by decide +kernel
theorem dX8_made_36 : decode cX8_made 36 = .ok (.aload_n 0, 1) := by decide +kernel
theorem dX8_made_37 : decode cX8_made 37 = .ok (.getfield 54, 3) := by decide +kernel
theorem dX8_made_40 : decode cX8_made 40 = .ok (.iload_n 2, 1) := by decide +kernel
theorem dX8_made_41 : decode cX8_made 41 = .ok (.iconst 1, 1) := by decide +kernel
theorem dX8_made_42 : decode cX8_made 42 = .ok (.iastore, 1) := by decide +kernel
theorem dX8_made_43 : decode cX8_made 43 = .ok (.aload_n 0, 1) := by decide +kernel
theorem dX8_made_44 : decode cX8_made 44 = .ok (.getfield 57, 3) := by decide +kernel
theorem dX8_made_47 : decode cX8_made 47 = .ok (.iload_n 1, 1) := by decide +kernel
theorem dX8_made_48 : decode cX8_made 48 = .ok (.iload_n 3, 1) := by decide +kernel
theorem dX8_made_49 : decode cX8_made 49 = .ok (.iastore, 1) := by decide +kernel
theorem dX8_made_50 : decode cX8_made 50 = .ok (.aload_n 0, 1) := by decide +kernel
theorem dX8_made_51 : decode cX8_made 51 = .ok (.getfield 57, 3) := by decide +kernel
theorem dX8_made_54 : decode cX8_made 54 = .ok (.iload_n 2, 1) := by decide +kernel
theorem dX8_made_55 : decode cX8_made 55 = .ok (.iload_n 3, 1) := by decide +kernel
theorem dX8_made_56 : decode cX8_made 56 = .ok (.iastore, 1) := by decide +kernel
theorem dX8_made_57 : decode cX8_made 57 = .ok (.aload_n 0, 1) := by decide +kernel
theorem dX8_made_58 : decode cX8_made 58 = .ok (.getfield 48, 3) := by decide +kernel
theorem dX8_made_61 : decode cX8_made 61 = .ok (.iload_n 1, 1) := by decide +kernel
theorem dX8_made_62 : decode cX8_made 62 = .ok (.iaload, 1) := by decide +kernel
theorem dX8_made_63 : decode cX8_made 63 = .ok (.istore 4, 2) := by decide +kernel
theorem dX8_made_65 : decode cX8_made 65 = .ok (.aload_n 0, 1) := by decide +kernel
theorem dX8_made_66 : decode cX8_made 66 = .ok (.getfield 48, 3) := by decide +kernel
theorem dX8_made_69 : decode cX8_made 69 = .ok (.iload_n 2, 1) := by decide +kernel
theorem dX8_made_70 : decode cX8_made 70 = .ok (.iaload, 1) := by decide +kernel
theorem dX8_made_71 : decode cX8_made 71 = .ok (.istore 5, 2) := by decide +kernel
theorem dX8_made_73 : decode cX8_made 73 = .ok (.aload_n 0, 1) := by decide +kernel
theorem dX8_made_74 : decode cX8_made 74 = .ok (.getfield 66, 3) := by decide +kernel
theorem dX8_made_77 : decode cX8_made 77 = .ok (.iload_n 3, 1) := by decide +kernel
theorem dX8_made_78 : decode cX8_made 78 = .ok (.aload_n 0, 1) := by decide +kernel
theorem dX8_made_79 : decode cX8_made 79 = .ok (.getfield 161, 3) := by decide +kernel
theorem dX8_made_82 : decode cX8_made 82 = .ok (.ifCond .ne 8, 3) := by decide +kernel
theorem dX8_made_85 : decode cX8_made 85 = .ok (.iload 5, 2) := by decide +kernel
theorem dX8_made_87 : decode cX8_made 87 = .ok (.goto 51, 3) := by decide +kernel
theorem dX8_made_90 : decode cX8_made 90 = .ok (.aload_n 0, 1) := by decide +kernel
theorem dX8_made_91 : decode cX8_made 91 = .ok (.getfield 161, 3) := by decide +kernel
theorem dX8_made_94 : decode cX8_made 94 = .ok (.iconst 3, 1) := by decide +kernel
theorem dX8_made_95 : decode cX8_made 95 = .ok (.if_icmp .ne 8, 3) := by decide +kernel
theorem dX8_made_98 : decode cX8_made 98 = .ok (.iload 4, 2) := by decide +kernel
theorem dX8_made_100 : decode cX8_made 100 = .ok (.goto 38, 3) := by decide +kernel
theorem dX8_made_103 : decode cX8_made 103 = .ok (.aload_n 0, 1) := by decide +kernel
theorem dX8_made_104 : decode cX8_made 104 = .ok (.getfield 161, 3) := by decide +kernel
theorem dX8_made_107 : decode cX8_made 107 = .ok (.iconst 1, 1) := by decide +kernel
theorem dX8_made_108 : decode cX8_made 108 = .ok (.if_icmp .ne 7, 3) := by decide +kernel
theorem dX8_made_111 : decode cX8_made 111 = .ok (.iconst 1, 1) := by decide +kernel
theorem dX8_made_112 : decode cX8_made 112 = .ok (.goto 4, 3) := by decide +kernel
theorem dX8_made_115 : decode cX8_made 115 = .ok (.iconst 0, 1) := by decide +kernel
theorem dX8_made_116 : decode cX8_made 116 = .ok (.iload 4, 2) := by decide +kernel
theorem dX8_made_118 : decode cX8_made 118 = .ok (.iload 5, 2) := by decide +kernel
theorem dX8_made_120 : decode cX8_made 120 = .ok (.if_icmp .ge 7, 3) := by decide +kernel
theorem dX8_made_123 : decode cX8_made 123 = .ok (.iconst 1, 1) := by decide +kernel
theorem dX8_made_124 : decode cX8_made 124 = .ok (.goto 4, 3) := by decide +kernel
theorem dX8_made_127 : decode cX8_made 127 = .ok (.iconst 0, 1) := by decide +kernel
theorem dX8_made_128 : decode cX8_made 128 = .ok (.if_icmp .ne 8, 3) := by decide +kernel
theorem dX8_made_131 : decode cX8_made 131 = .ok (.iload 4, 2) := by decide +kernel
theorem dX8_made_133 : decode cX8_made 133 = .ok (.goto 5, 3) := by decide +kernel
theorem dX8_made_136 : decode cX8_made 136 = .ok (.iload 5, 2) := by decide +kernel
theorem dX8_made_138 : decode cX8_made 138 = .ok (.iastore, 1) := by decide +kernel
theorem dX8_made_139 : decode cX8_made 139 = .ok (.aload_n 0, 1) := by decide +kernel
theorem dX8_made_140 : decode cX8_made 140 = .ok (.aload_n 0, 1) := by decide +kernel
theorem dX8_made_141 : decode cX8_made 141 = .ok (.getfield 39, 3) := by decide +kernel
theorem dX8_made_144 : decode cX8_made 144 = .ok (.iload_n 1, 1) := by decide +kernel
theorem dX8_made_145 : decode cX8_made 145 = .ok (.iaload, 1) := by decide +kernel
theorem dX8_made_146 : decode cX8_made 146 = .ok (.aload_n 0, 1) := by decide +kernel
theorem dX8_made_147 : decode cX8_made 147 = .ok (.getfield 45, 3) := by decide +kernel
theorem dX8_made_150 : decode cX8_made 150 = .ok (.iload_n 1, 1) := by decide +kernel
theorem dX8_made_151 : decode cX8_made 151 = .ok (.iaload, 1) := by decide +kernel
theorem dX8_made_152 : decode cX8_made 152 = .ok (.aload_n 0, 1) := by decide +kernel
theorem dX8_made_153 : decode cX8_made 153 = .ok (.getfield 51, 3) := by decide +kernel
theorem dX8_made_156 : decode cX8_made 156 = .ok (.iload_n 2, 1) := by decide +kernel
theorem dX8_made_157 : decode cX8_made 157 = .ok (.iaload, 1) := by decide +kernel
theorem dX8_made_158 : decode cX8_made 158 = .ok (.aload_n 0, 1) := by decide +kernel
theorem dX8_made_159 : decode cX8_made 159 = .ok (.getfield 66, 3) := by decide +kernel
theorem dX8_made_162 : decode cX8_made 162 = .ok (.iload_n 3, 1) := by decide +kernel
theorem dX8_made_163 : decode cX8_made 163 = .ok (.iaload, 1) := by decide +kernel
theorem dX8_made_164 : decode cX8_made 164 = .ok (.ineg, 1) := by decide +kernel
theorem dX8_made_165 : decode cX8_made 165 = .ok (.invokevirtual 153, 3) := by decide +kernel
theorem dX8_made_168 : decode cX8_made 168 = .ok (.aload_n 0, 1) := by decide +kernel
theorem dX8_made_169 : decode cX8_made 169 = .ok (.aload_n 0, 1) := by decide +kernel
theorem dX8_made_170 : decode cX8_made 170 = .ok (.getfield 42, 3) := by decide +kernel
theorem dX8_made_173 : decode cX8_made 173 = .ok (.iload_n 1, 1) := by decide +kernel
theorem dX8_made_174 : decode cX8_made 174 = .ok (.iaload, 1) := by decide +kernel
theorem dX8_made_175 : decode cX8_made 175 = .ok (.aload_n 0, 1) := by decide +kernel
theorem dX8_made_176 : decode cX8_made 176 = .ok (.getfield 45, 3) := by decide +kernel
theorem dX8_made_179 : decode cX8_made 179 = .ok (.iload_n 1, 1) := by decide +kernel
theorem dX8_made_180 : decode cX8_made 180 = .ok (.iaload, 1) := by decide +kernel
theorem dX8_made_181 : decode cX8_made 181 = .ok (.aload_n 0, 1) := by decide +kernel
theorem dX8_made_182 : decode cX8_made 182 = .ok (.getfield 51, 3) := by decide +kernel
theorem dX8_made_185 : decode cX8_made 185 = .ok (.iload_n 2, 1) := by decide +kernel
theorem dX8_made_186 : decode cX8_made 186 = .ok (.iaload, 1) := by decide +kernel
theorem dX8_made_187 : decode cX8_made 187 = .ok (.aload_n 0, 1) := by decide +kernel
theorem dX8_made_188 : decode cX8_made 188 = .ok (.getfield 66, 3) := by decide +kernel
theorem dX8_made_191 : decode cX8_made 191 = .ok (.iload_n 3, 1) := by decide +kernel
theorem dX8_made_192 : decode cX8_made 192 = .ok (.iaload, 1) := by decide +kernel
theorem dX8_made_193 : decode cX8_made 193 = .ok (.invokevirtual 153, 3) := by decide +kernel
theorem dX8_made_196 : decode cX8_made 196 = .ok (.return_, 1) := by decide +kernel
theorem dX8_pair_0 : decode cX8_pair 0 = .ok (.aload_n 0, 1) := by decide +kernel
theorem dX8_pair_1 : decode cX8_pair 1 = .ok (.getfield 133, 3) := by decide +kernel
theorem dX8_pair_4 : decode cX8_pair 4 = .ok (.sipush 1900, 3) := by decide +kernel
theorem dX8_pair_7 : decode cX8_pair 7 = .ok (.if_icmp .le 10, 3) := by decide +kernel
theorem dX8_pair_10 : decode cX8_pair 10 = .ok (.aload_n 0, 1) := by decide +kernel
theorem dX8_pair_11 : decode cX8_pair 11 = .ok (.bipush (-6), 2) := by decide +kernel
theorem dX8_pair_13 : decode cX8_pair 13 = .ok (.invokevirtual 126, 3) := by decide +kernel
theorem dX8_pair_16 : decode cX8_pair 16 = .ok (.ireturn, 1) := by decide +kernel
theorem dX8_pair_17 : decode cX8_pair 17 = .ok (.iconst 0, 1) := by decide +kernel
theorem dX8_pair_18 : decode cX8_pair 18 = .ok (.istore_n 1, 1) := by decide +kernel
theorem dX8_pair_19 : decode cX8_pair 19 = .ok (.iconst 0, 1) := by decide +kernel
theorem dX8_pair_20 : decode cX8_pair 20 = .ok (.istore_n 2, 1) := by decide +kernel
theorem dX8_pair_21 : decode cX8_pair 21 = .ok (.iload_n 2, 1) := by decide +kernel
theorem dX8_pair_22 : decode cX8_pair 22 = .ok (.aload_n 0, 1) := by decide +kernel
theorem dX8_pair_23 : decode cX8_pair 23 = .ok (.getfield 115, 3) := by decide +kernel
theorem dX8_pair_26 : decode cX8_pair 26 = .ok (.if_icmp .ge 64, 3) := by decide +kernel
theorem dX8_pair_29 : decode cX8_pair 29 = .ok (.iconst 0, 1) := by decide +kernel
theorem dX8_pair_30 : decode cX8_pair 30 = .ok (.istore_n 3, 1) := by decide +kernel
theorem dX8_pair_31 : decode cX8_pair 31 = .ok (.iload_n 3, 1) := by decide +kernel
theorem dX8_pair_32 : decode cX8_pair 32 = .ok (.aload_n 0, 1) := by decide +kernel
theorem dX8_pair_33 : decode cX8_pair 33 = .ok (.getfield 115, 3) := by decide +kernel
theorem dX8_pair_36 : decode cX8_pair 36 = .ok (.if_icmp .ge 48, 3) := by decide +kernel
theorem dX8_pair_39 : decode cX8_pair 39 = .ok (.iconst 0, 1) := by decide +kernel
theorem dX8_pair_40 : decode cX8_pair 40 = .ok (.istore 4, 2) := by decide +kernel
theorem dX8_pair_42 : decode cX8_pair 42 = .ok (.iload 4, 2) := by decide +kernel
theorem dX8_pair_44 : decode cX8_pair 44 = .ok (.aload_n 0, 1) := by decide +kernel
theorem dX8_pair_45 : decode cX8_pair 45 = .ok (.getfield 123, 3) := by decide +kernel
theorem dX8_pair_48 : decode cX8_pair 48 = .ok (.if_icmp .ge 30, 3) := by decide +kernel
theorem dX8_pair_51 : decode cX8_pair 51 = .ok (.iload_n 1, 1) := by decide +kernel
theorem dX8_pair_52 : decode cX8_pair 52 = .ok (.bipush 25, 2) := by decide +kernel
theorem dX8_pair_54 : decode cX8_pair 54 = .ok (.if_icmp .ge 24, 3) := by decide +kernel
theorem dX8_pair_57 : decode cX8_pair 57 = .ok (.iload_n 1, 1) := by decide +kernel
theorem dX8_pair_58 : decode cX8_pair 58 = .ok (.aload_n 0, 1) := by decide +kernel
theorem dX8_pair_59 : decode cX8_pair 59 = .ok (.iload_n 2, 1) := by decide +kernel
theorem dX8_pair_60 : decode cX8_pair 60 = .ok (.iload_n 3, 1) := by decide +kernel
theorem dX8_pair_61 : decode cX8_pair 61 = .ok (.iload 4, 2) := by decide +kernel
theorem dX8_pair_63 : decode cX8_pair 63 = .ok (.bipush 25, 2) := by decide +kernel
theorem dX8_pair_65 : decode cX8_pair 65 = .ok (.iload_n 1, 1) := by decide +kernel
theorem dX8_pair_66 : decode cX8_pair 66 = .ok (.isub, 1) := by decide +kernel
theorem dX8_pair_67 : decode cX8_pair 67 = .ok (.invokevirtual 179, 3) := by decide +kernel
theorem dX8_pair_70 : decode cX8_pair 70 = .ok (.iadd, 1) := by decide +kernel
theorem dX8_pair_71 : decode cX8_pair 71 = .ok (.istore_n 1, 1) := by decide +kernel
theorem dX8_pair_72 : decode cX8_pair 72 = .ok (.iinc 4 1, 3) := by decide +kernel
theorem dX8_pair_75 : decode cX8_pair 75 = .ok (.goto (-33), 3) := by decide +kernel
theorem dX8_pair_78 : decode cX8_pair 78 = .ok (.iinc 3 1, 3) := by decide +kernel
theorem dX8_pair_81 : decode cX8_pair 81 = .ok (.goto (-50), 3) := by decide +kernel
theorem dX8_pair_84 : decode cX8_pair 84 = .ok (.iinc 2 1, 3) := by decide +kernel
theorem dX8_pair_87 : decode cX8_pair 87 = .ok (.goto (-66), 3) := by decide +kernel
theorem dX8_pair_90 : decode cX8_pair 90 = .ok (.iload_n 1, 1) := by decide +kernel
theorem dX8_pair_91 : decode cX8_pair 91 = .ok (.ireturn, 1) := by decide +kernel
theorem dX8_isQuarrel_0 : decode cX8_isQuarrel 0 = .ok (.aload_n 0, 1) := by decide +kernel
theorem dX8_isQuarrel_1 : decode cX8_isQuarrel 1 = .ok (.getfield 48, 3) := by decide +kernel
theorem dX8_isQuarrel_4 : decode cX8_isQuarrel 4 = .ok (.aload_n 0, 1) := by decide +kernel
theorem dX8_isQuarrel_5 : decode cX8_isQuarrel 5 = .ok (.getfield 60, 3) := by decide +kernel
theorem dX8_isQuarrel_8 : decode cX8_isQuarrel 8 = .ok (.iload_n 1, 1) := by decide +kernel
theorem dX8_isQuarrel_9 : decode cX8_isQuarrel 9 = .ok (.iaload, 1) := by decide +kernel
theorem dX8_isQuarrel_10 : decode cX8_isQuarrel 10 = .ok (.iaload, 1) := by decide +kernel
theorem dX8_isQuarrel_11 : decode cX8_isQuarrel 11 = .ok (.aload_n 0, 1) := by decide +kernel
theorem dX8_isQuarrel_12 : decode cX8_isQuarrel 12 = .ok (.getfield 48, 3) := by decide +kernel
theorem dX8_isQuarrel_15 : decode cX8_isQuarrel 15 = .ok (.aload_n 0, 1) := by decide +kernel
theorem dX8_isQuarrel_16 : decode cX8_isQuarrel 16 = .ok (.getfield 63, 3) := by decide +kernel
theorem dX8_isQuarrel_19 : decode cX8_isQuarrel 19 = .ok (.iload_n 1, 1) := by decide +kernel
theorem dX8_isQuarrel_20 : decode cX8_isQuarrel 20 = .ok (.iaload, 1) := by decide +kernel
theorem dX8_isQuarrel_21 : decode cX8_isQuarrel 21 = .ok (.iaload, 1) := by decide +kernel
theorem dX8_isQuarrel_22 : decode cX8_isQuarrel 22 = .ok (.if_icmp .eq 7, 3) := by decide +kernel
theorem dX8_isQuarrel_25 : decode cX8_isQuarrel 25 = .ok (.iconst 1, 1) := by decide +kernel
theorem dX8_isQuarrel_26 : decode cX8_isQuarrel 26 = .ok (.goto 4, 3) := by decide +kernel
theorem dX8_isQuarrel_29 : decode cX8_isQuarrel 29 = .ok (.iconst 0, 1) := by decide +kernel
theorem dX8_isQuarrel_30 : decode cX8_isQuarrel 30 = .ok (.ireturn, 1) := by decide +kernel
theorem dX8_judge_0 : decode cX8_judge 0 = .ok (.iload_n 1, 1) := by decide +kernel
theorem dX8_judge_1 : decode cX8_judge 1 = .ok (.iconst 0, 1) := by decide +kernel
theorem dX8_judge_2 : decode cX8_judge 2 = .ok (.aload_n 0, 1) := by decide +kernel
theorem dX8_judge_3 : decode cX8_judge 3 = .ok (.getfield 176, 3) := by decide +kernel
theorem dX8_judge_6 : decode cX8_judge 6 = .ok (.iconst 1, 1) := by decide +kernel
theorem dX8_judge_7 : decode cX8_judge 7 = .ok (.isub, 1) := by decide +kernel
theorem dX8_judge_8 : decode cX8_judge 8 = .ok (.invokestatic 119, 3) := by decide +kernel
theorem dX8_judge_11 : decode cX8_judge 11 = .ok (.ifCond .ne 9, 3) := by decide +kernel
theorem dX8_judge_14 : decode cX8_judge 14 = .ok (.aload_n 0, 1) := by decide +kernel
theorem dX8_judge_15 : decode cX8_judge 15 = .ok (.iconst (-1), 1) := by decide +kernel
theorem dX8_judge_16 : decode cX8_judge 16 = .ok (.invokevirtual 126, 3) := by decide +kernel
theorem dX8_judge_19 : decode cX8_judge 19 = .ok (.ireturn, 1) := by decide +kernel
theorem dX8_judge_20 : decode cX8_judge 20 = .ok (.aload_n 0, 1) := by decide +kernel
theorem dX8_judge_21 : decode cX8_judge 21 = .ok (.iload_n 1, 1) := by decide +kernel
theorem dX8_judge_22 : decode cX8_judge 22 = .ok (.invokevirtual 183, 3) := by decide +kernel
theorem dX8_judge_25 : decode cX8_judge 25 = .ok (.ifCond .ne 10, 3) := by decide +kernel
theorem dX8_judge_28 : decode cX8_judge 28 = .ok (.aload_n 0, 1) := by decide +kernel
theorem dX8_judge_29 : decode cX8_judge 29 = .ok (.bipush (-3), 2) := by decide +kernel
theorem dX8_judge_31 : decode cX8_judge 31 = .ok (.invokevirtual 126, 3) := by decide +kernel
theorem dX8_judge_34 : decode cX8_judge 34 = .ok (.ireturn, 1) := by decide +kernel
theorem dX8_judge_35 : decode cX8_judge 35 = .ok (.iload_n 2, 1) := by decide +kernel
theorem dX8_judge_36 : decode cX8_judge 36 = .ok (.ifCond .ge 10, 3) := by decide +kernel
theorem dX8_judge_39 : decode cX8_judge 39 = .ok (.aload_n 0, 1) := by decide +kernel
theorem dX8_judge_40 : decode cX8_judge 40 = .ok (.bipush (-4), 2) := by decide +kernel
theorem dX8_judge_42 : decode cX8_judge 42 = .ok (.invokevirtual 126, 3) := by decide +kernel
theorem dX8_judge_45 : decode cX8_judge 45 = .ok (.ireturn, 1) := by decide +kernel
theorem dX8_judge_46 : decode cX8_judge 46 = .ok (.iload_n 2, 1) := by decide +kernel
theorem dX8_judge_47 : decode cX8_judge 47 = .ok (.sipush 1000, 3) := by decide +kernel
theorem dX8_judge_50 : decode cX8_judge 50 = .ok (.if_icmp .gt 13, 3) := by decide +kernel
theorem dX8_judge_53 : decode cX8_judge 53 = .ok (.aload_n 0, 1) := by decide +kernel
theorem dX8_judge_54 : decode cX8_judge 54 = .ok (.getfield 133, 3) := by decide +kernel
theorem dX8_judge_57 : decode cX8_judge 57 = .ok (.sipush 1998, 3) := by decide +kernel
theorem dX8_judge_60 : decode cX8_judge 60 = .ok (.if_icmp .le 10, 3) := by decide +kernel
theorem dX8_judge_63 : decode cX8_judge 63 = .ok (.aload_n 0, 1) := by decide +kernel
theorem dX8_judge_64 : decode cX8_judge 64 = .ok (.bipush (-6), 2) := by decide +kernel
theorem dX8_judge_66 : decode cX8_judge 66 = .ok (.invokevirtual 126, 3) := by decide +kernel
theorem dX8_judge_69 : decode cX8_judge 69 = .ok (.ireturn, 1) := by decide +kernel
theorem dX8_judge_70 : decode cX8_judge 70 = .ok (.aload_n 0, 1) := by decide +kernel
theorem dX8_judge_71 : decode cX8_judge 71 = .ok (.getfield 66, 3) := by decide +kernel
theorem dX8_judge_74 : decode cX8_judge 74 = .ok (.iload_n 1, 1) := by decide +kernel
theorem dX8_judge_75 : decode cX8_judge 75 = .ok (.iaload, 1) := by decide +kernel
theorem dX8_judge_76 : decode cX8_judge 76 = .ok (.istore_n 3, 1) := by decide +kernel
theorem dX8_judge_77 : decode cX8_judge 77 = .ok (.aload_n 0, 1) := by decide +kernel
theorem dX8_judge_78 : decode cX8_judge 78 = .ok (.getfield 66, 3) := by decide +kernel
theorem dX8_judge_81 : decode cX8_judge 81 = .ok (.iload_n 1, 1) := by decide +kernel
theorem dX8_judge_82 : decode cX8_judge 82 = .ok (.iload_n 2, 1) := by decide +kernel
theorem dX8_judge_83 : decode cX8_judge 83 = .ok (.iastore, 1) := by decide +kernel
theorem dX8_judge_84 : decode cX8_judge 84 = .ok (.aload_n 0, 1) := by decide +kernel
theorem dX8_judge_85 : decode cX8_judge 85 = .ok (.getfield 69, 3) := by decide +kernel
theorem dX8_judge_88 : decode cX8_judge 88 = .ok (.iload_n 1, 1) := by decide +kernel
theorem dX8_judge_89 : decode cX8_judge 89 = .ok (.iconst 1, 1) := by decide +kernel
theorem dX8_judge_90 : decode cX8_judge 90 = .ok (.bastore, 1) := by decide +kernel
theorem dX8_judge_91 : decode cX8_judge 91 = .ok (.aload_n 0, 1) := by decide +kernel
theorem dX8_judge_92 : decode cX8_judge 92 = .ok (.getfield 60, 3) := by decide +kernel
theorem dX8_judge_95 : decode cX8_judge 95 = .ok (.iload_n 1, 1) := by decide +kernel
theorem dX8_judge_96 : decode cX8_judge 96 = .ok (.iaload, 1) := by decide +kernel
theorem dX8_judge_97 : decode cX8_judge 97 = .ok (.istore 4, 2) := by decide +kernel
theorem dX8_judge_99 : decode cX8_judge 99 = .ok (.iload_n 2, 1) := by decide +kernel
theorem dX8_judge_100 : decode cX8_judge 100 = .ok (.iload_n 3, 1) := by decide +kernel
theorem dX8_judge_101 : decode cX8_judge 101 = .ok (.if_icmp .eq 67, 3) := by decide +kernel
theorem dX8_judge_104 : decode cX8_judge 104 = .ok (.aload_n 0, 1) := by decide +kernel
theorem dX8_judge_105 : decode cX8_judge 105 = .ok (.aload_n 0, 1) := by decide +kernel
theorem dX8_judge_106 : decode cX8_judge 106 = .ok (.getfield 39, 3) := by decide +kernel
theorem dX8_judge_109 : decode cX8_judge 109 = .ok (.iload 4, 2) := by decide +kernel
theorem dX8_judge_111 : decode cX8_judge 111 = .ok (.iaload, 1) := by decide +kernel
theorem dX8_judge_112 : decode cX8_judge 112 = .ok (.aload_n 0, 1) := by decide +kernel
theorem dX8_judge_113 : decode cX8_judge 113 = .ok (.getfield 45, 3) := by decide +kernel
theorem dX8_judge_116 : decode cX8_judge 116 = .ok (.iload 4, 2) := by decide +kernel
theorem dX8_judge_118 : decode cX8_judge 118 = .ok (.iaload, 1) := by decide +kernel
theorem dX8_judge_119 : decode cX8_judge 119 = .ok (.aload_n 0, 1) := by decide +kernel
theorem dX8_judge_120 : decode cX8_judge 120 = .ok (.getfield 51, 3) := by decide +kernel
theorem dX8_judge_123 : decode cX8_judge 123 = .ok (.aload_n 0, 1) := by decide +kernel
theorem dX8_judge_124 : decode cX8_judge 124 = .ok (.getfield 63, 3) := by decide +kernel
theorem dX8_judge_127 : decode cX8_judge 127 = .ok (.iload_n 1, 1) := by decide +kernel
theorem dX8_judge_128 : decode cX8_judge 128 = .ok (.iaload, 1) := by decide +kernel
theorem dX8_judge_129 : decode cX8_judge 129 = .ok (.iaload, 1) := by decide +kernel
theorem dX8_judge_130 : decode cX8_judge 130 = .ok (.iload_n 3, 1) := by decide +kernel
theorem dX8_judge_131 : decode cX8_judge 131 = .ok (.iload_n 2, 1) := by decide +kernel
theorem dX8_judge_132 : decode cX8_judge 132 = .ok (.isub, 1) := by decide +kernel
theorem dX8_judge_133 : decode cX8_judge 133 = .ok (.invokevirtual 153, 3) := by decide +kernel
theorem dX8_judge_136 : decode cX8_judge 136 = .ok (.aload_n 0, 1) := by decide +kernel
theorem dX8_judge_137 : decode cX8_judge 137 = .ok (.aload_n 0, 1) := by decide +kernel
theorem dX8_judge_138 : decode cX8_judge 138 = .ok (.getfield 42, 3) := by decide +kernel
theorem dX8_judge_141 : decode cX8_judge 141 = .ok (.iload 4, 2) := by decide +kernel
theorem dX8_judge_143 : decode cX8_judge 143 = .ok (.iaload, 1) := by decide +kernel
theorem dX8_judge_144 : decode cX8_judge 144 = .ok (.aload_n 0, 1) := by decide +kernel
theorem dX8_judge_145 : decode cX8_judge 145 = .ok (.getfield 45, 3) := by decide +kernel
theorem dX8_judge_148 : decode cX8_judge 148 = .ok (.iload 4, 2) := by decide +kernel
theorem dX8_judge_150 : decode cX8_judge 150 = .ok (.iaload, 1) := by decide +kernel
theorem dX8_judge_151 : decode cX8_judge 151 = .ok (.aload_n 0, 1) := by decide +kernel
theorem dX8_judge_152 : decode cX8_judge 152 = .ok (.getfield 51, 3) := by decide +kernel
theorem dX8_judge_155 : decode cX8_judge 155 = .ok (.aload_n 0, 1) := by decide +kernel
theorem dX8_judge_156 : decode cX8_judge 156 = .ok (.getfield 63, 3) := by decide +kernel
theorem dX8_judge_159 : decode cX8_judge 159 = .ok (.iload_n 1, 1) := by decide +kernel
theorem dX8_judge_160 : decode cX8_judge 160 = .ok (.iaload, 1) := by decide +kernel
theorem dX8_judge_161 : decode cX8_judge 161 = .ok (.iaload, 1) := by decide +kernel
theorem dX8_judge_162 : decode cX8_judge 162 = .ok (.iload_n 2, 1) := by decide +kernel
theorem dX8_judge_163 : decode cX8_judge 163 = .ok (.iload_n 3, 1) := by decide +kernel
theorem dX8_judge_164 : decode cX8_judge 164 = .ok (.isub, 1) := by decide +kernel
theorem dX8_judge_165 : decode cX8_judge 165 = .ok (.invokevirtual 153, 3) := by decide +kernel
theorem dX8_judge_168 : decode cX8_judge 168 = .ok (.iload_n 3, 1) := by decide +kernel
theorem dX8_judge_169 : decode cX8_judge 169 = .ok (.ireturn, 1) := by decide +kernel
theorem dX8_turnsOf_0 : decode cX8_turnsOf 0 = .ok (.iconst 0, 1) := by decide +kernel
theorem dX8_turnsOf_1 : decode cX8_turnsOf 1 = .ok (.istore_n 3, 1) := by decide +kernel
theorem dX8_turnsOf_2 : decode cX8_turnsOf 2 = .ok (.iconst 0, 1) := by decide +kernel
theorem dX8_turnsOf_3 : decode cX8_turnsOf 3 = .ok (.istore 4, 2) := by decide +kernel
theorem dX8_turnsOf_5 : decode cX8_turnsOf 5 = .ok (.iload 4, 2) := by decide +kernel
theorem dX8_turnsOf_7 : decode cX8_turnsOf 7 = .ok (.aload_n 0, 1) := by decide +kernel
theorem dX8_turnsOf_8 : decode cX8_turnsOf 8 = .ok (.getfield 176, 3) := by decide +kernel
theorem dX8_turnsOf_11 : decode cX8_turnsOf 11 = .ok (.if_icmp .ge 55, 3) := by decide +kernel
end
section
theorem dX8_turnsOf_14 : decode cX8_turnsOf 14 = .ok (.iload_n 3, 1) := by decide +kernel
theorem dX8_turnsOf_15 : decode cX8_turnsOf 15 = .ok (.aload_n 0, 1) := by decide +kernel
theorem dX8_turnsOf_16 : decode cX8_turnsOf 16 = .ok (.getfield 42, 3) := by decide +kernel
theorem dX8_turnsOf_19 : decode cX8_turnsOf 19 = .ok (.aload_n 0, 1) := by decide +kernel
theorem dX8_turnsOf_20 : decode cX8_turnsOf 20 = .ok (.getfield 60, 3) := by decide +kernel
theorem dX8_turnsOf_23 : decode cX8_turnsOf 23 = .ok (.iload 4, 2) := by decide +kernel
theorem dX8_turnsOf_25 : decode cX8_turnsOf 25 = .ok (.iaload, 1) := by decide +kernel
theorem dX8_turnsOf_26 : decode cX8_turnsOf 26 = .ok (.iaload, 1) := by decide +kernel
theorem dX8_turnsOf_27 : decode cX8_turnsOf 27 = .ok (.iload_n 1, 1) := by decide +kernel
theorem dX8_turnsOf_28 : decode cX8_turnsOf 28 = .ok (.if_icmp .ne 29, 3) := by decide +kernel
theorem dX8_turnsOf_31 : decode cX8_turnsOf 31 = .ok (.aload_n 0, 1) := by decide +kernel
theorem dX8_turnsOf_32 : decode cX8_turnsOf 32 = .ok (.getfield 45, 3) := by decide +kernel
theorem dX8_turnsOf_35 : decode cX8_turnsOf 35 = .ok (.aload_n 0, 1) := by decide +kernel
theorem dX8_turnsOf_36 : decode cX8_turnsOf 36 = .ok (.getfield 60, 3) := by decide +kernel
theorem dX8_turnsOf_39 : decode cX8_turnsOf 39 = .ok (.iload 4, 2) := by decide +kernel
theorem dX8_turnsOf_41 : decode cX8_turnsOf 41 = .ok (.iaload, 1) := by decide +kernel
theorem dX8_turnsOf_42 : decode cX8_turnsOf 42 = .ok (.iaload, 1) := by decide +kernel
theorem dX8_turnsOf_43 : decode cX8_turnsOf 43 = .ok (.iload_n 2, 1) := by decide +kernel
theorem dX8_turnsOf_44 : decode cX8_turnsOf 44 = .ok (.if_icmp .ne 13, 3) := by decide +kernel
theorem dX8_turnsOf_47 : decode cX8_turnsOf 47 = .ok (.aload_n 0, 1) := by decide +kernel
theorem dX8_turnsOf_48 : decode cX8_turnsOf 48 = .ok (.getfield 66, 3) := by decide +kernel
theorem dX8_turnsOf_51 : decode cX8_turnsOf 51 = .ok (.iload 4, 2) := by decide +kernel
theorem dX8_turnsOf_53 : decode cX8_turnsOf 53 = .ok (.iaload, 1) := by decide +kernel
theorem dX8_turnsOf_54 : decode cX8_turnsOf 54 = .ok (.goto 4, 3) := by decide +kernel
theorem dX8_turnsOf_57 : decode cX8_turnsOf 57 = .ok (.iconst 0, 1) := by decide +kernel
theorem dX8_turnsOf_58 : decode cX8_turnsOf 58 = .ok (.iadd, 1) := by decide +kernel
theorem dX8_turnsOf_59 : decode cX8_turnsOf 59 = .ok (.istore_n 3, 1) := by decide +kernel
theorem dX8_turnsOf_60 : decode cX8_turnsOf 60 = .ok (.iinc 4 1, 3) := by decide +kernel
theorem dX8_turnsOf_63 : decode cX8_turnsOf 63 = .ok (.goto (-58), 3) := by decide +kernel
theorem dX8_turnsOf_66 : decode cX8_turnsOf 66 = .ok (.iload_n 3, 1) := by decide +kernel
theorem dX8_turnsOf_67 : decode cX8_turnsOf 67 = .ok (.ireturn, 1) := by decide +kernel
theorem dX8_turns_0 : decode cX8_turns 0 = .ok (.aload_n 0, 1) := by decide +kernel
theorem dX8_turns_1 : decode cX8_turns 1 = .ok (.iload_n 1, 1) := by decide +kernel
theorem dX8_turns_2 : decode cX8_turns 2 = .ok (.invokevirtual 139, 3) := by decide +kernel
theorem dX8_turns_5 : decode cX8_turns 5 = .ok (.ifCond .eq 20, 3) := by decide +kernel
theorem dX8_turns_8 : decode cX8_turns 8 = .ok (.aload_n 0, 1) := by decide +kernel
theorem dX8_turns_9 : decode cX8_turns 9 = .ok (.iload_n 2, 1) := by decide +kernel
theorem dX8_turns_10 : decode cX8_turns 10 = .ok (.invokevirtual 143, 3) := by decide +kernel
theorem dX8_turns_13 : decode cX8_turns 13 = .ok (.ifCond .eq 12, 3) := by decide +kernel
theorem dX8_turns_16 : decode cX8_turns 16 = .ok (.aload_n 0, 1) := by decide +kernel
theorem dX8_turns_17 : decode cX8_turns 17 = .ok (.iload_n 1, 1) := by decide +kernel
theorem dX8_turns_18 : decode cX8_turns 18 = .ok (.iload_n 2, 1) := by decide +kernel
theorem dX8_turns_19 : decode cX8_turns 19 = .ok (.invokevirtual 186, 3) := by decide +kernel
theorem dX8_turns_22 : decode cX8_turns 22 = .ok (.goto 8, 3) := by decide +kernel
theorem dX8_turns_25 : decode cX8_turns 25 = .ok (.aload_n 0, 1) := by decide +kernel
theorem dX8_turns_26 : decode cX8_turns 26 = .ok (.iconst (-1), 1) := by decide +kernel
theorem dX8_turns_27 : decode cX8_turns 27 = .ok (.invokevirtual 126, 3) := by decide +kernel
theorem dX8_turns_30 : decode cX8_turns 30 = .ok (.ireturn, 1) := by decide +kernel
theorem dX8_share_0 : decode cX8_share 0 = .ok (.aload_n 0, 1) := by decide +kernel
theorem dX8_share_1 : decode cX8_share 1 = .ok (.iload_n 1, 1) := by decide +kernel
theorem dX8_share_2 : decode cX8_share 2 = .ok (.invokevirtual 139, 3) := by decide +kernel
theorem dX8_share_5 : decode cX8_share 5 = .ok (.ifCond .eq 11, 3) := by decide +kernel
theorem dX8_share_8 : decode cX8_share 8 = .ok (.aload_n 0, 1) := by decide +kernel
theorem dX8_share_9 : decode cX8_share 9 = .ok (.iload_n 2, 1) := by decide +kernel
theorem dX8_share_10 : decode cX8_share 10 = .ok (.invokevirtual 143, 3) := by decide +kernel
theorem dX8_share_13 : decode cX8_share 13 = .ok (.ifCond .ne 9, 3) := by decide +kernel
theorem dX8_share_16 : decode cX8_share 16 = .ok (.aload_n 0, 1) := by decide +kernel
theorem dX8_share_17 : decode cX8_share 17 = .ok (.iconst (-1), 1) := by decide +kernel
theorem dX8_share_18 : decode cX8_share 18 = .ok (.invokevirtual 126, 3) := by decide +kernel
theorem dX8_share_21 : decode cX8_share 21 = .ok (.ireturn, 1) := by decide +kernel
theorem dX8_share_22 : decode cX8_share 22 = .ok (.lconst 0, 1) := by decide +kernel
theorem dX8_share_23 : decode cX8_share 23 = .ok (.lstore_n 3, 1) := by decide +kernel
theorem dX8_share_24 : decode cX8_share 24 = .ok (.lconst 0, 1) := by decide +kernel
theorem dX8_share_25 : decode cX8_share 25 = .ok (.lstore 5, 2) := by decide +kernel
theorem dX8_share_27 : decode cX8_share 27 = .ok (.iconst 0, 1) := by decide +kernel
theorem dX8_share_28 : decode cX8_share 28 = .ok (.istore 7, 2) := by decide +kernel
theorem dX8_share_30 : decode cX8_share 30 = .ok (.iload 7, 2) := by decide +kernel
theorem dX8_share_32 : decode cX8_share 32 = .ok (.aload_n 0, 1) := by decide +kernel
theorem dX8_share_33 : decode cX8_share 33 = .ok (.getfield 115, 3) := by decide +kernel
theorem dX8_share_36 : decode cX8_share 36 = .ok (.if_icmp .ge 38, 3) := by decide +kernel
theorem dX8_share_39 : decode cX8_share 39 = .ok (.lload_n 3, 1) := by decide +kernel
theorem dX8_share_40 : decode cX8_share 40 = .ok (.aload_n 0, 1) := by decide +kernel
theorem dX8_share_41 : decode cX8_share 41 = .ok (.getfield 72, 3) := by decide +kernel
theorem dX8_share_44 : decode cX8_share 44 = .ok (.bipush 6, 2) := by decide +kernel
theorem dX8_share_46 : decode cX8_share 46 = .ok (.iload 7, 2) := by decide +kernel
theorem dX8_share_48 : decode cX8_share 48 = .ok (.imul, 1) := by decide +kernel
theorem dX8_share_49 : decode cX8_share 49 = .ok (.iload_n 2, 1) := by decide +kernel
theorem dX8_share_50 : decode cX8_share 50 = .ok (.iadd, 1) := by decide +kernel
theorem dX8_share_51 : decode cX8_share 51 = .ok (.iaload, 1) := by decide +kernel
theorem dX8_share_52 : decode cX8_share 52 = .ok (.i2l, 1) := by decide +kernel
theorem dX8_share_53 : decode cX8_share 53 = .ok (.ladd, 1) := by decide +kernel
theorem dX8_share_54 : decode cX8_share 54 = .ok (.lstore_n 3, 1) := by decide +kernel
theorem dX8_share_55 : decode cX8_share 55 = .ok (.lload 5, 2) := by decide +kernel
theorem dX8_share_57 : decode cX8_share 57 = .ok (.aload_n 0, 1) := by decide +kernel
theorem dX8_share_58 : decode cX8_share 58 = .ok (.iload 7, 2) := by decide +kernel
theorem dX8_share_60 : decode cX8_share 60 = .ok (.iload_n 2, 1) := by decide +kernel
theorem dX8_share_61 : decode cX8_share 61 = .ok (.invokevirtual 186, 3) := by decide +kernel
theorem dX8_share_64 : decode cX8_share 64 = .ok (.i2l, 1) := by decide +kernel
theorem dX8_share_65 : decode cX8_share 65 = .ok (.ladd, 1) := by decide +kernel
theorem dX8_share_66 : decode cX8_share 66 = .ok (.lstore 5, 2) := by decide +kernel
theorem dX8_share_68 : decode cX8_share 68 = .ok (.iinc 7 1, 3) := by decide +kernel
theorem dX8_share_71 : decode cX8_share 71 = .ok (.goto (-41), 3) := by decide +kernel
theorem dX8_share_74 : decode cX8_share 74 = .ok (.lload_n 3, 1) := by decide +kernel
theorem dX8_share_75 : decode cX8_share 75 = .ok (.lconst 0, 1) := by decide +kernel
theorem dX8_share_76 : decode cX8_share 76 = .ok (.lcmp, 1) := by decide +kernel
theorem dX8_share_77 : decode cX8_share 77 = .ok (.ifCond .le 15, 3) := by decide +kernel
theorem dX8_share_80 : decode cX8_share 80 = .ok (.lload_n 3, 1) := by decide +kernel
theorem dX8_share_81 : decode cX8_share 81 = .ok (.aload_n 0, 1) := by decide +kernel
theorem dX8_share_82 : decode cX8_share 82 = .ok (.getfield 7, 3) := by decide +kernel
theorem dX8_share_85 : decode cX8_share 85 = .ok (.iload_n 2, 1) := by decide +kernel
theorem dX8_share_86 : decode cX8_share 86 = .ok (.iaload, 1) := by decide +kernel
theorem dX8_share_87 : decode cX8_share 87 = .ok (.i2l, 1) := by decide +kernel
theorem dX8_share_88 : decode cX8_share 88 = .ok (.lmul, 1) := by decide +kernel
theorem dX8_share_89 : decode cX8_share 89 = .ok (.goto 4, 3) := by decide +kernel
theorem dX8_share_92 : decode cX8_share 92 = .ok (.lconst 0, 1) := by decide +kernel
theorem dX8_share_93 : decode cX8_share 93 = .ok (.lstore_n 3, 1) := by decide +kernel
theorem dX8_share_94 : decode cX8_share 94 = .ok (.lload 5, 2) := by decide +kernel
theorem dX8_share_96 : decode cX8_share 96 = .ok (.lconst 0, 1) := by decide +kernel
theorem dX8_share_97 : decode cX8_share 97 = .ok (.lcmp, 1) := by decide +kernel
theorem dX8_share_98 : decode cX8_share 98 = .ok (.ifCond .eq 9, 3) := by decide +kernel
theorem dX8_share_101 : decode cX8_share 101 = .ok (.lload_n 3, 1) := by decide +kernel
theorem dX8_share_102 : decode cX8_share 102 = .ok (.lconst 0, 1) := by decide +kernel
theorem dX8_share_103 : decode cX8_share 103 = .ok (.lcmp, 1) := by decide +kernel
theorem dX8_share_104 : decode cX8_share 104 = .ok (.ifCond .ne 5, 3) := by decide +kernel
theorem dX8_share_107 : decode cX8_share 107 = .ok (.iconst 0, 1) := by decide +kernel
theorem dX8_share_108 : decode cX8_share 108 = .ok (.ireturn, 1) := by decide +kernel
theorem dX8_share_109 : decode cX8_share 109 = .ok (.lload_n 3, 1) := by decide +kernel
theorem dX8_share_110 : decode cX8_share 110 = .ok (.lstore 7, 2) := by decide +kernel
theorem dX8_share_112 : decode cX8_share 112 = .ok (.iconst 0, 1) := by decide +kernel
theorem dX8_share_113 : decode cX8_share 113 = .ok (.istore 9, 2) := by decide +kernel
theorem dX8_share_115 : decode cX8_share 115 = .ok (.iload 9, 2) := by decide +kernel
theorem dX8_share_117 : decode cX8_share 117 = .ok (.aload_n 0, 1) := by decide +kernel
theorem dX8_share_118 : decode cX8_share 118 = .ok (.getfield 115, 3) := by decide +kernel
theorem dX8_share_121 : decode cX8_share 121 = .ok (.if_icmp .ge 27, 3) := by decide +kernel
theorem dX8_share_124 : decode cX8_share 124 = .ok (.lload 7, 2) := by decide +kernel
theorem dX8_share_126 : decode cX8_share 126 = .ok (.lload_n 3, 1) := by decide +kernel
theorem dX8_share_127 : decode cX8_share 127 = .ok (.aload_n 0, 1) := by decide +kernel
theorem dX8_share_128 : decode cX8_share 128 = .ok (.iload 9, 2) := by decide +kernel
theorem dX8_share_130 : decode cX8_share 130 = .ok (.iload_n 2, 1) := by decide +kernel
theorem dX8_share_131 : decode cX8_share 131 = .ok (.invokevirtual 186, 3) := by decide +kernel
theorem dX8_share_134 : decode cX8_share 134 = .ok (.i2l, 1) := by decide +kernel
theorem dX8_share_135 : decode cX8_share 135 = .ok (.lmul, 1) := by decide +kernel
theorem dX8_share_136 : decode cX8_share 136 = .ok (.lload 5, 2) := by decide +kernel
theorem dX8_share_138 : decode cX8_share 138 = .ok (.ldiv, 1) := by decide +kernel
theorem dX8_share_139 : decode cX8_share 139 = .ok (.lsub, 1) := by decide +kernel
theorem dX8_share_140 : decode cX8_share 140 = .ok (.lstore 7, 2) := by decide +kernel
theorem dX8_share_142 : decode cX8_share 142 = .ok (.iinc 9 1, 3) := by decide +kernel
theorem dX8_share_145 : decode cX8_share 145 = .ok (.goto (-30), 3) := by decide +kernel
theorem dX8_share_148 : decode cX8_share 148 = .ok (.lload_n 3, 1) := by decide +kernel
theorem dX8_share_149 : decode cX8_share 149 = .ok (.aload_n 0, 1) := by decide +kernel
theorem dX8_share_150 : decode cX8_share 150 = .ok (.iload_n 1, 1) := by decide +kernel
theorem dX8_share_151 : decode cX8_share 151 = .ok (.iload_n 2, 1) := by decide +kernel
theorem dX8_share_152 : decode cX8_share 152 = .ok (.invokevirtual 186, 3) := by decide +kernel
theorem dX8_share_155 : decode cX8_share 155 = .ok (.i2l, 1) := by decide +kernel
theorem dX8_share_156 : decode cX8_share 156 = .ok (.lmul, 1) := by decide +kernel
theorem dX8_share_157 : decode cX8_share 157 = .ok (.lload 5, 2) := by decide +kernel
theorem dX8_share_159 : decode cX8_share 159 = .ok (.lrem, 1) := by decide +kernel
theorem dX8_share_160 : decode cX8_share 160 = .ok (.lstore 9, 2) := by decide +kernel
theorem dX8_share_162 : decode cX8_share 162 = .ok (.iconst 0, 1) := by decide +kernel
theorem dX8_share_163 : decode cX8_share 163 = .ok (.istore 11, 2) := by decide +kernel
theorem dX8_share_165 : decode cX8_share 165 = .ok (.iconst 0, 1) := by decide +kernel
theorem dX8_share_166 : decode cX8_share 166 = .ok (.istore 12, 2) := by decide +kernel
theorem dX8_share_168 : decode cX8_share 168 = .ok (.iload 12, 2) := by decide +kernel
theorem dX8_share_170 : decode cX8_share 170 = .ok (.aload_n 0, 1) := by decide +kernel
theorem dX8_share_171 : decode cX8_share 171 = .ok (.getfield 115, 3) := by decide +kernel
theorem dX8_share_174 : decode cX8_share 174 = .ok (.if_icmp .ge 56, 3) := by decide +kernel
theorem dX8_share_177 : decode cX8_share 177 = .ok (.lload_n 3, 1) := by decide +kernel
theorem dX8_share_178 : decode cX8_share 178 = .ok (.aload_n 0, 1) := by decide +kernel
theorem dX8_share_179 : decode cX8_share 179 = .ok (.iload 12, 2) := by decide +kernel
theorem dX8_share_181 : decode cX8_share 181 = .ok (.iload_n 2, 1) := by decide +kernel
theorem dX8_share_182 : decode cX8_share 182 = .ok (.invokevirtual 186, 3) := by decide +kernel
theorem dX8_share_185 : decode cX8_share 185 = .ok (.i2l, 1) := by decide +kernel
theorem dX8_share_186 : decode cX8_share 186 = .ok (.lmul, 1) := by decide +kernel
theorem dX8_share_187 : decode cX8_share 187 = .ok (.lload 5, 2) := by decide +kernel
theorem dX8_share_189 : decode cX8_share 189 = .ok (.lrem, 1) := by decide +kernel
theorem dX8_share_190 : decode cX8_share 190 = .ok (.lstore 13, 2) := by decide +kernel
theorem dX8_share_192 : decode cX8_share 192 = .ok (.iload 11, 2) := by decide +kernel
theorem dX8_share_194 : decode cX8_share 194 = .ok (.lload 13, 2) := by decide +kernel
theorem dX8_share_196 : decode cX8_share 196 = .ok (.lload 9, 2) := by decide +kernel
theorem dX8_share_198 : decode cX8_share 198 = .ok (.lcmp, 1) := by decide +kernel
theorem dX8_share_199 : decode cX8_share 199 = .ok (.ifCond .gt 17, 3) := by decide +kernel
theorem dX8_share_202 : decode cX8_share 202 = .ok (.lload 13, 2) := by decide +kernel
theorem dX8_share_204 : decode cX8_share 204 = .ok (.lload 9, 2) := by decide +kernel
theorem dX8_share_206 : decode cX8_share 206 = .ok (.lcmp, 1) := by decide +kernel
theorem dX8_share_207 : decode cX8_share 207 = .ok (.ifCond .ne 13, 3) := by decide +kernel
theorem dX8_share_210 : decode cX8_share 210 = .ok (.iload 12, 2) := by decide +kernel
theorem dX8_share_212 : decode cX8_share 212 = .ok (.iload_n 1, 1) := by decide +kernel
theorem dX8_share_213 : decode cX8_share 213 = .ok (.if_icmp .ge 7, 3) := by decide +kernel
theorem dX8_share_216 : decode cX8_share 216 = .ok (.iconst 1, 1) := by decide +kernel
theorem dX8_share_217 : decode cX8_share 217 = .ok (.goto 4, 3) := by decide +kernel
theorem dX8_share_220 : decode cX8_share 220 = .ok (.iconst 0, 1) := by decide +kernel
theorem dX8_share_221 : decode cX8_share 221 = .ok (.iadd, 1) := by decide +kernel
theorem dX8_share_222 : decode cX8_share 222 = .ok (.istore 11, 2) := by decide +kernel
theorem dX8_share_224 : decode cX8_share 224 = .ok (.iinc 12 1, 3) := by decide +kernel
theorem dX8_share_227 : decode cX8_share 227 = .ok (.goto (-59), 3) := by decide +kernel
theorem dX8_share_230 : decode cX8_share 230 = .ok (.lload_n 3, 1) := by decide +kernel
theorem dX8_share_231 : decode cX8_share 231 = .ok (.aload_n 0, 1) := by decide +kernel
theorem dX8_share_232 : decode cX8_share 232 = .ok (.iload_n 1, 1) := by decide +kernel
theorem dX8_share_233 : decode cX8_share 233 = .ok (.iload_n 2, 1) := by decide +kernel
theorem dX8_share_234 : decode cX8_share 234 = .ok (.invokevirtual 186, 3) := by decide +kernel
theorem dX8_share_237 : decode cX8_share 237 = .ok (.i2l, 1) := by decide +kernel
theorem dX8_share_238 : decode cX8_share 238 = .ok (.lmul, 1) := by decide +kernel
theorem dX8_share_239 : decode cX8_share 239 = .ok (.lload 5, 2) := by decide +kernel
theorem dX8_share_241 : decode cX8_share 241 = .ok (.ldiv, 1) := by decide +kernel
theorem dX8_share_242 : decode cX8_share 242 = .ok (.l2i, 1) := by decide +kernel
theorem dX8_share_243 : decode cX8_share 243 = .ok (.iload 11, 2) := by decide +kernel
theorem dX8_share_245 : decode cX8_share 245 = .ok (.i2l, 1) := by decide +kernel
theorem dX8_share_246 : decode cX8_share 246 = .ok (.lload 7, 2) := by decide +kernel
theorem dX8_share_248 : decode cX8_share 248 = .ok (.lcmp, 1) := by decide +kernel
theorem dX8_share_249 : decode cX8_share 249 = .ok (.ifCond .ge 7, 3) := by decide +kernel
theorem dX8_share_252 : decode cX8_share 252 = .ok (.iconst 1, 1) := by decide +kernel
theorem dX8_share_253 : decode cX8_share 253 = .ok (.goto 4, 3) := by decide +kernel
theorem dX8_share_256 : decode cX8_share 256 = .ok (.iconst 0, 1) := by decide +kernel
theorem dX8_share_257 : decode cX8_share 257 = .ok (.iadd, 1) := by decide +kernel
theorem dX8_share_258 : decode cX8_share 258 = .ok (.ireturn, 1) := by decide +kernel
theorem dX8_feesOf_0 : decode cX8_feesOf 0 = .ok (.lconst 0, 1) := by decide +kernel
theorem dX8_feesOf_1 : decode cX8_feesOf 1 = .ok (.lstore_n 3, 1) := by decide +kernel
theorem dX8_feesOf_2 : decode cX8_feesOf 2 = .ok (.bipush 30, 2) := by decide +kernel
theorem dX8_feesOf_4 : decode cX8_feesOf 4 = .ok (.iload_n 2, 1) := by decide +kernel
theorem dX8_feesOf_5 : decode cX8_feesOf 5 = .ok (.imul, 1) := by decide +kernel
theorem dX8_feesOf_6 : decode cX8_feesOf 6 = .ok (.istore 5, 2) := by decide +kernel
theorem dX8_feesOf_8 : decode cX8_feesOf 8 = .ok (.iload 5, 2) := by decide +kernel
theorem dX8_feesOf_10 : decode cX8_feesOf 10 = .ok (.bipush 30, 2) := by decide +kernel
theorem dX8_feesOf_12 : decode cX8_feesOf 12 = .ok (.iload_n 2, 1) := by decide +kernel
theorem dX8_feesOf_13 : decode cX8_feesOf 13 = .ok (.imul, 1) := by decide +kernel
theorem dX8_feesOf_14 : decode cX8_feesOf 14 = .ok (.bipush 30, 2) := by decide +kernel
theorem dX8_feesOf_16 : decode cX8_feesOf 16 = .ok (.iadd, 1) := by decide +kernel
theorem dX8_feesOf_17 : decode cX8_feesOf 17 = .ok (.if_icmp .ge 76, 3) := by decide +kernel
theorem dX8_feesOf_20 : decode cX8_feesOf 20 = .ok (.iconst 0, 1) := by decide +kernel
theorem dX8_feesOf_21 : decode cX8_feesOf 21 = .ok (.istore 6, 2) := by decide +kernel
theorem dX8_feesOf_23 : decode cX8_feesOf 23 = .ok (.iload 6, 2) := by decide +kernel
theorem dX8_feesOf_25 : decode cX8_feesOf 25 = .ok (.aload_n 0, 1) := by decide +kernel
theorem dX8_feesOf_26 : decode cX8_feesOf 26 = .ok (.getfield 123, 3) := by decide +kernel
theorem dX8_feesOf_29 : decode cX8_feesOf 29 = .ok (.if_icmp .ge 58, 3) := by decide +kernel
theorem dX8_feesOf_32 : decode cX8_feesOf 32 = .ok (.aload_n 0, 1) := by decide +kernel
theorem dX8_feesOf_33 : decode cX8_feesOf 33 = .ok (.getfield 13, 3) := by decide +kernel
theorem dX8_feesOf_36 : decode cX8_feesOf 36 = .ok (.iload 6, 2) := by decide +kernel
theorem dX8_feesOf_38 : decode cX8_feesOf 38 = .ok (.iaload, 1) := by decide +kernel
theorem dX8_feesOf_39 : decode cX8_feesOf 39 = .ok (.ifCond .ne 7, 3) := by decide +kernel
theorem dX8_feesOf_42 : decode cX8_feesOf 42 = .ok (.iconst 0, 1) := by decide +kernel
theorem dX8_feesOf_43 : decode cX8_feesOf 43 = .ok (.goto 12, 3) := by decide +kernel
theorem dX8_feesOf_46 : decode cX8_feesOf 46 = .ok (.aload_n 0, 1) := by decide +kernel
theorem dX8_feesOf_47 : decode cX8_feesOf 47 = .ok (.iload_n 1, 1) := by decide +kernel
theorem dX8_feesOf_48 : decode cX8_feesOf 48 = .ok (.iload 6, 2) := by decide +kernel
theorem dX8_feesOf_50 : decode cX8_feesOf 50 = .ok (.iload 5, 2) := by decide +kernel
theorem dX8_feesOf_52 : decode cX8_feesOf 52 = .ok (.invokevirtual 149, 3) := by decide +kernel
theorem dX8_feesOf_55 : decode cX8_feesOf 55 = .ok (.istore 7, 2) := by decide +kernel
theorem dX8_feesOf_57 : decode cX8_feesOf 57 = .ok (.lload_n 3, 1) := by decide +kernel
theorem dX8_feesOf_58 : decode cX8_feesOf 58 = .ok (.iload 7, 2) := by decide +kernel
theorem dX8_feesOf_60 : decode cX8_feesOf 60 = .ok (.ifCond .le 18, 3) := by decide +kernel
theorem dX8_feesOf_63 : decode cX8_feesOf 63 = .ok (.iload 7, 2) := by decide +kernel
theorem dX8_feesOf_65 : decode cX8_feesOf 65 = .ok (.i2l, 1) := by decide +kernel
theorem dX8_feesOf_66 : decode cX8_feesOf 66 = .ok (.aload_n 0, 1) := by decide +kernel
theorem dX8_feesOf_67 : decode cX8_feesOf 67 = .ok (.getfield 13, 3) := by decide +kernel
theorem dX8_feesOf_70 : decode cX8_feesOf 70 = .ok (.iload 6, 2) := by decide +kernel
theorem dX8_feesOf_72 : decode cX8_feesOf 72 = .ok (.iaload, 1) := by decide +kernel
theorem dX8_feesOf_73 : decode cX8_feesOf 73 = .ok (.i2l, 1) := by decide +kernel
theorem dX8_feesOf_74 : decode cX8_feesOf 74 = .ok (.lmul, 1) := by decide +kernel
theorem dX8_feesOf_75 : decode cX8_feesOf 75 = .ok (.goto 4, 3) := by decide +kernel
theorem dX8_feesOf_78 : decode cX8_feesOf 78 = .ok (.lconst 0, 1) := by decide +kernel
theorem dX8_feesOf_79 : decode cX8_feesOf 79 = .ok (.ladd, 1) := by decide +kernel
theorem dX8_feesOf_80 : decode cX8_feesOf 80 = .ok (.lstore_n 3, 1) := by decide +kernel
theorem dX8_feesOf_81 : decode cX8_feesOf 81 = .ok (.iinc 6 1, 3) := by decide +kernel
theorem dX8_feesOf_84 : decode cX8_feesOf 84 = .ok (.goto (-61), 3) := by decide +kernel
theorem dX8_feesOf_87 : decode cX8_feesOf 87 = .ok (.iinc 5 1, 3) := by decide +kernel
theorem dX8_feesOf_90 : decode cX8_feesOf 90 = .ok (.goto (-82), 3) := by decide +kernel
theorem dX8_feesOf_93 : decode cX8_feesOf 93 = .ok (.lload_n 3, 1) := by decide +kernel
theorem dX8_feesOf_94 : decode cX8_feesOf 94 = .ok (.lreturn, 1) := by decide +kernel
theorem dX8_lackOfFees_0 : decode cX8_lackOfFees 0 = .ok (.aload_n 0, 1) := by decide +kernel
theorem dX8_lackOfFees_1 : decode cX8_lackOfFees 1 = .ok (.iload_n 1, 1) := by decide +kernel
theorem dX8_lackOfFees_2 : decode cX8_lackOfFees 2 = .ok (.invokevirtual 139, 3) := by decide +kernel
theorem dX8_lackOfFees_5 : decode cX8_lackOfFees 5 = .ok (.ifCond .ne 7, 3) := by decide +kernel
theorem dX8_lackOfFees_8 : decode cX8_lackOfFees 8 = .ok (.iconst (-1), 1) := by decide +kernel
theorem dX8_lackOfFees_9 : decode cX8_lackOfFees 9 = .ok (.goto 24, 3) := by decide +kernel
theorem dX8_lackOfFees_12 : decode cX8_lackOfFees 12 = .ok (.iload_n 2, 1) := by decide +kernel
theorem dX8_lackOfFees_13 : decode cX8_lackOfFees 13 = .ok (.ifCond .ge 8, 3) := by decide +kernel
theorem dX8_lackOfFees_16 : decode cX8_lackOfFees 16 = .ok (.bipush (-4), 2) := by decide +kernel
theorem dX8_lackOfFees_18 : decode cX8_lackOfFees 18 = .ok (.goto 15, 3) := by decide +kernel
theorem dX8_lackOfFees_21 : decode cX8_lackOfFees 21 = .ok (.iload_n 2, 1) := by decide +kernel
theorem dX8_lackOfFees_22 : decode cX8_lackOfFees 22 = .ok (.bipush 19, 2) := by decide +kernel
theorem dX8_lackOfFees_24 : decode cX8_lackOfFees 24 = .ok (.if_icmp .le 8, 3) := by decide +kernel
theorem dX8_lackOfFees_27 : decode cX8_lackOfFees 27 = .ok (.bipush (-6), 2) := by decide +kernel
theorem dX8_lackOfFees_29 : decode cX8_lackOfFees 29 = .ok (.goto 4, 3) := by decide +kernel
theorem dX8_lackOfFees_32 : decode cX8_lackOfFees 32 = .ok (.iconst 0, 1) := by decide +kernel
theorem dX8_lackOfFees_33 : decode cX8_lackOfFees 33 = .ok (.ireturn, 1) := by decide +kernel
theorem dX8_fees_0 : decode cX8_fees 0 = .ok (.aload_n 0, 1) := by decide +kernel
theorem dX8_fees_1 : decode cX8_fees 1 = .ok (.iload_n 1, 1) := by decide +kernel
theorem dX8_fees_2 : decode cX8_fees 2 = .ok (.iload_n 2, 1) := by decide +kernel
theorem dX8_fees_3 : decode cX8_fees 3 = .ok (.invokevirtual 189, 3) := by decide +kernel
theorem dX8_fees_6 : decode cX8_fees 6 = .ok (.istore_n 3, 1) := by decide +kernel
theorem dX8_fees_7 : decode cX8_fees 7 = .ok (.iload_n 3, 1) := by decide +kernel
theorem dX8_fees_8 : decode cX8_fees 8 = .ok (.ifCond .ge 12, 3) := by decide +kernel
theorem dX8_fees_11 : decode cX8_fees 11 = .ok (.aload_n 0, 1) := by decide +kernel
theorem dX8_fees_12 : decode cX8_fees 12 = .ok (.iload_n 3, 1) := by decide +kernel
theorem dX8_fees_13 : decode cX8_fees 13 = .ok (.invokevirtual 126, 3) := by decide +kernel
theorem dX8_fees_16 : decode cX8_fees 16 = .ok (.i2l, 1) := by decide +kernel
theorem dX8_fees_17 : decode cX8_fees 17 = .ok (.goto 9, 3) := by decide +kernel
theorem dX8_fees_20 : decode cX8_fees 20 = .ok (.aload_n 0, 1) := by decide +kernel
theorem dX8_fees_21 : decode cX8_fees 21 = .ok (.iload_n 1, 1) := by decide +kernel
theorem dX8_fees_22 : decode cX8_fees 22 = .ok (.iload_n 2, 1) := by decide +kernel
theorem dX8_fees_23 : decode cX8_fees 23 = .ok (.invokevirtual 192, 3) := by decide +kernel
theorem dX8_fees_26 : decode cX8_fees 26 = .ok (.lreturn, 1) := by decide +kernel
theorem dX8_close_0 : decode cX8_close 0 = .ok (.bipush 30, 2) := by decide +kernel
theorem dX8_close_2 : decode cX8_close 2 = .ok (.aload_n 0, 1) := by decide +kernel
theorem dX8_close_3 : decode cX8_close 3 = .ok (.getfield 136, 3) := by decide +kernel
theorem dX8_close_6 : decode cX8_close 6 = .ok (.imul, 1) := by decide +kernel
theorem dX8_close_7 : decode cX8_close 7 = .ok (.bipush 30, 2) := by decide +kernel
theorem dX8_close_9 : decode cX8_close 9 = .ok (.iadd, 1) := by decide +kernel
theorem dX8_close_10 : decode cX8_close 10 = .ok (.aload_n 0, 1) := by decide +kernel
theorem dX8_close_11 : decode cX8_close 11 = .ok (.getfield 130, 3) := by decide +kernel
theorem dX8_close_14 : decode cX8_close 14 = .ok (.if_icmp .le 10, 3) := by decide +kernel
theorem dX8_close_17 : decode cX8_close 17 = .ok (.aload_n 0, 1) := by decide +kernel
theorem dX8_close_18 : decode cX8_close 18 = .ok (.bipush (-3), 2) := by decide +kernel
theorem dX8_close_20 : decode cX8_close 20 = .ok (.invokevirtual 126, 3) := by decide +kernel
theorem dX8_close_23 : decode cX8_close 23 = .ok (.ireturn, 1) := by decide +kernel
theorem dX8_close_24 : decode cX8_close 24 = .ok (.aload_n 0, 1) := by decide +kernel
theorem dX8_close_25 : decode cX8_close 25 = .ok (.getfield 136, 3) := by decide +kernel
theorem dX8_close_28 : decode cX8_close 28 = .ok (.bipush 20, 2) := by decide +kernel
theorem dX8_close_30 : decode cX8_close 30 = .ok (.if_icmp .ne 10, 3) := by decide +kernel
theorem dX8_close_33 : decode cX8_close 33 = .ok (.aload_n 0, 1) := by decide +kernel
theorem dX8_close_34 : decode cX8_close 34 = .ok (.bipush (-6), 2) := by decide +kernel
theorem dX8_close_36 : decode cX8_close 36 = .ok (.invokevirtual 126, 3) := by decide +kernel
theorem dX8_close_39 : decode cX8_close 39 = .ok (.ireturn, 1) := by decide +kernel
theorem dX8_close_40 : decode cX8_close 40 = .ok (.iconst 0, 1) := by decide +kernel
theorem dX8_close_41 : decode cX8_close 41 = .ok (.istore_n 1, 1) := by decide +kernel
theorem dX8_close_42 : decode cX8_close 42 = .ok (.iload_n 1, 1) := by decide +kernel
theorem dX8_close_43 : decode cX8_close 43 = .ok (.aload_n 0, 1) := by decide +kernel
theorem dX8_close_44 : decode cX8_close 44 = .ok (.getfield 115, 3) := by decide +kernel
theorem dX8_close_47 : decode cX8_close 47 = .ok (.if_icmp .ge 32, 3) := by decide +kernel
theorem dX8_close_50 : decode cX8_close 50 = .ok (.aload_n 0, 1) := by decide +kernel
theorem dX8_close_51 : decode cX8_close 51 = .ok (.getfield 32, 3) := by decide +kernel
theorem dX8_close_54 : decode cX8_close 54 = .ok (.bipush 20, 2) := by decide +kernel
theorem dX8_close_56 : decode cX8_close 56 = .ok (.iload_n 1, 1) := by decide +kernel
theorem dX8_close_57 : decode cX8_close 57 = .ok (.imul, 1) := by decide +kernel
theorem dX8_close_58 : decode cX8_close 58 = .ok (.aload_n 0, 1) := by decide +kernel
theorem dX8_close_59 : decode cX8_close 59 = .ok (.getfield 136, 3) := by decide +kernel
theorem dX8_close_62 : decode cX8_close 62 = .ok (.iadd, 1) := by decide +kernel
theorem dX8_close_63 : decode cX8_close 63 = .ok (.aload_n 0, 1) := by decide +kernel
theorem dX8_close_64 : decode cX8_close 64 = .ok (.iload_n 1, 1) := by decide +kernel
theorem dX8_close_65 : decode cX8_close 65 = .ok (.aload_n 0, 1) := by decide +kernel
theorem dX8_close_66 : decode cX8_close 66 = .ok (.getfield 136, 3) := by decide +kernel
theorem dX8_close_69 : decode cX8_close 69 = .ok (.invokevirtual 192, 3) := by decide +kernel
theorem dX8_close_72 : decode cX8_close 72 = .ok (.lastore, 1) := by decide +kernel
theorem dX8_close_73 : decode cX8_close 73 = .ok (.iinc 1 1, 3) := by decide +kernel
theorem dX8_close_76 : decode cX8_close 76 = .ok (.goto (-34), 3) := by decide +kernel
theorem dX8_close_79 : decode cX8_close 79 = .ok (.aload_n 0, 1) := by decide +kernel
theorem dX8_close_80 : decode cX8_close 80 = .ok (.dup, 1) := by decide +kernel
theorem dX8_close_81 : decode cX8_close 81 = .ok (.getfield 136, 3) := by decide +kernel
theorem dX8_close_84 : decode cX8_close 84 = .ok (.iconst 1, 1) := by decide +kernel
theorem dX8_close_85 : decode cX8_close 85 = .ok (.iadd, 1) := by decide +kernel
theorem dX8_close_86 : decode cX8_close 86 = .ok (.putfield 136, 3) := by decide +kernel
theorem dX8_close_89 : decode cX8_close 89 = .ok (.aload_n 0, 1) := by decide +kernel
theorem dX8_close_90 : decode cX8_close 90 = .ok (.getfield 136, 3) := by decide +kernel
theorem dX8_close_93 : decode cX8_close 93 = .ok (.iconst 1, 1) := by decide +kernel
theorem dX8_close_94 : decode cX8_close 94 = .ok (.isub, 1) := by decide +kernel
theorem dX8_close_95 : decode cX8_close 95 = .ok (.ireturn, 1) := by decide +kernel
theorem dX8_bill_0 : decode cX8_bill 0 = .ok (.aload_n 0, 1) := by decide +kernel
theorem dX8_bill_1 : decode cX8_bill 1 = .ok (.iload_n 1, 1) := by decide +kernel
theorem dX8_bill_2 : decode cX8_bill 2 = .ok (.iload_n 2, 1) := by decide +kernel
theorem dX8_bill_3 : decode cX8_bill 3 = .ok (.invokevirtual 189, 3) := by decide +kernel
theorem dX8_bill_6 : decode cX8_bill 6 = .ok (.istore_n 3, 1) := by decide +kernel
theorem dX8_bill_7 : decode cX8_bill 7 = .ok (.iload_n 3, 1) := by decide +kernel
theorem dX8_bill_8 : decode cX8_bill 8 = .ok (.ifCond .ne 16, 3) := by decide +kernel
theorem dX8_bill_11 : decode cX8_bill 11 = .ok (.iload_n 2, 1) := by decide +kernel
theorem dX8_bill_12 : decode cX8_bill 12 = .ok (.aload_n 0, 1) := by decide +kernel
theorem dX8_bill_13 : decode cX8_bill 13 = .ok (.getfield 136, 3) := by decide +kernel
theorem dX8_bill_16 : decode cX8_bill 16 = .ok (.if_icmp .lt 8, 3) := by decide +kernel
theorem dX8_bill_19 : decode cX8_bill 19 = .ok (.bipush (-3), 2) := by decide +kernel
theorem dX8_bill_21 : decode cX8_bill 21 = .ok (.goto 4, 3) := by decide +kernel
theorem dX8_bill_24 : decode cX8_bill 24 = .ok (.iload_n 3, 1) := by decide +kernel
theorem dX8_bill_25 : decode cX8_bill 25 = .ok (.istore_n 3, 1) := by decide +kernel
theorem dX8_bill_26 : decode cX8_bill 26 = .ok (.iload_n 3, 1) := by decide +kernel
theorem dX8_bill_27 : decode cX8_bill 27 = .ok (.ifCond .ge 12, 3) := by decide +kernel
theorem dX8_bill_30 : decode cX8_bill 30 = .ok (.aload_n 0, 1) := by decide +kernel
theorem dX8_bill_31 : decode cX8_bill 31 = .ok (.iload_n 3, 1) := by decide +kernel
theorem dX8_bill_32 : decode cX8_bill 32 = .ok (.invokevirtual 126, 3) := by decide +kernel
theorem dX8_bill_35 : decode cX8_bill 35 = .ok (.i2l, 1) := by decide +kernel
theorem dX8_bill_36 : decode cX8_bill 36 = .ok (.goto 14, 3) := by decide +kernel
theorem dX8_bill_39 : decode cX8_bill 39 = .ok (.aload_n 0, 1) := by decide +kernel
theorem dX8_bill_40 : decode cX8_bill 40 = .ok (.getfield 32, 3) := by decide +kernel
theorem dX8_bill_43 : decode cX8_bill 43 = .ok (.bipush 20, 2) := by decide +kernel
theorem dX8_bill_45 : decode cX8_bill 45 = .ok (.iload_n 1, 1) := by decide +kernel
theorem dX8_bill_46 : decode cX8_bill 46 = .ok (.imul, 1) := by decide +kernel
theorem dX8_bill_47 : decode cX8_bill 47 = .ok (.iload_n 2, 1) := by decide +kernel
theorem dX8_bill_48 : decode cX8_bill 48 = .ok (.iadd, 1) := by decide +kernel
theorem dX8_bill_49 : decode cX8_bill 49 = .ok (.laload, 1) := by decide +kernel
theorem dX8_bill_50 : decode cX8_bill 50 = .ok (.lreturn, 1) := by decide +kernel
theorem dX8_telling_0 : decode cX8_telling 0 = .ok (.iload_n 1, 1) := by decide +kernel
theorem dX8_telling_1 : decode cX8_telling 1 = .ok (.iconst 0, 1) := by decide +kernel
theorem dX8_telling_2 : decode cX8_telling 2 = .ok (.aload_n 0, 1) := by decide +kernel
theorem dX8_telling_3 : decode cX8_telling 3 = .ok (.getfield 158, 3) := by decide +kernel
theorem dX8_telling_6 : decode cX8_telling 6 = .ok (.iconst 1, 1) := by decide +kernel
theorem dX8_telling_7 : decode cX8_telling 7 = .ok (.isub, 1) := by decide +kernel
theorem dX8_telling_8 : decode cX8_telling 8 = .ok (.invokestatic 119, 3) := by decide +kernel
theorem dX8_telling_11 : decode cX8_telling 11 = .ok (.ifCond .ne 6, 3) := by decide +kernel
theorem dX8_telling_14 : decode cX8_telling 14 = .ok (.bipush (-9), 2) := by decide +kernel
theorem dX8_telling_16 : decode cX8_telling 16 = .ok (.ireturn, 1) := by decide +kernel
theorem dX8_telling_17 : decode cX8_telling 17 = .ok (.iload_n 2, 1) := by decide +kernel
theorem dX8_telling_18 : decode cX8_telling 18 = .ok (.tableswitch 99 0 6 #[42, 57, 64, 71, 78, 85, 92], 42) := by decide +kernel
theorem dX8_telling_60 : decode cX8_telling 60 = .ok (.aload_n 0, 1) := by decide +kernel
theorem dX8_telling_61 : decode cX8_telling 61 = .ok (.getfield 35, 3) := by decide +kernel
theorem dX8_telling_64 : decode cX8_telling 64 = .ok (.iload_n 1, 1) := by decide +kernel
theorem dX8_telling_65 : decode cX8_telling 65 = .ok (.baload, 1) := by decide +kernel
theorem dX8_telling_66 : decode cX8_telling 66 = .ok (.ifCond .eq 7, 3) := by decide +kernel
theorem dX8_telling_69 : decode cX8_telling 69 = .ok (.iconst 1, 1) := by decide +kernel
theorem dX8_telling_70 : decode cX8_telling 70 = .ok (.goto 4, 3) := by decide +kernel
theorem dX8_telling_73 : decode cX8_telling 73 = .ok (.iconst 0, 1) := by decide +kernel
theorem dX8_telling_74 : decode cX8_telling 74 = .ok (.ireturn, 1) := by decide +kernel
theorem dX8_telling_75 : decode cX8_telling 75 = .ok (.aload_n 0, 1) := by decide +kernel
theorem dX8_telling_76 : decode cX8_telling 76 = .ok (.getfield 39, 3) := by decide +kernel
theorem dX8_telling_79 : decode cX8_telling 79 = .ok (.iload_n 1, 1) := by decide +kernel
theorem dX8_telling_80 : decode cX8_telling 80 = .ok (.iaload, 1) := by decide +kernel
theorem dX8_telling_81 : decode cX8_telling 81 = .ok (.ireturn, 1) := by decide +kernel
theorem dX8_telling_82 : decode cX8_telling 82 = .ok (.aload_n 0, 1) := by decide +kernel
theorem dX8_telling_83 : decode cX8_telling 83 = .ok (.getfield 42, 3) := by decide +kernel
theorem dX8_telling_86 : decode cX8_telling 86 = .ok (.iload_n 1, 1) := by decide +kernel
theorem dX8_telling_87 : decode cX8_telling 87 = .ok (.iaload, 1) := by decide +kernel
theorem dX8_telling_88 : decode cX8_telling 88 = .ok (.ireturn, 1) := by decide +kernel
theorem dX8_telling_89 : decode cX8_telling 89 = .ok (.aload_n 0, 1) := by decide +kernel
theorem dX8_telling_90 : decode cX8_telling 90 = .ok (.getfield 45, 3) := by decide +kernel
theorem dX8_telling_93 : decode cX8_telling 93 = .ok (.iload_n 1, 1) := by decide +kernel
theorem dX8_telling_94 : decode cX8_telling 94 = .ok (.iaload, 1) := by decide +kernel
theorem dX8_telling_95 : decode cX8_telling 95 = .ok (.ireturn, 1) := by decide +kernel
theorem dX8_telling_96 : decode cX8_telling 96 = .ok (.aload_n 0, 1) := by decide +kernel
theorem dX8_telling_97 : decode cX8_telling 97 = .ok (.getfield 48, 3) := by decide +kernel
theorem dX8_telling_100 : decode cX8_telling 100 = .ok (.iload_n 1, 1) := by decide +kernel
theorem dX8_telling_101 : decode cX8_telling 101 = .ok (.iaload, 1) := by decide +kernel
theorem dX8_telling_102 : decode cX8_telling 102 = .ok (.ireturn, 1) := by decide +kernel
theorem dX8_telling_103 : decode cX8_telling 103 = .ok (.aload_n 0, 1) := by decide +kernel
theorem dX8_telling_104 : decode cX8_telling 104 = .ok (.getfield 51, 3) := by decide +kernel
theorem dX8_telling_107 : decode cX8_telling 107 = .ok (.iload_n 1, 1) := by decide +kernel
theorem dX8_telling_108 : decode cX8_telling 108 = .ok (.iaload, 1) := by decide +kernel
theorem dX8_telling_109 : decode cX8_telling 109 = .ok (.ireturn, 1) := by decide +kernel
theorem dX8_telling_110 : decode cX8_telling 110 = .ok (.aload_n 0, 1) := by decide +kernel
theorem dX8_telling_111 : decode cX8_telling 111 = .ok (.getfield 54, 3) := by decide +kernel
theorem dX8_telling_114 : decode cX8_telling 114 = .ok (.iload_n 1, 1) := by decide +kernel
theorem dX8_telling_115 : decode cX8_telling 115 = .ok (.iaload, 1) := by decide +kernel
theorem dX8_telling_116 : decode cX8_telling 116 = .ok (.ireturn, 1) := by decide +kernel
theorem dX8_telling_117 : decode cX8_telling 117 = .ok (.iload_n 2, 1) := by decide +kernel
theorem dX8_telling_118 : decode cX8_telling 118 = .ok (.bipush 7, 2) := by decide +kernel
theorem dX8_telling_120 : decode cX8_telling 120 = .ok (.if_icmp .ne 12, 3) := by decide +kernel
theorem dX8_telling_123 : decode cX8_telling 123 = .ok (.aload_n 0, 1) := by decide +kernel
theorem dX8_telling_124 : decode cX8_telling 124 = .ok (.getfield 57, 3) := by decide +kernel
theorem dX8_telling_127 : decode cX8_telling 127 = .ok (.iload_n 1, 1) := by decide +kernel
theorem dX8_telling_128 : decode cX8_telling 128 = .ok (.iaload, 1) := by decide +kernel
theorem dX8_telling_129 : decode cX8_telling 129 = .ok (.goto 5, 3) := by decide +kernel
theorem dX8_telling_132 : decode cX8_telling 132 = .ok (.bipush (-9), 2) := by decide +kernel
theorem dX8_telling_134 : decode cX8_telling 134 = .ok (.ireturn, 1) := by decide +kernel
theorem dX8_pairOf_0 : decode cX8_pairOf 0 = .ok (.iload_n 1, 1) := by decide +kernel
theorem dX8_pairOf_1 : decode cX8_pairOf 1 = .ok (.iconst 0, 1) := by decide +kernel
theorem dX8_pairOf_2 : decode cX8_pairOf 2 = .ok (.aload_n 0, 1) := by decide +kernel
theorem dX8_pairOf_3 : decode cX8_pairOf 3 = .ok (.getfield 176, 3) := by decide +kernel
theorem dX8_pairOf_6 : decode cX8_pairOf 6 = .ok (.iconst 1, 1) := by decide +kernel
theorem dX8_pairOf_7 : decode cX8_pairOf 7 = .ok (.isub, 1) := by decide +kernel
theorem dX8_pairOf_8 : decode cX8_pairOf 8 = .ok (.invokestatic 119, 3) := by decide +kernel
theorem dX8_pairOf_11 : decode cX8_pairOf 11 = .ok (.ifCond .ne 6, 3) := by decide +kernel
theorem dX8_pairOf_14 : decode cX8_pairOf 14 = .ok (.bipush (-9), 2) := by decide +kernel
theorem dX8_pairOf_16 : decode cX8_pairOf 16 = .ok (.ireturn, 1) := by decide +kernel
theorem dX8_pairOf_17 : decode cX8_pairOf 17 = .ok (.iload_n 2, 1) := by decide +kernel
theorem dX8_pairOf_18 : decode cX8_pairOf 18 = .ok (.tableswitch 81 0 4 #[34, 41, 48, 60, 74], 34) := by decide +kernel
theorem dX8_pairOf_52 : decode cX8_pairOf 52 = .ok (.aload_n 0, 1) := by decide +kernel
theorem dX8_pairOf_53 : decode cX8_pairOf 53 = .ok (.getfield 60, 3) := by decide +kernel
theorem dX8_pairOf_56 : decode cX8_pairOf 56 = .ok (.iload_n 1, 1) := by decide +kernel
theorem dX8_pairOf_57 : decode cX8_pairOf 57 = .ok (.iaload, 1) := by decide +kernel
theorem dX8_pairOf_58 : decode cX8_pairOf 58 = .ok (.ireturn, 1) := by decide +kernel
theorem dX8_pairOf_59 : decode cX8_pairOf 59 = .ok (.aload_n 0, 1) := by decide +kernel
theorem dX8_pairOf_60 : decode cX8_pairOf 60 = .ok (.getfield 63, 3) := by decide +kernel
theorem dX8_pairOf_63 : decode cX8_pairOf 63 = .ok (.iload_n 1, 1) := by decide +kernel
theorem dX8_pairOf_64 : decode cX8_pairOf 64 = .ok (.iaload, 1) := by decide +kernel
theorem dX8_pairOf_65 : decode cX8_pairOf 65 = .ok (.ireturn, 1) := by decide +kernel
theorem dX8_pairOf_66 : decode cX8_pairOf 66 = .ok (.aload_n 0, 1) := by decide +kernel
theorem dX8_pairOf_67 : decode cX8_pairOf 67 = .ok (.getfield 51, 3) := by decide +kernel
theorem dX8_pairOf_70 : decode cX8_pairOf 70 = .ok (.aload_n 0, 1) := by decide +kernel
theorem dX8_pairOf_71 : decode cX8_pairOf 71 = .ok (.getfield 63, 3) := by decide +kernel
theorem dX8_pairOf_74 : decode cX8_pairOf 74 = .ok (.iload_n 1, 1) := by decide +kernel
theorem dX8_pairOf_75 : decode cX8_pairOf 75 = .ok (.iaload, 1) := by decide +kernel
theorem dX8_pairOf_76 : decode cX8_pairOf 76 = .ok (.iaload, 1) := by decide +kernel
theorem dX8_pairOf_77 : decode cX8_pairOf 77 = .ok (.ireturn, 1) := by decide +kernel
theorem dX8_pairOf_78 : decode cX8_pairOf 78 = .ok (.aload_n 0, 1) := by decide +kernel
theorem dX8_pairOf_79 : decode cX8_pairOf 79 = .ok (.iload_n 1, 1) := by decide +kernel
theorem dX8_pairOf_80 : decode cX8_pairOf 80 = .ok (.invokevirtual 183, 3) := by decide +kernel
theorem dX8_pairOf_83 : decode cX8_pairOf 83 = .ok (.ifCond .eq 7, 3) := by decide +kernel
theorem dX8_pairOf_86 : decode cX8_pairOf 86 = .ok (.iconst 1, 1) := by decide +kernel
theorem dX8_pairOf_87 : decode cX8_pairOf 87 = .ok (.goto 4, 3) := by decide +kernel
theorem dX8_pairOf_90 : decode cX8_pairOf 90 = .ok (.iconst 0, 1) := by decide +kernel
theorem dX8_pairOf_91 : decode cX8_pairOf 91 = .ok (.ireturn, 1) := by decide +kernel
theorem dX8_pairOf_92 : decode cX8_pairOf 92 = .ok (.aload_n 0, 1) := by decide +kernel
theorem dX8_pairOf_93 : decode cX8_pairOf 93 = .ok (.getfield 66, 3) := by decide +kernel
theorem dX8_pairOf_96 : decode cX8_pairOf 96 = .ok (.iload_n 1, 1) := by decide +kernel
theorem dX8_pairOf_97 : decode cX8_pairOf 97 = .ok (.iaload, 1) := by decide +kernel
theorem dX8_pairOf_98 : decode cX8_pairOf 98 = .ok (.ireturn, 1) := by decide +kernel
theorem dX8_pairOf_99 : decode cX8_pairOf 99 = .ok (.iload_n 2, 1) := by decide +kernel
theorem dX8_pairOf_100 : decode cX8_pairOf 100 = .ok (.iconst 5, 1) := by decide +kernel
theorem dX8_pairOf_101 : decode cX8_pairOf 101 = .ok (.if_icmp .ne 20, 3) := by decide +kernel
theorem dX8_pairOf_104 : decode cX8_pairOf 104 = .ok (.aload_n 0, 1) := by decide +kernel
theorem dX8_pairOf_105 : decode cX8_pairOf 105 = .ok (.getfield 69, 3) := by decide +kernel
theorem dX8_pairOf_108 : decode cX8_pairOf 108 = .ok (.iload_n 1, 1) := by decide +kernel
theorem dX8_pairOf_109 : decode cX8_pairOf 109 = .ok (.baload, 1) := by decide +kernel
theorem dX8_pairOf_110 : decode cX8_pairOf 110 = .ok (.ifCond .eq 7, 3) := by decide +kernel
theorem dX8_pairOf_113 : decode cX8_pairOf 113 = .ok (.iconst 1, 1) := by decide +kernel
theorem dX8_pairOf_114 : decode cX8_pairOf 114 = .ok (.goto 9, 3) := by decide +kernel
theorem dX8_pairOf_117 : decode cX8_pairOf 117 = .ok (.iconst 0, 1) := by decide +kernel
theorem dX8_pairOf_118 : decode cX8_pairOf 118 = .ok (.goto 5, 3) := by decide +kernel
theorem dX8_pairOf_121 : decode cX8_pairOf 121 = .ok (.bipush (-9), 2) := by decide +kernel
theorem dX8_pairOf_123 : decode cX8_pairOf 123 = .ok (.ireturn, 1) := by decide +kernel
theorem dX8_debt_0 : decode cX8_debt 0 = .ok (.aload_n 0, 1) := by decide +kernel
theorem dX8_debt_1 : decode cX8_debt 1 = .ok (.getfield 75, 3) := by decide +kernel
theorem dX8_debt_4 : decode cX8_debt 4 = .ok (.bipush 100, 2) := by decide +kernel
theorem dX8_debt_6 : decode cX8_debt 6 = .ok (.iload_n 1, 1) := by decide +kernel
theorem dX8_debt_7 : decode cX8_debt 7 = .ok (.imul, 1) := by decide +kernel
theorem dX8_debt_8 : decode cX8_debt 8 = .ok (.bipush 10, 2) := by decide +kernel
theorem dX8_debt_10 : decode cX8_debt 10 = .ok (.iload_n 2, 1) := by decide +kernel
theorem dX8_debt_11 : decode cX8_debt 11 = .ok (.imul, 1) := by decide +kernel
theorem dX8_debt_12 : decode cX8_debt 12 = .ok (.iadd, 1) := by decide +kernel
theorem dX8_debt_13 : decode cX8_debt 13 = .ok (.iload_n 3, 1) := by decide +kernel
theorem dX8_debt_14 : decode cX8_debt 14 = .ok (.iadd, 1) := by decide +kernel
theorem dX8_debt_15 : decode cX8_debt 15 = .ok (.iaload, 1) := by decide +kernel
theorem dX8_debt_16 : decode cX8_debt 16 = .ok (.ireturn, 1) := by decide +kernel
theorem dX8_owe_0 : decode cX8_owe 0 = .ok (.aload_n 0, 1) := by decide +kernel
theorem dX8_owe_1 : decode cX8_owe 1 = .ok (.iload_n 1, 1) := by decide +kernel
theorem dX8_owe_2 : decode cX8_owe 2 = .ok (.invokevirtual 139, 3) := by decide +kernel
theorem dX8_owe_5 : decode cX8_owe 5 = .ok (.ifCond .eq 24, 3) := by decide +kernel
theorem dX8_owe_8 : decode cX8_owe 8 = .ok (.aload_n 0, 1) := by decide +kernel
theorem dX8_owe_9 : decode cX8_owe 9 = .ok (.iload_n 2, 1) := by decide +kernel
theorem dX8_owe_10 : decode cX8_owe 10 = .ok (.invokevirtual 139, 3) := by decide +kernel
theorem dX8_owe_13 : decode cX8_owe 13 = .ok (.ifCond .eq 16, 3) := by decide +kernel
theorem dX8_owe_16 : decode cX8_owe 16 = .ok (.iload_n 1, 1) := by decide +kernel
theorem dX8_owe_17 : decode cX8_owe 17 = .ok (.iload_n 2, 1) := by decide +kernel
theorem dX8_owe_18 : decode cX8_owe 18 = .ok (.if_icmp .eq 11, 3) := by decide +kernel
theorem dX8_owe_21 : decode cX8_owe 21 = .ok (.aload_n 0, 1) := by decide +kernel
theorem dX8_owe_22 : decode cX8_owe 22 = .ok (.iload_n 3, 1) := by decide +kernel
theorem dX8_owe_23 : decode cX8_owe 23 = .ok (.invokevirtual 143, 3) := by decide +kernel
theorem dX8_owe_26 : decode cX8_owe 26 = .ok (.ifCond .ne 9, 3) := by decide +kernel
theorem dX8_owe_29 : decode cX8_owe 29 = .ok (.aload_n 0, 1) := by decide +kernel
theorem dX8_owe_30 : decode cX8_owe 30 = .ok (.iconst (-1), 1) := by decide +kernel
theorem dX8_owe_31 : decode cX8_owe 31 = .ok (.invokevirtual 126, 3) := by decide +kernel
theorem dX8_owe_34 : decode cX8_owe 34 = .ok (.ireturn, 1) := by decide +kernel
theorem dX8_owe_35 : decode cX8_owe 35 = .ok (.iload 4, 2) := by decide +kernel
theorem dX8_owe_37 : decode cX8_owe 37 = .ok (.iconst 1, 1) := by decide +kernel
theorem dX8_owe_38 : decode cX8_owe 38 = .ok (.if_icmp .ge 10, 3) := by decide +kernel
theorem dX8_owe_41 : decode cX8_owe 41 = .ok (.aload_n 0, 1) := by decide +kernel
theorem dX8_owe_42 : decode cX8_owe 42 = .ok (.bipush (-4), 2) := by decide +kernel
theorem dX8_owe_44 : decode cX8_owe 44 = .ok (.invokevirtual 126, 3) := by decide +kernel
theorem dX8_owe_47 : decode cX8_owe 47 = .ok (.ireturn, 1) := by decide +kernel
theorem dX8_owe_48 : decode cX8_owe 48 = .ok (.iload 4, 2) := by decide +kernel
theorem dX8_owe_50 : decode cX8_owe 50 = .ok (.ldc 157, 2) := by decide +kernel
theorem dX8_owe_52 : decode cX8_owe 52 = .ok (.aload_n 0, 1) := by decide +kernel
theorem dX8_owe_53 : decode cX8_owe 53 = .ok (.iload_n 3, 1) := by decide +kernel
theorem dX8_owe_54 : decode cX8_owe 54 = .ok (.iload_n 1, 1) := by decide +kernel
theorem dX8_owe_55 : decode cX8_owe 55 = .ok (.iload_n 2, 1) := by decide +kernel
theorem dX8_owe_56 : decode cX8_owe 56 = .ok (.invokevirtual 196, 3) := by decide +kernel
theorem dX8_owe_59 : decode cX8_owe 59 = .ok (.isub, 1) := by decide +kernel
theorem dX8_owe_60 : decode cX8_owe 60 = .ok (.if_icmp .le 10, 3) := by decide +kernel
theorem dX8_owe_63 : decode cX8_owe 63 = .ok (.aload_n 0, 1) := by decide +kernel
theorem dX8_owe_64 : decode cX8_owe 64 = .ok (.bipush (-6), 2) := by decide +kernel
theorem dX8_owe_66 : decode cX8_owe 66 = .ok (.invokevirtual 126, 3) := by decide +kernel
theorem dX8_owe_69 : decode cX8_owe 69 = .ok (.ireturn, 1) := by decide +kernel
theorem dX8_owe_70 : decode cX8_owe 70 = .ok (.aload_n 0, 1) := by decide +kernel
theorem dX8_owe_71 : decode cX8_owe 71 = .ok (.getfield 75, 3) := by decide +kernel
theorem dX8_owe_74 : decode cX8_owe 74 = .ok (.bipush 100, 2) := by decide +kernel
theorem dX8_owe_76 : decode cX8_owe 76 = .ok (.iload_n 3, 1) := by decide +kernel
theorem dX8_owe_77 : decode cX8_owe 77 = .ok (.imul, 1) := by decide +kernel
theorem dX8_owe_78 : decode cX8_owe 78 = .ok (.bipush 10, 2) := by decide +kernel
theorem dX8_owe_80 : decode cX8_owe 80 = .ok (.iload_n 1, 1) := by decide +kernel
theorem dX8_owe_81 : decode cX8_owe 81 = .ok (.imul, 1) := by decide +kernel
theorem dX8_owe_82 : decode cX8_owe 82 = .ok (.iadd, 1) := by decide +kernel
theorem dX8_owe_83 : decode cX8_owe 83 = .ok (.iload_n 2, 1) := by decide +kernel
theorem dX8_owe_84 : decode cX8_owe 84 = .ok (.iadd, 1) := by decide +kernel
theorem dX8_owe_85 : decode cX8_owe 85 = .ok (.dup2, 1) := by decide +kernel
theorem dX8_owe_86 : decode cX8_owe 86 = .ok (.iaload, 1) := by decide +kernel
theorem dX8_owe_87 : decode cX8_owe 87 = .ok (.iload 4, 2) := by decide +kernel
theorem dX8_owe_89 : decode cX8_owe 89 = .ok (.iadd, 1) := by decide +kernel
theorem dX8_owe_90 : decode cX8_owe 90 = .ok (.iastore, 1) := by decide +kernel
theorem dX8_owe_91 : decode cX8_owe 91 = .ok (.aload_n 0, 1) := by decide +kernel
theorem dX8_owe_92 : decode cX8_owe 92 = .ok (.iload_n 3, 1) := by decide +kernel
theorem dX8_owe_93 : decode cX8_owe 93 = .ok (.iload_n 1, 1) := by decide +kernel
theorem dX8_owe_94 : decode cX8_owe 94 = .ok (.iload_n 2, 1) := by decide +kernel
theorem dX8_owe_95 : decode cX8_owe 95 = .ok (.invokevirtual 196, 3) := by decide +kernel
theorem dX8_owe_98 : decode cX8_owe 98 = .ok (.ireturn, 1) := by decide +kernel
theorem dX8_owes_0 : decode cX8_owes 0 = .ok (.aload_n 0, 1) := by decide +kernel
theorem dX8_owes_1 : decode cX8_owes 1 = .ok (.iload_n 1, 1) := by decide +kernel
theorem dX8_owes_2 : decode cX8_owes 2 = .ok (.invokevirtual 139, 3) := by decide +kernel
theorem dX8_owes_5 : decode cX8_owes 5 = .ok (.ifCond .eq 29, 3) := by decide +kernel
theorem dX8_owes_8 : decode cX8_owes 8 = .ok (.aload_n 0, 1) := by decide +kernel
theorem dX8_owes_9 : decode cX8_owes 9 = .ok (.iload_n 2, 1) := by decide +kernel
theorem dX8_owes_10 : decode cX8_owes 10 = .ok (.invokevirtual 139, 3) := by decide +kernel
theorem dX8_owes_13 : decode cX8_owes 13 = .ok (.ifCond .eq 21, 3) := by decide +kernel
theorem dX8_owes_16 : decode cX8_owes 16 = .ok (.aload_n 0, 1) := by decide +kernel
theorem dX8_owes_17 : decode cX8_owes 17 = .ok (.iload_n 3, 1) := by decide +kernel
theorem dX8_owes_18 : decode cX8_owes 18 = .ok (.invokevirtual 143, 3) := by decide +kernel
theorem dX8_owes_21 : decode cX8_owes 21 = .ok (.ifCond .eq 13, 3) := by decide +kernel
theorem dX8_owes_24 : decode cX8_owes 24 = .ok (.aload_n 0, 1) := by decide +kernel
theorem dX8_owes_25 : decode cX8_owes 25 = .ok (.iload_n 3, 1) := by decide +kernel
theorem dX8_owes_26 : decode cX8_owes 26 = .ok (.iload_n 1, 1) := by decide +kernel
theorem dX8_owes_27 : decode cX8_owes 27 = .ok (.iload_n 2, 1) := by decide +kernel
theorem dX8_owes_28 : decode cX8_owes 28 = .ok (.invokevirtual 196, 3) := by decide +kernel
theorem dX8_owes_31 : decode cX8_owes 31 = .ok (.goto 8, 3) := by decide +kernel
theorem dX8_owes_34 : decode cX8_owes 34 = .ok (.aload_n 0, 1) := by decide +kernel
theorem dX8_owes_35 : decode cX8_owes 35 = .ok (.iconst (-1), 1) := by decide +kernel
theorem dX8_owes_36 : decode cX8_owes 36 = .ok (.invokevirtual 126, 3) := by decide +kernel
theorem dX8_owes_39 : decode cX8_owes 39 = .ok (.ireturn, 1) := by decide +kernel
theorem dX8_stepsTo_0 : decode cX8_stepsTo 0 = .ok (.iconst 0, 1) := by decide +kernel
theorem dX8_stepsTo_1 : decode cX8_stepsTo 1 = .ok (.istore_n 3, 1) := by decide +kernel
theorem dX8_stepsTo_2 : decode cX8_stepsTo 2 = .ok (.iload_n 3, 1) := by decide +kernel
theorem dX8_stepsTo_3 : decode cX8_stepsTo 3 = .ok (.bipush 10, 2) := by decide +kernel
theorem dX8_stepsTo_5 : decode cX8_stepsTo 5 = .ok (.if_icmp .ge 17, 3) := by decide +kernel
theorem dX8_stepsTo_8 : decode cX8_stepsTo 8 = .ok (.aload_n 0, 1) := by decide +kernel
theorem dX8_stepsTo_9 : decode cX8_stepsTo 9 = .ok (.getfield 102, 3) := by decide +kernel
theorem dX8_stepsTo_12 : decode cX8_stepsTo 12 = .ok (.iload_n 3, 1) := by decide +kernel
theorem dX8_stepsTo_13 : decode cX8_stepsTo 13 = .ok (.bipush 99, 2) := by decide +kernel
theorem dX8_stepsTo_15 : decode cX8_stepsTo 15 = .ok (.iastore, 1) := by decide +kernel
theorem dX8_stepsTo_16 : decode cX8_stepsTo 16 = .ok (.iinc 3 1, 3) := by decide +kernel
theorem dX8_stepsTo_19 : decode cX8_stepsTo 19 = .ok (.goto (-17), 3) := by decide +kernel
theorem dX8_stepsTo_22 : decode cX8_stepsTo 22 = .ok (.aload_n 0, 1) := by decide +kernel
theorem dX8_stepsTo_23 : decode cX8_stepsTo 23 = .ok (.getfield 102, 3) := by decide +kernel
theorem dX8_stepsTo_26 : decode cX8_stepsTo 26 = .ok (.iload_n 2, 1) := by decide +kernel
theorem dX8_stepsTo_27 : decode cX8_stepsTo 27 = .ok (.iconst 0, 1) := by decide +kernel
theorem dX8_stepsTo_28 : decode cX8_stepsTo 28 = .ok (.iastore, 1) := by decide +kernel
theorem dX8_stepsTo_29 : decode cX8_stepsTo 29 = .ok (.iconst 0, 1) := by decide +kernel
theorem dX8_stepsTo_30 : decode cX8_stepsTo 30 = .ok (.istore_n 3, 1) := by decide +kernel
theorem dX8_stepsTo_31 : decode cX8_stepsTo 31 = .ok (.iload_n 3, 1) := by decide +kernel
theorem dX8_stepsTo_32 : decode cX8_stepsTo 32 = .ok (.bipush 10, 2) := by decide +kernel
theorem dX8_stepsTo_34 : decode cX8_stepsTo 34 = .ok (.if_icmp .ge 98, 3) := by decide +kernel
theorem dX8_stepsTo_37 : decode cX8_stepsTo 37 = .ok (.iload_n 2, 1) := by decide +kernel
theorem dX8_stepsTo_38 : decode cX8_stepsTo 38 = .ok (.istore 4, 2) := by decide +kernel
theorem dX8_stepsTo_40 : decode cX8_stepsTo 40 = .ok (.iload 4, 2) := by decide +kernel
theorem dX8_stepsTo_42 : decode cX8_stepsTo 42 = .ok (.aload_n 0, 1) := by decide +kernel
theorem dX8_stepsTo_43 : decode cX8_stepsTo 43 = .ok (.getfield 115, 3) := by decide +kernel
theorem dX8_stepsTo_46 : decode cX8_stepsTo 46 = .ok (.if_icmp .ge 80, 3) := by decide +kernel
theorem dX8_stepsTo_49 : decode cX8_stepsTo 49 = .ok (.iload_n 2, 1) := by decide +kernel
theorem dX8_stepsTo_50 : decode cX8_stepsTo 50 = .ok (.istore 5, 2) := by decide +kernel
theorem dX8_stepsTo_52 : decode cX8_stepsTo 52 = .ok (.iload 5, 2) := by decide +kernel
theorem dX8_stepsTo_54 : decode cX8_stepsTo 54 = .ok (.aload_n 0, 1) := by decide +kernel
theorem dX8_stepsTo_55 : decode cX8_stepsTo 55 = .ok (.getfield 115, 3) := by decide +kernel
theorem dX8_stepsTo_58 : decode cX8_stepsTo 58 = .ok (.if_icmp .ge 62, 3) := by decide +kernel
theorem dX8_stepsTo_61 : decode cX8_stepsTo 61 = .ok (.aload_n 0, 1) := by decide +kernel
theorem dX8_stepsTo_62 : decode cX8_stepsTo 62 = .ok (.iload_n 1, 1) := by decide +kernel
theorem dX8_stepsTo_63 : decode cX8_stepsTo 63 = .ok (.iload 4, 2) := by decide +kernel
theorem dX8_stepsTo_65 : decode cX8_stepsTo 65 = .ok (.iload 5, 2) := by decide +kernel
theorem dX8_stepsTo_67 : decode cX8_stepsTo 67 = .ok (.invokevirtual 196, 3) := by decide +kernel
theorem dX8_stepsTo_70 : decode cX8_stepsTo 70 = .ok (.ifCond .le 44, 3) := by decide +kernel
theorem dX8_stepsTo_73 : decode cX8_stepsTo 73 = .ok (.iload 4, 2) := by decide +kernel
theorem dX8_stepsTo_75 : decode cX8_stepsTo 75 = .ok (.iload_n 2, 1) := by decide +kernel
theorem dX8_stepsTo_76 : decode cX8_stepsTo 76 = .ok (.if_icmp .eq 38, 3) := by decide +kernel
theorem dX8_stepsTo_79 : decode cX8_stepsTo 79 = .ok (.aload_n 0, 1) := by decide +kernel
theorem dX8_stepsTo_80 : decode cX8_stepsTo 80 = .ok (.getfield 102, 3) := by decide +kernel
theorem dX8_stepsTo_83 : decode cX8_stepsTo 83 = .ok (.iload 5, 2) := by decide +kernel
theorem dX8_stepsTo_85 : decode cX8_stepsTo 85 = .ok (.iaload, 1) := by decide +kernel
theorem dX8_stepsTo_86 : decode cX8_stepsTo 86 = .ok (.iconst 1, 1) := by decide +kernel
theorem dX8_stepsTo_87 : decode cX8_stepsTo 87 = .ok (.iadd, 1) := by decide +kernel
theorem dX8_stepsTo_88 : decode cX8_stepsTo 88 = .ok (.aload_n 0, 1) := by decide +kernel
theorem dX8_stepsTo_89 : decode cX8_stepsTo 89 = .ok (.getfield 102, 3) := by decide +kernel
theorem dX8_stepsTo_92 : decode cX8_stepsTo 92 = .ok (.iload 4, 2) := by decide +kernel
theorem dX8_stepsTo_94 : decode cX8_stepsTo 94 = .ok (.iaload, 1) := by decide +kernel
theorem dX8_stepsTo_95 : decode cX8_stepsTo 95 = .ok (.if_icmp .ge 19, 3) := by decide +kernel
theorem dX8_stepsTo_98 : decode cX8_stepsTo 98 = .ok (.aload_n 0, 1) := by decide +kernel
theorem dX8_stepsTo_99 : decode cX8_stepsTo 99 = .ok (.getfield 102, 3) := by decide +kernel
theorem dX8_stepsTo_102 : decode cX8_stepsTo 102 = .ok (.iload 4, 2) := by decide +kernel
theorem dX8_stepsTo_104 : decode cX8_stepsTo 104 = .ok (.aload_n 0, 1) := by decide +kernel
theorem dX8_stepsTo_105 : decode cX8_stepsTo 105 = .ok (.getfield 102, 3) := by decide +kernel
theorem dX8_stepsTo_108 : decode cX8_stepsTo 108 = .ok (.iload 5, 2) := by decide +kernel
theorem dX8_stepsTo_110 : decode cX8_stepsTo 110 = .ok (.iaload, 1) := by decide +kernel
theorem dX8_stepsTo_111 : decode cX8_stepsTo 111 = .ok (.iconst 1, 1) := by decide +kernel
theorem dX8_stepsTo_112 : decode cX8_stepsTo 112 = .ok (.iadd, 1) := by decide +kernel
theorem dX8_stepsTo_113 : decode cX8_stepsTo 113 = .ok (.iastore, 1) := by decide +kernel
theorem dX8_stepsTo_114 : decode cX8_stepsTo 114 = .ok (.iinc 5 1, 3) := by decide +kernel
theorem dX8_stepsTo_117 : decode cX8_stepsTo 117 = .ok (.goto (-65), 3) := by decide +kernel
theorem dX8_stepsTo_120 : decode cX8_stepsTo 120 = .ok (.iinc 4 1, 3) := by decide +kernel
theorem dX8_stepsTo_123 : decode cX8_stepsTo 123 = .ok (.goto (-83), 3) := by decide +kernel
theorem dX8_stepsTo_126 : decode cX8_stepsTo 126 = .ok (.iinc 3 1, 3) := by decide +kernel
theorem dX8_stepsTo_129 : decode cX8_stepsTo 129 = .ok (.goto (-98), 3) := by decide +kernel
theorem dX8_stepsTo_132 : decode cX8_stepsTo 132 = .ok (.return_, 1) := by decide +kernel
theorem dX8_findRing_0 : decode cX8_findRing 0 = .ok (.aload_n 0, 1) := by decide +kernel
theorem dX8_findRing_1 : decode cX8_findRing 1 = .ok (.iconst 0, 1) := by decide +kernel
theorem dX8_findRing_2 : decode cX8_findRing 2 = .ok (.putfield 199, 3) := by decide +kernel
theorem dX8_findRing_5 : decode cX8_findRing 5 = .ok (.bipush (-9), 2) := by decide +kernel
theorem dX8_findRing_7 : decode cX8_findRing 7 = .ok (.istore_n 2, 1) := by decide +kernel
theorem dX8_findRing_8 : decode cX8_findRing 8 = .ok (.aload_n 0, 1) := by decide +kernel
theorem dX8_findRing_9 : decode cX8_findRing 9 = .ok (.getfield 115, 3) := by decide +kernel
theorem dX8_findRing_12 : decode cX8_findRing 12 = .ok (.iconst 1, 1) := by decide +kernel
theorem dX8_findRing_13 : decode cX8_findRing 13 = .ok (.isub, 1) := by decide +kernel
theorem dX8_findRing_14 : decode cX8_findRing 14 = .ok (.istore_n 3, 1) := by decide +kernel
theorem dX8_findRing_15 : decode cX8_findRing 15 = .ok (.iload_n 3, 1) := by decide +kernel
theorem dX8_findRing_16 : decode cX8_findRing 16 = .ok (.ifCond .lt 96, 3) := by decide +kernel
theorem dX8_findRing_19 : decode cX8_findRing 19 = .ok (.aload_n 0, 1) := by decide +kernel
theorem dX8_findRing_20 : decode cX8_findRing 20 = .ok (.iload_n 1, 1) := by decide +kernel
theorem dX8_findRing_21 : decode cX8_findRing 21 = .ok (.iload_n 3, 1) := by decide +kernel
theorem dX8_findRing_22 : decode cX8_findRing 22 = .ok (.invokevirtual 202, 3) := by decide +kernel
theorem dX8_findRing_25 : decode cX8_findRing 25 = .ok (.iload_n 3, 1) := by decide +kernel
theorem dX8_findRing_26 : decode cX8_findRing 26 = .ok (.iconst 1, 1) := by decide +kernel
theorem dX8_findRing_27 : decode cX8_findRing 27 = .ok (.iadd, 1) := by decide +kernel
theorem dX8_findRing_28 : decode cX8_findRing 28 = .ok (.istore 4, 2) := by decide +kernel
theorem dX8_findRing_30 : decode cX8_findRing 30 = .ok (.iload 4, 2) := by decide +kernel
theorem dX8_findRing_32 : decode cX8_findRing 32 = .ok (.aload_n 0, 1) := by decide +kernel
theorem dX8_findRing_33 : decode cX8_findRing 33 = .ok (.getfield 115, 3) := by decide +kernel
theorem dX8_findRing_36 : decode cX8_findRing 36 = .ok (.if_icmp .ge 70, 3) := by decide +kernel
theorem dX8_findRing_39 : decode cX8_findRing 39 = .ok (.aload_n 0, 1) := by decide +kernel
theorem dX8_findRing_40 : decode cX8_findRing 40 = .ok (.iload_n 1, 1) := by decide +kernel
theorem dX8_findRing_41 : decode cX8_findRing 41 = .ok (.iload_n 3, 1) := by decide +kernel
theorem dX8_findRing_42 : decode cX8_findRing 42 = .ok (.iload 4, 2) := by decide +kernel
theorem dX8_findRing_44 : decode cX8_findRing 44 = .ok (.invokevirtual 196, 3) := by decide +kernel
theorem dX8_findRing_47 : decode cX8_findRing 47 = .ok (.ifCond .le 53, 3) := by decide +kernel
theorem dX8_findRing_50 : decode cX8_findRing 50 = .ok (.aload_n 0, 1) := by decide +kernel
theorem dX8_findRing_51 : decode cX8_findRing 51 = .ok (.getfield 102, 3) := by decide +kernel
theorem dX8_findRing_54 : decode cX8_findRing 54 = .ok (.iload 4, 2) := by decide +kernel
theorem dX8_findRing_56 : decode cX8_findRing 56 = .ok (.iaload, 1) := by decide +kernel
theorem dX8_findRing_57 : decode cX8_findRing 57 = .ok (.bipush 99, 2) := by decide +kernel
theorem dX8_findRing_59 : decode cX8_findRing 59 = .ok (.if_icmp .ge 41, 3) := by decide +kernel
theorem dX8_findRing_62 : decode cX8_findRing 62 = .ok (.aload_n 0, 1) := by decide +kernel
theorem dX8_findRing_63 : decode cX8_findRing 63 = .ok (.getfield 199, 3) := by decide +kernel
theorem dX8_findRing_66 : decode cX8_findRing 66 = .ok (.ifCond .eq 19, 3) := by decide +kernel
theorem dX8_findRing_69 : decode cX8_findRing 69 = .ok (.aload_n 0, 1) := by decide +kernel
theorem dX8_findRing_70 : decode cX8_findRing 70 = .ok (.getfield 102, 3) := by decide +kernel
theorem dX8_findRing_73 : decode cX8_findRing 73 = .ok (.iload 4, 2) := by decide +kernel
theorem dX8_findRing_75 : decode cX8_findRing 75 = .ok (.iaload, 1) := by decide +kernel
theorem dX8_findRing_76 : decode cX8_findRing 76 = .ok (.iconst 1, 1) := by decide +kernel
theorem dX8_findRing_77 : decode cX8_findRing 77 = .ok (.iadd, 1) := by decide +kernel
theorem dX8_findRing_78 : decode cX8_findRing 78 = .ok (.aload_n 0, 1) := by decide +kernel
theorem dX8_findRing_79 : decode cX8_findRing 79 = .ok (.getfield 199, 3) := by decide +kernel
theorem dX8_findRing_82 : decode cX8_findRing 82 = .ok (.if_icmp .gt 18, 3) := by decide +kernel
theorem dX8_findRing_85 : decode cX8_findRing 85 = .ok (.aload_n 0, 1) := by decide +kernel
theorem dX8_findRing_86 : decode cX8_findRing 86 = .ok (.aload_n 0, 1) := by decide +kernel
theorem dX8_findRing_87 : decode cX8_findRing 87 = .ok (.getfield 102, 3) := by decide +kernel
theorem dX8_findRing_90 : decode cX8_findRing 90 = .ok (.iload 4, 2) := by decide +kernel
theorem dX8_findRing_92 : decode cX8_findRing 92 = .ok (.iaload, 1) := by decide +kernel
theorem dX8_findRing_93 : decode cX8_findRing 93 = .ok (.iconst 1, 1) := by decide +kernel
theorem dX8_findRing_94 : decode cX8_findRing 94 = .ok (.iadd, 1) := by decide +kernel
theorem dX8_findRing_95 : decode cX8_findRing 95 = .ok (.putfield 199, 3) := by decide +kernel
theorem dX8_findRing_98 : decode cX8_findRing 98 = .ok (.iload_n 3, 1) := by decide +kernel
theorem dX8_findRing_99 : decode cX8_findRing 99 = .ok (.istore_n 2, 1) := by decide +kernel
theorem dX8_findRing_100 : decode cX8_findRing 100 = .ok (.iinc 4 1, 3) := by decide +kernel
theorem dX8_findRing_103 : decode cX8_findRing 103 = .ok (.goto (-73), 3) := by decide +kernel
theorem dX8_findRing_106 : decode cX8_findRing 106 = .ok (.iinc 3 (-1), 3) := by decide +kernel
theorem dX8_findRing_109 : decode cX8_findRing 109 = .ok (.goto (-94), 3) := by decide +kernel
theorem dX8_findRing_112 : decode cX8_findRing 112 = .ok (.aload_n 0, 1) := by decide +kernel
theorem dX8_findRing_113 : decode cX8_findRing 113 = .ok (.getfield 199, 3) := by decide +kernel
theorem dX8_findRing_116 : decode cX8_findRing 116 = .ok (.ifCond .ne 4, 3) := by decide +kernel
theorem dX8_findRing_119 : decode cX8_findRing 119 = .ok (.return_, 1) := by decide +kernel
theorem dX8_findRing_120 : decode cX8_findRing 120 = .ok (.aload_n 0, 1) := by decide +kernel
theorem dX8_findRing_121 : decode cX8_findRing 121 = .ok (.iload_n 1, 1) := by decide +kernel
theorem dX8_findRing_122 : decode cX8_findRing 122 = .ok (.iload_n 2, 1) := by decide +kernel
theorem dX8_findRing_123 : decode cX8_findRing 123 = .ok (.invokevirtual 202, 3) := by decide +kernel
theorem dX8_findRing_126 : decode cX8_findRing 126 = .ok (.aload_n 0, 1) := by decide +kernel
theorem dX8_findRing_127 : decode cX8_findRing 127 = .ok (.getfield 99, 3) := by decide +kernel
theorem dX8_findRing_130 : decode cX8_findRing 130 = .ok (.iconst 0, 1) := by decide +kernel
theorem dX8_findRing_131 : decode cX8_findRing 131 = .ok (.iload_n 2, 1) := by decide +kernel
theorem dX8_findRing_132 : decode cX8_findRing 132 = .ok (.iastore, 1) := by decide +kernel
theorem dX8_findRing_133 : decode cX8_findRing 133 = .ok (.iconst 1, 1) := by decide +kernel
theorem dX8_findRing_134 : decode cX8_findRing 134 = .ok (.istore_n 3, 1) := by decide +kernel
theorem dX8_findRing_135 : decode cX8_findRing 135 = .ok (.iload_n 3, 1) := by decide +kernel
theorem dX8_findRing_136 : decode cX8_findRing 136 = .ok (.aload_n 0, 1) := by decide +kernel
theorem dX8_findRing_137 : decode cX8_findRing 137 = .ok (.getfield 199, 3) := by decide +kernel
theorem dX8_findRing_140 : decode cX8_findRing 140 = .ok (.if_icmp .ge 60, 3) := by decide +kernel
theorem dX8_findRing_143 : decode cX8_findRing 143 = .ok (.iload_n 2, 1) := by decide +kernel
theorem dX8_findRing_144 : decode cX8_findRing 144 = .ok (.istore 4, 2) := by decide +kernel
theorem dX8_findRing_146 : decode cX8_findRing 146 = .ok (.aload_n 0, 1) := by decide +kernel
theorem dX8_findRing_147 : decode cX8_findRing 147 = .ok (.iload_n 1, 1) := by decide +kernel
theorem dX8_findRing_148 : decode cX8_findRing 148 = .ok (.aload_n 0, 1) := by decide +kernel
theorem dX8_findRing_149 : decode cX8_findRing 149 = .ok (.getfield 99, 3) := by decide +kernel
theorem dX8_findRing_152 : decode cX8_findRing 152 = .ok (.iload_n 3, 1) := by decide +kernel
theorem dX8_findRing_153 : decode cX8_findRing 153 = .ok (.iconst 1, 1) := by decide +kernel
theorem dX8_findRing_154 : decode cX8_findRing 154 = .ok (.isub, 1) := by decide +kernel
theorem dX8_findRing_155 : decode cX8_findRing 155 = .ok (.iaload, 1) := by decide +kernel
theorem dX8_findRing_156 : decode cX8_findRing 156 = .ok (.iload 4, 2) := by decide +kernel
theorem dX8_findRing_158 : decode cX8_findRing 158 = .ok (.invokevirtual 196, 3) := by decide +kernel
theorem dX8_findRing_161 : decode cX8_findRing 161 = .ok (.ifCond .eq 19, 3) := by decide +kernel
theorem dX8_findRing_164 : decode cX8_findRing 164 = .ok (.aload_n 0, 1) := by decide +kernel
theorem dX8_findRing_165 : decode cX8_findRing 165 = .ok (.getfield 102, 3) := by decide +kernel
theorem dX8_findRing_168 : decode cX8_findRing 168 = .ok (.iload 4, 2) := by decide +kernel
theorem dX8_findRing_170 : decode cX8_findRing 170 = .ok (.iaload, 1) := by decide +kernel
theorem dX8_findRing_171 : decode cX8_findRing 171 = .ok (.aload_n 0, 1) := by decide +kernel
theorem dX8_findRing_172 : decode cX8_findRing 172 = .ok (.getfield 199, 3) := by decide +kernel
theorem dX8_findRing_175 : decode cX8_findRing 175 = .ok (.iload_n 3, 1) := by decide +kernel
theorem dX8_findRing_176 : decode cX8_findRing 176 = .ok (.isub, 1) := by decide +kernel
theorem dX8_findRing_177 : decode cX8_findRing 177 = .ok (.if_icmp .eq 9, 3) := by decide +kernel
theorem dX8_findRing_180 : decode cX8_findRing 180 = .ok (.iinc 4 1, 3) := by decide +kernel
theorem dX8_findRing_183 : decode cX8_findRing 183 = .ok (.goto (-37), 3) := by decide +kernel
theorem dX8_findRing_186 : decode cX8_findRing 186 = .ok (.aload_n 0, 1) := by decide +kernel
theorem dX8_findRing_187 : decode cX8_findRing 187 = .ok (.getfield 99, 3) := by decide +kernel
theorem dX8_findRing_190 : decode cX8_findRing 190 = .ok (.iload_n 3, 1) := by decide +kernel
theorem dX8_findRing_191 : decode cX8_findRing 191 = .ok (.iload 4, 2) := by decide +kernel
theorem dX8_findRing_193 : decode cX8_findRing 193 = .ok (.iastore, 1) := by decide +kernel
theorem dX8_findRing_194 : decode cX8_findRing 194 = .ok (.iinc 3 1, 3) := by decide +kernel
theorem dX8_findRing_197 : decode cX8_findRing 197 = .ok (.goto (-62), 3) := by decide +kernel
theorem dX8_findRing_200 : decode cX8_findRing 200 = .ok (.return_, 1) := by decide +kernel
theorem dX8_ring_0 : decode cX8_ring 0 = .ok (.aload_n 0, 1) := by decide +kernel
theorem dX8_ring_1 : decode cX8_ring 1 = .ok (.iload_n 1, 1) := by decide +kernel
theorem dX8_ring_2 : decode cX8_ring 2 = .ok (.invokevirtual 143, 3) := by decide +kernel
theorem dX8_ring_5 : decode cX8_ring 5 = .ok (.ifCond .ne 9, 3) := by decide +kernel
theorem dX8_ring_8 : decode cX8_ring 8 = .ok (.aload_n 0, 1) := by decide +kernel
theorem dX8_ring_9 : decode cX8_ring 9 = .ok (.iconst (-1), 1) := by decide +kernel
theorem dX8_ring_10 : decode cX8_ring 10 = .ok (.invokevirtual 126, 3) := by decide +kernel
theorem dX8_ring_13 : decode cX8_ring 13 = .ok (.ireturn, 1) := by decide +kernel
theorem dX8_ring_14 : decode cX8_ring 14 = .ok (.aload_n 0, 1) := by decide +kernel
theorem dX8_ring_15 : decode cX8_ring 15 = .ok (.iload_n 1, 1) := by decide +kernel
theorem dX8_ring_16 : decode cX8_ring 16 = .ok (.invokevirtual 205, 3) := by decide +kernel
theorem dX8_ring_19 : decode cX8_ring 19 = .ok (.iload_n 2, 1) := by decide +kernel
theorem dX8_ring_20 : decode cX8_ring 20 = .ok (.iconst 0, 1) := by decide +kernel
theorem dX8_ring_21 : decode cX8_ring 21 = .ok (.aload_n 0, 1) := by decide +kernel
theorem dX8_ring_22 : decode cX8_ring 22 = .ok (.getfield 199, 3) := by decide +kernel
theorem dX8_ring_25 : decode cX8_ring 25 = .ok (.iconst 1, 1) := by decide +kernel
theorem dX8_ring_26 : decode cX8_ring 26 = .ok (.isub, 1) := by decide +kernel
theorem dX8_ring_27 : decode cX8_ring 27 = .ok (.invokestatic 119, 3) := by decide +kernel
theorem dX8_ring_30 : decode cX8_ring 30 = .ok (.ifCond .eq 12, 3) := by decide +kernel
theorem dX8_ring_33 : decode cX8_ring 33 = .ok (.aload_n 0, 1) := by decide +kernel
theorem dX8_ring_34 : decode cX8_ring 34 = .ok (.getfield 99, 3) := by decide +kernel
theorem dX8_ring_37 : decode cX8_ring 37 = .ok (.iload_n 2, 1) := by decide +kernel
theorem dX8_ring_38 : decode cX8_ring 38 = .ok (.iaload, 1) := by decide +kernel
theorem dX8_ring_39 : decode cX8_ring 39 = .ok (.goto 5, 3) := by decide +kernel
theorem dX8_ring_42 : decode cX8_ring 42 = .ok (.bipush (-9), 2) := by decide +kernel
theorem dX8_ring_44 : decode cX8_ring 44 = .ok (.ireturn, 1) := by decide +kernel
theorem dX8_off_0 : decode cX8_off 0 = .ok (.aload_n 0, 1) := by decide +kernel
theorem dX8_off_1 : decode cX8_off 1 = .ok (.iload_n 1, 1) := by decide +kernel
theorem dX8_off_2 : decode cX8_off 2 = .ok (.invokevirtual 143, 3) := by decide +kernel
theorem dX8_off_5 : decode cX8_off 5 = .ok (.ifCond .ne 9, 3) := by decide +kernel
theorem dX8_off_8 : decode cX8_off 8 = .ok (.aload_n 0, 1) := by decide +kernel
theorem dX8_off_9 : decode cX8_off 9 = .ok (.iconst (-1), 1) := by decide +kernel
theorem dX8_off_10 : decode cX8_off 10 = .ok (.invokevirtual 126, 3) := by decide +kernel
theorem dX8_off_13 : decode cX8_off 13 = .ok (.ireturn, 1) := by decide +kernel
theorem dX8_off_14 : decode cX8_off 14 = .ok (.iconst 0, 1) := by decide +kernel
theorem dX8_off_15 : decode cX8_off 15 = .ok (.istore_n 2, 1) := by decide +kernel
theorem dX8_off_16 : decode cX8_off 16 = .ok (.aload_n 0, 1) := by decide +kernel
theorem dX8_off_17 : decode cX8_off 17 = .ok (.iload_n 1, 1) := by decide +kernel
theorem dX8_off_18 : decode cX8_off 18 = .ok (.invokevirtual 205, 3) := by decide +kernel
theorem dX8_off_21 : decode cX8_off 21 = .ok (.aload_n 0, 1) := by decide +kernel
theorem dX8_off_22 : decode cX8_off 22 = .ok (.getfield 199, 3) := by decide +kernel
theorem dX8_off_25 : decode cX8_off 25 = .ok (.ifCond .le 133, 3) := by decide +kernel
theorem dX8_off_28 : decode cX8_off 28 = .ok (.ldc 157, 2) := by decide +kernel
theorem dX8_off_30 : decode cX8_off 30 = .ok (.istore_n 3, 1) := by decide +kernel
theorem dX8_off_31 : decode cX8_off 31 = .ok (.iconst 0, 1) := by decide +kernel
theorem dX8_off_32 : decode cX8_off 32 = .ok (.istore 4, 2) := by decide +kernel
theorem dX8_off_34 : decode cX8_off 34 = .ok (.iload 4, 2) := by decide +kernel
theorem dX8_off_36 : decode cX8_off 36 = .ok (.aload_n 0, 1) := by decide +kernel
theorem dX8_off_37 : decode cX8_off 37 = .ok (.getfield 199, 3) := by decide +kernel
theorem dX8_off_40 : decode cX8_off 40 = .ok (.if_icmp .ge 50, 3) := by decide +kernel
theorem dX8_off_43 : decode cX8_off 43 = .ok (.aload_n 0, 1) := by decide +kernel
theorem dX8_off_44 : decode cX8_off 44 = .ok (.iload_n 1, 1) := by decide +kernel
theorem dX8_off_45 : decode cX8_off 45 = .ok (.aload_n 0, 1) := by decide +kernel
theorem dX8_off_46 : decode cX8_off 46 = .ok (.getfield 99, 3) := by decide +kernel
theorem dX8_off_49 : decode cX8_off 49 = .ok (.iload 4, 2) := by decide +kernel
theorem dX8_off_51 : decode cX8_off 51 = .ok (.iaload, 1) := by decide +kernel
theorem dX8_off_52 : decode cX8_off 52 = .ok (.aload_n 0, 1) := by decide +kernel
theorem dX8_off_53 : decode cX8_off 53 = .ok (.getfield 99, 3) := by decide +kernel
theorem dX8_off_56 : decode cX8_off 56 = .ok (.iload 4, 2) := by decide +kernel
theorem dX8_off_58 : decode cX8_off 58 = .ok (.iconst 1, 1) := by decide +kernel
theorem dX8_off_59 : decode cX8_off 59 = .ok (.iadd, 1) := by decide +kernel
theorem dX8_off_60 : decode cX8_off 60 = .ok (.aload_n 0, 1) := by decide +kernel
theorem dX8_off_61 : decode cX8_off 61 = .ok (.getfield 199, 3) := by decide +kernel
theorem dX8_off_64 : decode cX8_off 64 = .ok (.irem, 1) := by decide +kernel
theorem dX8_off_65 : decode cX8_off 65 = .ok (.iaload, 1) := by decide +kernel
theorem dX8_off_66 : decode cX8_off 66 = .ok (.invokevirtual 196, 3) := by decide +kernel
theorem dX8_off_69 : decode cX8_off 69 = .ok (.istore 5, 2) := by decide +kernel
theorem dX8_off_71 : decode cX8_off 71 = .ok (.iload 5, 2) := by decide +kernel
theorem dX8_off_73 : decode cX8_off 73 = .ok (.iload_n 3, 1) := by decide +kernel
theorem dX8_off_74 : decode cX8_off 74 = .ok (.if_icmp .ge 8, 3) := by decide +kernel
theorem dX8_off_77 : decode cX8_off 77 = .ok (.iload 5, 2) := by decide +kernel
theorem dX8_off_79 : decode cX8_off 79 = .ok (.goto 4, 3) := by decide +kernel
theorem dX8_off_82 : decode cX8_off 82 = .ok (.iload_n 3, 1) := by decide +kernel
theorem dX8_off_83 : decode cX8_off 83 = .ok (.istore_n 3, 1) := by decide +kernel
theorem dX8_off_84 : decode cX8_off 84 = .ok (.iinc 4 1, 3) := by decide +kernel
theorem dX8_off_87 : decode cX8_off 87 = .ok (.goto (-53), 3) := by decide +kernel
theorem dX8_off_90 : decode cX8_off 90 = .ok (.iconst 0, 1) := by decide +kernel
theorem dX8_off_91 : decode cX8_off 91 = .ok (.istore 4, 2) := by decide +kernel
theorem dX8_off_93 : decode cX8_off 93 = .ok (.iload 4, 2) := by decide +kernel
theorem dX8_off_95 : decode cX8_off 95 = .ok (.aload_n 0, 1) := by decide +kernel
theorem dX8_off_96 : decode cX8_off 96 = .ok (.getfield 199, 3) := by decide +kernel
theorem dX8_off_99 : decode cX8_off 99 = .ok (.if_icmp .ge 48, 3) := by decide +kernel
theorem dX8_off_102 : decode cX8_off 102 = .ok (.aload_n 0, 1) := by decide +kernel
theorem dX8_off_103 : decode cX8_off 103 = .ok (.getfield 75, 3) := by decide +kernel
theorem dX8_off_106 : decode cX8_off 106 = .ok (.bipush 100, 2) := by decide +kernel
theorem dX8_off_108 : decode cX8_off 108 = .ok (.iload_n 1, 1) := by decide +kernel
theorem dX8_off_109 : decode cX8_off 109 = .ok (.imul, 1) := by decide +kernel
theorem dX8_off_110 : decode cX8_off 110 = .ok (.bipush 10, 2) := by decide +kernel
theorem dX8_off_112 : decode cX8_off 112 = .ok (.aload_n 0, 1) := by decide +kernel
theorem dX8_off_113 : decode cX8_off 113 = .ok (.getfield 99, 3) := by decide +kernel
theorem dX8_off_116 : decode cX8_off 116 = .ok (.iload 4, 2) := by decide +kernel
theorem dX8_off_118 : decode cX8_off 118 = .ok (.iaload, 1) := by decide +kernel
theorem dX8_off_119 : decode cX8_off 119 = .ok (.imul, 1) := by decide +kernel
theorem dX8_off_120 : decode cX8_off 120 = .ok (.iadd, 1) := by decide +kernel
theorem dX8_off_121 : decode cX8_off 121 = .ok (.aload_n 0, 1) := by decide +kernel
theorem dX8_off_122 : decode cX8_off 122 = .ok (.getfield 99, 3) := by decide +kernel
theorem dX8_off_125 : decode cX8_off 125 = .ok (.iload 4, 2) := by decide +kernel
theorem dX8_off_127 : decode cX8_off 127 = .ok (.iconst 1, 1) := by decide +kernel
theorem dX8_off_128 : decode cX8_off 128 = .ok (.iadd, 1) := by decide +kernel
theorem dX8_off_129 : decode cX8_off 129 = .ok (.aload_n 0, 1) := by decide +kernel
theorem dX8_off_130 : decode cX8_off 130 = .ok (.getfield 199, 3) := by decide +kernel
theorem dX8_off_133 : decode cX8_off 133 = .ok (.irem, 1) := by decide +kernel
theorem dX8_off_134 : decode cX8_off 134 = .ok (.iaload, 1) := by decide +kernel
theorem dX8_off_135 : decode cX8_off 135 = .ok (.iadd, 1) := by decide +kernel
theorem dX8_off_136 : decode cX8_off 136 = .ok (.dup2, 1) := by decide +kernel
theorem dX8_off_137 : decode cX8_off 137 = .ok (.iaload, 1) := by decide +kernel
theorem dX8_off_138 : decode cX8_off 138 = .ok (.iload_n 3, 1) := by decide +kernel
theorem dX8_off_139 : decode cX8_off 139 = .ok (.isub, 1) := by decide +kernel
theorem dX8_off_140 : decode cX8_off 140 = .ok (.iastore, 1) := by decide +kernel
theorem dX8_off_141 : decode cX8_off 141 = .ok (.iinc 4 1, 3) := by decide +kernel
theorem dX8_off_144 : decode cX8_off 144 = .ok (.goto (-51), 3) := by decide +kernel
theorem dX8_off_147 : decode cX8_off 147 = .ok (.iinc 2 1, 3) := by decide +kernel
theorem dX8_off_150 : decode cX8_off 150 = .ok (.aload_n 0, 1) := by decide +kernel
theorem dX8_off_151 : decode cX8_off 151 = .ok (.iload_n 1, 1) := by decide +kernel
theorem dX8_off_152 : decode cX8_off 152 = .ok (.invokevirtual 205, 3) := by decide +kernel
theorem dX8_off_155 : decode cX8_off 155 = .ok (.goto (-134), 3) := by decide +kernel
theorem dX8_off_158 : decode cX8_off 158 = .ok (.iload_n 2, 1) := by decide +kernel
theorem dX8_off_159 : decode cX8_off 159 = .ok (.ireturn, 1) := by decide +kernel
theorem dX8_want_0 : decode cX8_want 0 = .ok (.aload_n 0, 1) := by decide +kernel
theorem dX8_want_1 : decode cX8_want 1 = .ok (.iload_n 1, 1) := by decide +kernel
theorem dX8_want_2 : decode cX8_want 2 = .ok (.invokevirtual 139, 3) := by decide +kernel
theorem dX8_want_5 : decode cX8_want 5 = .ok (.ifCond .ne 9, 3) := by decide +kernel
theorem dX8_want_8 : decode cX8_want 8 = .ok (.aload_n 0, 1) := by decide +kernel
theorem dX8_want_9 : decode cX8_want 9 = .ok (.iconst (-1), 1) := by decide +kernel
theorem dX8_want_10 : decode cX8_want 10 = .ok (.invokevirtual 126, 3) := by decide +kernel
end
section
theorem dX8_want_13 : decode cX8_want 13 = .ok (.ireturn, 1) := by decide +kernel
theorem dX8_want_14 : decode cX8_want 14 = .ok (.iload_n 2, 1) := by decide +kernel
theorem dX8_want_15 : decode cX8_want 15 = .ok (.ifCond .lt 7, 3) := by decide +kernel
theorem dX8_want_18 : decode cX8_want 18 = .ok (.iload_n 3, 1) := by decide +kernel
theorem dX8_want_19 : decode cX8_want 19 = .ok (.ifCond .ge 10, 3) := by decide +kernel
theorem dX8_want_22 : decode cX8_want 22 = .ok (.aload_n 0, 1) := by decide +kernel
theorem dX8_want_23 : decode cX8_want 23 = .ok (.bipush (-4), 2) := by decide +kernel
theorem dX8_want_25 : decode cX8_want 25 = .ok (.invokevirtual 126, 3) := by decide +kernel
theorem dX8_want_28 : decode cX8_want 28 = .ok (.ireturn, 1) := by decide +kernel
theorem dX8_want_29 : decode cX8_want 29 = .ok (.iload_n 2, 1) := by decide +kernel
theorem dX8_want_30 : decode cX8_want 30 = .ok (.bipush 100, 2) := by decide +kernel
theorem dX8_want_32 : decode cX8_want 32 = .ok (.if_icmp .gt 9, 3) := by decide +kernel
theorem dX8_want_35 : decode cX8_want 35 = .ok (.iload_n 3, 1) := by decide +kernel
theorem dX8_want_36 : decode cX8_want 36 = .ok (.bipush 100, 2) := by decide +kernel
theorem dX8_want_38 : decode cX8_want 38 = .ok (.if_icmp .le 10, 3) := by decide +kernel
theorem dX8_want_41 : decode cX8_want 41 = .ok (.aload_n 0, 1) := by decide +kernel
theorem dX8_want_42 : decode cX8_want 42 = .ok (.bipush (-6), 2) := by decide +kernel
theorem dX8_want_44 : decode cX8_want 44 = .ok (.invokevirtual 126, 3) := by decide +kernel
theorem dX8_want_47 : decode cX8_want 47 = .ok (.ireturn, 1) := by decide +kernel
theorem dX8_want_48 : decode cX8_want 48 = .ok (.aload_n 0, 1) := by decide +kernel
theorem dX8_want_49 : decode cX8_want 49 = .ok (.getfield 78, 3) := by decide +kernel
theorem dX8_want_52 : decode cX8_want 52 = .ok (.iload_n 1, 1) := by decide +kernel
theorem dX8_want_53 : decode cX8_want 53 = .ok (.iload_n 2, 1) := by decide +kernel
theorem dX8_want_54 : decode cX8_want 54 = .ok (.iastore, 1) := by decide +kernel
theorem dX8_want_55 : decode cX8_want 55 = .ok (.aload_n 0, 1) := by decide +kernel
theorem dX8_want_56 : decode cX8_want 56 = .ok (.getfield 81, 3) := by decide +kernel
theorem dX8_want_59 : decode cX8_want 59 = .ok (.iload_n 1, 1) := by decide +kernel
theorem dX8_want_60 : decode cX8_want 60 = .ok (.iload_n 3, 1) := by decide +kernel
theorem dX8_want_61 : decode cX8_want 61 = .ok (.iastore, 1) := by decide +kernel
theorem dX8_want_62 : decode cX8_want 62 = .ok (.iconst 1, 1) := by decide +kernel
theorem dX8_want_63 : decode cX8_want 63 = .ok (.ireturn, 1) := by decide +kernel
theorem dX8_way_0 : decode cX8_way 0 = .ok (.aload_n 0, 1) := by decide +kernel
theorem dX8_way_1 : decode cX8_way 1 = .ok (.iload_n 1, 1) := by decide +kernel
theorem dX8_way_2 : decode cX8_way 2 = .ok (.invokevirtual 139, 3) := by decide +kernel
theorem dX8_way_5 : decode cX8_way 5 = .ok (.ifCond .eq 16, 3) := by decide +kernel
theorem dX8_way_8 : decode cX8_way 8 = .ok (.aload_n 0, 1) := by decide +kernel
theorem dX8_way_9 : decode cX8_way 9 = .ok (.iload_n 2, 1) := by decide +kernel
theorem dX8_way_10 : decode cX8_way 10 = .ok (.invokevirtual 139, 3) := by decide +kernel
theorem dX8_way_13 : decode cX8_way 13 = .ok (.ifCond .eq 8, 3) := by decide +kernel
theorem dX8_way_16 : decode cX8_way 16 = .ok (.iload_n 1, 1) := by decide +kernel
theorem dX8_way_17 : decode cX8_way 17 = .ok (.iload_n 2, 1) := by decide +kernel
theorem dX8_way_18 : decode cX8_way 18 = .ok (.if_icmp .ne 9, 3) := by decide +kernel
theorem dX8_way_21 : decode cX8_way 21 = .ok (.aload_n 0, 1) := by decide +kernel
theorem dX8_way_22 : decode cX8_way 22 = .ok (.iconst (-1), 1) := by decide +kernel
theorem dX8_way_23 : decode cX8_way 23 = .ok (.invokevirtual 126, 3) := by decide +kernel
theorem dX8_way_26 : decode cX8_way 26 = .ok (.ireturn, 1) := by decide +kernel
theorem dX8_way_27 : decode cX8_way 27 = .ok (.iload_n 3, 1) := by decide +kernel
theorem dX8_way_28 : decode cX8_way 28 = .ok (.ifCond .ge 10, 3) := by decide +kernel
theorem dX8_way_31 : decode cX8_way 31 = .ok (.aload_n 0, 1) := by decide +kernel
theorem dX8_way_32 : decode cX8_way 32 = .ok (.bipush (-4), 2) := by decide +kernel
theorem dX8_way_34 : decode cX8_way 34 = .ok (.invokevirtual 126, 3) := by decide +kernel
theorem dX8_way_37 : decode cX8_way 37 = .ok (.ireturn, 1) := by decide +kernel
theorem dX8_way_38 : decode cX8_way 38 = .ok (.iload_n 3, 1) := by decide +kernel
theorem dX8_way_39 : decode cX8_way 39 = .ok (.sipush 1000, 3) := by decide +kernel
theorem dX8_way_42 : decode cX8_way 42 = .ok (.if_icmp .le 10, 3) := by decide +kernel
theorem dX8_way_45 : decode cX8_way 45 = .ok (.aload_n 0, 1) := by decide +kernel
theorem dX8_way_46 : decode cX8_way 46 = .ok (.bipush (-6), 2) := by decide +kernel
theorem dX8_way_48 : decode cX8_way 48 = .ok (.invokevirtual 126, 3) := by decide +kernel
theorem dX8_way_51 : decode cX8_way 51 = .ok (.ireturn, 1) := by decide +kernel
theorem dX8_way_52 : decode cX8_way 52 = .ok (.aload_n 0, 1) := by decide +kernel
theorem dX8_way_53 : decode cX8_way 53 = .ok (.getfield 84, 3) := by decide +kernel
theorem dX8_way_56 : decode cX8_way 56 = .ok (.bipush 10, 2) := by decide +kernel
theorem dX8_way_58 : decode cX8_way 58 = .ok (.iload_n 1, 1) := by decide +kernel
theorem dX8_way_59 : decode cX8_way 59 = .ok (.imul, 1) := by decide +kernel
theorem dX8_way_60 : decode cX8_way 60 = .ok (.iload_n 2, 1) := by decide +kernel
theorem dX8_way_61 : decode cX8_way 61 = .ok (.iadd, 1) := by decide +kernel
theorem dX8_way_62 : decode cX8_way 62 = .ok (.iaload, 1) := by decide +kernel
theorem dX8_way_63 : decode cX8_way 63 = .ok (.istore 4, 2) := by decide +kernel
theorem dX8_way_65 : decode cX8_way 65 = .ok (.aload_n 0, 1) := by decide +kernel
theorem dX8_way_66 : decode cX8_way 66 = .ok (.getfield 84, 3) := by decide +kernel
theorem dX8_way_69 : decode cX8_way 69 = .ok (.bipush 10, 2) := by decide +kernel
theorem dX8_way_71 : decode cX8_way 71 = .ok (.iload_n 1, 1) := by decide +kernel
theorem dX8_way_72 : decode cX8_way 72 = .ok (.imul, 1) := by decide +kernel
theorem dX8_way_73 : decode cX8_way 73 = .ok (.iload_n 2, 1) := by decide +kernel
theorem dX8_way_74 : decode cX8_way 74 = .ok (.iadd, 1) := by decide +kernel
theorem dX8_way_75 : decode cX8_way 75 = .ok (.iload_n 3, 1) := by decide +kernel
theorem dX8_way_76 : decode cX8_way 76 = .ok (.iastore, 1) := by decide +kernel
theorem dX8_way_77 : decode cX8_way 77 = .ok (.aload_n 0, 1) := by decide +kernel
theorem dX8_way_78 : decode cX8_way 78 = .ok (.getfield 84, 3) := by decide +kernel
theorem dX8_way_81 : decode cX8_way 81 = .ok (.bipush 10, 2) := by decide +kernel
theorem dX8_way_83 : decode cX8_way 83 = .ok (.iload_n 2, 1) := by decide +kernel
theorem dX8_way_84 : decode cX8_way 84 = .ok (.imul, 1) := by decide +kernel
theorem dX8_way_85 : decode cX8_way 85 = .ok (.iload_n 1, 1) := by decide +kernel
theorem dX8_way_86 : decode cX8_way 86 = .ok (.iadd, 1) := by decide +kernel
theorem dX8_way_87 : decode cX8_way 87 = .ok (.iload_n 3, 1) := by decide +kernel
theorem dX8_way_88 : decode cX8_way 88 = .ok (.iastore, 1) := by decide +kernel
theorem dX8_way_89 : decode cX8_way 89 = .ok (.iload 4, 2) := by decide +kernel
theorem dX8_way_91 : decode cX8_way 91 = .ok (.ireturn, 1) := by decide +kernel
theorem dX8_plan_0 : decode cX8_plan 0 = .ok (.iconst 0, 1) := by decide +kernel
theorem dX8_plan_1 : decode cX8_plan 1 = .ok (.istore_n 1, 1) := by decide +kernel
theorem dX8_plan_2 : decode cX8_plan 2 = .ok (.iconst 0, 1) := by decide +kernel
theorem dX8_plan_3 : decode cX8_plan 3 = .ok (.istore_n 2, 1) := by decide +kernel
theorem dX8_plan_4 : decode cX8_plan 4 = .ok (.iconst 0, 1) := by decide +kernel
theorem dX8_plan_5 : decode cX8_plan 5 = .ok (.istore_n 3, 1) := by decide +kernel
theorem dX8_plan_6 : decode cX8_plan 6 = .ok (.iload_n 3, 1) := by decide +kernel
theorem dX8_plan_7 : decode cX8_plan 7 = .ok (.aload_n 0, 1) := by decide +kernel
theorem dX8_plan_8 : decode cX8_plan 8 = .ok (.getfield 115, 3) := by decide +kernel
theorem dX8_plan_11 : decode cX8_plan 11 = .ok (.if_icmp .ge 27, 3) := by decide +kernel
theorem dX8_plan_14 : decode cX8_plan 14 = .ok (.iload_n 1, 1) := by decide +kernel
theorem dX8_plan_15 : decode cX8_plan 15 = .ok (.aload_n 0, 1) := by decide +kernel
theorem dX8_plan_16 : decode cX8_plan 16 = .ok (.getfield 78, 3) := by decide +kernel
theorem dX8_plan_19 : decode cX8_plan 19 = .ok (.iload_n 3, 1) := by decide +kernel
theorem dX8_plan_20 : decode cX8_plan 20 = .ok (.iaload, 1) := by decide +kernel
theorem dX8_plan_21 : decode cX8_plan 21 = .ok (.iadd, 1) := by decide +kernel
theorem dX8_plan_22 : decode cX8_plan 22 = .ok (.istore_n 1, 1) := by decide +kernel
theorem dX8_plan_23 : decode cX8_plan 23 = .ok (.iload_n 2, 1) := by decide +kernel
theorem dX8_plan_24 : decode cX8_plan 24 = .ok (.aload_n 0, 1) := by decide +kernel
theorem dX8_plan_25 : decode cX8_plan 25 = .ok (.getfield 81, 3) := by decide +kernel
theorem dX8_plan_28 : decode cX8_plan 28 = .ok (.iload_n 3, 1) := by decide +kernel
theorem dX8_plan_29 : decode cX8_plan 29 = .ok (.iaload, 1) := by decide +kernel
theorem dX8_plan_30 : decode cX8_plan 30 = .ok (.iadd, 1) := by decide +kernel
theorem dX8_plan_31 : decode cX8_plan 31 = .ok (.istore_n 2, 1) := by decide +kernel
theorem dX8_plan_32 : decode cX8_plan 32 = .ok (.iinc 3 1, 3) := by decide +kernel
theorem dX8_plan_35 : decode cX8_plan 35 = .ok (.goto (-29), 3) := by decide +kernel
theorem dX8_plan_38 : decode cX8_plan 38 = .ok (.iload_n 1, 1) := by decide +kernel
theorem dX8_plan_39 : decode cX8_plan 39 = .ok (.iload_n 2, 1) := by decide +kernel
theorem dX8_plan_40 : decode cX8_plan 40 = .ok (.if_icmp .ge 10, 3) := by decide +kernel
theorem dX8_plan_43 : decode cX8_plan 43 = .ok (.aload_n 0, 1) := by decide +kernel
theorem dX8_plan_44 : decode cX8_plan 44 = .ok (.bipush (-5), 2) := by decide +kernel
theorem dX8_plan_46 : decode cX8_plan 46 = .ok (.invokevirtual 126, 3) := by decide +kernel
theorem dX8_plan_49 : decode cX8_plan 49 = .ok (.ireturn, 1) := by decide +kernel
theorem dX8_plan_50 : decode cX8_plan 50 = .ok (.iconst 0, 1) := by decide +kernel
theorem dX8_plan_51 : decode cX8_plan 51 = .ok (.istore_n 3, 1) := by decide +kernel
theorem dX8_plan_52 : decode cX8_plan 52 = .ok (.iload_n 3, 1) := by decide +kernel
theorem dX8_plan_53 : decode cX8_plan 53 = .ok (.bipush 100, 2) := by decide +kernel
theorem dX8_plan_55 : decode cX8_plan 55 = .ok (.if_icmp .ge 16, 3) := by decide +kernel
theorem dX8_plan_58 : decode cX8_plan 58 = .ok (.aload_n 0, 1) := by decide +kernel
theorem dX8_plan_59 : decode cX8_plan 59 = .ok (.getfield 105, 3) := by decide +kernel
theorem dX8_plan_62 : decode cX8_plan 62 = .ok (.iload_n 3, 1) := by decide +kernel
theorem dX8_plan_63 : decode cX8_plan 63 = .ok (.iconst 0, 1) := by decide +kernel
theorem dX8_plan_64 : decode cX8_plan 64 = .ok (.iastore, 1) := by decide +kernel
theorem dX8_plan_65 : decode cX8_plan 65 = .ok (.iinc 3 1, 3) := by decide +kernel
theorem dX8_plan_68 : decode cX8_plan 68 = .ok (.goto (-16), 3) := by decide +kernel
theorem dX8_plan_71 : decode cX8_plan 71 = .ok (.iconst 0, 1) := by decide +kernel
theorem dX8_plan_72 : decode cX8_plan 72 = .ok (.istore_n 3, 1) := by decide +kernel
theorem dX8_plan_73 : decode cX8_plan 73 = .ok (.iconst 0, 1) := by decide +kernel
theorem dX8_plan_74 : decode cX8_plan 74 = .ok (.istore 4, 2) := by decide +kernel
theorem dX8_plan_76 : decode cX8_plan 76 = .ok (.iload 4, 2) := by decide +kernel
theorem dX8_plan_78 : decode cX8_plan 78 = .ok (.iload_n 2, 1) := by decide +kernel
theorem dX8_plan_79 : decode cX8_plan 79 = .ok (.if_icmp .ge 16, 3) := by decide +kernel
theorem dX8_plan_82 : decode cX8_plan 82 = .ok (.iload_n 3, 1) := by decide +kernel
theorem dX8_plan_83 : decode cX8_plan 83 = .ok (.aload_n 0, 1) := by decide +kernel
theorem dX8_plan_84 : decode cX8_plan 84 = .ok (.invokevirtual 209, 3) := by decide +kernel
theorem dX8_plan_87 : decode cX8_plan 87 = .ok (.iadd, 1) := by decide +kernel
theorem dX8_plan_88 : decode cX8_plan 88 = .ok (.istore_n 3, 1) := by decide +kernel
theorem dX8_plan_89 : decode cX8_plan 89 = .ok (.iinc 4 1, 3) := by decide +kernel
theorem dX8_plan_92 : decode cX8_plan 92 = .ok (.goto (-16), 3) := by decide +kernel
theorem dX8_plan_95 : decode cX8_plan 95 = .ok (.iload_n 3, 1) := by decide +kernel
theorem dX8_plan_96 : decode cX8_plan 96 = .ok (.ireturn, 1) := by decide +kernel
theorem dX8_left_0 : decode cX8_left 0 = .ok (.aload_n 0, 1) := by decide +kernel
theorem dX8_left_1 : decode cX8_left 1 = .ok (.getfield 78, 3) := by decide +kernel
theorem dX8_left_4 : decode cX8_left 4 = .ok (.iload_n 1, 1) := by decide +kernel
theorem dX8_left_5 : decode cX8_left 5 = .ok (.iaload, 1) := by decide +kernel
theorem dX8_left_6 : decode cX8_left 6 = .ok (.istore_n 2, 1) := by decide +kernel
theorem dX8_left_7 : decode cX8_left 7 = .ok (.iconst 0, 1) := by decide +kernel
theorem dX8_left_8 : decode cX8_left 8 = .ok (.istore_n 3, 1) := by decide +kernel
theorem dX8_left_9 : decode cX8_left 9 = .ok (.iload_n 3, 1) := by decide +kernel
theorem dX8_left_10 : decode cX8_left 10 = .ok (.aload_n 0, 1) := by decide +kernel
theorem dX8_left_11 : decode cX8_left 11 = .ok (.getfield 115, 3) := by decide +kernel
theorem dX8_left_14 : decode cX8_left 14 = .ok (.if_icmp .ge 23, 3) := by decide +kernel
theorem dX8_left_17 : decode cX8_left 17 = .ok (.iload_n 2, 1) := by decide +kernel
theorem dX8_left_18 : decode cX8_left 18 = .ok (.aload_n 0, 1) := by decide +kernel
theorem dX8_left_19 : decode cX8_left 19 = .ok (.getfield 105, 3) := by decide +kernel
theorem dX8_left_22 : decode cX8_left 22 = .ok (.bipush 10, 2) := by decide +kernel
theorem dX8_left_24 : decode cX8_left 24 = .ok (.iload_n 1, 1) := by decide +kernel
theorem dX8_left_25 : decode cX8_left 25 = .ok (.imul, 1) := by decide +kernel
theorem dX8_left_26 : decode cX8_left 26 = .ok (.iload_n 3, 1) := by decide +kernel
theorem dX8_left_27 : decode cX8_left 27 = .ok (.iadd, 1) := by decide +kernel
theorem dX8_left_28 : decode cX8_left 28 = .ok (.iaload, 1) := by decide +kernel
theorem dX8_left_29 : decode cX8_left 29 = .ok (.isub, 1) := by decide +kernel
theorem dX8_left_30 : decode cX8_left 30 = .ok (.istore_n 2, 1) := by decide +kernel
theorem dX8_left_31 : decode cX8_left 31 = .ok (.iinc 3 1, 3) := by decide +kernel
theorem dX8_left_34 : decode cX8_left 34 = .ok (.goto (-25), 3) := by decide +kernel
theorem dX8_left_37 : decode cX8_left 37 = .ok (.iload_n 2, 1) := by decide +kernel
theorem dX8_left_38 : decode cX8_left 38 = .ok (.ireturn, 1) := by decide +kernel
theorem dX8_lacks_0 : decode cX8_lacks 0 = .ok (.aload_n 0, 1) := by decide +kernel
theorem dX8_lacks_1 : decode cX8_lacks 1 = .ok (.getfield 81, 3) := by decide +kernel
theorem dX8_lacks_4 : decode cX8_lacks 4 = .ok (.iload_n 1, 1) := by decide +kernel
theorem dX8_lacks_5 : decode cX8_lacks 5 = .ok (.iaload, 1) := by decide +kernel
theorem dX8_lacks_6 : decode cX8_lacks 6 = .ok (.istore_n 2, 1) := by decide +kernel
theorem dX8_lacks_7 : decode cX8_lacks 7 = .ok (.iconst 0, 1) := by decide +kernel
theorem dX8_lacks_8 : decode cX8_lacks 8 = .ok (.istore_n 3, 1) := by decide +kernel
theorem dX8_lacks_9 : decode cX8_lacks 9 = .ok (.iload_n 3, 1) := by decide +kernel
theorem dX8_lacks_10 : decode cX8_lacks 10 = .ok (.aload_n 0, 1) := by decide +kernel
theorem dX8_lacks_11 : decode cX8_lacks 11 = .ok (.getfield 115, 3) := by decide +kernel
theorem dX8_lacks_14 : decode cX8_lacks 14 = .ok (.if_icmp .ge 23, 3) := by decide +kernel
theorem dX8_lacks_17 : decode cX8_lacks 17 = .ok (.iload_n 2, 1) := by decide +kernel
theorem dX8_lacks_18 : decode cX8_lacks 18 = .ok (.aload_n 0, 1) := by decide +kernel
theorem dX8_lacks_19 : decode cX8_lacks 19 = .ok (.getfield 105, 3) := by decide +kernel
theorem dX8_lacks_22 : decode cX8_lacks 22 = .ok (.bipush 10, 2) := by decide +kernel
theorem dX8_lacks_24 : decode cX8_lacks 24 = .ok (.iload_n 3, 1) := by decide +kernel
theorem dX8_lacks_25 : decode cX8_lacks 25 = .ok (.imul, 1) := by decide +kernel
theorem dX8_lacks_26 : decode cX8_lacks 26 = .ok (.iload_n 1, 1) := by decide +kernel
theorem dX8_lacks_27 : decode cX8_lacks 27 = .ok (.iadd, 1) := by decide +kernel
theorem dX8_lacks_28 : decode cX8_lacks 28 = .ok (.iaload, 1) := by decide +kernel
theorem dX8_lacks_29 : decode cX8_lacks 29 = .ok (.isub, 1) := by decide +kernel
theorem dX8_lacks_30 : decode cX8_lacks 30 = .ok (.istore_n 2, 1) := by decide +kernel
theorem dX8_lacks_31 : decode cX8_lacks 31 = .ok (.iinc 3 1, 3) := by decide +kernel
theorem dX8_lacks_34 : decode cX8_lacks 34 = .ok (.goto (-25), 3) := by decide +kernel
theorem dX8_lacks_37 : decode cX8_lacks 37 = .ok (.iload_n 2, 1) := by decide +kernel
theorem dX8_lacks_38 : decode cX8_lacks 38 = .ok (.ireturn, 1) := by decide +kernel
theorem dX8_carryOne_0 : decode cX8_carryOne 0 = .ok (.iconst 0, 1) := by decide +kernel
theorem dX8_carryOne_1 : decode cX8_carryOne 1 = .ok (.istore_n 1, 1) := by decide +kernel
theorem dX8_carryOne_2 : decode cX8_carryOne 2 = .ok (.iload_n 1, 1) := by decide +kernel
theorem dX8_carryOne_3 : decode cX8_carryOne 3 = .ok (.bipush 20, 2) := by decide +kernel
theorem dX8_carryOne_5 : decode cX8_carryOne 5 = .ok (.if_icmp .ge 45, 3) := by decide +kernel
theorem dX8_carryOne_8 : decode cX8_carryOne 8 = .ok (.aload_n 0, 1) := by decide +kernel
theorem dX8_carryOne_9 : decode cX8_carryOne 9 = .ok (.getfield 108, 3) := by decide +kernel
theorem dX8_carryOne_12 : decode cX8_carryOne 12 = .ok (.iload_n 1, 1) := by decide +kernel
theorem dX8_carryOne_13 : decode cX8_carryOne 13 = .ok (.iload_n 1, 1) := by decide +kernel
theorem dX8_carryOne_14 : decode cX8_carryOne 14 = .ok (.aload_n 0, 1) := by decide +kernel
theorem dX8_carryOne_15 : decode cX8_carryOne 15 = .ok (.getfield 115, 3) := by decide +kernel
theorem dX8_carryOne_18 : decode cX8_carryOne 18 = .ok (.if_icmp .ge 15, 3) := by decide +kernel
theorem dX8_carryOne_21 : decode cX8_carryOne 21 = .ok (.aload_n 0, 1) := by decide +kernel
theorem dX8_carryOne_22 : decode cX8_carryOne 22 = .ok (.iload_n 1, 1) := by decide +kernel
theorem dX8_carryOne_23 : decode cX8_carryOne 23 = .ok (.invokevirtual 213, 3) := by decide +kernel
theorem dX8_carryOne_26 : decode cX8_carryOne 26 = .ok (.ifCond .le 7, 3) := by decide +kernel
theorem dX8_carryOne_29 : decode cX8_carryOne 29 = .ok (.iconst 0, 1) := by decide +kernel
theorem dX8_carryOne_30 : decode cX8_carryOne 30 = .ok (.goto 5, 3) := by decide +kernel
theorem dX8_carryOne_33 : decode cX8_carryOne 33 = .ok (.ldc 216, 2) := by decide +kernel
theorem dX8_carryOne_35 : decode cX8_carryOne 35 = .ok (.iastore, 1) := by decide +kernel
theorem dX8_carryOne_36 : decode cX8_carryOne 36 = .ok (.aload_n 0, 1) := by decide +kernel
theorem dX8_carryOne_37 : decode cX8_carryOne 37 = .ok (.getfield 111, 3) := by decide +kernel
theorem dX8_carryOne_40 : decode cX8_carryOne 40 = .ok (.iload_n 1, 1) := by decide +kernel
theorem dX8_carryOne_41 : decode cX8_carryOne 41 = .ok (.bipush (-9), 2) := by decide +kernel
theorem dX8_carryOne_43 : decode cX8_carryOne 43 = .ok (.iastore, 1) := by decide +kernel
theorem dX8_carryOne_44 : decode cX8_carryOne 44 = .ok (.iinc 1 1, 3) := by decide +kernel
theorem dX8_carryOne_47 : decode cX8_carryOne 47 = .ok (.goto (-45), 3) := by decide +kernel
theorem dX8_carryOne_50 : decode cX8_carryOne 50 = .ok (.iconst 1, 1) := by decide +kernel
theorem dX8_carryOne_51 : decode cX8_carryOne 51 = .ok (.istore_n 1, 1) := by decide +kernel
theorem dX8_carryOne_52 : decode cX8_carryOne 52 = .ok (.iload_n 1, 1) := by decide +kernel
theorem dX8_carryOne_53 : decode cX8_carryOne 53 = .ok (.ifCond .eq 192, 3) := by decide +kernel
theorem dX8_carryOne_56 : decode cX8_carryOne 56 = .ok (.iconst 0, 1) := by decide +kernel
theorem dX8_carryOne_57 : decode cX8_carryOne 57 = .ok (.istore_n 1, 1) := by decide +kernel
theorem dX8_carryOne_58 : decode cX8_carryOne 58 = .ok (.iconst 0, 1) := by decide +kernel
theorem dX8_carryOne_59 : decode cX8_carryOne 59 = .ok (.istore_n 2, 1) := by decide +kernel
theorem dX8_carryOne_60 : decode cX8_carryOne 60 = .ok (.iload_n 2, 1) := by decide +kernel
theorem dX8_carryOne_61 : decode cX8_carryOne 61 = .ok (.aload_n 0, 1) := by decide +kernel
theorem dX8_carryOne_62 : decode cX8_carryOne 62 = .ok (.getfield 115, 3) := by decide +kernel
theorem dX8_carryOne_65 : decode cX8_carryOne 65 = .ok (.if_icmp .ge 177, 3) := by decide +kernel
theorem dX8_carryOne_68 : decode cX8_carryOne 68 = .ok (.iconst 0, 1) := by decide +kernel
theorem dX8_carryOne_69 : decode cX8_carryOne 69 = .ok (.istore_n 3, 1) := by decide +kernel
theorem dX8_carryOne_70 : decode cX8_carryOne 70 = .ok (.iload_n 3, 1) := by decide +kernel
theorem dX8_carryOne_71 : decode cX8_carryOne 71 = .ok (.aload_n 0, 1) := by decide +kernel
theorem dX8_carryOne_72 : decode cX8_carryOne 72 = .ok (.getfield 115, 3) := by decide +kernel
theorem dX8_carryOne_75 : decode cX8_carryOne 75 = .ok (.if_icmp .ge 161, 3) := by decide +kernel
theorem dX8_carryOne_78 : decode cX8_carryOne 78 = .ok (.aload_n 0, 1) := by decide +kernel
theorem dX8_carryOne_79 : decode cX8_carryOne 79 = .ok (.getfield 108, 3) := by decide +kernel
theorem dX8_carryOne_82 : decode cX8_carryOne 82 = .ok (.iload_n 2, 1) := by decide +kernel
theorem dX8_carryOne_83 : decode cX8_carryOne 83 = .ok (.iaload, 1) := by decide +kernel
theorem dX8_carryOne_84 : decode cX8_carryOne 84 = .ok (.aload_n 0, 1) := by decide +kernel
theorem dX8_carryOne_85 : decode cX8_carryOne 85 = .ok (.getfield 84, 3) := by decide +kernel
theorem dX8_carryOne_88 : decode cX8_carryOne 88 = .ok (.bipush 10, 2) := by decide +kernel
theorem dX8_carryOne_90 : decode cX8_carryOne 90 = .ok (.iload_n 2, 1) := by decide +kernel
theorem dX8_carryOne_91 : decode cX8_carryOne 91 = .ok (.imul, 1) := by decide +kernel
theorem dX8_carryOne_92 : decode cX8_carryOne 92 = .ok (.iload_n 3, 1) := by decide +kernel
theorem dX8_carryOne_93 : decode cX8_carryOne 93 = .ok (.iadd, 1) := by decide +kernel
theorem dX8_carryOne_94 : decode cX8_carryOne 94 = .ok (.iaload, 1) := by decide +kernel
theorem dX8_carryOne_95 : decode cX8_carryOne 95 = .ok (.iadd, 1) := by decide +kernel
theorem dX8_carryOne_96 : decode cX8_carryOne 96 = .ok (.aload_n 0, 1) := by decide +kernel
theorem dX8_carryOne_97 : decode cX8_carryOne 97 = .ok (.getfield 108, 3) := by decide +kernel
theorem dX8_carryOne_100 : decode cX8_carryOne 100 = .ok (.bipush 10, 2) := by decide +kernel
theorem dX8_carryOne_102 : decode cX8_carryOne 102 = .ok (.iload_n 3, 1) := by decide +kernel
theorem dX8_carryOne_103 : decode cX8_carryOne 103 = .ok (.iadd, 1) := by decide +kernel
theorem dX8_carryOne_104 : decode cX8_carryOne 104 = .ok (.iaload, 1) := by decide +kernel
theorem dX8_carryOne_105 : decode cX8_carryOne 105 = .ok (.if_icmp .ge 42, 3) := by decide +kernel
theorem dX8_carryOne_108 : decode cX8_carryOne 108 = .ok (.aload_n 0, 1) := by decide +kernel
theorem dX8_carryOne_109 : decode cX8_carryOne 109 = .ok (.getfield 108, 3) := by decide +kernel
theorem dX8_carryOne_112 : decode cX8_carryOne 112 = .ok (.bipush 10, 2) := by decide +kernel
theorem dX8_carryOne_114 : decode cX8_carryOne 114 = .ok (.iload_n 3, 1) := by decide +kernel
theorem dX8_carryOne_115 : decode cX8_carryOne 115 = .ok (.iadd, 1) := by decide +kernel
theorem dX8_carryOne_116 : decode cX8_carryOne 116 = .ok (.aload_n 0, 1) := by decide +kernel
theorem dX8_carryOne_117 : decode cX8_carryOne 117 = .ok (.getfield 108, 3) := by decide +kernel
theorem dX8_carryOne_120 : decode cX8_carryOne 120 = .ok (.iload_n 2, 1) := by decide +kernel
theorem dX8_carryOne_121 : decode cX8_carryOne 121 = .ok (.iaload, 1) := by decide +kernel
theorem dX8_carryOne_122 : decode cX8_carryOne 122 = .ok (.aload_n 0, 1) := by decide +kernel
theorem dX8_carryOne_123 : decode cX8_carryOne 123 = .ok (.getfield 84, 3) := by decide +kernel
theorem dX8_carryOne_126 : decode cX8_carryOne 126 = .ok (.bipush 10, 2) := by decide +kernel
theorem dX8_carryOne_128 : decode cX8_carryOne 128 = .ok (.iload_n 2, 1) := by decide +kernel
theorem dX8_carryOne_129 : decode cX8_carryOne 129 = .ok (.imul, 1) := by decide +kernel
theorem dX8_carryOne_130 : decode cX8_carryOne 130 = .ok (.iload_n 3, 1) := by decide +kernel
theorem dX8_carryOne_131 : decode cX8_carryOne 131 = .ok (.iadd, 1) := by decide +kernel
theorem dX8_carryOne_132 : decode cX8_carryOne 132 = .ok (.iaload, 1) := by decide +kernel
theorem dX8_carryOne_133 : decode cX8_carryOne 133 = .ok (.iadd, 1) := by decide +kernel
theorem dX8_carryOne_134 : decode cX8_carryOne 134 = .ok (.iastore, 1) := by decide +kernel
theorem dX8_carryOne_135 : decode cX8_carryOne 135 = .ok (.aload_n 0, 1) := by decide +kernel
theorem dX8_carryOne_136 : decode cX8_carryOne 136 = .ok (.getfield 111, 3) := by decide +kernel
theorem dX8_carryOne_139 : decode cX8_carryOne 139 = .ok (.bipush 10, 2) := by decide +kernel
theorem dX8_carryOne_141 : decode cX8_carryOne 141 = .ok (.iload_n 3, 1) := by decide +kernel
theorem dX8_carryOne_142 : decode cX8_carryOne 142 = .ok (.iadd, 1) := by decide +kernel
theorem dX8_carryOne_143 : decode cX8_carryOne 143 = .ok (.iload_n 2, 1) := by decide +kernel
theorem dX8_carryOne_144 : decode cX8_carryOne 144 = .ok (.iastore, 1) := by decide +kernel
theorem dX8_carryOne_145 : decode cX8_carryOne 145 = .ok (.iconst 1, 1) := by decide +kernel
theorem dX8_carryOne_146 : decode cX8_carryOne 146 = .ok (.istore_n 1, 1) := by decide +kernel
theorem dX8_carryOne_147 : decode cX8_carryOne 147 = .ok (.aload_n 0, 1) := by decide +kernel
theorem dX8_carryOne_148 : decode cX8_carryOne 148 = .ok (.getfield 105, 3) := by decide +kernel
theorem dX8_carryOne_151 : decode cX8_carryOne 151 = .ok (.bipush 10, 2) := by decide +kernel
theorem dX8_carryOne_153 : decode cX8_carryOne 153 = .ok (.iload_n 2, 1) := by decide +kernel
theorem dX8_carryOne_154 : decode cX8_carryOne 154 = .ok (.imul, 1) := by decide +kernel
theorem dX8_carryOne_155 : decode cX8_carryOne 155 = .ok (.iload_n 3, 1) := by decide +kernel
theorem dX8_carryOne_156 : decode cX8_carryOne 156 = .ok (.iadd, 1) := by decide +kernel
theorem dX8_carryOne_157 : decode cX8_carryOne 157 = .ok (.iaload, 1) := by decide +kernel
theorem dX8_carryOne_158 : decode cX8_carryOne 158 = .ok (.ifCond .le 72, 3) := by decide +kernel
theorem dX8_carryOne_161 : decode cX8_carryOne 161 = .ok (.aload_n 0, 1) := by decide +kernel
theorem dX8_carryOne_162 : decode cX8_carryOne 162 = .ok (.getfield 108, 3) := by decide +kernel
theorem dX8_carryOne_165 : decode cX8_carryOne 165 = .ok (.bipush 10, 2) := by decide +kernel
theorem dX8_carryOne_167 : decode cX8_carryOne 167 = .ok (.iload_n 3, 1) := by decide +kernel
theorem dX8_carryOne_168 : decode cX8_carryOne 168 = .ok (.iadd, 1) := by decide +kernel
theorem dX8_carryOne_169 : decode cX8_carryOne 169 = .ok (.iaload, 1) := by decide +kernel
theorem dX8_carryOne_170 : decode cX8_carryOne 170 = .ok (.aload_n 0, 1) := by decide +kernel
theorem dX8_carryOne_171 : decode cX8_carryOne 171 = .ok (.getfield 84, 3) := by decide +kernel
theorem dX8_carryOne_174 : decode cX8_carryOne 174 = .ok (.bipush 10, 2) := by decide +kernel
theorem dX8_carryOne_176 : decode cX8_carryOne 176 = .ok (.iload_n 2, 1) := by decide +kernel
theorem dX8_carryOne_177 : decode cX8_carryOne 177 = .ok (.imul, 1) := by decide +kernel
theorem dX8_carryOne_178 : decode cX8_carryOne 178 = .ok (.iload_n 3, 1) := by decide +kernel
theorem dX8_carryOne_179 : decode cX8_carryOne 179 = .ok (.iadd, 1) := by decide +kernel
theorem dX8_carryOne_180 : decode cX8_carryOne 180 = .ok (.iaload, 1) := by decide +kernel
theorem dX8_carryOne_181 : decode cX8_carryOne 181 = .ok (.isub, 1) := by decide +kernel
theorem dX8_carryOne_182 : decode cX8_carryOne 182 = .ok (.aload_n 0, 1) := by decide +kernel
theorem dX8_carryOne_183 : decode cX8_carryOne 183 = .ok (.getfield 108, 3) := by decide +kernel
theorem dX8_carryOne_186 : decode cX8_carryOne 186 = .ok (.iload_n 2, 1) := by decide +kernel
theorem dX8_carryOne_187 : decode cX8_carryOne 187 = .ok (.iaload, 1) := by decide +kernel
theorem dX8_carryOne_188 : decode cX8_carryOne 188 = .ok (.if_icmp .ge 42, 3) := by decide +kernel
theorem dX8_carryOne_191 : decode cX8_carryOne 191 = .ok (.aload_n 0, 1) := by decide +kernel
theorem dX8_carryOne_192 : decode cX8_carryOne 192 = .ok (.getfield 108, 3) := by decide +kernel
theorem dX8_carryOne_195 : decode cX8_carryOne 195 = .ok (.iload_n 2, 1) := by decide +kernel
theorem dX8_carryOne_196 : decode cX8_carryOne 196 = .ok (.aload_n 0, 1) := by decide +kernel
theorem dX8_carryOne_197 : decode cX8_carryOne 197 = .ok (.getfield 108, 3) := by decide +kernel
theorem dX8_carryOne_200 : decode cX8_carryOne 200 = .ok (.bipush 10, 2) := by decide +kernel
theorem dX8_carryOne_202 : decode cX8_carryOne 202 = .ok (.iload_n 3, 1) := by decide +kernel
theorem dX8_carryOne_203 : decode cX8_carryOne 203 = .ok (.iadd, 1) := by decide +kernel
theorem dX8_carryOne_204 : decode cX8_carryOne 204 = .ok (.iaload, 1) := by decide +kernel
theorem dX8_carryOne_205 : decode cX8_carryOne 205 = .ok (.aload_n 0, 1) := by decide +kernel
theorem dX8_carryOne_206 : decode cX8_carryOne 206 = .ok (.getfield 84, 3) := by decide +kernel
theorem dX8_carryOne_209 : decode cX8_carryOne 209 = .ok (.bipush 10, 2) := by decide +kernel
theorem dX8_carryOne_211 : decode cX8_carryOne 211 = .ok (.iload_n 2, 1) := by decide +kernel
theorem dX8_carryOne_212 : decode cX8_carryOne 212 = .ok (.imul, 1) := by decide +kernel
theorem dX8_carryOne_213 : decode cX8_carryOne 213 = .ok (.iload_n 3, 1) := by decide +kernel
theorem dX8_carryOne_214 : decode cX8_carryOne 214 = .ok (.iadd, 1) := by decide +kernel
theorem dX8_carryOne_215 : decode cX8_carryOne 215 = .ok (.iaload, 1) := by decide +kernel
theorem dX8_carryOne_216 : decode cX8_carryOne 216 = .ok (.isub, 1) := by decide +kernel
theorem dX8_carryOne_217 : decode cX8_carryOne 217 = .ok (.iastore, 1) := by decide +kernel
theorem dX8_carryOne_218 : decode cX8_carryOne 218 = .ok (.aload_n 0, 1) := by decide +kernel
theorem dX8_carryOne_219 : decode cX8_carryOne 219 = .ok (.getfield 111, 3) := by decide +kernel
theorem dX8_carryOne_222 : decode cX8_carryOne 222 = .ok (.iload_n 2, 1) := by decide +kernel
theorem dX8_carryOne_223 : decode cX8_carryOne 223 = .ok (.bipush 10, 2) := by decide +kernel
theorem dX8_carryOne_225 : decode cX8_carryOne 225 = .ok (.iload_n 3, 1) := by decide +kernel
theorem dX8_carryOne_226 : decode cX8_carryOne 226 = .ok (.iadd, 1) := by decide +kernel
theorem dX8_carryOne_227 : decode cX8_carryOne 227 = .ok (.iastore, 1) := by decide +kernel
theorem dX8_carryOne_228 : decode cX8_carryOne 228 = .ok (.iconst 1, 1) := by decide +kernel
theorem dX8_carryOne_229 : decode cX8_carryOne 229 = .ok (.istore_n 1, 1) := by decide +kernel
theorem dX8_carryOne_230 : decode cX8_carryOne 230 = .ok (.iinc 3 1, 3) := by decide +kernel
theorem dX8_carryOne_233 : decode cX8_carryOne 233 = .ok (.goto (-163), 3) := by decide +kernel
theorem dX8_carryOne_236 : decode cX8_carryOne 236 = .ok (.iinc 2 1, 3) := by decide +kernel
theorem dX8_carryOne_239 : decode cX8_carryOne 239 = .ok (.goto (-179), 3) := by decide +kernel
theorem dX8_carryOne_242 : decode cX8_carryOne 242 = .ok (.goto (-190), 3) := by decide +kernel
theorem dX8_carryOne_245 : decode cX8_carryOne 245 = .ok (.bipush (-9), 2) := by decide +kernel
theorem dX8_carryOne_247 : decode cX8_carryOne 247 = .ok (.istore_n 2, 1) := by decide +kernel
theorem dX8_carryOne_248 : decode cX8_carryOne 248 = .ok (.iconst 0, 1) := by decide +kernel
theorem dX8_carryOne_249 : decode cX8_carryOne 249 = .ok (.istore_n 3, 1) := by decide +kernel
theorem dX8_carryOne_250 : decode cX8_carryOne 250 = .ok (.iload_n 3, 1) := by decide +kernel
theorem dX8_carryOne_251 : decode cX8_carryOne 251 = .ok (.aload_n 0, 1) := by decide +kernel
theorem dX8_carryOne_252 : decode cX8_carryOne 252 = .ok (.getfield 115, 3) := by decide +kernel
theorem dX8_carryOne_255 : decode cX8_carryOne 255 = .ok (.if_icmp .ge 50, 3) := by decide +kernel
theorem dX8_carryOne_258 : decode cX8_carryOne 258 = .ok (.aload_n 0, 1) := by decide +kernel
theorem dX8_carryOne_259 : decode cX8_carryOne 259 = .ok (.iload_n 3, 1) := by decide +kernel
theorem dX8_carryOne_260 : decode cX8_carryOne 260 = .ok (.invokevirtual 217, 3) := by decide +kernel
theorem dX8_carryOne_263 : decode cX8_carryOne 263 = .ok (.ifCond .le 34, 3) := by decide +kernel
theorem dX8_carryOne_266 : decode cX8_carryOne 266 = .ok (.iload_n 2, 1) := by decide +kernel
theorem dX8_carryOne_267 : decode cX8_carryOne 267 = .ok (.bipush (-9), 2) := by decide +kernel
theorem dX8_carryOne_269 : decode cX8_carryOne 269 = .ok (.if_icmp .eq 24, 3) := by decide +kernel
theorem dX8_carryOne_272 : decode cX8_carryOne 272 = .ok (.aload_n 0, 1) := by decide +kernel
theorem dX8_carryOne_273 : decode cX8_carryOne 273 = .ok (.getfield 108, 3) := by decide +kernel
theorem dX8_carryOne_276 : decode cX8_carryOne 276 = .ok (.bipush 10, 2) := by decide +kernel
theorem dX8_carryOne_278 : decode cX8_carryOne 278 = .ok (.iload_n 3, 1) := by decide +kernel
theorem dX8_carryOne_279 : decode cX8_carryOne 279 = .ok (.iadd, 1) := by decide +kernel
theorem dX8_carryOne_280 : decode cX8_carryOne 280 = .ok (.iaload, 1) := by decide +kernel
theorem dX8_carryOne_281 : decode cX8_carryOne 281 = .ok (.aload_n 0, 1) := by decide +kernel
theorem dX8_carryOne_282 : decode cX8_carryOne 282 = .ok (.getfield 108, 3) := by decide +kernel
theorem dX8_carryOne_285 : decode cX8_carryOne 285 = .ok (.bipush 10, 2) := by decide +kernel
theorem dX8_carryOne_287 : decode cX8_carryOne 287 = .ok (.iload_n 2, 1) := by decide +kernel
theorem dX8_carryOne_288 : decode cX8_carryOne 288 = .ok (.iadd, 1) := by decide +kernel
theorem dX8_carryOne_289 : decode cX8_carryOne 289 = .ok (.iaload, 1) := by decide +kernel
theorem dX8_carryOne_290 : decode cX8_carryOne 290 = .ok (.if_icmp .ge 7, 3) := by decide +kernel
theorem dX8_carryOne_293 : decode cX8_carryOne 293 = .ok (.iload_n 3, 1) := by decide +kernel
theorem dX8_carryOne_294 : decode cX8_carryOne 294 = .ok (.goto 4, 3) := by decide +kernel
theorem dX8_carryOne_297 : decode cX8_carryOne 297 = .ok (.iload_n 2, 1) := by decide +kernel
theorem dX8_carryOne_298 : decode cX8_carryOne 298 = .ok (.istore_n 2, 1) := by decide +kernel
theorem dX8_carryOne_299 : decode cX8_carryOne 299 = .ok (.iinc 3 1, 3) := by decide +kernel
theorem dX8_carryOne_302 : decode cX8_carryOne 302 = .ok (.goto (-52), 3) := by decide +kernel
theorem dX8_carryOne_305 : decode cX8_carryOne 305 = .ok (.aload_n 0, 1) := by decide +kernel
theorem dX8_carryOne_306 : decode cX8_carryOne 306 = .ok (.getfield 108, 3) := by decide +kernel
theorem dX8_carryOne_309 : decode cX8_carryOne 309 = .ok (.bipush 10, 2) := by decide +kernel
theorem dX8_carryOne_311 : decode cX8_carryOne 311 = .ok (.iload_n 2, 1) := by decide +kernel
theorem dX8_carryOne_312 : decode cX8_carryOne 312 = .ok (.iadd, 1) := by decide +kernel
theorem dX8_carryOne_313 : decode cX8_carryOne 313 = .ok (.iaload, 1) := by decide +kernel
theorem dX8_carryOne_314 : decode cX8_carryOne 314 = .ok (.istore_n 3, 1) := by decide +kernel
theorem dX8_carryOne_315 : decode cX8_carryOne 315 = .ok (.bipush 10, 2) := by decide +kernel
theorem dX8_carryOne_317 : decode cX8_carryOne 317 = .ok (.iload_n 2, 1) := by decide +kernel
theorem dX8_carryOne_318 : decode cX8_carryOne 318 = .ok (.iadd, 1) := by decide +kernel
theorem dX8_carryOne_319 : decode cX8_carryOne 319 = .ok (.istore 4, 2) := by decide +kernel
theorem dX8_carryOne_321 : decode cX8_carryOne 321 = .ok (.aload_n 0, 1) := by decide +kernel
theorem dX8_carryOne_322 : decode cX8_carryOne 322 = .ok (.getfield 111, 3) := by decide +kernel
theorem dX8_carryOne_325 : decode cX8_carryOne 325 = .ok (.iload 4, 2) := by decide +kernel
theorem dX8_carryOne_327 : decode cX8_carryOne 327 = .ok (.iaload, 1) := by decide +kernel
theorem dX8_carryOne_328 : decode cX8_carryOne 328 = .ok (.bipush (-9), 2) := by decide +kernel
theorem dX8_carryOne_330 : decode cX8_carryOne 330 = .ok (.if_icmp .eq 81, 3) := by decide +kernel
theorem dX8_carryOne_333 : decode cX8_carryOne 333 = .ok (.iload 4, 2) := by decide +kernel
theorem dX8_carryOne_335 : decode cX8_carryOne 335 = .ok (.bipush 10, 2) := by decide +kernel
theorem dX8_carryOne_337 : decode cX8_carryOne 337 = .ok (.if_icmp .lt 22, 3) := by decide +kernel
theorem dX8_carryOne_340 : decode cX8_carryOne 340 = .ok (.bipush 10, 2) := by decide +kernel
theorem dX8_carryOne_342 : decode cX8_carryOne 342 = .ok (.aload_n 0, 1) := by decide +kernel
theorem dX8_carryOne_343 : decode cX8_carryOne 343 = .ok (.getfield 111, 3) := by decide +kernel
theorem dX8_carryOne_346 : decode cX8_carryOne 346 = .ok (.iload 4, 2) := by decide +kernel
theorem dX8_carryOne_348 : decode cX8_carryOne 348 = .ok (.iaload, 1) := by decide +kernel
theorem dX8_carryOne_349 : decode cX8_carryOne 349 = .ok (.imul, 1) := by decide +kernel
theorem dX8_carryOne_350 : decode cX8_carryOne 350 = .ok (.iload 4, 2) := by decide +kernel
theorem dX8_carryOne_352 : decode cX8_carryOne 352 = .ok (.iadd, 1) := by decide +kernel
theorem dX8_carryOne_353 : decode cX8_carryOne 353 = .ok (.bipush 10, 2) := by decide +kernel
theorem dX8_carryOne_355 : decode cX8_carryOne 355 = .ok (.isub, 1) := by decide +kernel
theorem dX8_carryOne_356 : decode cX8_carryOne 356 = .ok (.goto 19, 3) := by decide +kernel
theorem dX8_carryOne_359 : decode cX8_carryOne 359 = .ok (.bipush 10, 2) := by decide +kernel
theorem dX8_carryOne_361 : decode cX8_carryOne 361 = .ok (.iload 4, 2) := by decide +kernel
theorem dX8_carryOne_363 : decode cX8_carryOne 363 = .ok (.imul, 1) := by decide +kernel
theorem dX8_carryOne_364 : decode cX8_carryOne 364 = .ok (.aload_n 0, 1) := by decide +kernel
theorem dX8_carryOne_365 : decode cX8_carryOne 365 = .ok (.getfield 111, 3) := by decide +kernel
theorem dX8_carryOne_368 : decode cX8_carryOne 368 = .ok (.iload 4, 2) := by decide +kernel
theorem dX8_carryOne_370 : decode cX8_carryOne 370 = .ok (.iaload, 1) := by decide +kernel
theorem dX8_carryOne_371 : decode cX8_carryOne 371 = .ok (.iadd, 1) := by decide +kernel
theorem dX8_carryOne_372 : decode cX8_carryOne 372 = .ok (.bipush 10, 2) := by decide +kernel
theorem dX8_carryOne_374 : decode cX8_carryOne 374 = .ok (.isub, 1) := by decide +kernel
theorem dX8_carryOne_375 : decode cX8_carryOne 375 = .ok (.istore 5, 2) := by decide +kernel
theorem dX8_carryOne_377 : decode cX8_carryOne 377 = .ok (.aload_n 0, 1) := by decide +kernel
theorem dX8_carryOne_378 : decode cX8_carryOne 378 = .ok (.getfield 105, 3) := by decide +kernel
theorem dX8_carryOne_381 : decode cX8_carryOne 381 = .ok (.iload 5, 2) := by decide +kernel
theorem dX8_carryOne_383 : decode cX8_carryOne 383 = .ok (.dup2, 1) := by decide +kernel
theorem dX8_carryOne_384 : decode cX8_carryOne 384 = .ok (.iaload, 1) := by decide +kernel
theorem dX8_carryOne_385 : decode cX8_carryOne 385 = .ok (.iload 4, 2) := by decide +kernel
theorem dX8_carryOne_387 : decode cX8_carryOne 387 = .ok (.bipush 10, 2) := by decide +kernel
theorem dX8_carryOne_389 : decode cX8_carryOne 389 = .ok (.if_icmp .lt 7, 3) := by decide +kernel
theorem dX8_carryOne_392 : decode cX8_carryOne 392 = .ok (.iconst 1, 1) := by decide +kernel
theorem dX8_carryOne_393 : decode cX8_carryOne 393 = .ok (.goto 4, 3) := by decide +kernel
theorem dX8_carryOne_396 : decode cX8_carryOne 396 = .ok (.iconst (-1), 1) := by decide +kernel
theorem dX8_carryOne_397 : decode cX8_carryOne 397 = .ok (.iadd, 1) := by decide +kernel
theorem dX8_carryOne_398 : decode cX8_carryOne 398 = .ok (.iastore, 1) := by decide +kernel
theorem dX8_carryOne_399 : decode cX8_carryOne 399 = .ok (.aload_n 0, 1) := by decide +kernel
theorem dX8_carryOne_400 : decode cX8_carryOne 400 = .ok (.getfield 111, 3) := by decide +kernel
theorem dX8_carryOne_403 : decode cX8_carryOne 403 = .ok (.iload 4, 2) := by decide +kernel
theorem dX8_carryOne_405 : decode cX8_carryOne 405 = .ok (.iaload, 1) := by decide +kernel
theorem dX8_carryOne_406 : decode cX8_carryOne 406 = .ok (.istore 4, 2) := by decide +kernel
theorem dX8_carryOne_408 : decode cX8_carryOne 408 = .ok (.goto (-87), 3) := by decide +kernel
theorem dX8_carryOne_411 : decode cX8_carryOne 411 = .ok (.iload_n 3, 1) := by decide +kernel
theorem dX8_carryOne_412 : decode cX8_carryOne 412 = .ok (.ireturn, 1) := by decide +kernel
theorem dX8_check_0 : decode cX8_check 0 = .ok (.aload_n 0, 1) := by decide +kernel
theorem dX8_check_1 : decode cX8_check 1 = .ok (.iload_n 1, 1) := by decide +kernel
theorem dX8_check_2 : decode cX8_check 2 = .ok (.invokevirtual 143, 3) := by decide +kernel
theorem dX8_check_5 : decode cX8_check 5 = .ok (.ifCond .ne 5, 3) := by decide +kernel
theorem dX8_check_8 : decode cX8_check 8 = .ok (.iconst 0, 1) := by decide +kernel
theorem dX8_check_9 : decode cX8_check 9 = .ok (.ireturn, 1) := by decide +kernel
theorem dX8_check_10 : decode cX8_check 10 = .ok (.lconst 0, 1) := by decide +kernel
theorem dX8_check_11 : decode cX8_check 11 = .ok (.lstore_n 2, 1) := by decide +kernel
theorem dX8_check_12 : decode cX8_check 12 = .ok (.iconst 0, 1) := by decide +kernel
theorem dX8_check_13 : decode cX8_check 13 = .ok (.istore 4, 2) := by decide +kernel
theorem dX8_check_15 : decode cX8_check 15 = .ok (.iload 4, 2) := by decide +kernel
theorem dX8_check_17 : decode cX8_check 17 = .ok (.aload_n 0, 1) := by decide +kernel
theorem dX8_check_18 : decode cX8_check 18 = .ok (.getfield 133, 3) := by decide +kernel
theorem dX8_check_21 : decode cX8_check 21 = .ok (.if_icmp .ge 35, 3) := by decide +kernel
theorem dX8_check_24 : decode cX8_check 24 = .ok (.lload_n 2, 1) := by decide +kernel
theorem dX8_check_25 : decode cX8_check 25 = .ok (.aload_n 0, 1) := by decide +kernel
theorem dX8_check_26 : decode cX8_check 26 = .ok (.getfield 19, 3) := by decide +kernel
theorem dX8_check_29 : decode cX8_check 29 = .ok (.iload 4, 2) := by decide +kernel
theorem dX8_check_31 : decode cX8_check 31 = .ok (.iaload, 1) := by decide +kernel
theorem dX8_check_32 : decode cX8_check 32 = .ok (.iload_n 1, 1) := by decide +kernel
theorem dX8_check_33 : decode cX8_check 33 = .ok (.if_icmp .ne 14, 3) := by decide +kernel
theorem dX8_check_36 : decode cX8_check 36 = .ok (.aload_n 0, 1) := by decide +kernel
theorem dX8_check_37 : decode cX8_check 37 = .ok (.getfield 25, 3) := by decide +kernel
theorem dX8_check_40 : decode cX8_check 40 = .ok (.iload 4, 2) := by decide +kernel
theorem dX8_check_42 : decode cX8_check 42 = .ok (.iaload, 1) := by decide +kernel
theorem dX8_check_43 : decode cX8_check 43 = .ok (.i2l, 1) := by decide +kernel
theorem dX8_check_44 : decode cX8_check 44 = .ok (.goto 4, 3) := by decide +kernel
theorem dX8_check_47 : decode cX8_check 47 = .ok (.lconst 0, 1) := by decide +kernel
theorem dX8_check_48 : decode cX8_check 48 = .ok (.ladd, 1) := by decide +kernel
theorem dX8_check_49 : decode cX8_check 49 = .ok (.lstore_n 2, 1) := by decide +kernel
theorem dX8_check_50 : decode cX8_check 50 = .ok (.iinc 4 1, 3) := by decide +kernel
theorem dX8_check_53 : decode cX8_check 53 = .ok (.goto (-38), 3) := by decide +kernel
theorem dX8_check_56 : decode cX8_check 56 = .ok (.iconst 0, 1) := by decide +kernel
theorem dX8_check_57 : decode cX8_check 57 = .ok (.istore 4, 2) := by decide +kernel
theorem dX8_check_59 : decode cX8_check 59 = .ok (.iload 4, 2) := by decide +kernel
theorem dX8_check_61 : decode cX8_check 61 = .ok (.aload_n 0, 1) := by decide +kernel
theorem dX8_check_62 : decode cX8_check 62 = .ok (.getfield 115, 3) := by decide +kernel
theorem dX8_check_65 : decode cX8_check 65 = .ok (.if_icmp .ge 25, 3) := by decide +kernel
theorem dX8_check_68 : decode cX8_check 68 = .ok (.lload_n 2, 1) := by decide +kernel
theorem dX8_check_69 : decode cX8_check 69 = .ok (.aload_n 0, 1) := by decide +kernel
theorem dX8_check_70 : decode cX8_check 70 = .ok (.getfield 72, 3) := by decide +kernel
theorem dX8_check_73 : decode cX8_check 73 = .ok (.bipush 6, 2) := by decide +kernel
theorem dX8_check_75 : decode cX8_check 75 = .ok (.iload 4, 2) := by decide +kernel
theorem dX8_check_77 : decode cX8_check 77 = .ok (.imul, 1) := by decide +kernel
theorem dX8_check_78 : decode cX8_check 78 = .ok (.iload_n 1, 1) := by decide +kernel
theorem dX8_check_79 : decode cX8_check 79 = .ok (.iadd, 1) := by decide +kernel
theorem dX8_check_80 : decode cX8_check 80 = .ok (.iaload, 1) := by decide +kernel
theorem dX8_check_81 : decode cX8_check 81 = .ok (.i2l, 1) := by decide +kernel
theorem dX8_check_82 : decode cX8_check 82 = .ok (.ladd, 1) := by decide +kernel
theorem dX8_check_83 : decode cX8_check 83 = .ok (.lstore_n 2, 1) := by decide +kernel
theorem dX8_check_84 : decode cX8_check 84 = .ok (.iinc 4 1, 3) := by decide +kernel
theorem dX8_check_87 : decode cX8_check 87 = .ok (.goto (-28), 3) := by decide +kernel
theorem dX8_check_90 : decode cX8_check 90 = .ok (.lload_n 2, 1) := by decide +kernel
theorem dX8_check_91 : decode cX8_check 91 = .ok (.aload_n 0, 1) := by decide +kernel
theorem dX8_check_92 : decode cX8_check 92 = .ok (.getfield 28, 3) := by decide +kernel
theorem dX8_check_95 : decode cX8_check 95 = .ok (.iload_n 1, 1) := by decide +kernel
theorem dX8_check_96 : decode cX8_check 96 = .ok (.laload, 1) := by decide +kernel
theorem dX8_check_97 : decode cX8_check 97 = .ok (.lcmp, 1) := by decide +kernel
theorem dX8_check_98 : decode cX8_check 98 = .ok (.ifCond .ne 7, 3) := by decide +kernel
theorem dX8_check_101 : decode cX8_check 101 = .ok (.iconst 1, 1) := by decide +kernel
theorem dX8_check_102 : decode cX8_check 102 = .ok (.goto 4, 3) := by decide +kernel
theorem dX8_check_105 : decode cX8_check 105 = .ok (.iconst 0, 1) := by decide +kernel
theorem dX8_check_106 : decode cX8_check 106 = .ok (.ireturn, 1) := by decide +kernel
theorem dX8_count_0 : decode cX8_count 0 = .ok (.iconst 0, 1) := by decide +kernel
theorem dX8_count_1 : decode cX8_count 1 = .ok (.istore_n 2, 1) := by decide +kernel
theorem dX8_count_2 : decode cX8_count 2 = .ok (.iload_n 1, 1) := by decide +kernel
theorem dX8_count_3 : decode cX8_count 3 = .ok (.tableswitch 162 0 8 #[49, 54, 59, 64, 69, 74, 109, 114, 157], 49) := by decide +kernel
theorem dX8_count_52 : decode cX8_count 52 = .ok (.aload_n 0, 1) := by decide +kernel
theorem dX8_count_53 : decode cX8_count 53 = .ok (.getfield 130, 3) := by decide +kernel
theorem dX8_count_56 : decode cX8_count 56 = .ok (.ireturn, 1) := by decide +kernel
theorem dX8_count_57 : decode cX8_count 57 = .ok (.aload_n 0, 1) := by decide +kernel
theorem dX8_count_58 : decode cX8_count 58 = .ok (.getfield 115, 3) := by decide +kernel
theorem dX8_count_61 : decode cX8_count 61 = .ok (.ireturn, 1) := by decide +kernel
theorem dX8_count_62 : decode cX8_count 62 = .ok (.aload_n 0, 1) := by decide +kernel
theorem dX8_count_63 : decode cX8_count 63 = .ok (.getfield 123, 3) := by decide +kernel
theorem dX8_count_66 : decode cX8_count 66 = .ok (.ireturn, 1) := by decide +kernel
theorem dX8_count_67 : decode cX8_count 67 = .ok (.aload_n 0, 1) := by decide +kernel
theorem dX8_count_68 : decode cX8_count 68 = .ok (.getfield 133, 3) := by decide +kernel
theorem dX8_count_71 : decode cX8_count 71 = .ok (.ireturn, 1) := by decide +kernel
theorem dX8_count_72 : decode cX8_count 72 = .ok (.aload_n 0, 1) := by decide +kernel
theorem dX8_count_73 : decode cX8_count 73 = .ok (.getfield 158, 3) := by decide +kernel
theorem dX8_count_76 : decode cX8_count 76 = .ok (.ireturn, 1) := by decide +kernel
theorem dX8_count_77 : decode cX8_count 77 = .ok (.iconst 0, 1) := by decide +kernel
theorem dX8_count_78 : decode cX8_count 78 = .ok (.istore_n 3, 1) := by decide +kernel
theorem dX8_count_79 : decode cX8_count 79 = .ok (.iload_n 3, 1) := by decide +kernel
theorem dX8_count_80 : decode cX8_count 80 = .ok (.aload_n 0, 1) := by decide +kernel
theorem dX8_count_81 : decode cX8_count 81 = .ok (.getfield 158, 3) := by decide +kernel
theorem dX8_count_84 : decode cX8_count 84 = .ok (.if_icmp .ge 26, 3) := by decide +kernel
theorem dX8_count_87 : decode cX8_count 87 = .ok (.iload_n 2, 1) := by decide +kernel
theorem dX8_count_88 : decode cX8_count 88 = .ok (.aload_n 0, 1) := by decide +kernel
theorem dX8_count_89 : decode cX8_count 89 = .ok (.getfield 54, 3) := by decide +kernel
theorem dX8_count_92 : decode cX8_count 92 = .ok (.iload_n 3, 1) := by decide +kernel
theorem dX8_count_93 : decode cX8_count 93 = .ok (.iaload, 1) := by decide +kernel
theorem dX8_count_94 : decode cX8_count 94 = .ok (.ifCond .ne 7, 3) := by decide +kernel
theorem dX8_count_97 : decode cX8_count 97 = .ok (.iconst 1, 1) := by decide +kernel
theorem dX8_count_98 : decode cX8_count 98 = .ok (.goto 4, 3) := by decide +kernel
theorem dX8_count_101 : decode cX8_count 101 = .ok (.iconst 0, 1) := by decide +kernel
theorem dX8_count_102 : decode cX8_count 102 = .ok (.iadd, 1) := by decide +kernel
theorem dX8_count_103 : decode cX8_count 103 = .ok (.istore_n 2, 1) := by decide +kernel
theorem dX8_count_104 : decode cX8_count 104 = .ok (.iinc 3 1, 3) := by decide +kernel
theorem dX8_count_107 : decode cX8_count 107 = .ok (.goto (-28), 3) := by decide +kernel
theorem dX8_count_110 : decode cX8_count 110 = .ok (.iload_n 2, 1) := by decide +kernel
theorem dX8_count_111 : decode cX8_count 111 = .ok (.ireturn, 1) := by decide +kernel
theorem dX8_count_112 : decode cX8_count 112 = .ok (.aload_n 0, 1) := by decide +kernel
theorem dX8_count_113 : decode cX8_count 113 = .ok (.getfield 176, 3) := by decide +kernel
theorem dX8_count_116 : decode cX8_count 116 = .ok (.ireturn, 1) := by decide +kernel
theorem dX8_count_117 : decode cX8_count 117 = .ok (.iconst 0, 1) := by decide +kernel
theorem dX8_count_118 : decode cX8_count 118 = .ok (.istore_n 3, 1) := by decide +kernel
theorem dX8_count_119 : decode cX8_count 119 = .ok (.iload_n 3, 1) := by decide +kernel
theorem dX8_count_120 : decode cX8_count 120 = .ok (.aload_n 0, 1) := by decide +kernel
theorem dX8_count_121 : decode cX8_count 121 = .ok (.getfield 176, 3) := by decide +kernel
theorem dX8_count_124 : decode cX8_count 124 = .ok (.if_icmp .ge 34, 3) := by decide +kernel
theorem dX8_count_127 : decode cX8_count 127 = .ok (.iload_n 2, 1) := by decide +kernel
theorem dX8_count_128 : decode cX8_count 128 = .ok (.aload_n 0, 1) := by decide +kernel
theorem dX8_count_129 : decode cX8_count 129 = .ok (.iload_n 3, 1) := by decide +kernel
theorem dX8_count_130 : decode cX8_count 130 = .ok (.invokevirtual 183, 3) := by decide +kernel
theorem dX8_count_133 : decode cX8_count 133 = .ok (.ifCond .eq 16, 3) := by decide +kernel
theorem dX8_count_136 : decode cX8_count 136 = .ok (.aload_n 0, 1) := by decide +kernel
theorem dX8_count_137 : decode cX8_count 137 = .ok (.getfield 69, 3) := by decide +kernel
theorem dX8_count_140 : decode cX8_count 140 = .ok (.iload_n 3, 1) := by decide +kernel
theorem dX8_count_141 : decode cX8_count 141 = .ok (.baload, 1) := by decide +kernel
theorem dX8_count_142 : decode cX8_count 142 = .ok (.ifCond .ne 7, 3) := by decide +kernel
theorem dX8_count_145 : decode cX8_count 145 = .ok (.iconst 1, 1) := by decide +kernel
theorem dX8_count_146 : decode cX8_count 146 = .ok (.goto 4, 3) := by decide +kernel
theorem dX8_count_149 : decode cX8_count 149 = .ok (.iconst 0, 1) := by decide +kernel
theorem dX8_count_150 : decode cX8_count 150 = .ok (.iadd, 1) := by decide +kernel
theorem dX8_count_151 : decode cX8_count 151 = .ok (.istore_n 2, 1) := by decide +kernel
theorem dX8_count_152 : decode cX8_count 152 = .ok (.iinc 3 1, 3) := by decide +kernel
theorem dX8_count_155 : decode cX8_count 155 = .ok (.goto (-36), 3) := by decide +kernel
theorem dX8_count_158 : decode cX8_count 158 = .ok (.iload_n 2, 1) := by decide +kernel
theorem dX8_count_159 : decode cX8_count 159 = .ok (.ireturn, 1) := by decide +kernel
theorem dX8_count_160 : decode cX8_count 160 = .ok (.aload_n 0, 1) := by decide +kernel
theorem dX8_count_161 : decode cX8_count 161 = .ok (.getfield 136, 3) := by decide +kernel
theorem dX8_count_164 : decode cX8_count 164 = .ok (.ireturn, 1) := by decide +kernel
theorem dX8_count_165 : decode cX8_count 165 = .ok (.iload_n 1, 1) := by decide +kernel
theorem dX8_count_166 : decode cX8_count 166 = .ok (.bipush 11, 2) := by decide +kernel
theorem dX8_count_168 : decode cX8_count 168 = .ok (.bipush 16, 2) := by decide +kernel
theorem dX8_count_170 : decode cX8_count 170 = .ok (.invokestatic 119, 3) := by decide +kernel
theorem dX8_count_173 : decode cX8_count 173 = .ok (.ifCond .eq 15, 3) := by decide +kernel
theorem dX8_count_176 : decode cX8_count 176 = .ok (.aload_n 0, 1) := by decide +kernel
theorem dX8_count_177 : decode cX8_count 177 = .ok (.getfield 87, 3) := by decide +kernel
theorem dX8_count_180 : decode cX8_count 180 = .ok (.iload_n 1, 1) := by decide +kernel
theorem dX8_count_181 : decode cX8_count 181 = .ok (.bipush 10, 2) := by decide +kernel
theorem dX8_count_183 : decode cX8_count 183 = .ok (.isub, 1) := by decide +kernel
theorem dX8_count_184 : decode cX8_count 184 = .ok (.iaload, 1) := by decide +kernel
theorem dX8_count_185 : decode cX8_count 185 = .ok (.goto 5, 3) := by decide +kernel
theorem dX8_count_188 : decode cX8_count 188 = .ok (.bipush (-9), 2) := by decide +kernel
theorem dX8_count_190 : decode cX8_count 190 = .ok (.ireturn, 1) := by decide +kernel
theorem dJ9_abs_0f7a4_0 : decode cJ9_abs_0f7a4 0 = .ok (.iload_n 0, 1) := by decide +kernel
theorem dJ9_abs_0f7a4_1 : decode cJ9_abs_0f7a4 1 = .ok (.ifCond .ge 8, 3) := by decide +kernel
theorem dJ9_abs_0f7a4_4 : decode cJ9_abs_0f7a4 4 = .ok (.iload_n 0, 1) := by decide +kernel
theorem dJ9_abs_0f7a4_5 : decode cJ9_abs_0f7a4 5 = .ok (.ineg, 1) := by decide +kernel
theorem dJ9_abs_0f7a4_6 : decode cJ9_abs_0f7a4 6 = .ok (.goto 4, 3) := by decide +kernel
theorem dJ9_abs_0f7a4_9 : decode cJ9_abs_0f7a4 9 = .ok (.iload_n 0, 1) := by decide +kernel
theorem dJ9_abs_0f7a4_10 : decode cJ9_abs_0f7a4 10 = .ok (.ireturn, 1) := by decide +kernel
theorem dJ9_max_7cf53_0 : decode cJ9_max_7cf53 0 = .ok (.iload_n 0, 1) := by decide +kernel
theorem dJ9_max_7cf53_1 : decode cJ9_max_7cf53 1 = .ok (.iload_n 1, 1) := by decide +kernel
theorem dJ9_max_7cf53_2 : decode cJ9_max_7cf53 2 = .ok (.if_icmp .lt 7, 3) := by decide +kernel
theorem dJ9_max_7cf53_5 : decode cJ9_max_7cf53 5 = .ok (.iload_n 0, 1) := by decide +kernel
theorem dJ9_max_7cf53_6 : decode cJ9_max_7cf53 6 = .ok (.goto 4, 3) := by decide +kernel
theorem dJ9_max_7cf53_9 : decode cJ9_max_7cf53 9 = .ok (.iload_n 1, 1) := by decide +kernel
theorem dJ9_max_7cf53_10 : decode cJ9_max_7cf53 10 = .ok (.ireturn, 1) := by decide +kernel
theorem dJ9_max_f86c9_0 : decode cJ9_max_f86c9 0 = .ok (.lload_n 0, 1) := by decide +kernel
theorem dJ9_max_f86c9_1 : decode cJ9_max_f86c9 1 = .ok (.lload_n 2, 1) := by decide +kernel
theorem dJ9_max_f86c9_2 : decode cJ9_max_f86c9 2 = .ok (.lcmp, 1) := by decide +kernel
theorem dJ9_max_f86c9_3 : decode cJ9_max_f86c9 3 = .ok (.ifCond .lt 7, 3) := by decide +kernel
theorem dJ9_max_f86c9_6 : decode cJ9_max_f86c9 6 = .ok (.lload_n 0, 1) := by decide +kernel
theorem dJ9_max_f86c9_7 : decode cJ9_max_f86c9 7 = .ok (.goto 4, 3) := by decide +kernel
theorem dJ9_max_f86c9_10 : decode cJ9_max_f86c9 10 = .ok (.lload_n 2, 1) := by decide +kernel
theorem dJ9_max_f86c9_11 : decode cJ9_max_f86c9 11 = .ok (.lreturn, 1) := by decide +kernel
theorem dJ9_min_7cf53_0 : decode cJ9_min_7cf53 0 = .ok (.iload_n 0, 1) := by decide +kernel
theorem dJ9_min_7cf53_1 : decode cJ9_min_7cf53 1 = .ok (.iload_n 1, 1) := by decide +kernel
theorem dJ9_min_7cf53_2 : decode cJ9_min_7cf53 2 = .ok (.if_icmp .gt 7, 3) := by decide +kernel
theorem dJ9_min_7cf53_5 : decode cJ9_min_7cf53 5 = .ok (.iload_n 0, 1) := by decide +kernel
theorem dJ9_min_7cf53_6 : decode cJ9_min_7cf53 6 = .ok (.goto 4, 3) := by decide +kernel
theorem dJ9_min_7cf53_9 : decode cJ9_min_7cf53 9 = .ok (.iload_n 1, 1) := by decide +kernel
theorem dJ9_min_7cf53_10 : decode cJ9_min_7cf53 10 = .ok (.ireturn, 1) := by decide +kernel
theorem dJ7_fill_53178_0 : decode cJ7_fill_53178 0 = .ok (.iconst 0, 1) := by decide +kernel
theorem dJ7_fill_53178_1 : decode cJ7_fill_53178 1 = .ok (.istore_n 2, 1) := by decide +kernel
theorem dJ7_fill_53178_2 : decode cJ7_fill_53178 2 = .ok (.aload_n 0, 1) := by decide +kernel
theorem dJ7_fill_53178_3 : decode cJ7_fill_53178 3 = .ok (.arraylength, 1) := by decide +kernel
theorem dJ7_fill_53178_4 : decode cJ7_fill_53178 4 = .ok (.istore_n 3, 1) := by decide +kernel
theorem dJ7_fill_53178_5 : decode cJ7_fill_53178 5 = .ok (.iload_n 2, 1) := by decide +kernel
theorem dJ7_fill_53178_6 : decode cJ7_fill_53178 6 = .ok (.iload_n 3, 1) := by decide +kernel
theorem dJ7_fill_53178_7 : decode cJ7_fill_53178 7 = .ok (.if_icmp .ge 13, 3) := by decide +kernel
theorem dJ7_fill_53178_10 : decode cJ7_fill_53178 10 = .ok (.aload_n 0, 1) := by decide +kernel
theorem dJ7_fill_53178_11 : decode cJ7_fill_53178 11 = .ok (.iload_n 2, 1) := by decide +kernel
theorem dJ7_fill_53178_12 : decode cJ7_fill_53178 12 = .ok (.iload_n 1, 1) := by decide +kernel
theorem dJ7_fill_53178_13 : decode cJ7_fill_53178 13 = .ok (.iastore, 1) := by decide +kernel
theorem dJ7_fill_53178_14 : decode cJ7_fill_53178 14 = .ok (.iinc 2 1, 3) := by decide +kernel
theorem dJ7_fill_53178_17 : decode cJ7_fill_53178 17 = .ok (.goto (-12), 3) := by decide +kernel
theorem dJ7_fill_53178_20 : decode cJ7_fill_53178 20 = .ok (.return_, 1) := by decide +kernel
theorem dL_law_0 : decode cL_law 0 = .ok (.new 7, 3) := by decide +kernel
theorem dL_law_3 : decode cL_law 3 = .ok (.dup, 1) := by decide +kernel
theorem dL_law_4 : decode cL_law 4 = .ok (.invokespecial 9, 3) := by decide +kernel
theorem dL_law_7 : decode cL_law 7 = .ok (.astore_n 1, 1) := by decide +kernel
theorem dL_law_8 : decode cL_law 8 = .ok (.new 10, 3) := by decide +kernel
theorem dL_law_11 : decode cL_law 11 = .ok (.dup, 1) := by decide +kernel
theorem dL_law_12 : decode cL_law 12 = .ok (.invokespecial 12, 3) := by decide +kernel
theorem dL_law_15 : decode cL_law 15 = .ok (.astore_n 2, 1) := by decide +kernel
theorem dL_law_16 : decode cL_law 16 = .ok (.iconst 0, 1) := by decide +kernel
theorem dL_law_17 : decode cL_law 17 = .ok (.istore_n 3, 1) := by decide +kernel
theorem dL_law_18 : decode cL_law 18 = .ok (.iload_n 3, 1) := by decide +kernel
theorem dL_law_19 : decode cL_law 19 = .ok (.aload_n 0, 1) := by decide +kernel
theorem dL_law_20 : decode cL_law 20 = .ok (.arraylength, 1) := by decide +kernel
theorem dL_law_21 : decode cL_law 21 = .ok (.bipush 6, 2) := by decide +kernel
theorem dL_law_23 : decode cL_law 23 = .ok (.isub, 1) := by decide +kernel
theorem dL_law_24 : decode cL_law 24 = .ok (.if_icmp .gt 1101, 3) := by decide +kernel
theorem dL_law_27 : decode cL_law 27 = .ok (.aload_n 0, 1) := by decide +kernel
theorem dL_law_28 : decode cL_law 28 = .ok (.iload_n 3, 1) := by decide +kernel
theorem dL_law_29 : decode cL_law 29 = .ok (.iaload, 1) := by decide +kernel
theorem dL_law_30 : decode cL_law 30 = .ok (.bipush 31, 2) := by decide +kernel
theorem dL_law_32 : decode cL_law 32 = .ok (.iand, 1) := by decide +kernel
theorem dL_law_33 : decode cL_law 33 = .ok (.tableswitch 1086 0 28 #[131, 144, 177, 200, 243, 286, 365, 388, 411, 424, 457, 500, 543, 576, 609, 642, 676, 689, 723, 756, 789, 842, 885, 918, 941, 984, 1027, 1040, 1063], 131) := by decide +kernel
theorem dL_law_164 : decode cL_law 164 = .ok (.aload_n 1, 1) := by decide +kernel
theorem dL_law_165 : decode cL_law 165 = .ok (.invokevirtual 13, 3) := by decide +kernel
theorem dL_law_168 : decode cL_law 168 = .ok (.aload_n 2, 1) := by decide +kernel
theorem dL_law_169 : decode cL_law 169 = .ok (.invokevirtual 17, 3) := by decide +kernel
theorem dL_law_172 : decode cL_law 172 = .ok (.if_icmp .eq 947, 3) := by decide +kernel
theorem dL_law_175 : decode cL_law 175 = .ok (.iconst 0, 1) := by decide +kernel
theorem dL_law_176 : decode cL_law 176 = .ok (.ireturn, 1) := by decide +kernel
theorem dL_law_177 : decode cL_law 177 = .ok (.aload_n 1, 1) := by decide +kernel
theorem dL_law_178 : decode cL_law 178 = .ok (.aload_n 0, 1) := by decide +kernel
theorem dL_law_179 : decode cL_law 179 = .ok (.iload_n 3, 1) := by decide +kernel
theorem dL_law_180 : decode cL_law 180 = .ok (.iconst 1, 1) := by decide +kernel
theorem dL_law_181 : decode cL_law 181 = .ok (.iadd, 1) := by decide +kernel
theorem dL_law_182 : decode cL_law 182 = .ok (.iaload, 1) := by decide +kernel
theorem dL_law_183 : decode cL_law 183 = .ok (.aload_n 0, 1) := by decide +kernel
theorem dL_law_184 : decode cL_law 184 = .ok (.iload_n 3, 1) := by decide +kernel
theorem dL_law_185 : decode cL_law 185 = .ok (.iconst 2, 1) := by decide +kernel
theorem dL_law_186 : decode cL_law 186 = .ok (.iadd, 1) := by decide +kernel
theorem dL_law_187 : decode cL_law 187 = .ok (.iaload, 1) := by decide +kernel
theorem dL_law_188 : decode cL_law 188 = .ok (.invokevirtual 18, 3) := by decide +kernel
theorem dL_law_191 : decode cL_law 191 = .ok (.aload_n 2, 1) := by decide +kernel
theorem dL_law_192 : decode cL_law 192 = .ok (.aload_n 0, 1) := by decide +kernel
theorem dL_law_193 : decode cL_law 193 = .ok (.iload_n 3, 1) := by decide +kernel
theorem dL_law_194 : decode cL_law 194 = .ok (.iconst 1, 1) := by decide +kernel
theorem dL_law_195 : decode cL_law 195 = .ok (.iadd, 1) := by decide +kernel
theorem dL_law_196 : decode cL_law 196 = .ok (.iaload, 1) := by decide +kernel
theorem dL_law_197 : decode cL_law 197 = .ok (.aload_n 0, 1) := by decide +kernel
theorem dL_law_198 : decode cL_law 198 = .ok (.iload_n 3, 1) := by decide +kernel
theorem dL_law_199 : decode cL_law 199 = .ok (.iconst 2, 1) := by decide +kernel
theorem dL_law_200 : decode cL_law 200 = .ok (.iadd, 1) := by decide +kernel
theorem dL_law_201 : decode cL_law 201 = .ok (.iaload, 1) := by decide +kernel
theorem dL_law_202 : decode cL_law 202 = .ok (.invokevirtual 22, 3) := by decide +kernel
theorem dL_law_205 : decode cL_law 205 = .ok (.if_icmp .eq 914, 3) := by decide +kernel
theorem dL_law_208 : decode cL_law 208 = .ok (.iconst 0, 1) := by decide +kernel
theorem dL_law_209 : decode cL_law 209 = .ok (.ireturn, 1) := by decide +kernel
theorem dL_law_210 : decode cL_law 210 = .ok (.aload_n 1, 1) := by decide +kernel
theorem dL_law_211 : decode cL_law 211 = .ok (.aload_n 0, 1) := by decide +kernel
theorem dL_law_212 : decode cL_law 212 = .ok (.iload_n 3, 1) := by decide +kernel
theorem dL_law_213 : decode cL_law 213 = .ok (.iconst 1, 1) := by decide +kernel
theorem dL_law_214 : decode cL_law 214 = .ok (.iadd, 1) := by decide +kernel
theorem dL_law_215 : decode cL_law 215 = .ok (.iaload, 1) := by decide +kernel
theorem dL_law_216 : decode cL_law 216 = .ok (.invokevirtual 23, 3) := by decide +kernel
theorem dL_law_219 : decode cL_law 219 = .ok (.aload_n 2, 1) := by decide +kernel
theorem dL_law_220 : decode cL_law 220 = .ok (.aload_n 0, 1) := by decide +kernel
theorem dL_law_221 : decode cL_law 221 = .ok (.iload_n 3, 1) := by decide +kernel
theorem dL_law_222 : decode cL_law 222 = .ok (.iconst 1, 1) := by decide +kernel
theorem dL_law_223 : decode cL_law 223 = .ok (.iadd, 1) := by decide +kernel
theorem dL_law_224 : decode cL_law 224 = .ok (.iaload, 1) := by decide +kernel
theorem dL_law_225 : decode cL_law 225 = .ok (.invokevirtual 27, 3) := by decide +kernel
theorem dL_law_228 : decode cL_law 228 = .ok (.if_icmp .eq 891, 3) := by decide +kernel
theorem dL_law_231 : decode cL_law 231 = .ok (.iconst 0, 1) := by decide +kernel
theorem dL_law_232 : decode cL_law 232 = .ok (.ireturn, 1) := by decide +kernel
theorem dL_law_233 : decode cL_law 233 = .ok (.aload_n 1, 1) := by decide +kernel
theorem dL_law_234 : decode cL_law 234 = .ok (.aload_n 0, 1) := by decide +kernel
theorem dL_law_235 : decode cL_law 235 = .ok (.iload_n 3, 1) := by decide +kernel
theorem dL_law_236 : decode cL_law 236 = .ok (.iconst 1, 1) := by decide +kernel
theorem dL_law_237 : decode cL_law 237 = .ok (.iadd, 1) := by decide +kernel
theorem dL_law_238 : decode cL_law 238 = .ok (.iaload, 1) := by decide +kernel
theorem dL_law_239 : decode cL_law 239 = .ok (.aload_n 0, 1) := by decide +kernel
theorem dL_law_240 : decode cL_law 240 = .ok (.iload_n 3, 1) := by decide +kernel
theorem dL_law_241 : decode cL_law 241 = .ok (.iconst 2, 1) := by decide +kernel
theorem dL_law_242 : decode cL_law 242 = .ok (.iadd, 1) := by decide +kernel
theorem dL_law_243 : decode cL_law 243 = .ok (.iaload, 1) := by decide +kernel
theorem dL_law_244 : decode cL_law 244 = .ok (.aload_n 0, 1) := by decide +kernel
theorem dL_law_245 : decode cL_law 245 = .ok (.iload_n 3, 1) := by decide +kernel
theorem dL_law_246 : decode cL_law 246 = .ok (.iconst 3, 1) := by decide +kernel
theorem dL_law_247 : decode cL_law 247 = .ok (.iadd, 1) := by decide +kernel
theorem dL_law_248 : decode cL_law 248 = .ok (.iaload, 1) := by decide +kernel
theorem dL_law_249 : decode cL_law 249 = .ok (.invokevirtual 28, 3) := by decide +kernel
theorem dL_law_252 : decode cL_law 252 = .ok (.aload_n 2, 1) := by decide +kernel
theorem dL_law_253 : decode cL_law 253 = .ok (.aload_n 0, 1) := by decide +kernel
theorem dL_law_254 : decode cL_law 254 = .ok (.iload_n 3, 1) := by decide +kernel
theorem dL_law_255 : decode cL_law 255 = .ok (.iconst 1, 1) := by decide +kernel
theorem dL_law_256 : decode cL_law 256 = .ok (.iadd, 1) := by decide +kernel
theorem dL_law_257 : decode cL_law 257 = .ok (.iaload, 1) := by decide +kernel
theorem dL_law_258 : decode cL_law 258 = .ok (.aload_n 0, 1) := by decide +kernel
theorem dL_law_259 : decode cL_law 259 = .ok (.iload_n 3, 1) := by decide +kernel
theorem dL_law_260 : decode cL_law 260 = .ok (.iconst 2, 1) := by decide +kernel
theorem dL_law_261 : decode cL_law 261 = .ok (.iadd, 1) := by decide +kernel
theorem dL_law_262 : decode cL_law 262 = .ok (.iaload, 1) := by decide +kernel
theorem dL_law_263 : decode cL_law 263 = .ok (.aload_n 0, 1) := by decide +kernel
theorem dL_law_264 : decode cL_law 264 = .ok (.iload_n 3, 1) := by decide +kernel
theorem dL_law_265 : decode cL_law 265 = .ok (.iconst 3, 1) := by decide +kernel
theorem dL_law_266 : decode cL_law 266 = .ok (.iadd, 1) := by decide +kernel
theorem dL_law_267 : decode cL_law 267 = .ok (.iaload, 1) := by decide +kernel
theorem dL_law_268 : decode cL_law 268 = .ok (.invokevirtual 32, 3) := by decide +kernel
theorem dL_law_271 : decode cL_law 271 = .ok (.if_icmp .eq 848, 3) := by decide +kernel
theorem dL_law_274 : decode cL_law 274 = .ok (.iconst 0, 1) := by decide +kernel
theorem dL_law_275 : decode cL_law 275 = .ok (.ireturn, 1) := by decide +kernel
theorem dL_law_276 : decode cL_law 276 = .ok (.aload_n 1, 1) := by decide +kernel
theorem dL_law_277 : decode cL_law 277 = .ok (.aload_n 0, 1) := by decide +kernel
theorem dL_law_278 : decode cL_law 278 = .ok (.iload_n 3, 1) := by decide +kernel
theorem dL_law_279 : decode cL_law 279 = .ok (.iconst 1, 1) := by decide +kernel
theorem dL_law_280 : decode cL_law 280 = .ok (.iadd, 1) := by decide +kernel
theorem dL_law_281 : decode cL_law 281 = .ok (.iaload, 1) := by decide +kernel
theorem dL_law_282 : decode cL_law 282 = .ok (.aload_n 0, 1) := by decide +kernel
theorem dL_law_283 : decode cL_law 283 = .ok (.iload_n 3, 1) := by decide +kernel
theorem dL_law_284 : decode cL_law 284 = .ok (.iconst 2, 1) := by decide +kernel
theorem dL_law_285 : decode cL_law 285 = .ok (.iadd, 1) := by decide +kernel
theorem dL_law_286 : decode cL_law 286 = .ok (.iaload, 1) := by decide +kernel
theorem dL_law_287 : decode cL_law 287 = .ok (.aload_n 0, 1) := by decide +kernel
theorem dL_law_288 : decode cL_law 288 = .ok (.iload_n 3, 1) := by decide +kernel
theorem dL_law_289 : decode cL_law 289 = .ok (.iconst 3, 1) := by decide +kernel
theorem dL_law_290 : decode cL_law 290 = .ok (.iadd, 1) := by decide +kernel
theorem dL_law_291 : decode cL_law 291 = .ok (.iaload, 1) := by decide +kernel
theorem dL_law_292 : decode cL_law 292 = .ok (.invokevirtual 33, 3) := by decide +kernel
theorem dL_law_295 : decode cL_law 295 = .ok (.aload_n 2, 1) := by decide +kernel
theorem dL_law_296 : decode cL_law 296 = .ok (.aload_n 0, 1) := by decide +kernel
theorem dL_law_297 : decode cL_law 297 = .ok (.iload_n 3, 1) := by decide +kernel
theorem dL_law_298 : decode cL_law 298 = .ok (.iconst 1, 1) := by decide +kernel
theorem dL_law_299 : decode cL_law 299 = .ok (.iadd, 1) := by decide +kernel
theorem dL_law_300 : decode cL_law 300 = .ok (.iaload, 1) := by decide +kernel
theorem dL_law_301 : decode cL_law 301 = .ok (.aload_n 0, 1) := by decide +kernel
theorem dL_law_302 : decode cL_law 302 = .ok (.iload_n 3, 1) := by decide +kernel
theorem dL_law_303 : decode cL_law 303 = .ok (.iconst 2, 1) := by decide +kernel
theorem dL_law_304 : decode cL_law 304 = .ok (.iadd, 1) := by decide +kernel
theorem dL_law_305 : decode cL_law 305 = .ok (.iaload, 1) := by decide +kernel
theorem dL_law_306 : decode cL_law 306 = .ok (.aload_n 0, 1) := by decide +kernel
theorem dL_law_307 : decode cL_law 307 = .ok (.iload_n 3, 1) := by decide +kernel
theorem dL_law_308 : decode cL_law 308 = .ok (.iconst 3, 1) := by decide +kernel
theorem dL_law_309 : decode cL_law 309 = .ok (.iadd, 1) := by decide +kernel
theorem dL_law_310 : decode cL_law 310 = .ok (.iaload, 1) := by decide +kernel
theorem dL_law_311 : decode cL_law 311 = .ok (.invokevirtual 36, 3) := by decide +kernel
theorem dL_law_314 : decode cL_law 314 = .ok (.if_icmp .eq 805, 3) := by decide +kernel
theorem dL_law_317 : decode cL_law 317 = .ok (.iconst 0, 1) := by decide +kernel
theorem dL_law_318 : decode cL_law 318 = .ok (.ireturn, 1) := by decide +kernel
theorem dL_law_319 : decode cL_law 319 = .ok (.aload_n 1, 1) := by decide +kernel
theorem dL_law_320 : decode cL_law 320 = .ok (.aload_n 0, 1) := by decide +kernel
theorem dL_law_321 : decode cL_law 321 = .ok (.iload_n 3, 1) := by decide +kernel
theorem dL_law_322 : decode cL_law 322 = .ok (.iconst 1, 1) := by decide +kernel
theorem dL_law_323 : decode cL_law 323 = .ok (.iadd, 1) := by decide +kernel
theorem dL_law_324 : decode cL_law 324 = .ok (.iaload, 1) := by decide +kernel
theorem dL_law_325 : decode cL_law 325 = .ok (.ifCond .eq 7, 3) := by decide +kernel
theorem dL_law_328 : decode cL_law 328 = .ok (.iconst 1, 1) := by decide +kernel
theorem dL_law_329 : decode cL_law 329 = .ok (.goto 4, 3) := by decide +kernel
theorem dL_law_332 : decode cL_law 332 = .ok (.iconst 0, 1) := by decide +kernel
theorem dL_law_333 : decode cL_law 333 = .ok (.aload_n 0, 1) := by decide +kernel
theorem dL_law_334 : decode cL_law 334 = .ok (.iload_n 3, 1) := by decide +kernel
theorem dL_law_335 : decode cL_law 335 = .ok (.iconst 2, 1) := by decide +kernel
theorem dL_law_336 : decode cL_law 336 = .ok (.iadd, 1) := by decide +kernel
theorem dL_law_337 : decode cL_law 337 = .ok (.iaload, 1) := by decide +kernel
theorem dL_law_338 : decode cL_law 338 = .ok (.aload_n 0, 1) := by decide +kernel
theorem dL_law_339 : decode cL_law 339 = .ok (.iload_n 3, 1) := by decide +kernel
theorem dL_law_340 : decode cL_law 340 = .ok (.iconst 3, 1) := by decide +kernel
theorem dL_law_341 : decode cL_law 341 = .ok (.iadd, 1) := by decide +kernel
theorem dL_law_342 : decode cL_law 342 = .ok (.iaload, 1) := by decide +kernel
theorem dL_law_343 : decode cL_law 343 = .ok (.aload_n 0, 1) := by decide +kernel
theorem dL_law_344 : decode cL_law 344 = .ok (.iload_n 3, 1) := by decide +kernel
theorem dL_law_345 : decode cL_law 345 = .ok (.iconst 4, 1) := by decide +kernel
theorem dL_law_346 : decode cL_law 346 = .ok (.iadd, 1) := by decide +kernel
theorem dL_law_347 : decode cL_law 347 = .ok (.iaload, 1) := by decide +kernel
theorem dL_law_348 : decode cL_law 348 = .ok (.aload_n 0, 1) := by decide +kernel
theorem dL_law_349 : decode cL_law 349 = .ok (.iload_n 3, 1) := by decide +kernel
theorem dL_law_350 : decode cL_law 350 = .ok (.iconst 5, 1) := by decide +kernel
theorem dL_law_351 : decode cL_law 351 = .ok (.iadd, 1) := by decide +kernel
theorem dL_law_352 : decode cL_law 352 = .ok (.iaload, 1) := by decide +kernel
theorem dL_law_353 : decode cL_law 353 = .ok (.invokevirtual 37, 3) := by decide +kernel
theorem dL_law_356 : decode cL_law 356 = .ok (.aload_n 2, 1) := by decide +kernel
theorem dL_law_357 : decode cL_law 357 = .ok (.aload_n 0, 1) := by decide +kernel
theorem dL_law_358 : decode cL_law 358 = .ok (.iload_n 3, 1) := by decide +kernel
theorem dL_law_359 : decode cL_law 359 = .ok (.iconst 1, 1) := by decide +kernel
theorem dL_law_360 : decode cL_law 360 = .ok (.iadd, 1) := by decide +kernel
theorem dL_law_361 : decode cL_law 361 = .ok (.iaload, 1) := by decide +kernel
theorem dL_law_362 : decode cL_law 362 = .ok (.ifCond .eq 7, 3) := by decide +kernel
theorem dL_law_365 : decode cL_law 365 = .ok (.iconst 1, 1) := by decide +kernel
theorem dL_law_366 : decode cL_law 366 = .ok (.goto 4, 3) := by decide +kernel
theorem dL_law_369 : decode cL_law 369 = .ok (.iconst 0, 1) := by decide +kernel
theorem dL_law_370 : decode cL_law 370 = .ok (.aload_n 0, 1) := by decide +kernel
theorem dL_law_371 : decode cL_law 371 = .ok (.iload_n 3, 1) := by decide +kernel
theorem dL_law_372 : decode cL_law 372 = .ok (.iconst 2, 1) := by decide +kernel
theorem dL_law_373 : decode cL_law 373 = .ok (.iadd, 1) := by decide +kernel
theorem dL_law_374 : decode cL_law 374 = .ok (.iaload, 1) := by decide +kernel
theorem dL_law_375 : decode cL_law 375 = .ok (.aload_n 0, 1) := by decide +kernel
theorem dL_law_376 : decode cL_law 376 = .ok (.iload_n 3, 1) := by decide +kernel
theorem dL_law_377 : decode cL_law 377 = .ok (.iconst 3, 1) := by decide +kernel
theorem dL_law_378 : decode cL_law 378 = .ok (.iadd, 1) := by decide +kernel
theorem dL_law_379 : decode cL_law 379 = .ok (.iaload, 1) := by decide +kernel
theorem dL_law_380 : decode cL_law 380 = .ok (.aload_n 0, 1) := by decide +kernel
theorem dL_law_381 : decode cL_law 381 = .ok (.iload_n 3, 1) := by decide +kernel
theorem dL_law_382 : decode cL_law 382 = .ok (.iconst 4, 1) := by decide +kernel
theorem dL_law_383 : decode cL_law 383 = .ok (.iadd, 1) := by decide +kernel
theorem dL_law_384 : decode cL_law 384 = .ok (.iaload, 1) := by decide +kernel
theorem dL_law_385 : decode cL_law 385 = .ok (.aload_n 0, 1) := by decide +kernel
theorem dL_law_386 : decode cL_law 386 = .ok (.iload_n 3, 1) := by decide +kernel
theorem dL_law_387 : decode cL_law 387 = .ok (.iconst 5, 1) := by decide +kernel
theorem dL_law_388 : decode cL_law 388 = .ok (.iadd, 1) := by decide +kernel
theorem dL_law_389 : decode cL_law 389 = .ok (.iaload, 1) := by decide +kernel
theorem dL_law_390 : decode cL_law 390 = .ok (.invokevirtual 41, 3) := by decide +kernel
theorem dL_law_393 : decode cL_law 393 = .ok (.if_icmp .eq 726, 3) := by decide +kernel
theorem dL_law_396 : decode cL_law 396 = .ok (.iconst 0, 1) := by decide +kernel
theorem dL_law_397 : decode cL_law 397 = .ok (.ireturn, 1) := by decide +kernel
theorem dL_law_398 : decode cL_law 398 = .ok (.aload_n 1, 1) := by decide +kernel
theorem dL_law_399 : decode cL_law 399 = .ok (.aload_n 0, 1) := by decide +kernel
theorem dL_law_400 : decode cL_law 400 = .ok (.iload_n 3, 1) := by decide +kernel
theorem dL_law_401 : decode cL_law 401 = .ok (.iconst 1, 1) := by decide +kernel
theorem dL_law_402 : decode cL_law 402 = .ok (.iadd, 1) := by decide +kernel
theorem dL_law_403 : decode cL_law 403 = .ok (.iaload, 1) := by decide +kernel
theorem dL_law_404 : decode cL_law 404 = .ok (.invokevirtual 42, 3) := by decide +kernel
theorem dL_law_407 : decode cL_law 407 = .ok (.aload_n 2, 1) := by decide +kernel
theorem dL_law_408 : decode cL_law 408 = .ok (.aload_n 0, 1) := by decide +kernel
theorem dL_law_409 : decode cL_law 409 = .ok (.iload_n 3, 1) := by decide +kernel
theorem dL_law_410 : decode cL_law 410 = .ok (.iconst 1, 1) := by decide +kernel
theorem dL_law_411 : decode cL_law 411 = .ok (.iadd, 1) := by decide +kernel
theorem dL_law_412 : decode cL_law 412 = .ok (.iaload, 1) := by decide +kernel
theorem dL_law_413 : decode cL_law 413 = .ok (.invokevirtual 45, 3) := by decide +kernel
theorem dL_law_416 : decode cL_law 416 = .ok (.if_icmp .eq 703, 3) := by decide +kernel
theorem dL_law_419 : decode cL_law 419 = .ok (.iconst 0, 1) := by decide +kernel
theorem dL_law_420 : decode cL_law 420 = .ok (.ireturn, 1) := by decide +kernel
theorem dL_law_421 : decode cL_law 421 = .ok (.aload_n 1, 1) := by decide +kernel
theorem dL_law_422 : decode cL_law 422 = .ok (.aload_n 0, 1) := by decide +kernel
theorem dL_law_423 : decode cL_law 423 = .ok (.iload_n 3, 1) := by decide +kernel
theorem dL_law_424 : decode cL_law 424 = .ok (.iconst 1, 1) := by decide +kernel
theorem dL_law_425 : decode cL_law 425 = .ok (.iadd, 1) := by decide +kernel
theorem dL_law_426 : decode cL_law 426 = .ok (.iaload, 1) := by decide +kernel
theorem dL_law_427 : decode cL_law 427 = .ok (.invokevirtual 46, 3) := by decide +kernel
theorem dL_law_430 : decode cL_law 430 = .ok (.aload_n 2, 1) := by decide +kernel
theorem dL_law_431 : decode cL_law 431 = .ok (.aload_n 0, 1) := by decide +kernel
theorem dL_law_432 : decode cL_law 432 = .ok (.iload_n 3, 1) := by decide +kernel
theorem dL_law_433 : decode cL_law 433 = .ok (.iconst 1, 1) := by decide +kernel
theorem dL_law_434 : decode cL_law 434 = .ok (.iadd, 1) := by decide +kernel
theorem dL_law_435 : decode cL_law 435 = .ok (.iaload, 1) := by decide +kernel
theorem dL_law_436 : decode cL_law 436 = .ok (.invokevirtual 49, 3) := by decide +kernel
theorem dL_law_439 : decode cL_law 439 = .ok (.if_icmp .eq 680, 3) := by decide +kernel
theorem dL_law_442 : decode cL_law 442 = .ok (.iconst 0, 1) := by decide +kernel
theorem dL_law_443 : decode cL_law 443 = .ok (.ireturn, 1) := by decide +kernel
theorem dL_law_444 : decode cL_law 444 = .ok (.aload_n 1, 1) := by decide +kernel
theorem dL_law_445 : decode cL_law 445 = .ok (.invokevirtual 50, 3) := by decide +kernel
theorem dL_law_448 : decode cL_law 448 = .ok (.aload_n 2, 1) := by decide +kernel
theorem dL_law_449 : decode cL_law 449 = .ok (.invokevirtual 53, 3) := by decide +kernel
theorem dL_law_452 : decode cL_law 452 = .ok (.if_icmp .eq 667, 3) := by decide +kernel
theorem dL_law_455 : decode cL_law 455 = .ok (.iconst 0, 1) := by decide +kernel
theorem dL_law_456 : decode cL_law 456 = .ok (.ireturn, 1) := by decide +kernel
theorem dL_law_457 : decode cL_law 457 = .ok (.aload_n 1, 1) := by decide +kernel
theorem dL_law_458 : decode cL_law 458 = .ok (.aload_n 0, 1) := by decide +kernel
end
section
theorem dL_law_459 : decode cL_law 459 = .ok (.iload_n 3, 1) := by decide +kernel
theorem dL_law_460 : decode cL_law 460 = .ok (.iconst 1, 1) := by decide +kernel
theorem dL_law_461 : decode cL_law 461 = .ok (.iadd, 1) := by decide +kernel
theorem dL_law_462 : decode cL_law 462 = .ok (.iaload, 1) := by decide +kernel
theorem dL_law_463 : decode cL_law 463 = .ok (.aload_n 0, 1) := by decide +kernel
theorem dL_law_464 : decode cL_law 464 = .ok (.iload_n 3, 1) := by decide +kernel
theorem dL_law_465 : decode cL_law 465 = .ok (.iconst 2, 1) := by decide +kernel
theorem dL_law_466 : decode cL_law 466 = .ok (.iadd, 1) := by decide +kernel
theorem dL_law_467 : decode cL_law 467 = .ok (.iaload, 1) := by decide +kernel
theorem dL_law_468 : decode cL_law 468 = .ok (.invokevirtual 54, 3) := by decide +kernel
theorem dL_law_471 : decode cL_law 471 = .ok (.aload_n 2, 1) := by decide +kernel
theorem dL_law_472 : decode cL_law 472 = .ok (.aload_n 0, 1) := by decide +kernel
theorem dL_law_473 : decode cL_law 473 = .ok (.iload_n 3, 1) := by decide +kernel
theorem dL_law_474 : decode cL_law 474 = .ok (.iconst 1, 1) := by decide +kernel
theorem dL_law_475 : decode cL_law 475 = .ok (.iadd, 1) := by decide +kernel
theorem dL_law_476 : decode cL_law 476 = .ok (.iaload, 1) := by decide +kernel
theorem dL_law_477 : decode cL_law 477 = .ok (.aload_n 0, 1) := by decide +kernel
theorem dL_law_478 : decode cL_law 478 = .ok (.iload_n 3, 1) := by decide +kernel
theorem dL_law_479 : decode cL_law 479 = .ok (.iconst 2, 1) := by decide +kernel
theorem dL_law_480 : decode cL_law 480 = .ok (.iadd, 1) := by decide +kernel
theorem dL_law_481 : decode cL_law 481 = .ok (.iaload, 1) := by decide +kernel
theorem dL_law_482 : decode cL_law 482 = .ok (.invokevirtual 57, 3) := by decide +kernel
theorem dL_law_485 : decode cL_law 485 = .ok (.if_icmp .eq 634, 3) := by decide +kernel
theorem dL_law_488 : decode cL_law 488 = .ok (.iconst 0, 1) := by decide +kernel
theorem dL_law_489 : decode cL_law 489 = .ok (.ireturn, 1) := by decide +kernel
theorem dL_law_490 : decode cL_law 490 = .ok (.aload_n 1, 1) := by decide +kernel
theorem dL_law_491 : decode cL_law 491 = .ok (.aload_n 0, 1) := by decide +kernel
theorem dL_law_492 : decode cL_law 492 = .ok (.iload_n 3, 1) := by decide +kernel
theorem dL_law_493 : decode cL_law 493 = .ok (.iconst 1, 1) := by decide +kernel
theorem dL_law_494 : decode cL_law 494 = .ok (.iadd, 1) := by decide +kernel
theorem dL_law_495 : decode cL_law 495 = .ok (.iaload, 1) := by decide +kernel
theorem dL_law_496 : decode cL_law 496 = .ok (.aload_n 0, 1) := by decide +kernel
theorem dL_law_497 : decode cL_law 497 = .ok (.iload_n 3, 1) := by decide +kernel
theorem dL_law_498 : decode cL_law 498 = .ok (.iconst 2, 1) := by decide +kernel
theorem dL_law_499 : decode cL_law 499 = .ok (.iadd, 1) := by decide +kernel
theorem dL_law_500 : decode cL_law 500 = .ok (.iaload, 1) := by decide +kernel
theorem dL_law_501 : decode cL_law 501 = .ok (.aload_n 0, 1) := by decide +kernel
theorem dL_law_502 : decode cL_law 502 = .ok (.iload_n 3, 1) := by decide +kernel
theorem dL_law_503 : decode cL_law 503 = .ok (.iconst 3, 1) := by decide +kernel
theorem dL_law_504 : decode cL_law 504 = .ok (.iadd, 1) := by decide +kernel
theorem dL_law_505 : decode cL_law 505 = .ok (.iaload, 1) := by decide +kernel
theorem dL_law_506 : decode cL_law 506 = .ok (.invokevirtual 58, 3) := by decide +kernel
theorem dL_law_509 : decode cL_law 509 = .ok (.aload_n 2, 1) := by decide +kernel
theorem dL_law_510 : decode cL_law 510 = .ok (.aload_n 0, 1) := by decide +kernel
theorem dL_law_511 : decode cL_law 511 = .ok (.iload_n 3, 1) := by decide +kernel
theorem dL_law_512 : decode cL_law 512 = .ok (.iconst 1, 1) := by decide +kernel
theorem dL_law_513 : decode cL_law 513 = .ok (.iadd, 1) := by decide +kernel
theorem dL_law_514 : decode cL_law 514 = .ok (.iaload, 1) := by decide +kernel
theorem dL_law_515 : decode cL_law 515 = .ok (.aload_n 0, 1) := by decide +kernel
theorem dL_law_516 : decode cL_law 516 = .ok (.iload_n 3, 1) := by decide +kernel
theorem dL_law_517 : decode cL_law 517 = .ok (.iconst 2, 1) := by decide +kernel
theorem dL_law_518 : decode cL_law 518 = .ok (.iadd, 1) := by decide +kernel
theorem dL_law_519 : decode cL_law 519 = .ok (.iaload, 1) := by decide +kernel
theorem dL_law_520 : decode cL_law 520 = .ok (.aload_n 0, 1) := by decide +kernel
theorem dL_law_521 : decode cL_law 521 = .ok (.iload_n 3, 1) := by decide +kernel
theorem dL_law_522 : decode cL_law 522 = .ok (.iconst 3, 1) := by decide +kernel
theorem dL_law_523 : decode cL_law 523 = .ok (.iadd, 1) := by decide +kernel
theorem dL_law_524 : decode cL_law 524 = .ok (.iaload, 1) := by decide +kernel
theorem dL_law_525 : decode cL_law 525 = .ok (.invokevirtual 61, 3) := by decide +kernel
theorem dL_law_528 : decode cL_law 528 = .ok (.if_icmp .eq 591, 3) := by decide +kernel
theorem dL_law_531 : decode cL_law 531 = .ok (.iconst 0, 1) := by decide +kernel
theorem dL_law_532 : decode cL_law 532 = .ok (.ireturn, 1) := by decide +kernel
theorem dL_law_533 : decode cL_law 533 = .ok (.aload_n 1, 1) := by decide +kernel
theorem dL_law_534 : decode cL_law 534 = .ok (.aload_n 0, 1) := by decide +kernel
theorem dL_law_535 : decode cL_law 535 = .ok (.iload_n 3, 1) := by decide +kernel
theorem dL_law_536 : decode cL_law 536 = .ok (.iconst 1, 1) := by decide +kernel
theorem dL_law_537 : decode cL_law 537 = .ok (.iadd, 1) := by decide +kernel
theorem dL_law_538 : decode cL_law 538 = .ok (.iaload, 1) := by decide +kernel
theorem dL_law_539 : decode cL_law 539 = .ok (.aload_n 0, 1) := by decide +kernel
theorem dL_law_540 : decode cL_law 540 = .ok (.iload_n 3, 1) := by decide +kernel
theorem dL_law_541 : decode cL_law 541 = .ok (.iconst 2, 1) := by decide +kernel
theorem dL_law_542 : decode cL_law 542 = .ok (.iadd, 1) := by decide +kernel
theorem dL_law_543 : decode cL_law 543 = .ok (.iaload, 1) := by decide +kernel
theorem dL_law_544 : decode cL_law 544 = .ok (.aload_n 0, 1) := by decide +kernel
theorem dL_law_545 : decode cL_law 545 = .ok (.iload_n 3, 1) := by decide +kernel
theorem dL_law_546 : decode cL_law 546 = .ok (.iconst 3, 1) := by decide +kernel
theorem dL_law_547 : decode cL_law 547 = .ok (.iadd, 1) := by decide +kernel
theorem dL_law_548 : decode cL_law 548 = .ok (.iaload, 1) := by decide +kernel
theorem dL_law_549 : decode cL_law 549 = .ok (.invokevirtual 62, 3) := by decide +kernel
theorem dL_law_552 : decode cL_law 552 = .ok (.aload_n 2, 1) := by decide +kernel
theorem dL_law_553 : decode cL_law 553 = .ok (.aload_n 0, 1) := by decide +kernel
theorem dL_law_554 : decode cL_law 554 = .ok (.iload_n 3, 1) := by decide +kernel
theorem dL_law_555 : decode cL_law 555 = .ok (.iconst 1, 1) := by decide +kernel
theorem dL_law_556 : decode cL_law 556 = .ok (.iadd, 1) := by decide +kernel
theorem dL_law_557 : decode cL_law 557 = .ok (.iaload, 1) := by decide +kernel
theorem dL_law_558 : decode cL_law 558 = .ok (.aload_n 0, 1) := by decide +kernel
theorem dL_law_559 : decode cL_law 559 = .ok (.iload_n 3, 1) := by decide +kernel
theorem dL_law_560 : decode cL_law 560 = .ok (.iconst 2, 1) := by decide +kernel
theorem dL_law_561 : decode cL_law 561 = .ok (.iadd, 1) := by decide +kernel
theorem dL_law_562 : decode cL_law 562 = .ok (.iaload, 1) := by decide +kernel
theorem dL_law_563 : decode cL_law 563 = .ok (.aload_n 0, 1) := by decide +kernel
theorem dL_law_564 : decode cL_law 564 = .ok (.iload_n 3, 1) := by decide +kernel
theorem dL_law_565 : decode cL_law 565 = .ok (.iconst 3, 1) := by decide +kernel
theorem dL_law_566 : decode cL_law 566 = .ok (.iadd, 1) := by decide +kernel
theorem dL_law_567 : decode cL_law 567 = .ok (.iaload, 1) := by decide +kernel
theorem dL_law_568 : decode cL_law 568 = .ok (.invokevirtual 65, 3) := by decide +kernel
theorem dL_law_571 : decode cL_law 571 = .ok (.if_icmp .eq 548, 3) := by decide +kernel
theorem dL_law_574 : decode cL_law 574 = .ok (.iconst 0, 1) := by decide +kernel
theorem dL_law_575 : decode cL_law 575 = .ok (.ireturn, 1) := by decide +kernel
theorem dL_law_576 : decode cL_law 576 = .ok (.aload_n 1, 1) := by decide +kernel
theorem dL_law_577 : decode cL_law 577 = .ok (.aload_n 0, 1) := by decide +kernel
theorem dL_law_578 : decode cL_law 578 = .ok (.iload_n 3, 1) := by decide +kernel
theorem dL_law_579 : decode cL_law 579 = .ok (.iconst 1, 1) := by decide +kernel
theorem dL_law_580 : decode cL_law 580 = .ok (.iadd, 1) := by decide +kernel
theorem dL_law_581 : decode cL_law 581 = .ok (.iaload, 1) := by decide +kernel
theorem dL_law_582 : decode cL_law 582 = .ok (.aload_n 0, 1) := by decide +kernel
theorem dL_law_583 : decode cL_law 583 = .ok (.iload_n 3, 1) := by decide +kernel
theorem dL_law_584 : decode cL_law 584 = .ok (.iconst 2, 1) := by decide +kernel
theorem dL_law_585 : decode cL_law 585 = .ok (.iadd, 1) := by decide +kernel
theorem dL_law_586 : decode cL_law 586 = .ok (.iaload, 1) := by decide +kernel
theorem dL_law_587 : decode cL_law 587 = .ok (.invokevirtual 66, 3) := by decide +kernel
theorem dL_law_590 : decode cL_law 590 = .ok (.aload_n 2, 1) := by decide +kernel
theorem dL_law_591 : decode cL_law 591 = .ok (.aload_n 0, 1) := by decide +kernel
theorem dL_law_592 : decode cL_law 592 = .ok (.iload_n 3, 1) := by decide +kernel
theorem dL_law_593 : decode cL_law 593 = .ok (.iconst 1, 1) := by decide +kernel
theorem dL_law_594 : decode cL_law 594 = .ok (.iadd, 1) := by decide +kernel
theorem dL_law_595 : decode cL_law 595 = .ok (.iaload, 1) := by decide +kernel
theorem dL_law_596 : decode cL_law 596 = .ok (.aload_n 0, 1) := by decide +kernel
theorem dL_law_597 : decode cL_law 597 = .ok (.iload_n 3, 1) := by decide +kernel
theorem dL_law_598 : decode cL_law 598 = .ok (.iconst 2, 1) := by decide +kernel
theorem dL_law_599 : decode cL_law 599 = .ok (.iadd, 1) := by decide +kernel
theorem dL_law_600 : decode cL_law 600 = .ok (.iaload, 1) := by decide +kernel
theorem dL_law_601 : decode cL_law 601 = .ok (.invokevirtual 69, 3) := by decide +kernel
theorem dL_law_604 : decode cL_law 604 = .ok (.if_icmp .eq 515, 3) := by decide +kernel
theorem dL_law_607 : decode cL_law 607 = .ok (.iconst 0, 1) := by decide +kernel
theorem dL_law_608 : decode cL_law 608 = .ok (.ireturn, 1) := by decide +kernel
theorem dL_law_609 : decode cL_law 609 = .ok (.aload_n 1, 1) := by decide +kernel
theorem dL_law_610 : decode cL_law 610 = .ok (.aload_n 0, 1) := by decide +kernel
theorem dL_law_611 : decode cL_law 611 = .ok (.iload_n 3, 1) := by decide +kernel
theorem dL_law_612 : decode cL_law 612 = .ok (.iconst 1, 1) := by decide +kernel
theorem dL_law_613 : decode cL_law 613 = .ok (.iadd, 1) := by decide +kernel
theorem dL_law_614 : decode cL_law 614 = .ok (.iaload, 1) := by decide +kernel
theorem dL_law_615 : decode cL_law 615 = .ok (.aload_n 0, 1) := by decide +kernel
theorem dL_law_616 : decode cL_law 616 = .ok (.iload_n 3, 1) := by decide +kernel
theorem dL_law_617 : decode cL_law 617 = .ok (.iconst 2, 1) := by decide +kernel
theorem dL_law_618 : decode cL_law 618 = .ok (.iadd, 1) := by decide +kernel
theorem dL_law_619 : decode cL_law 619 = .ok (.iaload, 1) := by decide +kernel
theorem dL_law_620 : decode cL_law 620 = .ok (.invokevirtual 70, 3) := by decide +kernel
theorem dL_law_623 : decode cL_law 623 = .ok (.aload_n 2, 1) := by decide +kernel
theorem dL_law_624 : decode cL_law 624 = .ok (.aload_n 0, 1) := by decide +kernel
theorem dL_law_625 : decode cL_law 625 = .ok (.iload_n 3, 1) := by decide +kernel
theorem dL_law_626 : decode cL_law 626 = .ok (.iconst 1, 1) := by decide +kernel
theorem dL_law_627 : decode cL_law 627 = .ok (.iadd, 1) := by decide +kernel
theorem dL_law_628 : decode cL_law 628 = .ok (.iaload, 1) := by decide +kernel
theorem dL_law_629 : decode cL_law 629 = .ok (.aload_n 0, 1) := by decide +kernel
theorem dL_law_630 : decode cL_law 630 = .ok (.iload_n 3, 1) := by decide +kernel
theorem dL_law_631 : decode cL_law 631 = .ok (.iconst 2, 1) := by decide +kernel
theorem dL_law_632 : decode cL_law 632 = .ok (.iadd, 1) := by decide +kernel
theorem dL_law_633 : decode cL_law 633 = .ok (.iaload, 1) := by decide +kernel
theorem dL_law_634 : decode cL_law 634 = .ok (.invokevirtual 73, 3) := by decide +kernel
theorem dL_law_637 : decode cL_law 637 = .ok (.if_icmp .eq 482, 3) := by decide +kernel
theorem dL_law_640 : decode cL_law 640 = .ok (.iconst 0, 1) := by decide +kernel
theorem dL_law_641 : decode cL_law 641 = .ok (.ireturn, 1) := by decide +kernel
theorem dL_law_642 : decode cL_law 642 = .ok (.aload_n 1, 1) := by decide +kernel
theorem dL_law_643 : decode cL_law 643 = .ok (.aload_n 0, 1) := by decide +kernel
theorem dL_law_644 : decode cL_law 644 = .ok (.iload_n 3, 1) := by decide +kernel
theorem dL_law_645 : decode cL_law 645 = .ok (.iconst 1, 1) := by decide +kernel
theorem dL_law_646 : decode cL_law 646 = .ok (.iadd, 1) := by decide +kernel
theorem dL_law_647 : decode cL_law 647 = .ok (.iaload, 1) := by decide +kernel
theorem dL_law_648 : decode cL_law 648 = .ok (.aload_n 0, 1) := by decide +kernel
theorem dL_law_649 : decode cL_law 649 = .ok (.iload_n 3, 1) := by decide +kernel
theorem dL_law_650 : decode cL_law 650 = .ok (.iconst 2, 1) := by decide +kernel
theorem dL_law_651 : decode cL_law 651 = .ok (.iadd, 1) := by decide +kernel
theorem dL_law_652 : decode cL_law 652 = .ok (.iaload, 1) := by decide +kernel
theorem dL_law_653 : decode cL_law 653 = .ok (.invokevirtual 74, 3) := by decide +kernel
theorem dL_law_656 : decode cL_law 656 = .ok (.aload_n 2, 1) := by decide +kernel
theorem dL_law_657 : decode cL_law 657 = .ok (.aload_n 0, 1) := by decide +kernel
theorem dL_law_658 : decode cL_law 658 = .ok (.iload_n 3, 1) := by decide +kernel
theorem dL_law_659 : decode cL_law 659 = .ok (.iconst 1, 1) := by decide +kernel
theorem dL_law_660 : decode cL_law 660 = .ok (.iadd, 1) := by decide +kernel
theorem dL_law_661 : decode cL_law 661 = .ok (.iaload, 1) := by decide +kernel
theorem dL_law_662 : decode cL_law 662 = .ok (.aload_n 0, 1) := by decide +kernel
theorem dL_law_663 : decode cL_law 663 = .ok (.iload_n 3, 1) := by decide +kernel
theorem dL_law_664 : decode cL_law 664 = .ok (.iconst 2, 1) := by decide +kernel
theorem dL_law_665 : decode cL_law 665 = .ok (.iadd, 1) := by decide +kernel
theorem dL_law_666 : decode cL_law 666 = .ok (.iaload, 1) := by decide +kernel
theorem dL_law_667 : decode cL_law 667 = .ok (.invokevirtual 77, 3) := by decide +kernel
theorem dL_law_670 : decode cL_law 670 = .ok (.if_icmp .eq 449, 3) := by decide +kernel
theorem dL_law_673 : decode cL_law 673 = .ok (.iconst 0, 1) := by decide +kernel
theorem dL_law_674 : decode cL_law 674 = .ok (.ireturn, 1) := by decide +kernel
theorem dL_law_675 : decode cL_law 675 = .ok (.aload_n 1, 1) := by decide +kernel
theorem dL_law_676 : decode cL_law 676 = .ok (.aload_n 0, 1) := by decide +kernel
theorem dL_law_677 : decode cL_law 677 = .ok (.iload_n 3, 1) := by decide +kernel
theorem dL_law_678 : decode cL_law 678 = .ok (.iconst 1, 1) := by decide +kernel
theorem dL_law_679 : decode cL_law 679 = .ok (.iadd, 1) := by decide +kernel
theorem dL_law_680 : decode cL_law 680 = .ok (.iaload, 1) := by decide +kernel
theorem dL_law_681 : decode cL_law 681 = .ok (.aload_n 0, 1) := by decide +kernel
theorem dL_law_682 : decode cL_law 682 = .ok (.iload_n 3, 1) := by decide +kernel
theorem dL_law_683 : decode cL_law 683 = .ok (.iconst 2, 1) := by decide +kernel
theorem dL_law_684 : decode cL_law 684 = .ok (.iadd, 1) := by decide +kernel
theorem dL_law_685 : decode cL_law 685 = .ok (.iaload, 1) := by decide +kernel
theorem dL_law_686 : decode cL_law 686 = .ok (.invokevirtual 78, 3) := by decide +kernel
theorem dL_law_689 : decode cL_law 689 = .ok (.aload_n 2, 1) := by decide +kernel
theorem dL_law_690 : decode cL_law 690 = .ok (.aload_n 0, 1) := by decide +kernel
theorem dL_law_691 : decode cL_law 691 = .ok (.iload_n 3, 1) := by decide +kernel
theorem dL_law_692 : decode cL_law 692 = .ok (.iconst 1, 1) := by decide +kernel
theorem dL_law_693 : decode cL_law 693 = .ok (.iadd, 1) := by decide +kernel
theorem dL_law_694 : decode cL_law 694 = .ok (.iaload, 1) := by decide +kernel
theorem dL_law_695 : decode cL_law 695 = .ok (.aload_n 0, 1) := by decide +kernel
theorem dL_law_696 : decode cL_law 696 = .ok (.iload_n 3, 1) := by decide +kernel
theorem dL_law_697 : decode cL_law 697 = .ok (.iconst 2, 1) := by decide +kernel
theorem dL_law_698 : decode cL_law 698 = .ok (.iadd, 1) := by decide +kernel
theorem dL_law_699 : decode cL_law 699 = .ok (.iaload, 1) := by decide +kernel
theorem dL_law_700 : decode cL_law 700 = .ok (.invokevirtual 82, 3) := by decide +kernel
theorem dL_law_703 : decode cL_law 703 = .ok (.lcmp, 1) := by decide +kernel
theorem dL_law_704 : decode cL_law 704 = .ok (.ifCond .eq 415, 3) := by decide +kernel
theorem dL_law_707 : decode cL_law 707 = .ok (.iconst 0, 1) := by decide +kernel
theorem dL_law_708 : decode cL_law 708 = .ok (.ireturn, 1) := by decide +kernel
theorem dL_law_709 : decode cL_law 709 = .ok (.aload_n 1, 1) := by decide +kernel
theorem dL_law_710 : decode cL_law 710 = .ok (.invokevirtual 83, 3) := by decide +kernel
theorem dL_law_713 : decode cL_law 713 = .ok (.aload_n 2, 1) := by decide +kernel
theorem dL_law_714 : decode cL_law 714 = .ok (.invokevirtual 86, 3) := by decide +kernel
theorem dL_law_717 : decode cL_law 717 = .ok (.if_icmp .eq 402, 3) := by decide +kernel
theorem dL_law_720 : decode cL_law 720 = .ok (.iconst 0, 1) := by decide +kernel
theorem dL_law_721 : decode cL_law 721 = .ok (.ireturn, 1) := by decide +kernel
theorem dL_law_722 : decode cL_law 722 = .ok (.aload_n 1, 1) := by decide +kernel
theorem dL_law_723 : decode cL_law 723 = .ok (.aload_n 0, 1) := by decide +kernel
theorem dL_law_724 : decode cL_law 724 = .ok (.iload_n 3, 1) := by decide +kernel
theorem dL_law_725 : decode cL_law 725 = .ok (.iconst 1, 1) := by decide +kernel
theorem dL_law_726 : decode cL_law 726 = .ok (.iadd, 1) := by decide +kernel
theorem dL_law_727 : decode cL_law 727 = .ok (.iaload, 1) := by decide +kernel
theorem dL_law_728 : decode cL_law 728 = .ok (.aload_n 0, 1) := by decide +kernel
theorem dL_law_729 : decode cL_law 729 = .ok (.iload_n 3, 1) := by decide +kernel
theorem dL_law_730 : decode cL_law 730 = .ok (.iconst 2, 1) := by decide +kernel
theorem dL_law_731 : decode cL_law 731 = .ok (.iadd, 1) := by decide +kernel
theorem dL_law_732 : decode cL_law 732 = .ok (.iaload, 1) := by decide +kernel
theorem dL_law_733 : decode cL_law 733 = .ok (.invokevirtual 87, 3) := by decide +kernel
theorem dL_law_736 : decode cL_law 736 = .ok (.aload_n 2, 1) := by decide +kernel
theorem dL_law_737 : decode cL_law 737 = .ok (.aload_n 0, 1) := by decide +kernel
theorem dL_law_738 : decode cL_law 738 = .ok (.iload_n 3, 1) := by decide +kernel
theorem dL_law_739 : decode cL_law 739 = .ok (.iconst 1, 1) := by decide +kernel
theorem dL_law_740 : decode cL_law 740 = .ok (.iadd, 1) := by decide +kernel
theorem dL_law_741 : decode cL_law 741 = .ok (.iaload, 1) := by decide +kernel
theorem dL_law_742 : decode cL_law 742 = .ok (.aload_n 0, 1) := by decide +kernel
theorem dL_law_743 : decode cL_law 743 = .ok (.iload_n 3, 1) := by decide +kernel
theorem dL_law_744 : decode cL_law 744 = .ok (.iconst 2, 1) := by decide +kernel
theorem dL_law_745 : decode cL_law 745 = .ok (.iadd, 1) := by decide +kernel
theorem dL_law_746 : decode cL_law 746 = .ok (.iaload, 1) := by decide +kernel
theorem dL_law_747 : decode cL_law 747 = .ok (.invokevirtual 90, 3) := by decide +kernel
theorem dL_law_750 : decode cL_law 750 = .ok (.lcmp, 1) := by decide +kernel
theorem dL_law_751 : decode cL_law 751 = .ok (.ifCond .eq 368, 3) := by decide +kernel
theorem dL_law_754 : decode cL_law 754 = .ok (.iconst 0, 1) := by decide +kernel
theorem dL_law_755 : decode cL_law 755 = .ok (.ireturn, 1) := by decide +kernel
theorem dL_law_756 : decode cL_law 756 = .ok (.aload_n 1, 1) := by decide +kernel
theorem dL_law_757 : decode cL_law 757 = .ok (.aload_n 0, 1) := by decide +kernel
theorem dL_law_758 : decode cL_law 758 = .ok (.iload_n 3, 1) := by decide +kernel
theorem dL_law_759 : decode cL_law 759 = .ok (.iconst 1, 1) := by decide +kernel
theorem dL_law_760 : decode cL_law 760 = .ok (.iadd, 1) := by decide +kernel
theorem dL_law_761 : decode cL_law 761 = .ok (.iaload, 1) := by decide +kernel
theorem dL_law_762 : decode cL_law 762 = .ok (.aload_n 0, 1) := by decide +kernel
theorem dL_law_763 : decode cL_law 763 = .ok (.iload_n 3, 1) := by decide +kernel
theorem dL_law_764 : decode cL_law 764 = .ok (.iconst 2, 1) := by decide +kernel
theorem dL_law_765 : decode cL_law 765 = .ok (.iadd, 1) := by decide +kernel
theorem dL_law_766 : decode cL_law 766 = .ok (.iaload, 1) := by decide +kernel
theorem dL_law_767 : decode cL_law 767 = .ok (.invokevirtual 91, 3) := by decide +kernel
theorem dL_law_770 : decode cL_law 770 = .ok (.aload_n 2, 1) := by decide +kernel
theorem dL_law_771 : decode cL_law 771 = .ok (.aload_n 0, 1) := by decide +kernel
theorem dL_law_772 : decode cL_law 772 = .ok (.iload_n 3, 1) := by decide +kernel
theorem dL_law_773 : decode cL_law 773 = .ok (.iconst 1, 1) := by decide +kernel
theorem dL_law_774 : decode cL_law 774 = .ok (.iadd, 1) := by decide +kernel
theorem dL_law_775 : decode cL_law 775 = .ok (.iaload, 1) := by decide +kernel
theorem dL_law_776 : decode cL_law 776 = .ok (.aload_n 0, 1) := by decide +kernel
theorem dL_law_777 : decode cL_law 777 = .ok (.iload_n 3, 1) := by decide +kernel
theorem dL_law_778 : decode cL_law 778 = .ok (.iconst 2, 1) := by decide +kernel
theorem dL_law_779 : decode cL_law 779 = .ok (.iadd, 1) := by decide +kernel
theorem dL_law_780 : decode cL_law 780 = .ok (.iaload, 1) := by decide +kernel
theorem dL_law_781 : decode cL_law 781 = .ok (.invokevirtual 94, 3) := by decide +kernel
theorem dL_law_784 : decode cL_law 784 = .ok (.if_icmp .eq 335, 3) := by decide +kernel
theorem dL_law_787 : decode cL_law 787 = .ok (.iconst 0, 1) := by decide +kernel
theorem dL_law_788 : decode cL_law 788 = .ok (.ireturn, 1) := by decide +kernel
theorem dL_law_789 : decode cL_law 789 = .ok (.aload_n 1, 1) := by decide +kernel
theorem dL_law_790 : decode cL_law 790 = .ok (.aload_n 0, 1) := by decide +kernel
theorem dL_law_791 : decode cL_law 791 = .ok (.iload_n 3, 1) := by decide +kernel
theorem dL_law_792 : decode cL_law 792 = .ok (.iconst 1, 1) := by decide +kernel
theorem dL_law_793 : decode cL_law 793 = .ok (.iadd, 1) := by decide +kernel
theorem dL_law_794 : decode cL_law 794 = .ok (.iaload, 1) := by decide +kernel
theorem dL_law_795 : decode cL_law 795 = .ok (.aload_n 0, 1) := by decide +kernel
theorem dL_law_796 : decode cL_law 796 = .ok (.iload_n 3, 1) := by decide +kernel
theorem dL_law_797 : decode cL_law 797 = .ok (.iconst 2, 1) := by decide +kernel
theorem dL_law_798 : decode cL_law 798 = .ok (.iadd, 1) := by decide +kernel
theorem dL_law_799 : decode cL_law 799 = .ok (.iaload, 1) := by decide +kernel
theorem dL_law_800 : decode cL_law 800 = .ok (.invokevirtual 95, 3) := by decide +kernel
theorem dL_law_803 : decode cL_law 803 = .ok (.aload_n 2, 1) := by decide +kernel
theorem dL_law_804 : decode cL_law 804 = .ok (.aload_n 0, 1) := by decide +kernel
theorem dL_law_805 : decode cL_law 805 = .ok (.iload_n 3, 1) := by decide +kernel
theorem dL_law_806 : decode cL_law 806 = .ok (.iconst 1, 1) := by decide +kernel
theorem dL_law_807 : decode cL_law 807 = .ok (.iadd, 1) := by decide +kernel
theorem dL_law_808 : decode cL_law 808 = .ok (.iaload, 1) := by decide +kernel
theorem dL_law_809 : decode cL_law 809 = .ok (.aload_n 0, 1) := by decide +kernel
theorem dL_law_810 : decode cL_law 810 = .ok (.iload_n 3, 1) := by decide +kernel
theorem dL_law_811 : decode cL_law 811 = .ok (.iconst 2, 1) := by decide +kernel
theorem dL_law_812 : decode cL_law 812 = .ok (.iadd, 1) := by decide +kernel
theorem dL_law_813 : decode cL_law 813 = .ok (.iaload, 1) := by decide +kernel
theorem dL_law_814 : decode cL_law 814 = .ok (.invokevirtual 98, 3) := by decide +kernel
theorem dL_law_817 : decode cL_law 817 = .ok (.if_icmp .eq 302, 3) := by decide +kernel
theorem dL_law_820 : decode cL_law 820 = .ok (.iconst 0, 1) := by decide +kernel
theorem dL_law_821 : decode cL_law 821 = .ok (.ireturn, 1) := by decide +kernel
theorem dL_law_822 : decode cL_law 822 = .ok (.aload_n 1, 1) := by decide +kernel
theorem dL_law_823 : decode cL_law 823 = .ok (.aload_n 0, 1) := by decide +kernel
theorem dL_law_824 : decode cL_law 824 = .ok (.iload_n 3, 1) := by decide +kernel
theorem dL_law_825 : decode cL_law 825 = .ok (.iconst 1, 1) := by decide +kernel
theorem dL_law_826 : decode cL_law 826 = .ok (.iadd, 1) := by decide +kernel
theorem dL_law_827 : decode cL_law 827 = .ok (.iaload, 1) := by decide +kernel
theorem dL_law_828 : decode cL_law 828 = .ok (.aload_n 0, 1) := by decide +kernel
theorem dL_law_829 : decode cL_law 829 = .ok (.iload_n 3, 1) := by decide +kernel
theorem dL_law_830 : decode cL_law 830 = .ok (.iconst 2, 1) := by decide +kernel
theorem dL_law_831 : decode cL_law 831 = .ok (.iadd, 1) := by decide +kernel
theorem dL_law_832 : decode cL_law 832 = .ok (.iaload, 1) := by decide +kernel
theorem dL_law_833 : decode cL_law 833 = .ok (.aload_n 0, 1) := by decide +kernel
theorem dL_law_834 : decode cL_law 834 = .ok (.iload_n 3, 1) := by decide +kernel
theorem dL_law_835 : decode cL_law 835 = .ok (.iconst 3, 1) := by decide +kernel
theorem dL_law_836 : decode cL_law 836 = .ok (.iadd, 1) := by decide +kernel
theorem dL_law_837 : decode cL_law 837 = .ok (.iaload, 1) := by decide +kernel
theorem dL_law_838 : decode cL_law 838 = .ok (.aload_n 0, 1) := by decide +kernel
theorem dL_law_839 : decode cL_law 839 = .ok (.iload_n 3, 1) := by decide +kernel
theorem dL_law_840 : decode cL_law 840 = .ok (.iconst 4, 1) := by decide +kernel
theorem dL_law_841 : decode cL_law 841 = .ok (.iadd, 1) := by decide +kernel
theorem dL_law_842 : decode cL_law 842 = .ok (.iaload, 1) := by decide +kernel
theorem dL_law_843 : decode cL_law 843 = .ok (.invokevirtual 99, 3) := by decide +kernel
theorem dL_law_846 : decode cL_law 846 = .ok (.aload_n 2, 1) := by decide +kernel
theorem dL_law_847 : decode cL_law 847 = .ok (.aload_n 0, 1) := by decide +kernel
theorem dL_law_848 : decode cL_law 848 = .ok (.iload_n 3, 1) := by decide +kernel
theorem dL_law_849 : decode cL_law 849 = .ok (.iconst 1, 1) := by decide +kernel
theorem dL_law_850 : decode cL_law 850 = .ok (.iadd, 1) := by decide +kernel
theorem dL_law_851 : decode cL_law 851 = .ok (.iaload, 1) := by decide +kernel
theorem dL_law_852 : decode cL_law 852 = .ok (.aload_n 0, 1) := by decide +kernel
theorem dL_law_853 : decode cL_law 853 = .ok (.iload_n 3, 1) := by decide +kernel
theorem dL_law_854 : decode cL_law 854 = .ok (.iconst 2, 1) := by decide +kernel
theorem dL_law_855 : decode cL_law 855 = .ok (.iadd, 1) := by decide +kernel
theorem dL_law_856 : decode cL_law 856 = .ok (.iaload, 1) := by decide +kernel
theorem dL_law_857 : decode cL_law 857 = .ok (.aload_n 0, 1) := by decide +kernel
theorem dL_law_858 : decode cL_law 858 = .ok (.iload_n 3, 1) := by decide +kernel
theorem dL_law_859 : decode cL_law 859 = .ok (.iconst 3, 1) := by decide +kernel
theorem dL_law_860 : decode cL_law 860 = .ok (.iadd, 1) := by decide +kernel
theorem dL_law_861 : decode cL_law 861 = .ok (.iaload, 1) := by decide +kernel
theorem dL_law_862 : decode cL_law 862 = .ok (.aload_n 0, 1) := by decide +kernel
theorem dL_law_863 : decode cL_law 863 = .ok (.iload_n 3, 1) := by decide +kernel
theorem dL_law_864 : decode cL_law 864 = .ok (.iconst 4, 1) := by decide +kernel
theorem dL_law_865 : decode cL_law 865 = .ok (.iadd, 1) := by decide +kernel
theorem dL_law_866 : decode cL_law 866 = .ok (.iaload, 1) := by decide +kernel
theorem dL_law_867 : decode cL_law 867 = .ok (.invokevirtual 103, 3) := by decide +kernel
theorem dL_law_870 : decode cL_law 870 = .ok (.if_icmp .eq 249, 3) := by decide +kernel
theorem dL_law_873 : decode cL_law 873 = .ok (.iconst 0, 1) := by decide +kernel
theorem dL_law_874 : decode cL_law 874 = .ok (.ireturn, 1) := by decide +kernel
theorem dL_law_875 : decode cL_law 875 = .ok (.aload_n 1, 1) := by decide +kernel
theorem dL_law_876 : decode cL_law 876 = .ok (.aload_n 0, 1) := by decide +kernel
theorem dL_law_877 : decode cL_law 877 = .ok (.iload_n 3, 1) := by decide +kernel
theorem dL_law_878 : decode cL_law 878 = .ok (.iconst 1, 1) := by decide +kernel
theorem dL_law_879 : decode cL_law 879 = .ok (.iadd, 1) := by decide +kernel
theorem dL_law_880 : decode cL_law 880 = .ok (.iaload, 1) := by decide +kernel
theorem dL_law_881 : decode cL_law 881 = .ok (.aload_n 0, 1) := by decide +kernel
theorem dL_law_882 : decode cL_law 882 = .ok (.iload_n 3, 1) := by decide +kernel
theorem dL_law_883 : decode cL_law 883 = .ok (.iconst 2, 1) := by decide +kernel
theorem dL_law_884 : decode cL_law 884 = .ok (.iadd, 1) := by decide +kernel
theorem dL_law_885 : decode cL_law 885 = .ok (.iaload, 1) := by decide +kernel
theorem dL_law_886 : decode cL_law 886 = .ok (.aload_n 0, 1) := by decide +kernel
theorem dL_law_887 : decode cL_law 887 = .ok (.iload_n 3, 1) := by decide +kernel
theorem dL_law_888 : decode cL_law 888 = .ok (.iconst 3, 1) := by decide +kernel
theorem dL_law_889 : decode cL_law 889 = .ok (.iadd, 1) := by decide +kernel
theorem dL_law_890 : decode cL_law 890 = .ok (.iaload, 1) := by decide +kernel
theorem dL_law_891 : decode cL_law 891 = .ok (.invokevirtual 104, 3) := by decide +kernel
theorem dL_law_894 : decode cL_law 894 = .ok (.aload_n 2, 1) := by decide +kernel
theorem dL_law_895 : decode cL_law 895 = .ok (.aload_n 0, 1) := by decide +kernel
theorem dL_law_896 : decode cL_law 896 = .ok (.iload_n 3, 1) := by decide +kernel
theorem dL_law_897 : decode cL_law 897 = .ok (.iconst 1, 1) := by decide +kernel
theorem dL_law_898 : decode cL_law 898 = .ok (.iadd, 1) := by decide +kernel
theorem dL_law_899 : decode cL_law 899 = .ok (.iaload, 1) := by decide +kernel
theorem dL_law_900 : decode cL_law 900 = .ok (.aload_n 0, 1) := by decide +kernel
theorem dL_law_901 : decode cL_law 901 = .ok (.iload_n 3, 1) := by decide +kernel
theorem dL_law_902 : decode cL_law 902 = .ok (.iconst 2, 1) := by decide +kernel
theorem dL_law_903 : decode cL_law 903 = .ok (.iadd, 1) := by decide +kernel
theorem dL_law_904 : decode cL_law 904 = .ok (.iaload, 1) := by decide +kernel
theorem dL_law_905 : decode cL_law 905 = .ok (.aload_n 0, 1) := by decide +kernel
theorem dL_law_906 : decode cL_law 906 = .ok (.iload_n 3, 1) := by decide +kernel
theorem dL_law_907 : decode cL_law 907 = .ok (.iconst 3, 1) := by decide +kernel
theorem dL_law_908 : decode cL_law 908 = .ok (.iadd, 1) := by decide +kernel
theorem dL_law_909 : decode cL_law 909 = .ok (.iaload, 1) := by decide +kernel
theorem dL_law_910 : decode cL_law 910 = .ok (.invokevirtual 107, 3) := by decide +kernel
theorem dL_law_913 : decode cL_law 913 = .ok (.if_icmp .eq 206, 3) := by decide +kernel
theorem dL_law_916 : decode cL_law 916 = .ok (.iconst 0, 1) := by decide +kernel
theorem dL_law_917 : decode cL_law 917 = .ok (.ireturn, 1) := by decide +kernel
theorem dL_law_918 : decode cL_law 918 = .ok (.aload_n 1, 1) := by decide +kernel
theorem dL_law_919 : decode cL_law 919 = .ok (.aload_n 0, 1) := by decide +kernel
theorem dL_law_920 : decode cL_law 920 = .ok (.iload_n 3, 1) := by decide +kernel
theorem dL_law_921 : decode cL_law 921 = .ok (.iconst 1, 1) := by decide +kernel
theorem dL_law_922 : decode cL_law 922 = .ok (.iadd, 1) := by decide +kernel
theorem dL_law_923 : decode cL_law 923 = .ok (.iaload, 1) := by decide +kernel
theorem dL_law_924 : decode cL_law 924 = .ok (.aload_n 0, 1) := by decide +kernel
theorem dL_law_925 : decode cL_law 925 = .ok (.iload_n 3, 1) := by decide +kernel
theorem dL_law_926 : decode cL_law 926 = .ok (.iconst 2, 1) := by decide +kernel
theorem dL_law_927 : decode cL_law 927 = .ok (.iadd, 1) := by decide +kernel
theorem dL_law_928 : decode cL_law 928 = .ok (.iaload, 1) := by decide +kernel
theorem dL_law_929 : decode cL_law 929 = .ok (.invokevirtual 108, 3) := by decide +kernel
theorem dL_law_932 : decode cL_law 932 = .ok (.aload_n 2, 1) := by decide +kernel
theorem dL_law_933 : decode cL_law 933 = .ok (.aload_n 0, 1) := by decide +kernel
theorem dL_law_934 : decode cL_law 934 = .ok (.iload_n 3, 1) := by decide +kernel
theorem dL_law_935 : decode cL_law 935 = .ok (.iconst 1, 1) := by decide +kernel
theorem dL_law_936 : decode cL_law 936 = .ok (.iadd, 1) := by decide +kernel
theorem dL_law_937 : decode cL_law 937 = .ok (.iaload, 1) := by decide +kernel
theorem dL_law_938 : decode cL_law 938 = .ok (.aload_n 0, 1) := by decide +kernel
theorem dL_law_939 : decode cL_law 939 = .ok (.iload_n 3, 1) := by decide +kernel
theorem dL_law_940 : decode cL_law 940 = .ok (.iconst 2, 1) := by decide +kernel
theorem dL_law_941 : decode cL_law 941 = .ok (.iadd, 1) := by decide +kernel
theorem dL_law_942 : decode cL_law 942 = .ok (.iaload, 1) := by decide +kernel
theorem dL_law_943 : decode cL_law 943 = .ok (.invokevirtual 111, 3) := by decide +kernel
theorem dL_law_946 : decode cL_law 946 = .ok (.if_icmp .eq 173, 3) := by decide +kernel
theorem dL_law_949 : decode cL_law 949 = .ok (.iconst 0, 1) := by decide +kernel
theorem dL_law_950 : decode cL_law 950 = .ok (.ireturn, 1) := by decide +kernel
theorem dL_law_951 : decode cL_law 951 = .ok (.aload_n 1, 1) := by decide +kernel
theorem dL_law_952 : decode cL_law 952 = .ok (.aload_n 0, 1) := by decide +kernel
theorem dL_law_953 : decode cL_law 953 = .ok (.iload_n 3, 1) := by decide +kernel
theorem dL_law_954 : decode cL_law 954 = .ok (.iconst 1, 1) := by decide +kernel
theorem dL_law_955 : decode cL_law 955 = .ok (.iadd, 1) := by decide +kernel
theorem dL_law_956 : decode cL_law 956 = .ok (.iaload, 1) := by decide +kernel
theorem dL_law_957 : decode cL_law 957 = .ok (.invokevirtual 112, 3) := by decide +kernel
theorem dL_law_960 : decode cL_law 960 = .ok (.aload_n 2, 1) := by decide +kernel
theorem dL_law_961 : decode cL_law 961 = .ok (.aload_n 0, 1) := by decide +kernel
theorem dL_law_962 : decode cL_law 962 = .ok (.iload_n 3, 1) := by decide +kernel
theorem dL_law_963 : decode cL_law 963 = .ok (.iconst 1, 1) := by decide +kernel
theorem dL_law_964 : decode cL_law 964 = .ok (.iadd, 1) := by decide +kernel
theorem dL_law_965 : decode cL_law 965 = .ok (.iaload, 1) := by decide +kernel
theorem dL_law_966 : decode cL_law 966 = .ok (.invokevirtual 115, 3) := by decide +kernel
theorem dL_law_969 : decode cL_law 969 = .ok (.if_icmp .eq 150, 3) := by decide +kernel
theorem dL_law_972 : decode cL_law 972 = .ok (.iconst 0, 1) := by decide +kernel
theorem dL_law_973 : decode cL_law 973 = .ok (.ireturn, 1) := by decide +kernel
theorem dL_law_974 : decode cL_law 974 = .ok (.aload_n 1, 1) := by decide +kernel
theorem dL_law_975 : decode cL_law 975 = .ok (.aload_n 0, 1) := by decide +kernel
theorem dL_law_976 : decode cL_law 976 = .ok (.iload_n 3, 1) := by decide +kernel
theorem dL_law_977 : decode cL_law 977 = .ok (.iconst 1, 1) := by decide +kernel
theorem dL_law_978 : decode cL_law 978 = .ok (.iadd, 1) := by decide +kernel
theorem dL_law_979 : decode cL_law 979 = .ok (.iaload, 1) := by decide +kernel
theorem dL_law_980 : decode cL_law 980 = .ok (.aload_n 0, 1) := by decide +kernel
theorem dL_law_981 : decode cL_law 981 = .ok (.iload_n 3, 1) := by decide +kernel
theorem dL_law_982 : decode cL_law 982 = .ok (.iconst 2, 1) := by decide +kernel
theorem dL_law_983 : decode cL_law 983 = .ok (.iadd, 1) := by decide +kernel
theorem dL_law_984 : decode cL_law 984 = .ok (.iaload, 1) := by decide +kernel
theorem dL_law_985 : decode cL_law 985 = .ok (.aload_n 0, 1) := by decide +kernel
theorem dL_law_986 : decode cL_law 986 = .ok (.iload_n 3, 1) := by decide +kernel
theorem dL_law_987 : decode cL_law 987 = .ok (.iconst 3, 1) := by decide +kernel
theorem dL_law_988 : decode cL_law 988 = .ok (.iadd, 1) := by decide +kernel
theorem dL_law_989 : decode cL_law 989 = .ok (.iaload, 1) := by decide +kernel
theorem dL_law_990 : decode cL_law 990 = .ok (.invokevirtual 116, 3) := by decide +kernel
theorem dL_law_993 : decode cL_law 993 = .ok (.aload_n 2, 1) := by decide +kernel
theorem dL_law_994 : decode cL_law 994 = .ok (.aload_n 0, 1) := by decide +kernel
theorem dL_law_995 : decode cL_law 995 = .ok (.iload_n 3, 1) := by decide +kernel
theorem dL_law_996 : decode cL_law 996 = .ok (.iconst 1, 1) := by decide +kernel
theorem dL_law_997 : decode cL_law 997 = .ok (.iadd, 1) := by decide +kernel
theorem dL_law_998 : decode cL_law 998 = .ok (.iaload, 1) := by decide +kernel
theorem dL_law_999 : decode cL_law 999 = .ok (.aload_n 0, 1) := by decide +kernel
theorem dL_law_1000 : decode cL_law 1000 = .ok (.iload_n 3, 1) := by decide +kernel
theorem dL_law_1001 : decode cL_law 1001 = .ok (.iconst 2, 1) := by decide +kernel
theorem dL_law_1002 : decode cL_law 1002 = .ok (.iadd, 1) := by decide +kernel
theorem dL_law_1003 : decode cL_law 1003 = .ok (.iaload, 1) := by decide +kernel
theorem dL_law_1004 : decode cL_law 1004 = .ok (.aload_n 0, 1) := by decide +kernel
theorem dL_law_1005 : decode cL_law 1005 = .ok (.iload_n 3, 1) := by decide +kernel
theorem dL_law_1006 : decode cL_law 1006 = .ok (.iconst 3, 1) := by decide +kernel
theorem dL_law_1007 : decode cL_law 1007 = .ok (.iadd, 1) := by decide +kernel
theorem dL_law_1008 : decode cL_law 1008 = .ok (.iaload, 1) := by decide +kernel
theorem dL_law_1009 : decode cL_law 1009 = .ok (.invokevirtual 119, 3) := by decide +kernel
theorem dL_law_1012 : decode cL_law 1012 = .ok (.if_icmp .eq 107, 3) := by decide +kernel
theorem dL_law_1015 : decode cL_law 1015 = .ok (.iconst 0, 1) := by decide +kernel
theorem dL_law_1016 : decode cL_law 1016 = .ok (.ireturn, 1) := by decide +kernel
theorem dL_law_1017 : decode cL_law 1017 = .ok (.aload_n 1, 1) := by decide +kernel
theorem dL_law_1018 : decode cL_law 1018 = .ok (.aload_n 0, 1) := by decide +kernel
theorem dL_law_1019 : decode cL_law 1019 = .ok (.iload_n 3, 1) := by decide +kernel
theorem dL_law_1020 : decode cL_law 1020 = .ok (.iconst 1, 1) := by decide +kernel
theorem dL_law_1021 : decode cL_law 1021 = .ok (.iadd, 1) := by decide +kernel
theorem dL_law_1022 : decode cL_law 1022 = .ok (.iaload, 1) := by decide +kernel
theorem dL_law_1023 : decode cL_law 1023 = .ok (.aload_n 0, 1) := by decide +kernel
theorem dL_law_1024 : decode cL_law 1024 = .ok (.iload_n 3, 1) := by decide +kernel
theorem dL_law_1025 : decode cL_law 1025 = .ok (.iconst 2, 1) := by decide +kernel
theorem dL_law_1026 : decode cL_law 1026 = .ok (.iadd, 1) := by decide +kernel
theorem dL_law_1027 : decode cL_law 1027 = .ok (.iaload, 1) := by decide +kernel
theorem dL_law_1028 : decode cL_law 1028 = .ok (.aload_n 0, 1) := by decide +kernel
theorem dL_law_1029 : decode cL_law 1029 = .ok (.iload_n 3, 1) := by decide +kernel
theorem dL_law_1030 : decode cL_law 1030 = .ok (.iconst 3, 1) := by decide +kernel
theorem dL_law_1031 : decode cL_law 1031 = .ok (.iadd, 1) := by decide +kernel
theorem dL_law_1032 : decode cL_law 1032 = .ok (.iaload, 1) := by decide +kernel
theorem dL_law_1033 : decode cL_law 1033 = .ok (.invokevirtual 120, 3) := by decide +kernel
theorem dL_law_1036 : decode cL_law 1036 = .ok (.aload_n 2, 1) := by decide +kernel
theorem dL_law_1037 : decode cL_law 1037 = .ok (.aload_n 0, 1) := by decide +kernel
theorem dL_law_1038 : decode cL_law 1038 = .ok (.iload_n 3, 1) := by decide +kernel
theorem dL_law_1039 : decode cL_law 1039 = .ok (.iconst 1, 1) := by decide +kernel
theorem dL_law_1040 : decode cL_law 1040 = .ok (.iadd, 1) := by decide +kernel
theorem dL_law_1041 : decode cL_law 1041 = .ok (.iaload, 1) := by decide +kernel
theorem dL_law_1042 : decode cL_law 1042 = .ok (.aload_n 0, 1) := by decide +kernel
theorem dL_law_1043 : decode cL_law 1043 = .ok (.iload_n 3, 1) := by decide +kernel
theorem dL_law_1044 : decode cL_law 1044 = .ok (.iconst 2, 1) := by decide +kernel
theorem dL_law_1045 : decode cL_law 1045 = .ok (.iadd, 1) := by decide +kernel
theorem dL_law_1046 : decode cL_law 1046 = .ok (.iaload, 1) := by decide +kernel
theorem dL_law_1047 : decode cL_law 1047 = .ok (.aload_n 0, 1) := by decide +kernel
theorem dL_law_1048 : decode cL_law 1048 = .ok (.iload_n 3, 1) := by decide +kernel
theorem dL_law_1049 : decode cL_law 1049 = .ok (.iconst 3, 1) := by decide +kernel
theorem dL_law_1050 : decode cL_law 1050 = .ok (.iadd, 1) := by decide +kernel
theorem dL_law_1051 : decode cL_law 1051 = .ok (.iaload, 1) := by decide +kernel
theorem dL_law_1052 : decode cL_law 1052 = .ok (.invokevirtual 123, 3) := by decide +kernel
theorem dL_law_1055 : decode cL_law 1055 = .ok (.if_icmp .eq 64, 3) := by decide +kernel
theorem dL_law_1058 : decode cL_law 1058 = .ok (.iconst 0, 1) := by decide +kernel
theorem dL_law_1059 : decode cL_law 1059 = .ok (.ireturn, 1) := by decide +kernel
theorem dL_law_1060 : decode cL_law 1060 = .ok (.aload_n 1, 1) := by decide +kernel
theorem dL_law_1061 : decode cL_law 1061 = .ok (.invokevirtual 124, 3) := by decide +kernel
theorem dL_law_1064 : decode cL_law 1064 = .ok (.aload_n 2, 1) := by decide +kernel
theorem dL_law_1065 : decode cL_law 1065 = .ok (.invokevirtual 127, 3) := by decide +kernel
theorem dL_law_1068 : decode cL_law 1068 = .ok (.if_icmp .eq 51, 3) := by decide +kernel
theorem dL_law_1071 : decode cL_law 1071 = .ok (.iconst 0, 1) := by decide +kernel
theorem dL_law_1072 : decode cL_law 1072 = .ok (.ireturn, 1) := by decide +kernel
theorem dL_law_1073 : decode cL_law 1073 = .ok (.aload_n 1, 1) := by decide +kernel
theorem dL_law_1074 : decode cL_law 1074 = .ok (.aload_n 0, 1) := by decide +kernel
theorem dL_law_1075 : decode cL_law 1075 = .ok (.iload_n 3, 1) := by decide +kernel
theorem dL_law_1076 : decode cL_law 1076 = .ok (.iconst 1, 1) := by decide +kernel
theorem dL_law_1077 : decode cL_law 1077 = .ok (.iadd, 1) := by decide +kernel
theorem dL_law_1078 : decode cL_law 1078 = .ok (.iaload, 1) := by decide +kernel
theorem dL_law_1079 : decode cL_law 1079 = .ok (.invokevirtual 128, 3) := by decide +kernel
theorem dL_law_1082 : decode cL_law 1082 = .ok (.aload_n 2, 1) := by decide +kernel
theorem dL_law_1083 : decode cL_law 1083 = .ok (.aload_n 0, 1) := by decide +kernel
theorem dL_law_1084 : decode cL_law 1084 = .ok (.iload_n 3, 1) := by decide +kernel
theorem dL_law_1085 : decode cL_law 1085 = .ok (.iconst 1, 1) := by decide +kernel
theorem dL_law_1086 : decode cL_law 1086 = .ok (.iadd, 1) := by decide +kernel
theorem dL_law_1087 : decode cL_law 1087 = .ok (.iaload, 1) := by decide +kernel
theorem dL_law_1088 : decode cL_law 1088 = .ok (.invokevirtual 132, 3) := by decide +kernel
theorem dL_law_1091 : decode cL_law 1091 = .ok (.if_icmp .eq 28, 3) := by decide +kernel
theorem dL_law_1094 : decode cL_law 1094 = .ok (.iconst 0, 1) := by decide +kernel
theorem dL_law_1095 : decode cL_law 1095 = .ok (.ireturn, 1) := by decide +kernel
theorem dL_law_1096 : decode cL_law 1096 = .ok (.aload_n 1, 1) := by decide +kernel
theorem dL_law_1097 : decode cL_law 1097 = .ok (.aload_n 0, 1) := by decide +kernel
theorem dL_law_1098 : decode cL_law 1098 = .ok (.iload_n 3, 1) := by decide +kernel
theorem dL_law_1099 : decode cL_law 1099 = .ok (.iconst 1, 1) := by decide +kernel
theorem dL_law_1100 : decode cL_law 1100 = .ok (.iadd, 1) := by decide +kernel
theorem dL_law_1101 : decode cL_law 1101 = .ok (.iaload, 1) := by decide +kernel
theorem dL_law_1102 : decode cL_law 1102 = .ok (.invokevirtual 133, 3) := by decide +kernel
theorem dL_law_1105 : decode cL_law 1105 = .ok (.aload_n 2, 1) := by decide +kernel
theorem dL_law_1106 : decode cL_law 1106 = .ok (.aload_n 0, 1) := by decide +kernel
theorem dL_law_1107 : decode cL_law 1107 = .ok (.iload_n 3, 1) := by decide +kernel
theorem dL_law_1108 : decode cL_law 1108 = .ok (.iconst 1, 1) := by decide +kernel
theorem dL_law_1109 : decode cL_law 1109 = .ok (.iadd, 1) := by decide +kernel
theorem dL_law_1110 : decode cL_law 1110 = .ok (.iaload, 1) := by decide +kernel
theorem dL_law_1111 : decode cL_law 1111 = .ok (.invokevirtual 136, 3) := by decide +kernel
theorem dL_law_1114 : decode cL_law 1114 = .ok (.if_icmp .eq 5, 3) := by decide +kernel
theorem dL_law_1117 : decode cL_law 1117 = .ok (.iconst 0, 1) := by decide +kernel
theorem dL_law_1118 : decode cL_law 1118 = .ok (.ireturn, 1) := by decide +kernel
theorem dL_law_1119 : decode cL_law 1119 = .ok (.iinc 3 6, 3) := by decide +kernel
theorem dL_law_1122 : decode cL_law 1122 = .ok (.goto (-1104), 3) := by decide +kernel
theorem dL_law_1125 : decode cL_law 1125 = .ok (.iconst 1, 1) := by decide +kernel
theorem dL_law_1126 : decode cL_law 1126 = .ok (.ireturn, 1) := by decide +kernel
end
section
/-! Z: one pure state for all cells of an object's world: pool 0 the cells made by constructors, pool 1 the tellings, pool 2 the pairs. zS = (ints, longs, references, (tellings, pairs)) by pool, cell, slot. -/
abbrev zS : Type := (Nat → Nat → Nat → Int32) × (Nat → Nat → Nat → Int64) × (Nat → Nat → Nat → Option Nat) × (Nat × Nat)
abbrev zK : Type := (Nat × List Nat) ⊕ (Nat × Nat)
def zsI (σ : zS) (q c j : Nat) (v : Int32) : zS := (fun q' c' => if q' = q ∧ c' = c then upd (σ.1 q c) j v else σ.1 q' c', σ.2)
def zsJ (σ : zS) (q c j : Nat) (v : Int64) : zS := (σ.1, fun q' c' => if q' = q ∧ c' = c then vp_updL (σ.2.1 q c) j v else σ.2.1 q' c', σ.2.2)
def zsR (σ : zS) (q c j : Nat) (v : Option Nat) : zS := (σ.1, σ.2.1, fun q' c' => if q' = q ∧ c' = c then va_up (σ.2.2.1 q c) j v else σ.2.2.1 q' c', σ.2.2.2)
/-- a field's value by its code: 0 int, 1 long, 2 a telling, 3 a pair, k+4 the fixed cell k -/
def zfv (a0 aT aP : Nat → Nat) (σ : zS) (q c j fd : Nat) : Value := match fd with
  | 0 => .int (σ.1 q c j)
  | 1 => .long (σ.2.1 q c j)
  | 2 => va_rf ((σ.2.2.1 q c j).map aT)
  | 3 => va_rf ((σ.2.2.1 q c j).map aP)
  | k + 4 => .ref (a0 k)
def zfl (a0 aT aP : Nat → Nat) (σ : zS) (q c : Nat) (fds : List Nat) : List Value := fds.mapIdx (fun j fd => zfv a0 aT aP σ q c j fd)
/-- an array's row by its code: 0 int, 1 long, 2 boolean, 3 tellings, 4 pairs -/
def zar (aT aP : Nat → Nat) (σ : zS) (c el : Nat) : (Nat → Int32) ⊕ (Nat → Int64) ⊕ (Nat → UInt32) ⊕ (Nat → UInt64) ⊕ (Nat → Option Nat) := match el with
  | 0 => .inl (σ.1 0 c)
  | 1 => .inr (.inl (σ.2.1 0 c))
  | 2 => .inl (σ.1 0 c)
  | 3 => .inr (.inr (.inr (.inr (fun i => (σ.2.2.1 0 c i).map aT))))
  | _ => .inr (.inr (.inr (.inr (fun i => (σ.2.2.1 0 c i).map aP))))
def zEk (cy : Nat → ClassId) (a0 aT aP : Nat → Nat) (σ : zS) (c : Nat) (k : zK) : va_E := match k with
  | .inl k => .inr (k.1, zfl a0 aT aP σ 0 c k.2)
  | .inr k => .inl (cy k.1, k.2, zar aT aP σ c k.1)
abbrev zFT : List Nat := [0, 0, 0, 0, 0, 0, 0, 0, 0, 2]
abbrev zFP : List Nat := [2, 2, 0, 0]
def zw (cy : Nat → ClassId) (sh : Nat → zK) (nf : Nat) (a0 aT aP : Nat → Nat) (σ : zS) : va_W := (List.range nf).map (fun c => (a0 c, zEk cy a0 aT aP σ c (sh c))) ++ ((List.range σ.2.2.2.1).map (fun t => (aT t, (Sum.inr (6, zfl a0 aT aP σ 1 t zFT) : va_E))) ++ (List.range σ.2.2.2.2).map (fun t => (aP t, (Sum.inr (5, zfl a0 aT aP σ 2 t zFP) : va_E))))
section ZL
variable {cy : Nat → ClassId} {sh : Nat → zK} {nf : Nat} {a0 aT aP : Nat → Nat} {σ τ : zS}
theorem zw_len : (zw cy sh nf a0 aT aP σ).length = nf + (σ.2.2.2.1 + σ.2.2.2.2) := by simp [zw]
theorem zw0 {c : Nat} (hc : c < nf) : (zw cy sh nf a0 aT aP σ)[c]? = some (a0 c, zEk cy a0 aT aP σ c (sh c)) := by
  unfold zw
  rw [List.getElem?_append_left (by simpa using hc)]
  simp [hc]
theorem zw1 {t : Nat} (ht : t < σ.2.2.2.1) : (zw cy sh nf a0 aT aP σ)[nf + t]? = some (aT t, .inr (6, zfl a0 aT aP σ 1 t zFT)) := by
  unfold zw
  rw [List.getElem?_append_right (by simp), List.getElem?_append_left (by simpa using ht)]
  simp [ht]
theorem zw2 {t : Nat} (ht : t < σ.2.2.2.2) : (zw cy sh nf a0 aT aP σ)[nf + σ.2.2.2.1 + t]? = some (aP t, .inr (5, zfl a0 aT aP σ 2 t zFP)) := by
  unfold zw
  rw [List.getElem?_append_right (by simp; omega), List.getElem?_append_right (by simp; omega)]
  have h1 : nf + σ.2.2.2.1 + t - nf - σ.2.2.2.1 = t := by omega
  simp [h1, ht]
def zeq (τ σ : zS) (q c : Nat) : Prop := τ.1 q c = σ.1 q c ∧ τ.2.1 q c = σ.2.1 q c ∧ τ.2.2.1 q c = σ.2.2.1 q c
theorem zfl_congr {q c : Nat} (h : zeq τ σ q c) (fds : List Nat) : zfl a0 aT aP τ q c fds = zfl a0 aT aP σ q c fds := by
  unfold zfl
  have e : (fun j fd => zfv a0 aT aP τ q c j fd) = (fun j fd => zfv a0 aT aP σ q c j fd) := by
    funext j fd
    unfold zfv
    rw [h.1, h.2.1, h.2.2]
  rw [e]
theorem zEk_congr {c : Nat} (h : zeq τ σ 0 c) (k : zK) : zEk cy a0 aT aP τ c k = zEk cy a0 aT aP σ c k := by
  cases k with
  | inl k => simp only [zEk, zfl_congr h]
  | inr k =>
    simp only [zEk]
    have e : zar aT aP τ c k.1 = zar aT aP σ c k.1 := by
      unfold zar
      rw [h.1, h.2.1, h.2.2]
    rw [e]
theorem zw_other {k : Nat} (hn : τ.2.2.2 = σ.2.2.2) (h0 : ∀ c, c < nf → c ≠ k → zeq τ σ 0 c) (h1 : ∀ t, t < σ.2.2.2.1 → nf + t ≠ k → zeq τ σ 1 t) (h2 : ∀ t, t < σ.2.2.2.2 → nf + σ.2.2.2.1 + t ≠ k → zeq τ σ 2 t) (i : Nat) (hi : i ≠ k) : (zw cy sh nf a0 aT aP τ)[i]? = (zw cy sh nf a0 aT aP σ)[i]? := by
  rcases Nat.lt_or_ge i nf with q | q
  · rw [zw0 q, zw0 q, zEk_congr (h0 i q hi)]
  · rcases Nat.lt_or_ge i (nf + σ.2.2.2.1) with q1 | q1
    · obtain ⟨t, rfl⟩ : ∃ t, i = nf + t := ⟨i - nf, by omega⟩
      have ht : t < σ.2.2.2.1 := by omega
      rw [zw1 (by rw [hn]; exact ht), zw1 ht, zfl_congr (h1 t ht hi)]
    · rcases Nat.lt_or_ge i (nf + σ.2.2.2.1 + σ.2.2.2.2) with q2 | q2
      · obtain ⟨t, rfl⟩ : ∃ t, i = nf + σ.2.2.2.1 + t := ⟨i - (nf + σ.2.2.2.1), by omega⟩
        have ht : t < σ.2.2.2.2 := by omega
        have e := zw2 (cy := cy) (sh := sh) (nf := nf) (a0 := a0) (aT := aT) (aP := aP) (σ := τ) (t := t) (by rw [hn]; exact ht)
        rw [hn] at e
        rw [e, zw2 ht, zfl_congr (h2 t ht hi)]
      · rw [List.getElem?_eq_none (by rw [zw_len, hn]; omega), List.getElem?_eq_none (by rw [zw_len]; omega)]
theorem zset {ws ws' : va_W} {k : Nat} {x : Nat × va_E} (hl : ws'.length = ws.length) (h1 : ws'[k]? = some x) (h2 : ∀ i, i ≠ k → ws'[i]? = ws[i]?) : ws.set k x = ws' := by
  apply List.ext_getElem?
  intro i
  rw [List.getElem?_set]
  by_cases h : k = i
  · subst h
    have hk : k < ws.length := by rw [← hl]; exact (List.getElem?_eq_some_iff.mp h1).1
    simp [hk, h1]
  · rw [if_neg h, h2 i (fun e => h e.symm)]
theorem zw_up0 {c : Nat} {x : va_E} (hc : c < nf) (hn : τ.2.2.2 = σ.2.2.2) (h : ∀ q' c', ¬ (q' = 0 ∧ c' = c) → zeq τ σ q' c') (hx : zEk cy a0 aT aP τ c (sh c) = x) : (zw cy sh nf a0 aT aP σ).set c (a0 c, x) = zw cy sh nf a0 aT aP τ := by
  refine zset (by rw [zw_len, zw_len, hn]) (by rw [zw0 hc, hx]) (zw_other hn (fun c' h1 h2 => h 0 c' (fun e => h2 e.2)) (fun t _ _ => h 1 t (fun e => by omega)) (fun t _ _ => h 2 t (fun e => by omega)))
theorem zw_up1 {t : Nat} {x : List Value} (ht : t < σ.2.2.2.1) (hn : τ.2.2.2 = σ.2.2.2) (h : ∀ q' c', ¬ (q' = 1 ∧ c' = t) → zeq τ σ q' c') (hx : zfl a0 aT aP τ 1 t zFT = x) : (zw cy sh nf a0 aT aP σ).set (nf + t) (aT t, .inr (6, x)) = zw cy sh nf a0 aT aP τ := by
  refine zset (by rw [zw_len, zw_len, hn]) (by rw [zw1 (by rw [hn]; exact ht), hx]) (zw_other hn (fun c' h1 h2 => h 0 c' (fun e => by omega)) (fun t' _ h2 => h 1 t' (fun e => h2 (by rw [e.2]))) (fun t' _ _ => h 2 t' (fun e => by omega)))
theorem zw_up2 {t : Nat} {x : List Value} (ht : t < σ.2.2.2.2) (hn : τ.2.2.2 = σ.2.2.2) (h : ∀ q' c', ¬ (q' = 2 ∧ c' = t) → zeq τ σ q' c') (hx : zfl a0 aT aP τ 2 t zFP = x) : (zw cy sh nf a0 aT aP σ).set (nf + σ.2.2.2.1 + t) (aP t, .inr (5, x)) = zw cy sh nf a0 aT aP τ := by
  have e := zw2 (cy := cy) (sh := sh) (nf := nf) (a0 := a0) (aT := aT) (aP := aP) (σ := τ) (t := t) (by rw [hn]; exact ht)
  rw [hn] at e
  refine zset (by rw [zw_len, zw_len, hn]) (by rw [e, hx]) (zw_other hn (fun c' h1 h2 => h 0 c' (fun e => by omega)) (fun t' _ h2 => h 1 t' (fun e => by omega)) (fun t' _ h2 => h 2 t' (fun e => h2 (by rw [e.2]))))
theorem zsI_eq {q c j : Nat} {v : Int32} (q' c' : Nat) (h : ¬ (q' = q ∧ c' = c)) : zeq (zsI σ q c j v) σ q' c' := ⟨by simp [zsI, h], rfl, rfl⟩
theorem zsJ_eq {q c j : Nat} {v : Int64} (q' c' : Nat) (h : ¬ (q' = q ∧ c' = c)) : zeq (zsJ σ q c j v) σ q' c' := ⟨rfl, by simp [zsJ, h], rfl⟩
theorem zsR_eq {q c j : Nat} {v : Option Nat} (q' c' : Nat) (h : ¬ (q' = q ∧ c' = c)) : zeq (zsR σ q c j v) σ q' c' := ⟨rfl, rfl, by simp [zsR, h]⟩
theorem zsI_at {q c j : Nat} {v : Int32} : (zsI σ q c j v).1 q c = upd (σ.1 q c) j v := by simp [zsI]
theorem zsJ_at {q c j : Nat} {v : Int64} : (zsJ σ q c j v).2.1 q c = vp_updL (σ.2.1 q c) j v := by simp [zsJ]
theorem zsR_at {q c j : Nat} {v : Option Nat} : (zsR σ q c j v).2.2.1 q c = va_up (σ.2.2.1 q c) j v := by simp [zsR]
theorem zfl_get {q c j fd : Nat} {fds : List Nat} (h : fds[j]? = some fd) : (zfl a0 aT aP σ q c fds)[j]? = some (zfv a0 aT aP σ q c j fd) := by
  simp [zfl, List.getElem?_mapIdx, h]
theorem zfl_len {q c : Nat} {fds : List Nat} : (zfl a0 aT aP σ q c fds).length = fds.length := by simp [zfl]
theorem zfl_put {q c j : Nat} {v : Value} {fds : List Nat} {fd : Nat} (h : fds[j]? = some fd) (h1 : zfv a0 aT aP τ q c j fd = v) (h2 : ∀ i f, i ≠ j → zfv a0 aT aP τ q c i f = zfv a0 aT aP σ q c i f) : zfl a0 aT aP τ q c fds = (zfl a0 aT aP σ q c fds).set j v := by
  apply List.ext_getElem?
  intro i
  rw [List.getElem?_set]
  by_cases e : j = i
  · subst e
    have hl : j < fds.length := (List.getElem?_eq_some_iff.mp h).1
    rw [zfl_get h, h1]
    simp [zfl_len, hl]
  · rw [if_neg e]
    simp only [zfl, List.getElem?_mapIdx]
    cases fds[i]? with
    | none => rfl
    | some f => simp only [Option.map_some, h2 i f (fun q => e q.symm)]
theorem zfv_I {q c j i f : Nat} {v : Int32} (h : i ≠ j) : zfv a0 aT aP (zsI σ q c j v) q c i f = zfv a0 aT aP σ q c i f := by
  have e : (zsI σ q c j v).1 q c i = σ.1 q c i := by rw [zsI_at]; simp [upd, h]
  unfold zfv
  rw [e]
  rfl
theorem zfv_J {q c j i f : Nat} {v : Int64} (h : i ≠ j) : zfv a0 aT aP (zsJ σ q c j v) q c i f = zfv a0 aT aP σ q c i f := by
  have e : (zsJ σ q c j v).2.1 q c i = σ.2.1 q c i := by rw [zsJ_at]; simp [vp_updL, h]
  unfold zfv
  rw [e]
  rfl
theorem zfv_R {q c j i f : Nat} {v : Option Nat} (h : i ≠ j) : zfv a0 aT aP (zsR σ q c j v) q c i f = zfv a0 aT aP σ q c i f := by
  have e : (zsR σ q c j v).2.2.1 q c i = σ.2.2.1 q c i := by rw [zsR_at]; simp [va_up, h]
  unfold zfv
  rw [e]
  rfl
end ZL
end
section
def zT : List Cond := lw_tbl.filter goodWord
theorem zT_in {w : Cond} (h : w ∈ zT) : w ∈ lw_tbl := (List.mem_filter.mp h).1
theorem zT_good {w : Cond} (h : w ∈ zT) : (w.onTables && w.keeps) = true ∨ ∃ ty, w = .arrayClass ty := good_of_word (List.mem_filter.mp h).2
abbrev zty (cy : Nat → ClassId) : List (ClassId × FieldType) := [(cy 0, .int), (cy 1, .long), (cy 2, .boolean), (cy 3, .object "CarrierPool$Telling"), (cy 4, .object "CarrierPool$Pair")]
abbrev zC (p : Program) (s : State) (m : MethodId) (args : Array Value) (c : Code) (own : String) (cc : ByteArray) (nL : Nat) (D : va_G) (cy : Nat → ClassId) : Prop := CallFix p m c cc nL s args zT own ∧ va_K D vwCl (zty cy) s
abbrev zW (D : va_G) (cy : Nat → ClassId) (sh : Nat → zK) (nf : Nat) (a0 aT aP : Nat → Nat) (A : Nat → Prop) (H0 : Heap) (σ : zS) (H : Heap) (locs : List Loc) : Prop := va_P D vwCl (zw cy sh nf a0 aT aP σ) H ∧ va_D A (zw cy sh nf a0 aT aP σ) ∧ va_S A H0 H locs
/-- a field as an instruction of a class names it -/
def zFk (own : String) (index ci j : Nat) (ty : FieldType) (fin : Bool) : Prop := ∃ (C : String) (T : u_T) (N : Nat) (ty0 : Nat → FieldType), vwCl[ci]? = some (C, T, N) ∧ (∀ w ∈ u_ws C T N, w ∈ zT) ∧ j < N ∧ (Cond.fieldLink own index C (T j).2.1 (T j).2.2.1 ∈ zT ∨ ∃ host, Cond.fieldLinkNest own index C (T j).2.1 (T j).2.2.1 host ∈ zT) ∧ (T j).1 = C ∧ (∀ k, k < N → parseFieldDescriptor (T k).2.2.1 = some (ty0 k)) ∧ (∀ a, a < N → ∀ b, b < N → a ≠ b → (T a).2.1 ≠ (T b).2.1) ∧ parseFieldDescriptor (T j).2.2.1 = some ty ∧ (T j).2.2.2 = fin
-- the pure words of a walk: what can fail answers none
def zld {α : Type} (σ : zS) (c n : Nat) (i : Int32) (k : Int32 → Option α) : Option α := if i < 0 ∨ n ≤ i.toNatClampNeg then none else k (σ.1 0 c i.toNatClampNeg)
def zldJ {α : Type} (σ : zS) (c n : Nat) (i : Int32) (k : Int64 → Option α) : Option α := if i < 0 ∨ n ≤ i.toNatClampNeg then none else k (σ.2.1 0 c i.toNatClampNeg)
def zldR {α : Type} (σ : zS) (c n : Nat) (i : Int32) (k : Option Nat → Option α) : Option α := if i < 0 ∨ n ≤ i.toNatClampNeg then none else k (σ.2.2.1 0 c i.toNatClampNeg)
def zst {α : Type} (σ : zS) (c n : Nat) (i v : Int32) (k : zS → Option α) : Option α := if i < 0 ∨ n ≤ i.toNatClampNeg then none else k (zsI σ 0 c i.toNatClampNeg v)
def zstZ {α : Type} (σ : zS) (c n : Nat) (i v : Int32) (k : zS → Option α) : Option α := if i < 0 ∨ n ≤ i.toNatClampNeg then none else if v = 0 ∨ v = 1 then k (zsI σ 0 c i.toNatClampNeg v) else none
def zstJ {α : Type} (σ : zS) (c n : Nat) (i : Int32) (v : Int64) (k : zS → Option α) : Option α := if i < 0 ∨ n ≤ i.toNatClampNeg then none else k (zsJ σ 0 c i.toNatClampNeg v)
/-- a telling or none goes into an array of tellings -/
def zstT {α : Type} (σ : zS) (c n : Nat) (i : Int32) (v : Option Nat) (k : zS → Option α) : Option α := if i < 0 ∨ n ≤ i.toNatClampNeg then none else match v with
  | none => k (zsR σ 0 c i.toNatClampNeg none)
  | some t => if t < σ.2.2.2.1 then k (zsR σ 0 c i.toNatClampNeg (some t)) else none
def zstP {α : Type} (σ : zS) (c n : Nat) (i : Int32) (v : Option Nat) (k : zS → Option α) : Option α := if i < 0 ∨ n ≤ i.toNatClampNeg then none else match v with
  | none => k (zsR σ 0 c i.toNatClampNeg none)
  | some t => if t < σ.2.2.2.2 then k (zsR σ 0 c i.toNatClampNeg (some t)) else none
def zlet {α : Type} (τ : zS) (k : zS → Option α) : Option α := k τ
def zgT {α : Type} (σ : zS) (x : Option Nat) (j : Nat) (k : Int32 → Option α) : Option α := match x with
  | none => none
  | some t => if t < σ.2.2.2.1 then k (σ.1 1 t j) else none
def zgTR {α : Type} (σ : zS) (x : Option Nat) (j : Nat) (k : Option Nat → Option α) : Option α := match x with
  | none => none
  | some t => if t < σ.2.2.2.1 then k (σ.2.2.1 1 t j) else none
def zgP {α : Type} (σ : zS) (x : Option Nat) (j : Nat) (k : Int32 → Option α) : Option α := match x with
  | none => none
  | some t => if t < σ.2.2.2.2 then k (σ.1 2 t j) else none
def zgPR {α : Type} (σ : zS) (x : Option Nat) (j : Nat) (k : Option Nat → Option α) : Option α := match x with
  | none => none
  | some t => if t < σ.2.2.2.2 then k (σ.2.2.1 2 t j) else none
def zpT {α : Type} (σ : zS) (x : Option Nat) (j : Nat) (v : Int32) (k : zS → Option α) : Option α := match x with
  | none => none
  | some t => if t < σ.2.2.2.1 then k (zsI σ 1 t j v) else none
def zpTZ {α : Type} (σ : zS) (x : Option Nat) (j : Nat) (v : Int32) (k : zS → Option α) : Option α := match x with
  | none => none
  | some t => if t < σ.2.2.2.1 then (if v = 0 ∨ v = 1 then k (zsI σ 1 t j v) else none) else none
def zpTR {α : Type} (σ : zS) (x : Option Nat) (j : Nat) (v : Option Nat) (k : zS → Option α) : Option α := match x with
  | none => none
  | some t => if t < σ.2.2.2.1 then k (zsR σ 1 t j v) else none
def zpP {α : Type} (σ : zS) (x : Option Nat) (j : Nat) (v : Int32) (k : zS → Option α) : Option α := match x with
  | none => none
  | some t => if t < σ.2.2.2.2 then k (zsI σ 2 t j v) else none
def zpPZ {α : Type} (σ : zS) (x : Option Nat) (j : Nat) (v : Int32) (k : zS → Option α) : Option α := match x with
  | none => none
  | some t => if t < σ.2.2.2.2 then (if v = 0 ∨ v = 1 then k (zsI σ 2 t j v) else none) else none
def zpPR {α : Type} (σ : zS) (x : Option Nat) (j : Nat) (v : Option Nat) (k : zS → Option α) : Option α := match x with
  | none => none
  | some t => if t < σ.2.2.2.2 then k (zsR σ 2 t j v) else none
def zon {α : Type} (x : Option Nat) (X Y : Option α) : Option α := match x with
  | none => X
  | some _ => Y
def znz {α : Type} (y : Int32) (k : Option α) : Option α := if y = 0 then none else k
def znzJ {α : Type} (y : Int64) (k : Option α) : Option α := if y = 0 then none else k
def zbi {α β : Type} (x : Option (β × zS)) (k : β → zS → Option α) : Option α := match x with
  | none => none
  | some q => k q.1 q.2
def zbv {α : Type} (x : Option zS) (k : zS → Option α) : Option α := match x with
  | none => none
  | some q => k q
def zrT {α : Type} (σ : zS) (x : Option Nat) (k : Option α) : Option α := match x with
  | none => none
  | some t => if t < σ.2.2.2.1 then k else none
def zrP {α : Type} (σ : zS) (x : Option Nat) (k : Option α) : Option α := match x with
  | none => none
  | some t => if t < σ.2.2.2.2 then k else none
def zlp {S α : Type} (b : (S → Option α) → S → Option α) : Nat → S → Option α
  | 0 => fun _ => none
  | n + 1 => fun s => b (zlp b n) s
theorem zloop {S α : Type} {b : (S → Option α) → S → Option α} {Wd : S → Prop} {r : α} (h : ∀ (rc : S → Option α) (s : S), (∀ s', rc s' = some r → Wd s') → b rc s = some r → Wd s) : ∀ (n : Nat) (s : S), zlp b n s = some r → Wd s := by
  intro n
  induction n with
  | zero => intro s h; cases h
  | succ n ih => intro s hs; exact h (zlp b n) s ih hs
theorem znarrow_b {v : Int32} (h : v = 0 ∨ v = 1) : narrow .boolean (.int v) = .int v ∧ fits .boolean (.int v) = true ∧ vp_nar .boolean v = v := by
  rcases h with rfl | rfl <;> exact ⟨rfl, rfl, rfl⟩
section ZR
variable {p : Program} {l : Launch} {e : Env} {R : Room} {s : State} {m : MethodId} {args : Array Value} {below : List Frame} {meth : Method} {c : Code} {H : Heap} {locs : List Loc} {cells slots : Nat} {Q : State → Prop}
variable {pc : Nat} {ls : Array Slot} {rest : List Value} {A : Nat → Prop} {H0 : Heap} {D : va_G} {cy : Nat → ClassId} {sh : Nat → zK} {nf : Nat} {a0 aT aP : Nat → Nat} {σ : zS} {own : String} {cc : ByteArray} {nL : Nat} {α : Type} {res : α}
theorem z_get (hC : zC p s m args c own cc nL D cy) {ws : va_W} (hP : va_P D vwCl ws H) {ci index j : Nat} {ty : FieldType} {fin : Bool} (F : zFk own index ci j ty fin) (q0 : Nat) {a : Nat} {fs : List Value} (he : ws[q0]? = some (a, .inr (ci, fs))) {v : Value} (hv : fs[j]? = some v) (hdg : decode cc pc = .ok (.getfield index, 3))
    (kk : W p l e R s m args below meth c H locs cells slots Q (F0 m (pc + 3) ls (v :: rest))) : W p l e R s m args below meth c H locs cells slots Q (F0 m pc ls (.ref a :: rest)) := by
  obtain ⟨C, T, N, ty0, h1, h2, h3, h4, h5, -, -, -, -⟩ := F
  obtain ⟨⟨hx, hb, -, hown, hts⟩, hK⟩ := hC
  rcases h4 with h4 | ⟨host, h4⟩
  · exact va_get (D := D) (ci := ci) (C := C) (T := T) (N := N) (ref := C) hx hb hts h2 hown hK hP q0 he h1 j h3 (hts _ h4) (by rw [h5]; exact fun _ h => h) hv hdg kk
  · exact va_getN (D := D) (ci := ci) (C := C) (T := T) (N := N) (ref := C) (host := host) hx hb hts h2 hown hK hP q0 he h1 j h3 (hts _ h4) (by rw [h5]; exact fun _ h => h) hv hdg kk
theorem z_put (hC : zC p s m args c own cc nL D cy) {ws : va_W} (hP : va_P D vwCl ws H) (hD : va_D A ws) (hS : va_S A H0 H locs) {ci index j : Nat} {ty : FieldType} (F : zFk own index ci j ty false) (q0 : Nat) {a : Nat} {fs : List Value} (he : ws[q0]? = some (a, .inr (ci, fs))) {v : Value} (hn : narrow ty v = v) (hfit : fits ty v = true) (hl : j < fs.length) (hdg : decode cc pc = .ok (.putfield index, 3))
    (kk : ∀ (H1 : Heap) (locs1 : List Loc), va_P D vwCl (ws.set q0 (a, .inr (ci, fs.set j v))) H1 → va_D A (ws.set q0 (a, .inr (ci, fs.set j v))) → va_S A H0 H1 locs1 → W p l e R s m args below meth c H1 locs1 cells slots Q (F0 m (pc + 3) ls rest)) : W p l e R s m args below meth c H locs cells slots Q (F0 m pc ls (v :: .ref a :: rest)) := by
  obtain ⟨C, T, N, ty0, h1, h2, h3, h4, h5, h6, h7, h8, h9⟩ := F
  obtain ⟨⟨hx, hb, -, hown, hts⟩, hK⟩ := hC
  rcases h4 with h4 | ⟨host, h4⟩
  · exact va_put (D := D) (ci := ci) (C := C) (T := T) (N := N) (ref := C) hx hb hts h2 ty0 h6 h7 hown hK hP hD hS q0 he h1 j h3 (hts _ h4) (by rw [h5]; exact fun _ h => h) h9 h8 hn hfit hl hdg kk
  · exact va_putN (D := D) (ci := ci) (C := C) (T := T) (N := N) (ref := C) (host := host) hx hb hts h2 ty0 h6 h7 hown hK hP hD hS q0 he h1 j h3 (hts _ h4) (by rw [h5]; exact fun _ h => h) h9 h8 hn hfit hl hdg kk
/-- a final field in its own constructor -/
theorem z_putF (hC : zC p s m args c own cc nL D cy) {ws : va_W} (hP : va_P D vwCl ws H) (hD : va_D A ws) (hS : va_S A H0 H locs) {ci index j : Nat} {ty : FieldType} {C : String} {T : u_T} {N : Nat} {ty0 : Nat → FieldType} (F : vwCl[ci]? = some (C, T, N) ∧ (∀ w ∈ u_ws C T N, w ∈ zT) ∧ j < N ∧ Cond.fieldLink own index C (T j).2.1 (T j).2.2.1 ∈ zT ∧ (T j).1 = C ∧ (∀ k, k < N → parseFieldDescriptor (T k).2.2.1 = some (ty0 k)) ∧ (∀ a, a < N → ∀ b, b < N → a ≠ b → (T a).2.1 ≠ (T b).2.1) ∧ parseFieldDescriptor (T j).2.2.1 = some ty ∧ (T j).2.2.2 = true) (hin : meth.name = "<init>") (ho : C = own) (q0 : Nat) {a : Nat} {fs : List Value} (he : ws[q0]? = some (a, .inr (ci, fs))) {v : Value} (hn : narrow ty v = v) (hfit : fits ty v = true) (hl : j < fs.length) (hdg : decode cc pc = .ok (.putfield index, 3))
    (kk : ∀ (H1 : Heap) (locs1 : List Loc), va_P D vwCl (ws.set q0 (a, .inr (ci, fs.set j v))) H1 → va_D A (ws.set q0 (a, .inr (ci, fs.set j v))) → va_S A H0 H1 locs1 → W p l e R s m args below meth c H1 locs1 cells slots Q (F0 m (pc + 3) ls rest)) : W p l e R s m args below meth c H locs cells slots Q (F0 m pc ls (v :: .ref a :: rest)) := by
  obtain ⟨h1, h2, h3, h4, h5, h6, h7, h8, h9⟩ := F
  obtain ⟨⟨hx, hb, -, hown, hts⟩, hK⟩ := hC
  exact va_putF (D := D) (ci := ci) (C := C) (T := T) (N := N) (ref := C) hx hb hts h2 ty0 h6 h7 hown hK hP hD hS q0 he h1 j h3 (hts _ h4) (by rw [h5]; exact fun _ h => h) h9 hin (by rw [h5, ho]) h8 hn hfit hl hdg kk
-- fixed objects
theorem z_get0 (hC : zC p s m args c own cc nL D cy) (hZ : zW D cy sh nf a0 aT aP A H0 σ H locs) {ci index j o fd : Nat} {fds : List Nat} {ty : FieldType} {fin : Bool} (F : zFk own index ci j ty fin) (ho : o < nf) (hs : sh o = .inl (ci, fds)) (hj : fds[j]? = some fd) (hdg : decode cc pc = .ok (.getfield index, 3))
    (kk : W p l e R s m args below meth c H locs cells slots Q (F0 m (pc + 3) ls (zfv a0 aT aP σ 0 o j fd :: rest))) : W p l e R s m args below meth c H locs cells slots Q (F0 m pc ls (.ref (a0 o) :: rest)) :=
  z_get hC hZ.1 F o (fs := zfl a0 aT aP σ 0 o fds) ((zw0 ho).trans (by rw [hs]; rfl)) (zfl_get hj) hdg kk
theorem z_put0 (hC : zC p s m args c own cc nL D cy) (hZ : zW D cy sh nf a0 aT aP A H0 σ H locs) {ci index j o : Nat} {fds : List Nat} (F : zFk own index ci j .int false) (ho : o < nf) (hs : sh o = .inl (ci, fds)) (hj : fds[j]? = some 0) {v : Int32} {k : zS → Option α} (hf : zlet (zsI σ 0 o j v) k = some res) (hdg : decode cc pc = .ok (.putfield index, 3))
    (kk : ∀ (τ : zS) (H1 : Heap) (locs1 : List Loc), k τ = some res → zW D cy sh nf a0 aT aP A H0 τ H1 locs1 → W p l e R s m args below meth c H1 locs1 cells slots Q (F0 m (pc + 3) ls rest)) : W p l e R s m args below meth c H locs cells slots Q (F0 m pc ls (.int v :: .ref (a0 o) :: rest)) := by
  have hl : j < (zfl a0 aT aP σ 0 o fds).length := by rw [zfl_len]; exact (List.getElem?_eq_some_iff.mp hj).1
  refine z_put hC hZ.1 hZ.2.1 hZ.2.2 F o (fs := zfl a0 aT aP σ 0 o fds) ((zw0 ho).trans (by rw [hs]; rfl)) rfl rfl hl hdg fun H1 locs1 h1 h2 h3 => ?_
  have e : (zw cy sh nf a0 aT aP σ).set o (a0 o, .inr (ci, (zfl a0 aT aP σ 0 o fds).set j (.int v))) = zw cy sh nf a0 aT aP (zsI σ 0 o j v) := zw_up0 ho rfl (fun q' c' h => zsI_eq q' c' h) (by
    rw [hs]
    simp only [zEk]
    rw [zfl_put (τ := zsI σ 0 o j v) (σ := σ) (v := .int v) hj (by simp [zfv, zsI_at, upd]) (fun i f h => zfv_I h)])
  rw [e] at h1 h2
  exact kk _ H1 locs1 hf ⟨h1, h2, h3⟩
theorem z_put0J (hC : zC p s m args c own cc nL D cy) (hZ : zW D cy sh nf a0 aT aP A H0 σ H locs) {ci index j o : Nat} {fds : List Nat} (F : zFk own index ci j .long false) (ho : o < nf) (hs : sh o = .inl (ci, fds)) (hj : fds[j]? = some 1) {v : Int64} {k : zS → Option α} (hf : zlet (zsJ σ 0 o j v) k = some res) (hdg : decode cc pc = .ok (.putfield index, 3))
    (kk : ∀ (τ : zS) (H1 : Heap) (locs1 : List Loc), k τ = some res → zW D cy sh nf a0 aT aP A H0 τ H1 locs1 → W p l e R s m args below meth c H1 locs1 cells slots Q (F0 m (pc + 3) ls rest)) : W p l e R s m args below meth c H locs cells slots Q (F0 m pc ls (.long v :: .ref (a0 o) :: rest)) := by
  have hl : j < (zfl a0 aT aP σ 0 o fds).length := by rw [zfl_len]; exact (List.getElem?_eq_some_iff.mp hj).1
  refine z_put hC hZ.1 hZ.2.1 hZ.2.2 F o (fs := zfl a0 aT aP σ 0 o fds) ((zw0 ho).trans (by rw [hs]; rfl)) rfl rfl hl hdg fun H1 locs1 h1 h2 h3 => ?_
  have e : (zw cy sh nf a0 aT aP σ).set o (a0 o, .inr (ci, (zfl a0 aT aP σ 0 o fds).set j (.long v))) = zw cy sh nf a0 aT aP (zsJ σ 0 o j v) := zw_up0 ho rfl (fun q' c' h => zsJ_eq q' c' h) (by
    rw [hs]
    simp only [zEk]
    rw [zfl_put (τ := zsJ σ 0 o j v) (σ := σ) (v := .long v) hj (by simp [zfv, zsJ_at, vp_updL]) (fun i f h => zfv_J h)])
  rw [e] at h1 h2
  exact kk _ H1 locs1 hf ⟨h1, h2, h3⟩
-- tellings
theorem z_gT (hC : zC p s m args c own cc nL D cy) (hZ : zW D cy sh nf a0 aT aP A H0 σ H locs) {index j : Nat} {ty : FieldType} {fin : Bool} (F : zFk own index 6 j ty fin) (hj : zFT[j]? = some 0) {x : Option Nat} {k : Int32 → Option α} (hf : zgT σ x j k = some res) (hdg : decode cc pc = .ok (.getfield index, 3))
    (kk : ∀ v : Int32, k v = some res → W p l e R s m args below meth c H locs cells slots Q (F0 m (pc + 3) ls (.int v :: rest))) : W p l e R s m args below meth c H locs cells slots Q (F0 m pc ls (va_rf (x.map aT) :: rest)) := by
  cases x with
  | none => cases hf
  | some t =>
    simp only [zgT] at hf
    by_cases ht : t < σ.2.2.2.1
    · rw [if_pos ht] at hf
      exact z_get hC hZ.1 F (nf + t) (zw1 ht) (zfl_get hj) hdg (kk _ hf)
    · rw [if_neg ht] at hf; cases hf
theorem z_gTR (hC : zC p s m args c own cc nL D cy) (hZ : zW D cy sh nf a0 aT aP A H0 σ H locs) {index j : Nat} {ty : FieldType} {fin : Bool} (F : zFk own index 6 j ty fin) (hj : zFT[j]? = some 2) {x : Option Nat} {k : Option Nat → Option α} (hf : zgTR σ x j k = some res) (hdg : decode cc pc = .ok (.getfield index, 3))
    (kk : ∀ v : Option Nat, k v = some res → W p l e R s m args below meth c H locs cells slots Q (F0 m (pc + 3) ls (va_rf (v.map aT) :: rest))) : W p l e R s m args below meth c H locs cells slots Q (F0 m pc ls (va_rf (x.map aT) :: rest)) := by
  cases x with
  | none => cases hf
  | some t =>
    simp only [zgTR] at hf
    by_cases ht : t < σ.2.2.2.1
    · rw [if_pos ht] at hf
      exact z_get hC hZ.1 F (nf + t) (zw1 ht) (zfl_get hj) hdg (kk _ hf)
    · rw [if_neg ht] at hf; cases hf
theorem z_gP (hC : zC p s m args c own cc nL D cy) (hZ : zW D cy sh nf a0 aT aP A H0 σ H locs) {index j : Nat} {ty : FieldType} {fin : Bool} (F : zFk own index 5 j ty fin) (hj : zFP[j]? = some 0) {x : Option Nat} {k : Int32 → Option α} (hf : zgP σ x j k = some res) (hdg : decode cc pc = .ok (.getfield index, 3))
    (kk : ∀ v : Int32, k v = some res → W p l e R s m args below meth c H locs cells slots Q (F0 m (pc + 3) ls (.int v :: rest))) : W p l e R s m args below meth c H locs cells slots Q (F0 m pc ls (va_rf (x.map aP) :: rest)) := by
  cases x with
  | none => cases hf
  | some t =>
    simp only [zgP] at hf
    by_cases ht : t < σ.2.2.2.2
    · rw [if_pos ht] at hf
      exact z_get hC hZ.1 F (nf + σ.2.2.2.1 + t) (zw2 ht) (zfl_get hj) hdg (kk _ hf)
    · rw [if_neg ht] at hf; cases hf
theorem z_gPR (hC : zC p s m args c own cc nL D cy) (hZ : zW D cy sh nf a0 aT aP A H0 σ H locs) {index j : Nat} {ty : FieldType} {fin : Bool} (F : zFk own index 5 j ty fin) (hj : zFP[j]? = some 2) {x : Option Nat} {k : Option Nat → Option α} (hf : zgPR σ x j k = some res) (hdg : decode cc pc = .ok (.getfield index, 3))
    (kk : ∀ v : Option Nat, k v = some res → W p l e R s m args below meth c H locs cells slots Q (F0 m (pc + 3) ls (va_rf (v.map aT) :: rest))) : W p l e R s m args below meth c H locs cells slots Q (F0 m pc ls (va_rf (x.map aP) :: rest)) := by
  cases x with
  | none => cases hf
  | some t =>
    simp only [zgPR] at hf
    by_cases ht : t < σ.2.2.2.2
    · rw [if_pos ht] at hf
      exact z_get hC hZ.1 F (nf + σ.2.2.2.1 + t) (zw2 ht) (zfl_get hj) hdg (kk _ hf)
    · rw [if_neg ht] at hf; cases hf
theorem z_put1 (hC : zC p s m args c own cc nL D cy) (hZ : zW D cy sh nf a0 aT aP A H0 σ H locs) {index j t : Nat} {ty : FieldType} (F : zFk own index 6 j ty false) (ht : t < σ.2.2.2.1) {v : Value} {τ : zS} (hn : narrow ty v = v) (hfit : fits ty v = true) (hj : j < 10) (h1 : τ.2.2.2 = σ.2.2.2) (h2 : ∀ q' c', ¬ (q' = 1 ∧ c' = t) → zeq τ σ q' c') (h3 : zfl a0 aT aP τ 1 t zFT = (zfl a0 aT aP σ 1 t zFT).set j v) (hdg : decode cc pc = .ok (.putfield index, 3))
    (kk : ∀ (H1 : Heap) (locs1 : List Loc), zW D cy sh nf a0 aT aP A H0 τ H1 locs1 → W p l e R s m args below meth c H1 locs1 cells slots Q (F0 m (pc + 3) ls rest)) : W p l e R s m args below meth c H locs cells slots Q (F0 m pc ls (v :: .ref (aT t) :: rest)) := by
  refine z_put hC hZ.1 hZ.2.1 hZ.2.2 F (nf + t) (fs := zfl a0 aT aP σ 1 t zFT) (zw1 ht) hn hfit (by rw [zfl_len]; exact hj) hdg fun H1 locs1 g1 g2 g3 => ?_
  rw [zw_up1 ht h1 h2 h3] at g1 g2
  exact kk H1 locs1 ⟨g1, g2, g3⟩
theorem z_put2 (hC : zC p s m args c own cc nL D cy) (hZ : zW D cy sh nf a0 aT aP A H0 σ H locs) {index j t : Nat} {ty : FieldType} (F : zFk own index 5 j ty false) (ht : t < σ.2.2.2.2) {v : Value} {τ : zS} (hn : narrow ty v = v) (hfit : fits ty v = true) (hj : j < 4) (h1 : τ.2.2.2 = σ.2.2.2) (h2 : ∀ q' c', ¬ (q' = 2 ∧ c' = t) → zeq τ σ q' c') (h3 : zfl a0 aT aP τ 2 t zFP = (zfl a0 aT aP σ 2 t zFP).set j v) (hdg : decode cc pc = .ok (.putfield index, 3))
    (kk : ∀ (H1 : Heap) (locs1 : List Loc), zW D cy sh nf a0 aT aP A H0 τ H1 locs1 → W p l e R s m args below meth c H1 locs1 cells slots Q (F0 m (pc + 3) ls rest)) : W p l e R s m args below meth c H locs cells slots Q (F0 m pc ls (v :: .ref (aP t) :: rest)) := by
  refine z_put hC hZ.1 hZ.2.1 hZ.2.2 F (nf + σ.2.2.2.1 + t) (fs := zfl a0 aT aP σ 2 t zFP) (zw2 ht) hn hfit (by rw [zfl_len]; exact hj) hdg fun H1 locs1 g1 g2 g3 => ?_
  rw [zw_up2 ht h1 h2 h3] at g1 g2
  exact kk H1 locs1 ⟨g1, g2, g3⟩
theorem z_pT (hC : zC p s m args c own cc nL D cy) (hZ : zW D cy sh nf a0 aT aP A H0 σ H locs) {index j : Nat} (F : zFk own index 6 j .int false) (hj : zFT[j]? = some 0) {x : Option Nat} {v : Int32} {k : zS → Option α} (hf : zpT σ x j v k = some res) (hdg : decode cc pc = .ok (.putfield index, 3))
    (kk : ∀ (τ : zS) (H1 : Heap) (locs1 : List Loc), k τ = some res → zW D cy sh nf a0 aT aP A H0 τ H1 locs1 → W p l e R s m args below meth c H1 locs1 cells slots Q (F0 m (pc + 3) ls rest)) : W p l e R s m args below meth c H locs cells slots Q (F0 m pc ls (.int v :: va_rf (x.map aT) :: rest)) := by
  cases x with
  | none => cases hf
  | some t =>
    simp only [zpT] at hf
    by_cases ht : t < σ.2.2.2.1
    · rw [if_pos ht] at hf
      exact z_put1 (τ := zsI σ 1 t j v) hC hZ F ht rfl rfl (List.getElem?_eq_some_iff.mp hj).1 rfl (fun q' c' h => zsI_eq q' c' h) (zfl_put hj (by simp [zfv, zsI_at, upd]) (fun i f h => zfv_I h)) hdg (fun H1 locs1 h => kk _ H1 locs1 hf h)
    · rw [if_neg ht] at hf; cases hf
theorem z_pTR (hC : zC p s m args c own cc nL D cy) (hZ : zW D cy sh nf a0 aT aP A H0 σ H locs) {index j : Nat} {C : String} (F : zFk own index 6 j (.object C) false) (hj : zFT[j]? = some 2) {x v : Option Nat} {k : zS → Option α} (hf : zpTR σ x j v k = some res) (hdg : decode cc pc = .ok (.putfield index, 3))
    (kk : ∀ (τ : zS) (H1 : Heap) (locs1 : List Loc), k τ = some res → zW D cy sh nf a0 aT aP A H0 τ H1 locs1 → W p l e R s m args below meth c H1 locs1 cells slots Q (F0 m (pc + 3) ls rest)) : W p l e R s m args below meth c H locs cells slots Q (F0 m pc ls (va_rf (v.map aT) :: va_rf (x.map aT) :: rest)) := by
  cases x with
  | none => cases hf
  | some t =>
    simp only [zpTR] at hf
    by_cases ht : t < σ.2.2.2.1
    · rw [if_pos ht] at hf
      exact z_put1 (τ := zsR σ 1 t j v) hC hZ F ht (by cases v <;> rfl) (by cases v <;> rfl) (List.getElem?_eq_some_iff.mp hj).1 rfl (fun q' c' h => zsR_eq q' c' h) (zfl_put hj (by simp [zfv, zsR_at, va_up]) (fun i f h => zfv_R h)) hdg (fun H1 locs1 h => kk _ H1 locs1 hf h)
    · rw [if_neg ht] at hf; cases hf
theorem z_pP (hC : zC p s m args c own cc nL D cy) (hZ : zW D cy sh nf a0 aT aP A H0 σ H locs) {index j : Nat} (F : zFk own index 5 j .int false) (hj : zFP[j]? = some 0) {x : Option Nat} {v : Int32} {k : zS → Option α} (hf : zpP σ x j v k = some res) (hdg : decode cc pc = .ok (.putfield index, 3))
    (kk : ∀ (τ : zS) (H1 : Heap) (locs1 : List Loc), k τ = some res → zW D cy sh nf a0 aT aP A H0 τ H1 locs1 → W p l e R s m args below meth c H1 locs1 cells slots Q (F0 m (pc + 3) ls rest)) : W p l e R s m args below meth c H locs cells slots Q (F0 m pc ls (.int v :: va_rf (x.map aP) :: rest)) := by
  cases x with
  | none => cases hf
  | some t =>
    simp only [zpP] at hf
    by_cases ht : t < σ.2.2.2.2
    · rw [if_pos ht] at hf
      exact z_put2 (τ := zsI σ 2 t j v) hC hZ F ht rfl rfl (List.getElem?_eq_some_iff.mp hj).1 rfl (fun q' c' h => zsI_eq q' c' h) (zfl_put hj (by simp [zfv, zsI_at, upd]) (fun i f h => zfv_I h)) hdg (fun H1 locs1 h => kk _ H1 locs1 hf h)
    · rw [if_neg ht] at hf; cases hf
theorem z_pPZ (hC : zC p s m args c own cc nL D cy) (hZ : zW D cy sh nf a0 aT aP A H0 σ H locs) {index j : Nat} (F : zFk own index 5 j .boolean false) (hj : zFP[j]? = some 0) {x : Option Nat} {v : Int32} {k : zS → Option α} (hf : zpPZ σ x j v k = some res) (hdg : decode cc pc = .ok (.putfield index, 3))
    (kk : ∀ (τ : zS) (H1 : Heap) (locs1 : List Loc), k τ = some res → zW D cy sh nf a0 aT aP A H0 τ H1 locs1 → W p l e R s m args below meth c H1 locs1 cells slots Q (F0 m (pc + 3) ls rest)) : W p l e R s m args below meth c H locs cells slots Q (F0 m pc ls (.int v :: va_rf (x.map aP) :: rest)) := by
  cases x with
  | none => cases hf
  | some t =>
    simp only [zpPZ] at hf
    by_cases ht : t < σ.2.2.2.2
    · rw [if_pos ht] at hf
      by_cases hv : v = 0 ∨ v = 1
      · rw [if_pos hv] at hf
        exact z_put2 (τ := zsI σ 2 t j v) hC hZ F ht (znarrow_b hv).1 (znarrow_b hv).2.1 (List.getElem?_eq_some_iff.mp hj).1 rfl (fun q' c' h => zsI_eq q' c' h) (zfl_put hj (by simp [zfv, zsI_at, upd]) (fun i f h => zfv_I h)) hdg (fun H1 locs1 h => kk _ H1 locs1 hf h)
      · rw [if_neg hv] at hf; cases hf
    · rw [if_neg ht] at hf; cases hf
end ZR
end
section
section ZA
variable {p : Program} {l : Launch} {e : Env} {R : Room} {s : State} {m : MethodId} {args : Array Value} {below : List Frame} {meth : Method} {c : Code} {H : Heap} {locs : List Loc} {cells slots : Nat} {Q : State → Prop}
variable {pc : Nat} {ls : Array Slot} {rest : List Value} {A : Nat → Prop} {H0 : Heap} {D : va_G} {cy : Nat → ClassId} {sh : Nat → zK} {nf : Nat} {a0 aT aP : Nat → Nat} {σ : zS} {own : String} {cc : ByteArray} {nL : Nat} {α : Type} {res : α}
theorem z_iald (hC : zC p s m args c own cc nL D cy) (hZ : zW D cy sh nf a0 aT aP A H0 σ H locs) {o n : Nat} (ho : o < nf) (hs : sh o = .inr (0, n)) {i : Int32} {k : Int32 → Option α} (hf : zld σ o n i k = some res) (hdg : decode cc pc = .ok (.iaload, 1))
    (kk : ∀ v : Int32, k v = some res → W p l e R s m args below meth c H locs cells slots Q (F0 m (pc + 1) ls (.int v :: rest))) : W p l e R s m args below meth c H locs cells slots Q (F0 m pc ls (.int i :: .ref (a0 o) :: rest)) := by
  unfold zld at hf
  by_cases h : i < 0 ∨ n ≤ i.toNatClampNeg
  · rw [if_pos h] at hf; cases hf
  · rw [if_neg h] at hf
    exact va_iald hC.1.1 hC.1.2.1 hC.2 hZ.1 o 0 (f := σ.1 0 o) (cA := cy 0) (n := n) ((zw0 ho).trans (by rw [hs]; rfl)) rfl h hdg (kk _ hf)
theorem z_zald (hC : zC p s m args c own cc nL D cy) (hZ : zW D cy sh nf a0 aT aP A H0 σ H locs) {o n : Nat} (ho : o < nf) (hs : sh o = .inr (2, n)) {i : Int32} {k : Int32 → Option α} (hf : zld σ o n i k = some res) (hdg : decode cc pc = .ok (.baload, 1))
    (kk : ∀ v : Int32, k v = some res → W p l e R s m args below meth c H locs cells slots Q (F0 m (pc + 1) ls (.int v :: rest))) : W p l e R s m args below meth c H locs cells slots Q (F0 m pc ls (.int i :: .ref (a0 o) :: rest)) := by
  unfold zld at hf
  by_cases h : i < 0 ∨ n ≤ i.toNatClampNeg
  · rw [if_pos h] at hf; cases hf
  · rw [if_neg h] at hf
    exact va_zald hC.1.1 hC.1.2.1 hC.2 hZ.1 o 2 (f := σ.1 0 o) (cA := cy 2) (n := n) ((zw0 ho).trans (by rw [hs]; rfl)) rfl h hdg (kk _ hf)
theorem z_lald (hC : zC p s m args c own cc nL D cy) (hZ : zW D cy sh nf a0 aT aP A H0 σ H locs) {o n : Nat} (ho : o < nf) (hs : sh o = .inr (1, n)) {i : Int32} {k : Int64 → Option α} (hf : zldJ σ o n i k = some res) (hdg : decode cc pc = .ok (.laload, 1))
    (kk : ∀ v : Int64, k v = some res → W p l e R s m args below meth c H locs cells slots Q (F0 m (pc + 1) ls (.long v :: rest))) : W p l e R s m args below meth c H locs cells slots Q (F0 m pc ls (.int i :: .ref (a0 o) :: rest)) := by
  unfold zldJ at hf
  by_cases h : i < 0 ∨ n ≤ i.toNatClampNeg
  · rw [if_pos h] at hf; cases hf
  · rw [if_neg h] at hf
    exact va_lald hC.1.1 hC.1.2.1 hC.2 hZ.1 o 1 (f := σ.2.1 0 o) (cA := cy 1) (n := n) ((zw0 ho).trans (by rw [hs]; rfl)) rfl h hdg (kk _ hf)
theorem z_aaldT (hC : zC p s m args c own cc nL D cy) (hZ : zW D cy sh nf a0 aT aP A H0 σ H locs) {o n : Nat} (ho : o < nf) (hs : sh o = .inr (3, n)) {i : Int32} {k : Option Nat → Option α} (hf : zldR σ o n i k = some res) (hdg : decode cc pc = .ok (.aaload, 1))
    (kk : ∀ v : Option Nat, k v = some res → W p l e R s m args below meth c H locs cells slots Q (F0 m (pc + 1) ls (va_rf (v.map aT) :: rest))) : W p l e R s m args below meth c H locs cells slots Q (F0 m pc ls (.int i :: .ref (a0 o) :: rest)) := by
  unfold zldR at hf
  by_cases h : i < 0 ∨ n ≤ i.toNatClampNeg
  · rw [if_pos h] at hf; cases hf
  · rw [if_neg h] at hf
    exact va_aldq hC.1.1 hC.1.2.1 hC.2 hZ.1 o 3 (f := fun i => (σ.2.2.1 0 o i).map aT) (cA := cy 3) (n := n) ((zw0 ho).trans (by rw [hs]; rfl)) rfl h hdg (kk _ hf)
theorem z_aaldP (hC : zC p s m args c own cc nL D cy) (hZ : zW D cy sh nf a0 aT aP A H0 σ H locs) {o n : Nat} (ho : o < nf) (hs : sh o = .inr (4, n)) {i : Int32} {k : Option Nat → Option α} (hf : zldR σ o n i k = some res) (hdg : decode cc pc = .ok (.aaload, 1))
    (kk : ∀ v : Option Nat, k v = some res → W p l e R s m args below meth c H locs cells slots Q (F0 m (pc + 1) ls (va_rf (v.map aP) :: rest))) : W p l e R s m args below meth c H locs cells slots Q (F0 m pc ls (.int i :: .ref (a0 o) :: rest)) := by
  unfold zldR at hf
  by_cases h : i < 0 ∨ n ≤ i.toNatClampNeg
  · rw [if_pos h] at hf; cases hf
  · rw [if_neg h] at hf
    exact va_aldq hC.1.1 hC.1.2.1 hC.2 hZ.1 o 4 (f := fun i => (σ.2.2.1 0 o i).map aP) (cA := cy 4) (n := n) ((zw0 ho).trans (by rw [hs]; rfl)) rfl h hdg (kk _ hf)
theorem zEk_upI {o n el j : Nat} {v : Int32} (h : el = 0 ∨ el = 2) : zEk cy a0 aT aP (zsI σ 0 o j v) o (.inr (el, n)) = .inl (cy el, n, .inl (upd (σ.1 0 o) j v)) := by
  rcases h with rfl | rfl <;> simp [zEk, zar, zsI_at]
theorem zW_up0 {τ : zS} {o : Nat} {x : va_E} {H1 : Heap} {locs1 : List Loc} (g1 : va_P D vwCl ((zw cy sh nf a0 aT aP σ).set o (a0 o, x)) H1) (g2 : va_D A ((zw cy sh nf a0 aT aP σ).set o (a0 o, x))) (g3 : va_S A H0 H1 locs1) (ho : o < nf) (hn : τ.2.2.2 = σ.2.2.2) (h : ∀ q' c', ¬ (q' = 0 ∧ c' = o) → zeq τ σ q' c') (hx : zEk cy a0 aT aP τ o (sh o) = x) : zW D cy sh nf a0 aT aP A H0 τ H1 locs1 := by
  rw [zw_up0 ho hn h hx] at g1 g2
  exact ⟨g1, g2, g3⟩
theorem z_iast (hC : zC p s m args c own cc nL D cy) (hZ : zW D cy sh nf a0 aT aP A H0 σ H locs) {o n : Nat} (ho : o < nf) (hs : sh o = .inr (0, n)) {i v : Int32} {k : zS → Option α} (hf : zst σ o n i v k = some res) (hdg : decode cc pc = .ok (.iastore, 1))
    (kk : ∀ (τ : zS) (H1 : Heap) (locs1 : List Loc), k τ = some res → zW D cy sh nf a0 aT aP A H0 τ H1 locs1 → W p l e R s m args below meth c H1 locs1 cells slots Q (F0 m (pc + 1) ls rest)) : W p l e R s m args below meth c H locs cells slots Q (F0 m pc ls (.int v :: .int i :: .ref (a0 o) :: rest)) := by
  unfold zst at hf
  by_cases h : i < 0 ∨ n ≤ i.toNatClampNeg
  · rw [if_pos h] at hf; cases hf
  · rw [if_neg h] at hf
    refine va_iast hC.1.1 hC.1.2.1 hC.2 hZ.1 hZ.2.1 hZ.2.2 o 0 (f := σ.1 0 o) (cA := cy 0) (n := n) ((zw0 ho).trans (by rw [hs]; rfl)) rfl h hdg fun H1 locs1 g1 g2 g3 => ?_
    exact kk _ H1 locs1 hf (zW_up0 (τ := zsI σ 0 o i.toNatClampNeg v) g1 g2 g3 ho rfl (fun q' c' h => zsI_eq q' c' h) (by rw [hs]; exact zEk_upI (Or.inl rfl)))
theorem z_zast (hC : zC p s m args c own cc nL D cy) (hZ : zW D cy sh nf a0 aT aP A H0 σ H locs) {o n : Nat} (ho : o < nf) (hs : sh o = .inr (2, n)) {i v : Int32} {k : zS → Option α} (hf : zstZ σ o n i v k = some res) (hdg : decode cc pc = .ok (.bastore, 1))
    (kk : ∀ (τ : zS) (H1 : Heap) (locs1 : List Loc), k τ = some res → zW D cy sh nf a0 aT aP A H0 τ H1 locs1 → W p l e R s m args below meth c H1 locs1 cells slots Q (F0 m (pc + 1) ls rest)) : W p l e R s m args below meth c H locs cells slots Q (F0 m pc ls (.int v :: .int i :: .ref (a0 o) :: rest)) := by
  unfold zstZ at hf
  by_cases h : i < 0 ∨ n ≤ i.toNatClampNeg
  · rw [if_pos h] at hf; cases hf
  · rw [if_neg h] at hf
    by_cases hv : v = 0 ∨ v = 1
    · rw [if_pos hv] at hf
      refine va_zast hC.1.1 hC.1.2.1 hC.2 hZ.1 hZ.2.1 hZ.2.2 o 2 (f := σ.1 0 o) (cA := cy 2) (n := n) ((zw0 ho).trans (by rw [hs]; rfl)) rfl h hdg fun H1 locs1 g1 g2 g3 => ?_
      rw [(znarrow_b hv).2.2] at g1 g2
      exact kk _ H1 locs1 hf (zW_up0 (τ := zsI σ 0 o i.toNatClampNeg v) g1 g2 g3 ho rfl (fun q' c' h => zsI_eq q' c' h) (by rw [hs]; exact zEk_upI (Or.inr rfl)))
    · rw [if_neg hv] at hf; cases hf
theorem z_last (hC : zC p s m args c own cc nL D cy) (hZ : zW D cy sh nf a0 aT aP A H0 σ H locs) {o n : Nat} (ho : o < nf) (hs : sh o = .inr (1, n)) {i : Int32} {v : Int64} {k : zS → Option α} (hf : zstJ σ o n i v k = some res) (hdg : decode cc pc = .ok (.lastore, 1))
    (kk : ∀ (τ : zS) (H1 : Heap) (locs1 : List Loc), k τ = some res → zW D cy sh nf a0 aT aP A H0 τ H1 locs1 → W p l e R s m args below meth c H1 locs1 cells slots Q (F0 m (pc + 1) ls rest)) : W p l e R s m args below meth c H locs cells slots Q (F0 m pc ls (.long v :: .int i :: .ref (a0 o) :: rest)) := by
  unfold zstJ at hf
  by_cases h : i < 0 ∨ n ≤ i.toNatClampNeg
  · rw [if_pos h] at hf; cases hf
  · rw [if_neg h] at hf
    refine va_last hC.1.1 hC.1.2.1 hC.2 hZ.1 hZ.2.1 hZ.2.2 o 1 (f := σ.2.1 0 o) (cA := cy 1) (n := n) ((zw0 ho).trans (by rw [hs]; rfl)) rfl h hdg fun H1 locs1 g1 g2 g3 => ?_
    exact kk _ H1 locs1 hf (zW_up0 (τ := zsJ σ 0 o i.toNatClampNeg v) g1 g2 g3 ho rfl (fun q' c' h => zsJ_eq q' c' h) (by rw [hs]; simp [zEk, zar, zsJ_at]))
theorem zup_map {f : Nat → Option Nat} {j : Nat} {v : Option Nat} {g : Nat → Nat} : (fun i => (va_up f j v i).map g) = va_up (fun i => (f i).map g) j (v.map g) := by
  funext i
  unfold va_up
  by_cases h : i = j <;> simp [h]
theorem z_aastT (hC : zC p s m args c own cc nL D cy) (hZ : zW D cy sh nf a0 aT aP A H0 σ H locs) {o n : Nat} (ho : o < nf) (hs : sh o = .inr (3, n)) {i : Int32} {v : Option Nat} {k : zS → Option α} (hf : zstT σ o n i v k = some res) (hdg : decode cc pc = .ok (.aastore, 1))
    (kk : ∀ (τ : zS) (H1 : Heap) (locs1 : List Loc), k τ = some res → zW D cy sh nf a0 aT aP A H0 τ H1 locs1 → W p l e R s m args below meth c H1 locs1 cells slots Q (F0 m (pc + 1) ls rest)) : W p l e R s m args below meth c H locs cells slots Q (F0 m pc ls (va_rf (v.map aT) :: .int i :: .ref (a0 o) :: rest)) := by
  unfold zstT at hf
  by_cases h : i < 0 ∨ n ≤ i.toNatClampNeg
  · rw [if_pos h] at hf; cases hf
  · rw [if_neg h] at hf
    cases v with
    | none =>
      refine va_astqN hC.1.1 hC.1.2.1 hC.2 hZ.1 hZ.2.1 hZ.2.2 o 3 (f := fun i => (σ.2.2.1 0 o i).map aT) (cA := cy 3) (n := n) ((zw0 ho).trans (by rw [hs]; rfl)) rfl h hdg fun H1 locs1 g1 g2 g3 => ?_
      exact kk _ H1 locs1 hf (zW_up0 (τ := zsR σ 0 o i.toNatClampNeg none) g1 g2 g3 ho rfl (fun q' c' h => zsR_eq q' c' h) (by rw [hs]; simp only [zEk, zar, zsR_at, zup_map]; rfl))
    | some t =>
      dsimp only at hf
      by_cases ht : t < σ.2.2.2.1
      · rw [if_pos ht] at hf
        refine va_astq hC.1.1 hC.1.2.1 hC.2 hZ.1 hZ.2.1 hZ.2.2 o 3 (nf + t) 6 (f := fun i => (σ.2.2.1 0 o i).map aT) (cA := cy 3) (n := n) (r := (RX6, TX6, 10)) ((zw0 ho).trans (by rw [hs]; rfl)) rfl (zw1 ht) rfl h hdg fun H1 locs1 g1 g2 g3 => ?_
        exact kk _ H1 locs1 hf (zW_up0 (τ := zsR σ 0 o i.toNatClampNeg (some t)) g1 g2 g3 ho rfl (fun q' c' h => zsR_eq q' c' h) (by rw [hs]; simp only [zEk, zar, zsR_at, zup_map]; rfl))
      · rw [if_neg ht] at hf; cases hf
theorem z_aastP (hC : zC p s m args c own cc nL D cy) (hZ : zW D cy sh nf a0 aT aP A H0 σ H locs) {o n : Nat} (ho : o < nf) (hs : sh o = .inr (4, n)) {i : Int32} {v : Option Nat} {k : zS → Option α} (hf : zstP σ o n i v k = some res) (hdg : decode cc pc = .ok (.aastore, 1))
    (kk : ∀ (τ : zS) (H1 : Heap) (locs1 : List Loc), k τ = some res → zW D cy sh nf a0 aT aP A H0 τ H1 locs1 → W p l e R s m args below meth c H1 locs1 cells slots Q (F0 m (pc + 1) ls rest)) : W p l e R s m args below meth c H locs cells slots Q (F0 m pc ls (va_rf (v.map aP) :: .int i :: .ref (a0 o) :: rest)) := by
  unfold zstP at hf
  by_cases h : i < 0 ∨ n ≤ i.toNatClampNeg
  · rw [if_pos h] at hf; cases hf
  · rw [if_neg h] at hf
    cases v with
    | none =>
      refine va_astqN hC.1.1 hC.1.2.1 hC.2 hZ.1 hZ.2.1 hZ.2.2 o 4 (f := fun i => (σ.2.2.1 0 o i).map aP) (cA := cy 4) (n := n) ((zw0 ho).trans (by rw [hs]; rfl)) rfl h hdg fun H1 locs1 g1 g2 g3 => ?_
      exact kk _ H1 locs1 hf (zW_up0 (τ := zsR σ 0 o i.toNatClampNeg none) g1 g2 g3 ho rfl (fun q' c' h => zsR_eq q' c' h) (by rw [hs]; simp only [zEk, zar, zsR_at, zup_map]; rfl))
    | some t =>
      dsimp only at hf
      by_cases ht : t < σ.2.2.2.2
      · rw [if_pos ht] at hf
        refine va_astq hC.1.1 hC.1.2.1 hC.2 hZ.1 hZ.2.1 hZ.2.2 o 4 (nf + σ.2.2.2.1 + t) 5 (f := fun i => (σ.2.2.1 0 o i).map aP) (cA := cy 4) (n := n) (r := (RX5, TX5, 4)) ((zw0 ho).trans (by rw [hs]; rfl)) rfl (zw2 ht) rfl h hdg fun H1 locs1 g1 g2 g3 => ?_
        exact kk _ H1 locs1 hf (zW_up0 (τ := zsR σ 0 o i.toNatClampNeg (some t)) g1 g2 g3 ho rfl (fun q' c' h => zsR_eq q' c' h) (by rw [hs]; simp only [zEk, zar, zsR_at, zup_map]; rfl))
      · rw [if_neg ht] at hf; cases hf
theorem z_alen (hC : zC p s m args c own cc nL D cy) (hZ : zW D cy sh nf a0 aT aP A H0 σ H locs) {o n el : Nat} (ho : o < nf) (hs : sh o = .inr (el, n)) {ty : FieldType} (ht : (zty cy)[el]? = some (cy el, ty)) {v : Int32} (hv : Int32.ofNat n = v) (hdg : decode cc pc = .ok (.arraylength, 1))
    (kk : W p l e R s m args below meth c H locs cells slots Q (F0 m (pc + 1) ls (.int v :: rest))) : W p l e R s m args below meth c H locs cells slots Q (F0 m pc ls (.ref (a0 o) :: rest)) :=
  va_alen hC.1.1 hC.1.2.1 hC.2 hZ.1 o el (cA := cy el) (x := (n, zar aT aP σ o el)) ((zw0 ho).trans (by rw [hs]; rfl)) ht hv hdg kk
-- branches
theorem z_ieq (hC : zC p s m args c own cc nL D cy) {x y : Int32} {off : Int} {tgt : Nat} {X Y : Option α} (hf : (if x = y then X else Y) = some res) (hdg : decode cc pc = .ok (.if_icmp .eq off, 3)) (ht : (pc : Int) + off = (tgt : Int)) (kt : X = some res → W p l e R s m args below meth c H locs cells slots Q (F0 m tgt ls rest)) (kf : Y = some res → W p l e R s m args below meth c H locs cells slots Q (F0 m (pc + 3) ls rest)) : W p l e R s m args below meth c H locs cells slots Q (F0 m pc ls (.int y :: .int x :: rest)) :=
  lv_icmp_eq hC.1.1 hC.1.2.1 hdg ht (fun h => kt (by rwa [if_pos h] at hf)) (fun h => kf (by rwa [if_neg h] at hf))
theorem z_ine (hC : zC p s m args c own cc nL D cy) {x y : Int32} {off : Int} {tgt : Nat} {X Y : Option α} (hf : (if x = y then X else Y) = some res) (hdg : decode cc pc = .ok (.if_icmp .ne off, 3)) (ht : (pc : Int) + off = (tgt : Int)) (kt : X = some res → W p l e R s m args below meth c H locs cells slots Q (F0 m (pc + 3) ls rest)) (kf : Y = some res → W p l e R s m args below meth c H locs cells slots Q (F0 m tgt ls rest)) : W p l e R s m args below meth c H locs cells slots Q (F0 m pc ls (.int y :: .int x :: rest)) :=
  lv_icmp_ne hC.1.1 hC.1.2.1 hdg ht (fun h => kf (by rwa [if_neg h] at hf)) (fun h => kt (by rwa [if_pos h] at hf))
theorem z_ilt (hC : zC p s m args c own cc nL D cy) {x y : Int32} {off : Int} {tgt : Nat} {X Y : Option α} (hf : (if x < y then X else Y) = some res) (hdg : decode cc pc = .ok (.if_icmp .lt off, 3)) (ht : (pc : Int) + off = (tgt : Int)) (kt : X = some res → W p l e R s m args below meth c H locs cells slots Q (F0 m tgt ls rest)) (kf : Y = some res → W p l e R s m args below meth c H locs cells slots Q (F0 m (pc + 3) ls rest)) : W p l e R s m args below meth c H locs cells slots Q (F0 m pc ls (.int y :: .int x :: rest)) :=
  lv_icmp_lt hC.1.1 hC.1.2.1 hdg ht (fun h => kt (by rwa [if_pos h] at hf)) (fun h => kf (by rwa [if_neg h] at hf))
theorem z_ige (hC : zC p s m args c own cc nL D cy) {x y : Int32} {off : Int} {tgt : Nat} {X Y : Option α} (hf : (if y ≤ x then X else Y) = some res) (hdg : decode cc pc = .ok (.if_icmp .ge off, 3)) (ht : (pc : Int) + off = (tgt : Int)) (kt : X = some res → W p l e R s m args below meth c H locs cells slots Q (F0 m tgt ls rest)) (kf : Y = some res → W p l e R s m args below meth c H locs cells slots Q (F0 m (pc + 3) ls rest)) : W p l e R s m args below meth c H locs cells slots Q (F0 m pc ls (.int y :: .int x :: rest)) :=
  lv_icmp_ge hC.1.1 hC.1.2.1 hdg ht (fun h => kt (by rwa [if_pos h] at hf)) (fun h => kf (by rwa [if_neg h] at hf))
theorem z_igt (hC : zC p s m args c own cc nL D cy) {x y : Int32} {off : Int} {tgt : Nat} {X Y : Option α} (hf : (if y < x then X else Y) = some res) (hdg : decode cc pc = .ok (.if_icmp .gt off, 3)) (ht : (pc : Int) + off = (tgt : Int)) (kt : X = some res → W p l e R s m args below meth c H locs cells slots Q (F0 m tgt ls rest)) (kf : Y = some res → W p l e R s m args below meth c H locs cells slots Q (F0 m (pc + 3) ls rest)) : W p l e R s m args below meth c H locs cells slots Q (F0 m pc ls (.int y :: .int x :: rest)) :=
  lv_icmp_gt hC.1.1 hC.1.2.1 hdg ht (fun h => kt (by rwa [if_pos h] at hf)) (fun h => kf (by rwa [if_neg h] at hf))
theorem z_ile (hC : zC p s m args c own cc nL D cy) {x y : Int32} {off : Int} {tgt : Nat} {X Y : Option α} (hf : (if x ≤ y then X else Y) = some res) (hdg : decode cc pc = .ok (.if_icmp .le off, 3)) (ht : (pc : Int) + off = (tgt : Int)) (kt : X = some res → W p l e R s m args below meth c H locs cells slots Q (F0 m tgt ls rest)) (kf : Y = some res → W p l e R s m args below meth c H locs cells slots Q (F0 m (pc + 3) ls rest)) : W p l e R s m args below meth c H locs cells slots Q (F0 m pc ls (.int y :: .int x :: rest)) :=
  lv_icmp_le hC.1.1 hC.1.2.1 hdg ht (fun h => kt (by rwa [if_pos h] at hf)) (fun h => kf (by rwa [if_neg h] at hf))
theorem z_eq0 (hC : zC p s m args c own cc nL D cy) {x : Int32} {off : Int} {tgt : Nat} {X Y : Option α} (hf : (if x = 0 then X else Y) = some res) (hdg : decode cc pc = .ok (.ifCond .eq off, 3)) (ht : (pc : Int) + off = (tgt : Int)) (kt : X = some res → W p l e R s m args below meth c H locs cells slots Q (F0 m tgt ls rest)) (kf : Y = some res → W p l e R s m args below meth c H locs cells slots Q (F0 m (pc + 3) ls rest)) : W p l e R s m args below meth c H locs cells slots Q (F0 m pc ls (.int x :: rest)) :=
  lv_if_eq hC.1.1 hC.1.2.1 hdg ht (fun h => kt (by rwa [if_pos h] at hf)) (fun h => kf (by rwa [if_neg h] at hf))
theorem z_ne0 (hC : zC p s m args c own cc nL D cy) {x : Int32} {off : Int} {tgt : Nat} {X Y : Option α} (hf : (if x = 0 then X else Y) = some res) (hdg : decode cc pc = .ok (.ifCond .ne off, 3)) (ht : (pc : Int) + off = (tgt : Int)) (kt : X = some res → W p l e R s m args below meth c H locs cells slots Q (F0 m (pc + 3) ls rest)) (kf : Y = some res → W p l e R s m args below meth c H locs cells slots Q (F0 m tgt ls rest)) : W p l e R s m args below meth c H locs cells slots Q (F0 m pc ls (.int x :: rest)) :=
  lv_if_ne hC.1.1 hC.1.2.1 hdg ht (fun h => kf (by rwa [if_neg h] at hf)) (fun h => kt (by rwa [if_pos h] at hf))
theorem z_lt0 (hC : zC p s m args c own cc nL D cy) {x : Int32} {off : Int} {tgt : Nat} {X Y : Option α} (hf : (if x < 0 then X else Y) = some res) (hdg : decode cc pc = .ok (.ifCond .lt off, 3)) (ht : (pc : Int) + off = (tgt : Int)) (kt : X = some res → W p l e R s m args below meth c H locs cells slots Q (F0 m tgt ls rest)) (kf : Y = some res → W p l e R s m args below meth c H locs cells slots Q (F0 m (pc + 3) ls rest)) : W p l e R s m args below meth c H locs cells slots Q (F0 m pc ls (.int x :: rest)) :=
  lv_if_lt hC.1.1 hC.1.2.1 hdg ht (fun h => kt (by rwa [if_pos h] at hf)) (fun h => kf (by rwa [if_neg h] at hf))
theorem z_ge0 (hC : zC p s m args c own cc nL D cy) {x : Int32} {off : Int} {tgt : Nat} {X Y : Option α} (hf : (if 0 ≤ x then X else Y) = some res) (hdg : decode cc pc = .ok (.ifCond .ge off, 3)) (ht : (pc : Int) + off = (tgt : Int)) (kt : X = some res → W p l e R s m args below meth c H locs cells slots Q (F0 m tgt ls rest)) (kf : Y = some res → W p l e R s m args below meth c H locs cells slots Q (F0 m (pc + 3) ls rest)) : W p l e R s m args below meth c H locs cells slots Q (F0 m pc ls (.int x :: rest)) :=
  lv_if_ge hC.1.1 hC.1.2.1 hdg ht (fun h => kt (by rwa [if_pos h] at hf)) (fun h => kf (by rwa [if_neg h] at hf))
theorem z_gt0 (hC : zC p s m args c own cc nL D cy) {x : Int32} {off : Int} {tgt : Nat} {X Y : Option α} (hf : (if 0 < x then X else Y) = some res) (hdg : decode cc pc = .ok (.ifCond .gt off, 3)) (ht : (pc : Int) + off = (tgt : Int)) (kt : X = some res → W p l e R s m args below meth c H locs cells slots Q (F0 m tgt ls rest)) (kf : Y = some res → W p l e R s m args below meth c H locs cells slots Q (F0 m (pc + 3) ls rest)) : W p l e R s m args below meth c H locs cells slots Q (F0 m pc ls (.int x :: rest)) :=
  lv_if_gt hC.1.1 hC.1.2.1 hdg ht (fun h => kt (by rwa [if_pos h] at hf)) (fun h => kf (by rwa [if_neg h] at hf))
theorem z_le0 (hC : zC p s m args c own cc nL D cy) {x : Int32} {off : Int} {tgt : Nat} {X Y : Option α} (hf : (if x ≤ 0 then X else Y) = some res) (hdg : decode cc pc = .ok (.ifCond .le off, 3)) (ht : (pc : Int) + off = (tgt : Int)) (kt : X = some res → W p l e R s m args below meth c H locs cells slots Q (F0 m tgt ls rest)) (kf : Y = some res → W p l e R s m args below meth c H locs cells slots Q (F0 m (pc + 3) ls rest)) : W p l e R s m args below meth c H locs cells slots Q (F0 m pc ls (.int x :: rest)) :=
  lv_if_le hC.1.1 hC.1.2.1 hdg ht (fun h => kt (by rwa [if_pos h] at hf)) (fun h => kf (by rwa [if_neg h] at hf))
theorem z_ifnull (hC : zC p s m args c own cc nL D cy) {x : Option Nat} {g : Nat → Nat} {off : Int} {tgt : Nat} {X Y : Option α} (hf : zon x X Y = some res) (hdg : decode cc pc = .ok (.ifnull off, 3)) (ht : (pc : Int) + off = (tgt : Int)) (kt : X = some res → W p l e R s m args below meth c H locs cells slots Q (F0 m tgt ls rest)) (kf : Y = some res → W p l e R s m args below meth c H locs cells slots Q (F0 m (pc + 3) ls rest)) : W p l e R s m args below meth c H locs cells slots Q (F0 m pc ls (va_rf (x.map g) :: rest)) := by
  cases x with
  | none => exact lv_ifnullN hC.1.1 hC.1.2.1 hdg ht (kt hf)
  | some t => exact lv_ifnull hC.1.1 hC.1.2.1 hdg (kf hf)
theorem z_ifnonnull (hC : zC p s m args c own cc nL D cy) {x : Option Nat} {g : Nat → Nat} {off : Int} {tgt : Nat} {X Y : Option α} (hf : zon x X Y = some res) (hdg : decode cc pc = .ok (.ifnonnull off, 3)) (ht : (pc : Int) + off = (tgt : Int)) (kt : X = some res → W p l e R s m args below meth c H locs cells slots Q (F0 m (pc + 3) ls rest)) (kf : Y = some res → W p l e R s m args below meth c H locs cells slots Q (F0 m tgt ls rest)) : W p l e R s m args below meth c H locs cells slots Q (F0 m pc ls (va_rf (x.map g) :: rest)) := by
  cases x with
  | none => exact lv_ifnonnullN hC.1.1 hC.1.2.1 hdg (kt hf)
  | some t => exact lv_ifnonnull hC.1.1 hC.1.2.1 hdg ht (kf hf)
end ZA
end
section
theorem zcat (r : Option Nat) : (va_rf r).category = 1 := by cases r <;> rfl
def zadj (lv : List (Nat × Value)) (i : Nat) : Prop := ∀ q ∈ lv, ¬ q.1 + 1 = i ∨ q.2.category = 1
theorem zadj_nil {i : Nat} : zadj [] i := fun _ h => absurd h List.not_mem_nil
theorem zadj_cons {q : Nat × Value} {lv : List (Nat × Value)} {i : Nat} (h : ¬ q.1 + 1 = i ∨ q.2.category = 1) (t : zadj lv i) : zadj (q :: lv) i := fun x hx => by
  rcases List.mem_cons.mp hx with rfl | hx
  · exact h
  · exact t x hx
theorem zfilt {lv : List (Nat × Value)} {i : Nat} (h : zadj lv i) : lv.filter (fun q => !(q.1 == i) && !(q.1 + 1 == i && q.2.category == 2)) = lv.filter (fun q => !(q.1 == i)) := by
  apply List.filter_congr
  intro q hq
  rcases h q hq with h | h
  · simp [h]
  · simp [h]
abbrev zPc (D : va_G) (cy : Nat → ClassId) (sh : Nat → zK) (nf : Nat) (a0 aT aP : Nat → Nat) (σ : zS) (avs : List Value) (sz : Nat) : Array Value → State → Prop := va_Pc avs (fun U => U.heap.size = sz ∧ va_P D vwCl (zw cy sh nf a0 aT aP σ) U.heap ∧ va_K D vwCl (zty cy) U ∧ va_D (fun _ => True) (zw cy sh nf a0 aT aP σ))
abbrev zB (D : va_G) (cy : Nat → ClassId) (sh : Nat → zK) (nf : Nat) (a0 : Nat → Nat) (A : Nat → Prop) (σ : zS) (u : (Nat → Nat) × (Nat → Nat)) (t : State) : Prop := va_P D vwCl (zw cy sh nf a0 u.1 u.2 σ) t.heap ∧ va_K D vwCl (zty cy) t ∧ va_D A (zw cy sh nf a0 u.1 u.2 σ)
/-- the contracts: an int, a long, nothing, a telling or a pair comes back -/
def zMi (l : Launch) (y : MethodName) (cc : ByteArray) (mL : Nat) (ret : Option FieldType) (rm : Room) (D : va_G) (cy : Nat → ClassId) (sh : Nat → zK) (nf : Nat) (a0 aT aP : Nat → Nat) (σ : zS) (avs : List Value) (rv : Int32) (τ : zS) (U : (Nat → Nat) × (Nat → Nat) → Prop) : Prop := ∀ sz : Nat, Met l y (Cond.code y cc mL ret :: zT) rm (zPc D cy sh nf a0 aT aP σ avs sz) (va_Qi (fun r u => r = rv ∧ U u) (zB D cy sh nf a0 (va_A (zw cy sh nf a0 aT aP σ) sz) τ) (va_A (zw cy sh nf a0 aT aP σ) sz)) rm.cells rm.slots (va_A (zw cy sh nf a0 aT aP σ) sz)
def zMl (l : Launch) (y : MethodName) (cc : ByteArray) (mL : Nat) (ret : Option FieldType) (rm : Room) (D : va_G) (cy : Nat → ClassId) (sh : Nat → zK) (nf : Nat) (a0 aT aP : Nat → Nat) (σ : zS) (avs : List Value) (rv : Int64) (τ : zS) (U : (Nat → Nat) × (Nat → Nat) → Prop) : Prop := ∀ sz : Nat, Met l y (Cond.code y cc mL ret :: zT) rm (zPc D cy sh nf a0 aT aP σ avs sz) (va_Ql (fun r u => r = rv ∧ U u) (zB D cy sh nf a0 (va_A (zw cy sh nf a0 aT aP σ) sz) τ) (va_A (zw cy sh nf a0 aT aP σ) sz)) rm.cells rm.slots (va_A (zw cy sh nf a0 aT aP σ) sz)
def zMv (l : Launch) (y : MethodName) (cc : ByteArray) (mL : Nat) (ret : Option FieldType) (rm : Room) (D : va_G) (cy : Nat → ClassId) (sh : Nat → zK) (nf : Nat) (a0 aT aP : Nat → Nat) (σ : zS) (avs : List Value) (τ : zS) (U : (Nat → Nat) × (Nat → Nat) → Prop) : Prop := ∀ sz : Nat, Met l y (Cond.code y cc mL ret :: zT) rm (zPc D cy sh nf a0 aT aP σ avs sz) (va_Qv (fun u => U u) (zB D cy sh nf a0 (va_A (zw cy sh nf a0 aT aP σ) sz) τ) (va_A (zw cy sh nf a0 aT aP σ) sz)) rm.cells rm.slots (va_A (zw cy sh nf a0 aT aP σ) sz)
def zMq (l : Launch) (y : MethodName) (cc : ByteArray) (mL : Nat) (ret : Option FieldType) (rm : Room) (D : va_G) (cy : Nat → ClassId) (sh : Nat → zK) (nf : Nat) (a0 aT aP : Nat → Nat) (σ : zS) (avs : List Value) (rv : Option Nat) (τ : zS) (U : (Nat → Nat) × (Nat → Nat) → Prop) : Prop := ∀ sz : Nat, Met l y (Cond.code y cc mL ret :: zT) rm (zPc D cy sh nf a0 aT aP σ avs sz) (va_Qq (fun r u => r = rv ∧ U u) (zB D cy sh nf a0 (va_A (zw cy sh nf a0 aT aP σ) sz) τ) (va_A (zw cy sh nf a0 aT aP σ) sz)) rm.cells rm.slots (va_A (zw cy sh nf a0 aT aP σ) sz)
/-- a call of an instance method, a static one, as an instruction of a class names it -/
def zVk (own : String) (index : Nat) (y : MethodName) (bytes : ByteArray) (mL : Nat) (ret : Option FieldType) (n : Nat) : Prop := Cond.methodLink own index y ∈ zT ∧ Cond.instanceMethod y ∈ zT ∧ Cond.selects y.cls y y ∈ zT ∧ Cond.initialized y.cls ∈ zT ∧ Cond.code y bytes mL ret ∈ zT ∧ (y.cls ≠ "java/lang/invoke/MethodHandle" ∧ y.cls ≠ "java/lang/invoke/VarHandle" ∧ (parseMethodDescriptor y.desc).map (fun d => d.parameters.length) = some n)
def zSk (own : String) (index : Nat) (y : MethodName) (bytes : ByteArray) (mL : Nat) (ret : Option FieldType) (n : Nat) : Prop := Cond.methodLink own index y ∈ zT ∧ Cond.static y ∈ zT ∧ Cond.initialized y.cls ∈ zT ∧ Cond.code y bytes mL ret ∈ zT ∧ (y.cls ≠ "java/lang/invoke/MethodHandle" ∧ y.cls ≠ "java/lang/invoke/VarHandle" ∧ (parseMethodDescriptor y.desc).map (fun d => d.parameters.length) = some n)
theorem zGood {y : MethodName} {bytes : ByteArray} {mL : Nat} {ret : Option FieldType} (h : Cond.code y bytes mL ret ∈ zT) : GoodIn zT (Cond.code y bytes mL ret :: zT) := fun w hw => by
  have hw : w ∈ zT := by
    rcases List.mem_cons.mp hw with rfl | hw
    · exact h
    · exact hw
  exact ⟨hw, zT_good hw⟩
section ZQ
variable {p : Program} {l : Launch} {e : Env} {R : Room} {s : State} {m : MethodId} {args : Array Value} {below : List Frame} {meth : Method} {c : Code} {H : Heap} {locs : List Loc} {cells slots : Nat} {Q : State → Prop}
variable {pc : Nat} {ls : Array Slot} {rest : List Value} {A : Nat → Prop} {H0 : Heap} {D : va_G} {cy : Nat → ClassId} {sh : Nat → zK} {nf : Nat} {a0 aT aP : Nat → Nat} {σ τ : zS} {own : String} {cc : ByteArray} {nL : Nat} {α : Type} {res : α}
variable {y : MethodName} {bytes : ByteArray} {mL : Nat} {ret : Option FieldType} {n index : Nat} {rm : Room} {As st0 : List Value} {U : (Nat → Nat) × (Nat → Nat) → Prop} {b ci q0 : Nat} {fs : List Value}
theorem zfree (hA : ∀ q, H0.size ≤ q → A q) (hZ : zW D cy sh nf a0 aT aP A H0 σ H locs) : ∀ q, va_A (zw cy sh nf a0 aT aP σ) H.size q → A q := by
  intro q h
  rcases h with ⟨k, e, h⟩ | h
  · exact hZ.2.1.2 k _ h
  · exact hA q (Nat.le_trans hZ.2.2.1 h)
theorem zblind {avs : List Value} {sz : Nat} : FrameBlind (zPc D cy sh nf a0 aT aP σ avs sz) := fun a U g mk q => by
  obtain ⟨q0, q1, qP, qK, qD⟩ := q
  exact ⟨q0, q1, qP, va_K.moved (u := U) (U := U.calling g mk a) (Vm.Alike.refl U.vm) qK, qD⟩
theorem zpre (hC : zC p s m args c own cc nL D cy) (hZ : zW D cy sh nf a0 aT aP A H0 σ H locs) {avs : List Value} (V : State) (hU : V.heap = H) (hW : s.WarmedH V.vm) : zPc D cy sh nf a0 aT aP σ avs H.size avs.toArray V := ⟨rfl, by rw [hU], by rw [hU]; exact hZ.1, va_K.moved hW.alike hC.2, hZ.2.1.weaken (fun _ _ _ _ => trivial)⟩
theorem zcallB (hC : zC p s m args c own cc nL D cy) (h1 : Cond.methodLink own index y ∈ zT) (h2 : Cond.initialized y.cls ∈ zT) (h3 : Cond.code y bytes mL ret ∈ zT) (hd : y.cls ≠ "java/lang/invoke/MethodHandle" ∧ y.cls ≠ "java/lang/invoke/VarHandle" ∧ (parseMethodDescriptor y.desc).map (fun d => d.parameters.length) = some n) (hR : rm.frames + 1 ≤ R.frames ∧ 8 + (mL + 11) + rm.locals ≤ R.locals) : CallB R s args own index y bytes mL ret (Cond.code y bytes mL ret :: zT) rm rm.cells rm.slots n :=
  callB_of n hC.1.2.2.2.2 (zGood h3) rfl rfl rfl (hC.1.2.2.2.2 _ h2) (hC.1.2.2.2.2 _ h1) hd hR
theorem zrun (hC : zC p s m args c own cc nL D cy) (hZ : zW D cy sh nf a0 aT aP A H0 σ H locs) (V : zVk own index y bytes mL ret n) {T : u_T} {N : Nat} (hci : vwCl[ci]? = some (y.cls, T, N)) (he : (zw cy sh nf a0 aT aP σ)[q0]? = some (b, .inr (ci, fs))) {Qc : Array Value → State → Outcome → State → Prop} {free : Addr → Prop} (hM : Met l y (Cond.code y bytes mL ret :: zT) rm (zPc D cy sh nf a0 aT aP σ (.ref b :: As) H.size) Qc rm.cells rm.slots free) (hR : rm.frames + 1 ≤ R.frames ∧ 8 + (mL + 11) + rm.locals ≤ R.locals) (hn : As.length = n) (hsz : ls.size = nL) (hst : st0 = As.reverse ++ .ref b :: rest) (hW : (rest.map fun v => v.category).sum ≤ 8) (hcs : cells + rm.cells ≤ R.cells ∧ slots + rm.slots ≤ R.slots) (hdg : decode cc pc = .ok (.invokevirtual index, 3)) :
    va_Run p l e R s m args below meth c H locs cells slots rm.cells rm.slots (F0 m pc ls st0) rest (Qc (Value.ref b :: As).toArray) free := by
  obtain ⟨v1, v2, v3, v4, v5, v6⟩ := V
  exact va_runV (As := As) (rest := rest) hC.1 hM (cw := ⟨zcallB hC v1 v4 v5 v6 hR, hC.1.2.2.2.2 _ v2, hC.1.2.2.2.2 _ v3⟩) ⟨zblind, va_recv hC.2 hZ.1 hci he, fun V hU hW => zpre hC hZ V hU hW⟩ rfl hn hsz hst (lv_room hW) hdg hcs
theorem zrunS (hC : zC p s m args c own cc nL D cy) (hZ : zW D cy sh nf a0 aT aP A H0 σ H locs) (V : zSk own index y bytes mL ret n) {Qc : Array Value → State → Outcome → State → Prop} {free : Addr → Prop} (hM : Met l y (Cond.code y bytes mL ret :: zT) rm (zPc D cy sh nf a0 aT aP σ As H.size) Qc rm.cells rm.slots free) (hR : rm.frames + 1 ≤ R.frames ∧ 8 + (mL + 11) + rm.locals ≤ R.locals) (hn : As.length = n) (hsz : ls.size = nL) (hst : st0 = As.reverse ++ rest) (hW : (rest.map fun v => v.category).sum ≤ 8) (hcs : cells + rm.cells ≤ R.cells ∧ slots + rm.slots ≤ R.slots) (hdg : decode cc pc = .ok (.invokestatic index, 3)) :
    va_Run p l e R s m args below meth c H locs cells slots rm.cells rm.slots (F0 m pc ls st0) rest (Qc As.toArray) free := by
  obtain ⟨v1, v3, v4, v5, v6⟩ := V
  exact va_runS (As := As) (rest := rest) hC.1 hM (cw := ⟨zcallB hC v1 v4 v5 v6 hR, hC.1.2.2.2.2 _ v3⟩) ⟨zblind, fun V hU hW => zpre hC hZ V hU hW⟩ rfl hn hsz hst (lv_room hW) hdg hcs
theorem zback {A1 : Nat → Prop} {u : (Nat → Nat) × (Nat → Nat)} {t : State} {H1 : Heap} {locs1 : List Loc} (hf : ∀ q, A1 q → A q) (ht : t.heap = H1) (hB : zB D cy sh nf a0 A1 τ u t) (hS : va_S A H0 H1 locs1) : zW D cy sh nf a0 u.1 u.2 A H0 τ H1 locs1 := by
  obtain ⟨b1, b2, b3⟩ := hB
  exact ⟨by rw [← ht]; exact b1, b3.weaken (fun _ q _ h => hf q.1 h), hS⟩
theorem zcalli (hA : ∀ q, H0.size ≤ q → A q) (hZ : zW D cy sh nf a0 aT aP A H0 σ H locs) {rv : Int32} {a : Array Value} (hr : va_Run p l e R s m args below meth c H locs cells slots rm.cells rm.slots (F0 m pc ls st0) rest (va_Qi (fun r u => r = rv ∧ U u) (zB D cy sh nf a0 (va_A (zw cy sh nf a0 aT aP σ) H.size) τ) (va_A (zw cy sh nf a0 aT aP σ) H.size) a) (va_A (zw cy sh nf a0 aT aP σ) H.size))
    (kk : ∀ (u : (Nat → Nat) × (Nat → Nat)) (H1 : Heap) (locs1 : List Loc), U u → zW D cy sh nf a0 u.1 u.2 A H0 τ H1 locs1 → W p l e R s m args below meth c H1 locs1 (cells + rm.cells) (slots + rm.slots) Q (F0 m (pc + 3) ls (.int rv :: rest))) : W p l e R s m args below meth c H locs cells slots Q (F0 m pc ls st0) := by
  refine va_calli hr hZ.2.2 (fun q _ h => zfree hA hZ q h) (zfree hA hZ) (fun r u t H1 locs1 ht _ hp hB _ _ hS => ?_)
  rw [hp.1]
  exact kk u H1 locs1 hp.2 (zback (zfree hA hZ) ht hB hS)
theorem zcalll (hA : ∀ q, H0.size ≤ q → A q) (hZ : zW D cy sh nf a0 aT aP A H0 σ H locs) {rv : Int64} {a : Array Value} (hr : va_Run p l e R s m args below meth c H locs cells slots rm.cells rm.slots (F0 m pc ls st0) rest (va_Ql (fun r u => r = rv ∧ U u) (zB D cy sh nf a0 (va_A (zw cy sh nf a0 aT aP σ) H.size) τ) (va_A (zw cy sh nf a0 aT aP σ) H.size) a) (va_A (zw cy sh nf a0 aT aP σ) H.size))
    (kk : ∀ (u : (Nat → Nat) × (Nat → Nat)) (H1 : Heap) (locs1 : List Loc), U u → zW D cy sh nf a0 u.1 u.2 A H0 τ H1 locs1 → W p l e R s m args below meth c H1 locs1 (cells + rm.cells) (slots + rm.slots) Q (F0 m (pc + 3) ls (.long rv :: rest))) : W p l e R s m args below meth c H locs cells slots Q (F0 m pc ls st0) := by
  refine va_calll hr hZ.2.2 (fun q _ h => zfree hA hZ q h) (zfree hA hZ) (fun r u t H1 locs1 ht _ hp hB _ _ hS => ?_)
  rw [hp.1]
  exact kk u H1 locs1 hp.2 (zback (zfree hA hZ) ht hB hS)
theorem zcallq (hA : ∀ q, H0.size ≤ q → A q) (hZ : zW D cy sh nf a0 aT aP A H0 σ H locs) {rv : Option Nat} {a : Array Value} (hr : va_Run p l e R s m args below meth c H locs cells slots rm.cells rm.slots (F0 m pc ls st0) rest (va_Qq (fun r u => r = rv ∧ U u) (zB D cy sh nf a0 (va_A (zw cy sh nf a0 aT aP σ) H.size) τ) (va_A (zw cy sh nf a0 aT aP σ) H.size) a) (va_A (zw cy sh nf a0 aT aP σ) H.size))
    (kk : ∀ (u : (Nat → Nat) × (Nat → Nat)) (H1 : Heap) (locs1 : List Loc), U u → zW D cy sh nf a0 u.1 u.2 A H0 τ H1 locs1 → W p l e R s m args below meth c H1 locs1 (cells + rm.cells) (slots + rm.slots) Q (F0 m (pc + 3) ls (va_rf rv :: rest))) : W p l e R s m args below meth c H locs cells slots Q (F0 m pc ls st0) := by
  refine va_callq hr hZ.2.2 (fun q _ h => zfree hA hZ q h) (zfree hA hZ) (fun r u t H1 locs1 ht _ hp hB _ _ hS => ?_)
  rw [hp.1]
  exact kk u H1 locs1 hp.2 (zback (zfree hA hZ) ht hB hS)
theorem zcallv (hA : ∀ q, H0.size ≤ q → A q) (hZ : zW D cy sh nf a0 aT aP A H0 σ H locs) {a : Array Value} (hr : va_Run p l e R s m args below meth c H locs cells slots rm.cells rm.slots (F0 m pc ls st0) rest (va_Qv (fun u => U u) (zB D cy sh nf a0 (va_A (zw cy sh nf a0 aT aP σ) H.size) τ) (va_A (zw cy sh nf a0 aT aP σ) H.size) a) (va_A (zw cy sh nf a0 aT aP σ) H.size))
    (kk : ∀ (u : (Nat → Nat) × (Nat → Nat)) (H1 : Heap) (locs1 : List Loc), U u → zW D cy sh nf a0 u.1 u.2 A H0 τ H1 locs1 → W p l e R s m args below meth c H1 locs1 (cells + rm.cells) (slots + rm.slots) Q (F0 m (pc + 3) ls rest)) : W p l e R s m args below meth c H locs cells slots Q (F0 m pc ls st0) := by
  refine va_callv hr hZ.2.2 (fun q _ h => zfree hA hZ q h) (zfree hA hZ) (fun u t H1 locs1 ht _ hp hB _ _ hS => ?_)
  exact kk u H1 locs1 hp (zback (zfree hA hZ) ht hB hS)
/-- what a walk may end with: its answer and its state are those that are due -/
abbrev zEnd (p : Program) (l : Launch) (e : Env) (R : Room) (s : State) (m : MethodId) (args : Array Value) (below : List Frame) (meth : Method) (c : Code) (Q : State → Prop) (D : va_G) (cy : Nat → ClassId) (sh : Nat → zK) (nf : Nat) (a0 : Nat → Nat) (A : Nat → Prop) (H0 : Heap) (τ : zS) (U : (Nat → Nat) × (Nat → Nat) → Prop) (cc : ByteArray) (i : Instr) (vs : List Value) : Prop := ∀ (aT aP : Nat → Nat) (H : Heap) (locs : List Loc) (pc : Nat) (ls : Array Slot), U (aT, aP) → zW D cy sh nf a0 aT aP A H0 τ H locs → decode cc pc = .ok (i, 1) → W p l e R s m args below meth c H locs R.cells R.slots Q (F0 m pc ls vs)
theorem zmet_i {rv : Int32} (hy : plainName y.cls = true) (hr : ret = some .int ∨ (ret = some .boolean ∧ (rv = 0 ∨ rv = 1))) {avs : List Value} (hl : (lg_sl avs).length ≤ mL)
    (body : ∀ (p : Program) (e : Env) (s : State) (m : MethodId) (below : List Frame) (meth : Method) (c : Code) (A : Nat → Prop) (Q : State → Prop) (ls : Array Slot), zC p s m avs.toArray c y.cls cc mL D cy → (∀ q, s.heap.size ≤ q → A q) → zW D cy sh nf a0 aT aP A s.heap σ s.heap [] → lv_has ls mL (lv_args 0 avs) → zEnd p l e rm s m avs.toArray below meth c Q D cy sh nf a0 A s.heap τ U cc .ireturn [.int rv] → W p l e rm s m avs.toArray below meth c s.heap [] 0 0 Q (F0 m 0 ls [])) : zMi l y cc mL ret rm D cy sh nf a0 aT aP σ avs rv τ U := by
  intro sz
  refine Met.ofW (cc := cc) (maxL := mL) (ret := ret) hy rfl ?_
  intro p e s m args below meth c s₁ B hml hv
  obtain ⟨rfl, hsz, hP, hK, hD0⟩ := hv
  subst hsz
  have hts : ∀ w ∈ zT, w.before avs.toArray s = true := fun w h => atoms_spec (ws := Cond.code y cc mL ret :: zT) B.pre w (List.mem_cons_of_mem _ h)
  have hown : s.vm.findClass y.cls = some m.cls := findClass_of_methodNamed B.named
  have hlocks := B.notSynchronized
  have hl2 := lv_entry avs (n := mL) hl
  rw [lg_entry_eq]
  refine body p e s m below meth c (va_A (zw cy sh nf a0 aT aP σ) s.heap.size) _ _ ⟨⟨B.exec, B.bytes, hml, hown, hts⟩, hK⟩ (fun q h => Or.inr h) ⟨hP, hD0.self, va_S.rf⟩ hl2 ?_
  intro aT' aP' H locs pc ls hU hZ hd
  have hq : ∀ t : State, t.heap = H → s.WarmedH t.vm → va_Qi (fun r u => r = rv ∧ U u) (zB D cy sh nf a0 (va_A (zw cy sh nf a0 aT aP σ) s.heap.size) τ) (va_A (zw cy sh nf a0 aT aP σ) s.heap.size) avs.toArray s (.returned (some (.int rv))) t := fun t ht hW => ⟨⟨rv, (aT', aP'), rfl, ⟨rfl, hU⟩, by rw [ht]; exact hZ.1, va_K.moved hW.alike hK, hZ.2.1⟩, hZ.2.2.F ht⟩
  rcases hr with hr | ⟨hr, hb⟩
  · exact W.iret (v := rv) B.exec B.bytes (B.returns.trans hr) hq hZ.2.2.2.2 hd hlocks
  · exact W.zret (v := rv) B.exec B.bytes (B.returns.trans hr) (znarrow_b hb).1 hq hZ.2.2.2.2 hd hlocks
theorem zmet_l (hy : plainName y.cls = true) (hr : ret = some .long) {rv : Int64} {avs : List Value} (hl : (lg_sl avs).length ≤ mL)
    (body : ∀ (p : Program) (e : Env) (s : State) (m : MethodId) (below : List Frame) (meth : Method) (c : Code) (A : Nat → Prop) (Q : State → Prop) (ls : Array Slot), zC p s m avs.toArray c y.cls cc mL D cy → (∀ q, s.heap.size ≤ q → A q) → zW D cy sh nf a0 aT aP A s.heap σ s.heap [] → lv_has ls mL (lv_args 0 avs) → zEnd p l e rm s m avs.toArray below meth c Q D cy sh nf a0 A s.heap τ U cc .lreturn [.long rv] → W p l e rm s m avs.toArray below meth c s.heap [] 0 0 Q (F0 m 0 ls [])) : zMl l y cc mL ret rm D cy sh nf a0 aT aP σ avs rv τ U := by
  intro sz
  refine Met.ofW (cc := cc) (maxL := mL) (ret := ret) hy rfl ?_
  intro p e s m args below meth c s₁ B hml hv
  obtain ⟨rfl, hsz, hP, hK, hD0⟩ := hv
  subst hsz
  have hts : ∀ w ∈ zT, w.before avs.toArray s = true := fun w h => atoms_spec (ws := Cond.code y cc mL ret :: zT) B.pre w (List.mem_cons_of_mem _ h)
  have hown : s.vm.findClass y.cls = some m.cls := findClass_of_methodNamed B.named
  have hlocks := B.notSynchronized
  have hl2 := lv_entry avs (n := mL) hl
  rw [lg_entry_eq]
  refine body p e s m below meth c (va_A (zw cy sh nf a0 aT aP σ) s.heap.size) _ _ ⟨⟨B.exec, B.bytes, hml, hown, hts⟩, hK⟩ (fun q h => Or.inr h) ⟨hP, hD0.self, va_S.rf⟩ hl2 ?_
  intro aT' aP' H locs pc ls hU hZ hd
  exact W.lret (v := rv) B.exec B.bytes (B.returns.trans hr) (fun t ht hW => ⟨⟨rv, (aT', aP'), rfl, ⟨rfl, hU⟩, by rw [ht]; exact hZ.1, va_K.moved hW.alike hK, hZ.2.1⟩, hZ.2.2.F ht⟩) hZ.2.2.2.2 hd hlocks
theorem zmet_v (hy : plainName y.cls = true) (hr : ret = none) {avs : List Value} (hl : (lg_sl avs).length ≤ mL)
    (body : ∀ (p : Program) (e : Env) (s : State) (m : MethodId) (below : List Frame) (meth : Method) (c : Code) (A : Nat → Prop) (Q : State → Prop) (ls : Array Slot), zC p s m avs.toArray c y.cls cc mL D cy → (∀ q, s.heap.size ≤ q → A q) → zW D cy sh nf a0 aT aP A s.heap σ s.heap [] → lv_has ls mL (lv_args 0 avs) → zEnd p l e rm s m avs.toArray below meth c Q D cy sh nf a0 A s.heap τ U cc .return_ [] → W p l e rm s m avs.toArray below meth c s.heap [] 0 0 Q (F0 m 0 ls [])) : zMv l y cc mL ret rm D cy sh nf a0 aT aP σ avs τ U := by
  intro sz
  refine Met.ofW (cc := cc) (maxL := mL) (ret := ret) hy rfl ?_
  intro p e s m args below meth c s₁ B hml hv
  obtain ⟨rfl, hsz, hP, hK, hD0⟩ := hv
  subst hsz
  have hts : ∀ w ∈ zT, w.before avs.toArray s = true := fun w h => atoms_spec (ws := Cond.code y cc mL ret :: zT) B.pre w (List.mem_cons_of_mem _ h)
  have hown : s.vm.findClass y.cls = some m.cls := findClass_of_methodNamed B.named
  have hlocks := B.notSynchronized
  have hl2 := lv_entry avs (n := mL) hl
  rw [lg_entry_eq]
  refine body p e s m below meth c (va_A (zw cy sh nf a0 aT aP σ) s.heap.size) _ _ ⟨⟨B.exec, B.bytes, hml, hown, hts⟩, hK⟩ (fun q h => Or.inr h) ⟨hP, hD0.self, va_S.rf⟩ hl2 ?_
  intro aT' aP' H locs pc ls hU hZ hd
  exact W.vret B.exec B.bytes (B.returns.trans hr) (fun t ht hW => ⟨⟨(aT', aP'), rfl, hU, by rw [ht]; exact hZ.1, va_K.moved hW.alike hK, hZ.2.1⟩, hZ.2.2.F ht⟩) hZ.2.2.2.2 hd hlocks
theorem zmet_q (hy : plainName y.cls = true) {C : String} (hr : ret = some (.object C)) {rv : Option Nat} {avs : List Value} (hl : (lg_sl avs).length ≤ mL)
    (body : ∀ (p : Program) (e : Env) (s : State) (m : MethodId) (below : List Frame) (meth : Method) (c : Code) (A : Nat → Prop) (Q : State → Prop) (ls : Array Slot), zC p s m avs.toArray c y.cls cc mL D cy → (∀ q, s.heap.size ≤ q → A q) → zW D cy sh nf a0 aT aP A s.heap σ s.heap [] → lv_has ls mL (lv_args 0 avs) → zEnd p l e rm s m avs.toArray below meth c Q D cy sh nf a0 A s.heap τ U cc .areturn [va_rf rv] → W p l e rm s m avs.toArray below meth c s.heap [] 0 0 Q (F0 m 0 ls [])) : zMq l y cc mL ret rm D cy sh nf a0 aT aP σ avs rv τ U := by
  intro sz
  refine Met.ofW (cc := cc) (maxL := mL) (ret := ret) hy rfl ?_
  intro p e s m args below meth c s₁ B hml hv
  obtain ⟨rfl, hsz, hP, hK, hD0⟩ := hv
  subst hsz
  have hts : ∀ w ∈ zT, w.before avs.toArray s = true := fun w h => atoms_spec (ws := Cond.code y cc mL ret :: zT) B.pre w (List.mem_cons_of_mem _ h)
  have hown : s.vm.findClass y.cls = some m.cls := findClass_of_methodNamed B.named
  have hlocks := B.notSynchronized
  have hl2 := lv_entry avs (n := mL) hl
  rw [lg_entry_eq]
  refine body p e s m below meth c (va_A (zw cy sh nf a0 aT aP σ) s.heap.size) _ _ ⟨⟨B.exec, B.bytes, hml, hown, hts⟩, hK⟩ (fun q h => Or.inr h) ⟨hP, hD0.self, va_S.rf⟩ hl2 ?_
  intro aT' aP' H locs pc ls hU hZ hd
  exact W.aret (v := va_rf rv) B.exec B.bytes (B.returns.trans hr) (Or.inl ⟨C, rfl⟩) (va_rf_or rv) (fun t ht hW => ⟨⟨rv, (aT', aP'), rfl, ⟨rfl, hU⟩, by rw [ht]; exact hZ.1, va_K.moved hW.alike hK, hZ.2.1⟩, hZ.2.2.F ht⟩) hZ.2.2.2.2 hd hlocks
-- references in locals
theorem z_aload_n (hC : zC p s m args c own cc nL D cy) {k : Fin 4} {i : Nat} {x : Option Nat} {g : Nat → Nat} (hdg : decode cc pc = .ok (.aload_n k, 1)) (hi : (k : Nat) = i) (hl : ls[i]? = some (.val (va_rf (x.map g)))) (kk : W p l e R s m args below meth c H locs cells slots Q (F0 m (pc + 1) ls (va_rf (x.map g) :: rest))) : W p l e R s m args below meth c H locs cells slots Q (F0 m pc ls rest) := by
  cases x with
  | none => exact lv_aload_nN hC.1.1 hC.1.2.1 hdg hi hl kk
  | some t => exact lv_aload_n hC.1.1 hC.1.2.1 hdg hi hl kk
theorem z_aload (hC : zC p s m args c own cc nL D cy) {i : Nat} {x : Option Nat} {g : Nat → Nat} (hdg : decode cc pc = .ok (.aload i, 2)) (hl : ls[i]? = some (.val (va_rf (x.map g)))) (kk : W p l e R s m args below meth c H locs cells slots Q (F0 m (pc + 2) ls (va_rf (x.map g) :: rest))) : W p l e R s m args below meth c H locs cells slots Q (F0 m pc ls rest) := by
  cases x with
  | none => exact lv_aloadN hC.1.1 hC.1.2.1 hdg hl kk
  | some t => exact lv_aload hC.1.1 hC.1.2.1 hdg hl kk
theorem z_astore_n (hC : zC p s m args c own cc nL D cy) {k : Fin 4} {i : Nat} {x : Option Nat} {g : Nat → Nat} {lv lv' : List (Nat × Value)} (hdg : decode cc pc = .ok (.astore_n k, 1)) (hi : (k : Nat) = i) (h : lv_has ls nL lv) (hn : i < nL) (ha : zadj lv i) (hl : (i, va_rf (x.map g)) :: lv.filter (fun q => !(q.1 == i)) = lv')
    (kk : ∀ ls' : Array Slot, lv_has ls' nL lv' → W p l e R s m args below meth c H locs cells slots Q (F0 m (pc + 1) ls' rest)) : W p l e R s m args below meth c H locs cells slots Q (F0 m pc ls (va_rf (x.map g) :: rest)) := by
  rw [← zfilt ha] at hl
  cases x with
  | none => exact lv_astore_nN hC.1.1 hC.1.2.1 hdg hi h hn hl kk
  | some t => exact lv_astore_n hC.1.1 hC.1.2.1 hdg hi h hn hl kk
theorem z_astore (hC : zC p s m args c own cc nL D cy) {i : Nat} {x : Option Nat} {g : Nat → Nat} {lv lv' : List (Nat × Value)} (hdg : decode cc pc = .ok (.astore i, 2)) (h : lv_has ls nL lv) (hn : i < nL) (ha : zadj lv i) (hl : (i, va_rf (x.map g)) :: lv.filter (fun q => !(q.1 == i)) = lv')
    (kk : ∀ ls' : Array Slot, lv_has ls' nL lv' → W p l e R s m args below meth c H locs cells slots Q (F0 m (pc + 2) ls' rest)) : W p l e R s m args below meth c H locs cells slots Q (F0 m pc ls (va_rf (x.map g) :: rest)) := by
  rw [← zfilt ha] at hl
  cases x with
  | none => exact lv_astoreN hC.1.1 hC.1.2.1 hdg h hn hl kk
  | some t => exact lv_astore hC.1.1 hC.1.2.1 hdg h hn hl kk
theorem z_istore_n (hC : zC p s m args c own cc nL D cy) {k : Fin 4} {i : Nat} {x : Int32} {lv lv' : List (Nat × Value)} (hdg : decode cc pc = .ok (.istore_n k, 1)) (hi : (k : Nat) = i) (h : lv_has ls nL lv) (hn : i < nL) (ha : zadj lv i) (hl : (i, Value.int x) :: lv.filter (fun q => !(q.1 == i)) = lv')
    (kk : ∀ ls' : Array Slot, lv_has ls' nL lv' → W p l e R s m args below meth c H locs cells slots Q (F0 m (pc + 1) ls' rest)) : W p l e R s m args below meth c H locs cells slots Q (F0 m pc ls (.int x :: rest)) := by
  rw [← zfilt ha] at hl
  exact lv_istore_n hC.1.1 hC.1.2.1 hdg hi h hn hl kk
theorem z_istore (hC : zC p s m args c own cc nL D cy) {i : Nat} {x : Int32} {lv lv' : List (Nat × Value)} (hdg : decode cc pc = .ok (.istore i, 2)) (h : lv_has ls nL lv) (hn : i < nL) (ha : zadj lv i) (hl : (i, Value.int x) :: lv.filter (fun q => !(q.1 == i)) = lv')
    (kk : ∀ ls' : Array Slot, lv_has ls' nL lv' → W p l e R s m args below meth c H locs cells slots Q (F0 m (pc + 2) ls' rest)) : W p l e R s m args below meth c H locs cells slots Q (F0 m pc ls (.int x :: rest)) := by
  rw [← zfilt ha] at hl
  exact lv_istore hC.1.1 hC.1.2.1 hdg h hn hl kk
theorem z_iinc (hC : zC p s m args c own cc nL D cy) {i k : Nat} {n : Int} {x v : Int32} {lv lv' : List (Nat × Value)} (hdg : decode cc pc = .ok (.iinc i n, 3)) (h : lv_has ls nL lv) (hk : lv[k]? = some (i, .int x)) (hv : x + Int32.ofInt n = v) (hn : i < nL) (ha : zadj lv i) (hl : (i, Value.int v) :: lv.filter (fun q => !(q.1 == i)) = lv')
    (kk : ∀ ls' : Array Slot, lv_has ls' nL lv' → W p l e R s m args below meth c H locs cells slots Q (F0 m (pc + 3) ls' rest)) : W p l e R s m args below meth c H locs cells slots Q (F0 m pc ls rest) := by
  rw [← zfilt ha] at hl
  exact lv_iinc hC.1.1 hC.1.2.1 hdg h hk hv hn hl kk
theorem z_irem (hC : zC p s m args c own cc nL D cy) {x y : Int32} {k : Option α} (hf : znz y k = some res) (hdg : decode cc pc = .ok (.irem, 1)) (kk : k = some res → W p l e R s m args below meth c H locs cells slots Q (F0 m (pc + 1) ls (.int (x - x / y * y) :: rest))) : W p l e R s m args below meth c H locs cells slots Q (F0 m pc ls (.int y :: .int x :: rest)) := by
  unfold znz at hf
  by_cases h : y = 0
  · rw [if_pos h] at hf; cases hf
  · rw [if_neg h] at hf; exact lv_irem hC.1.1 hC.1.2.1 hdg h (kk hf)
theorem z_lrem (hC : zC p s m args c own cc nL D cy) {x y : Int64} {k : Option α} (hf : znzJ y k = some res) (hdg : decode cc pc = .ok (.lrem, 1)) (kk : k = some res → W p l e R s m args below meth c H locs cells slots Q (F0 m (pc + 1) ls (.long (x - x / y * y) :: rest))) : W p l e R s m args below meth c H locs cells slots Q (F0 m pc ls (.long y :: .long x :: rest)) := by
  unfold znzJ at hf
  by_cases h : y = 0
  · rw [if_pos h] at hf; cases hf
  · rw [if_neg h] at hf; exact lv_lrem hC.1.1 hC.1.2.1 hdg h (kk hf)
theorem z_ldiv (hC : zC p s m args c own cc nL D cy) {x y : Int64} {k : Option α} (hf : znzJ y k = some res) (hdg : decode cc pc = .ok (.ldiv, 1)) (kk : k = some res → W p l e R s m args below meth c H locs cells slots Q (F0 m (pc + 1) ls (.long (x / y) :: rest))) : W p l e R s m args below meth c H locs cells slots Q (F0 m pc ls (.long y :: .long x :: rest)) := by
  unfold znzJ at hf
  by_cases h : y = 0
  · rw [if_pos h] at hf; cases hf
  · rw [if_neg h] at hf; exact lv_ldiv hC.1.1 hC.1.2.1 hdg h (kk hf)
end ZQ
end
