-- ===== PART A: goes FIRST, ahead of the names: the tables' words, and 'selects' of the private methods out of them =====
/-- a private method of a class that the tables say can be made, by its rows of tables_1 -/
def lw_okq (q : MethodName × Nat) : Prop := (q.1.cls ≠ "java/lang/invoke/MethodHandle" ∧ q.1.cls ≠ "java/lang/invoke/VarHandle") ∧ Cond.instantiable q.1.cls q.2 ∈ tables_1 ∧ Cond.privateMethod q.1 ∈ tables_1 ∧ Cond.instanceMethod q.1 ∈ tables_1
theorem lw_p0 : lw_okq (⟨"BuyAsAsked$Sheets", "isRow", "(III)Z"⟩, 3) := ⟨⟨by decide +kernel, by decide +kernel⟩, List.mem_of_getElem? (i := 20) (by decide +kernel), List.mem_of_getElem? (i := 237) (by decide +kernel), List.mem_of_getElem? (i := 238) (by decide +kernel)⟩
theorem lw_p1 : lw_okq (⟨"BuyAsAsked$Sets", "leastGap", "(I)I"⟩, 9) := ⟨⟨by decide +kernel, by decide +kernel⟩, List.mem_of_getElem? (i := 39) (by decide +kernel), List.mem_of_getElem? (i := 300) (by decide +kernel), List.mem_of_getElem? (i := 301) (by decide +kernel)⟩
theorem lw_p2 : lw_okq (⟨"BuyAsAsked$Sets", "pricesOf", "(I)I"⟩, 9) := ⟨⟨by decide +kernel, by decide +kernel⟩, List.mem_of_getElem? (i := 39) (by decide +kernel), List.mem_of_getElem? (i := 308) (by decide +kernel), List.mem_of_getElem? (i := 309) (by decide +kernel)⟩
theorem lw_p3 : lw_okq (⟨"BuyAsAsked$Sets", "buyTight", "(I)I"⟩, 9) := ⟨⟨by decide +kernel, by decide +kernel⟩, List.mem_of_getElem? (i := 39) (by decide +kernel), List.mem_of_getElem? (i := 315) (by decide +kernel), List.mem_of_getElem? (i := 316) (by decide +kernel)⟩
theorem lw_p4 : lw_okq (⟨"BuyAsAsked", "meetItems", "(III)I"⟩, 6) := ⟨⟨by decide +kernel, by decide +kernel⟩, List.mem_of_getElem? (i := 12) (by decide +kernel), List.mem_of_getElem? (i := 323) (by decide +kernel), List.mem_of_getElem? (i := 324) (by decide +kernel)⟩
theorem lw_p5 : lw_okq (⟨"BuyAsAsked$Sets", "havers", "(I)I"⟩, 9) := ⟨⟨by decide +kernel, by decide +kernel⟩, List.mem_of_getElem? (i := 39) (by decide +kernel), List.mem_of_getElem? (i := 351) (by decide +kernel), List.mem_of_getElem? (i := 352) (by decide +kernel)⟩
theorem lw_p6 : lw_okq (⟨"BuyAsAsked$Leases", "start", "(II)I"⟩, 11) := ⟨⟨by decide +kernel, by decide +kernel⟩, List.mem_of_getElem? (i := 82) (by decide +kernel), List.mem_of_getElem? (i := 403) (by decide +kernel), List.mem_of_getElem? (i := 404) (by decide +kernel)⟩
theorem lw_p7 : lw_okq (⟨"BuyAsAsked$Leases", "leastGap", "(I)I"⟩, 11) := ⟨⟨by decide +kernel, by decide +kernel⟩, List.mem_of_getElem? (i := 82) (by decide +kernel), List.mem_of_getElem? (i := 408) (by decide +kernel), List.mem_of_getElem? (i := 409) (by decide +kernel)⟩
theorem lw_p8 : lw_okq (⟨"BuyAsAsked$Leases", "filled", "(II)I"⟩, 11) := ⟨⟨by decide +kernel, by decide +kernel⟩, List.mem_of_getElem? (i := 82) (by decide +kernel), List.mem_of_getElem? (i := 412) (by decide +kernel), List.mem_of_getElem? (i := 413) (by decide +kernel)⟩
theorem lw_p9 : lw_okq (⟨"BuyAsAsked$Leases", "buyTight", "(I)I"⟩, 11) := ⟨⟨by decide +kernel, by decide +kernel⟩, List.mem_of_getElem? (i := 82) (by decide +kernel), List.mem_of_getElem? (i := 421) (by decide +kernel), List.mem_of_getElem? (i := 422) (by decide +kernel)⟩
theorem lw_p10 : lw_okq (⟨"BuyAsAsked$Leases", "closeSpans", "(I)V"⟩, 11) := ⟨⟨by decide +kernel, by decide +kernel⟩, List.mem_of_getElem? (i := 82) (by decide +kernel), List.mem_of_getElem? (i := 435) (by decide +kernel), List.mem_of_getElem? (i := 436) (by decide +kernel)⟩
theorem lw_p11 : lw_okq (⟨"BuyAsAsked$Sites", "weighRows", "()V"⟩, 12) := ⟨⟨by decide +kernel, by decide +kernel⟩, List.mem_of_getElem? (i := 128) (by decide +kernel), List.mem_of_getElem? (i := 479) (by decide +kernel), List.mem_of_getElem? (i := 480) (by decide +kernel)⟩
theorem lw_p12 : lw_okq (⟨"BuyAsAsked$Sites", "leastWeight", "(I)I"⟩, 12) := ⟨⟨by decide +kernel, by decide +kernel⟩, List.mem_of_getElem? (i := 128) (by decide +kernel), List.mem_of_getElem? (i := 484) (by decide +kernel), List.mem_of_getElem? (i := 485) (by decide +kernel)⟩
theorem lw_p13 : lw_okq (⟨"BuyAsAsked$Sites", "weightOf", "(II)I"⟩, 12) := ⟨⟨by decide +kernel, by decide +kernel⟩, List.mem_of_getElem? (i := 128) (by decide +kernel), List.mem_of_getElem? (i := 488) (by decide +kernel), List.mem_of_getElem? (i := 489) (by decide +kernel)⟩
theorem lw_p14 : lw_okq (⟨"BuyAsAsked$Sites", "buyRow", "(I)I"⟩, 12) := ⟨⟨by decide +kernel, by decide +kernel⟩, List.mem_of_getElem? (i := 128) (by decide +kernel), List.mem_of_getElem? (i := 494) (by decide +kernel), List.mem_of_getElem? (i := 495) (by decide +kernel)⟩
theorem lw_p15 : lw_okq (⟨"BuyAsAsked$Sites", "nextOnRow", "(I)I"⟩, 12) := ⟨⟨by decide +kernel, by decide +kernel⟩, List.mem_of_getElem? (i := 128) (by decide +kernel), List.mem_of_getElem? (i := 498) (by decide +kernel), List.mem_of_getElem? (i := 499) (by decide +kernel)⟩
def lw_privs_1 : List (MethodName × Nat) := [(⟨"BuyAsAsked$Sheets", "isRow", "(III)Z"⟩, 3), (⟨"BuyAsAsked$Sets", "leastGap", "(I)I"⟩, 9), (⟨"BuyAsAsked$Sets", "pricesOf", "(I)I"⟩, 9), (⟨"BuyAsAsked$Sets", "buyTight", "(I)I"⟩, 9), (⟨"BuyAsAsked", "meetItems", "(III)I"⟩, 6), (⟨"BuyAsAsked$Sets", "havers", "(I)I"⟩, 9), (⟨"BuyAsAsked$Leases", "start", "(II)I"⟩, 11), (⟨"BuyAsAsked$Leases", "leastGap", "(I)I"⟩, 11), (⟨"BuyAsAsked$Leases", "filled", "(II)I"⟩, 11), (⟨"BuyAsAsked$Leases", "buyTight", "(I)I"⟩, 11), (⟨"BuyAsAsked$Leases", "closeSpans", "(I)V"⟩, 11), (⟨"BuyAsAsked$Sites", "weighRows", "()V"⟩, 12), (⟨"BuyAsAsked$Sites", "leastWeight", "(I)I"⟩, 12), (⟨"BuyAsAsked$Sites", "weightOf", "(II)I"⟩, 12), (⟨"BuyAsAsked$Sites", "buyRow", "(I)I"⟩, 12), (⟨"BuyAsAsked$Sites", "nextOnRow", "(I)I"⟩, 12)]
theorem lw_r1 : ∀ q ∈ lw_privs_1, lw_okq q := List.forall_mem_cons.mpr ⟨lw_p0, List.forall_mem_cons.mpr ⟨lw_p1, List.forall_mem_cons.mpr ⟨lw_p2, List.forall_mem_cons.mpr ⟨lw_p3, List.forall_mem_cons.mpr ⟨lw_p4, List.forall_mem_cons.mpr ⟨lw_p5, List.forall_mem_cons.mpr ⟨lw_p6, List.forall_mem_cons.mpr ⟨lw_p7, List.forall_mem_cons.mpr ⟨lw_p8, List.forall_mem_cons.mpr ⟨lw_p9, List.forall_mem_cons.mpr ⟨lw_p10, List.forall_mem_cons.mpr ⟨lw_p11, List.forall_mem_cons.mpr ⟨lw_p12, List.forall_mem_cons.mpr ⟨lw_p13, List.forall_mem_cons.mpr ⟨lw_p14, List.forall_mem_cons.mpr ⟨lw_p15, fun _ h => absurd h List.not_mem_nil⟩⟩⟩⟩⟩⟩⟩⟩⟩⟩⟩⟩⟩⟩⟩⟩
theorem lw_p16 : lw_okq (⟨"BuyAsAsked$Sites", "buyWay", "(II)V"⟩, 12) := ⟨⟨by decide +kernel, by decide +kernel⟩, List.mem_of_getElem? (i := 128) (by decide +kernel), List.mem_of_getElem? (i := 502) (by decide +kernel), List.mem_of_getElem? (i := 503) (by decide +kernel)⟩
theorem lw_p17 : lw_okq (⟨"BuyAsAsked$Sites", "findNearest", "()V"⟩, 12) := ⟨⟨by decide +kernel, by decide +kernel⟩, List.mem_of_getElem? (i := 128) (by decide +kernel), List.mem_of_getElem? (i := 520) (by decide +kernel), List.mem_of_getElem? (i := 521) (by decide +kernel)⟩
theorem lw_p18 : lw_okq (⟨"BuyAsAsked$Sites", "shorten", "([III)V"⟩, 12) := ⟨⟨by decide +kernel, by decide +kernel⟩, List.mem_of_getElem? (i := 128) (by decide +kernel), List.mem_of_getElem? (i := 524) (by decide +kernel), List.mem_of_getElem? (i := 525) (by decide +kernel)⟩
theorem lw_p19 : lw_okq (⟨"BuyAsAsked$Sites", "treeOf", "(I)I"⟩, 12) := ⟨⟨by decide +kernel, by decide +kernel⟩, List.mem_of_getElem? (i := 128) (by decide +kernel), List.mem_of_getElem? (i := 528) (by decide +kernel), List.mem_of_getElem? (i := 529) (by decide +kernel)⟩
theorem lw_p20 : lw_okq (⟨"BuyAsAsked$Sites", "nearestOf", "(I)I"⟩, 12) := ⟨⟨by decide +kernel, by decide +kernel⟩, List.mem_of_getElem? (i := 128) (by decide +kernel), List.mem_of_getElem? (i := 532) (by decide +kernel), List.mem_of_getElem? (i := 533) (by decide +kernel)⟩
theorem lw_p21 : lw_okq (⟨"BuyAsAsked$Asks", "worthOfOwn", "(LBuyAsAsked$Sets;I)I"⟩, 2) := ⟨⟨by decide +kernel, by decide +kernel⟩, List.mem_of_getElem? (i := 178) (by decide +kernel), List.mem_of_getElem? (i := 564) (by decide +kernel), List.mem_of_getElem? (i := 565) (by decide +kernel)⟩
theorem lw_p22 : lw_okq (⟨"BuyAsAsked$Asks", "begin", "(I)V"⟩, 2) := ⟨⟨by decide +kernel, by decide +kernel⟩, List.mem_of_getElem? (i := 178) (by decide +kernel), List.mem_of_getElem? (i := 568) (by decide +kernel), List.mem_of_getElem? (i := 569) (by decide +kernel)⟩
theorem lw_p23 : lw_okq (⟨"BuyAsAsked$Asks", "worthOfAny", "(LBuyAsAsked$Sets;I)I"⟩, 2) := ⟨⟨by decide +kernel, by decide +kernel⟩, List.mem_of_getElem? (i := 178) (by decide +kernel), List.mem_of_getElem? (i := 572) (by decide +kernel), List.mem_of_getElem? (i := 573) (by decide +kernel)⟩
theorem lw_p24 : lw_okq (⟨"BuyAsAsked$Asks", "worthOfNear", "(LBuyAsAsked$Sets;I)I"⟩, 2) := ⟨⟨by decide +kernel, by decide +kernel⟩, List.mem_of_getElem? (i := 178) (by decide +kernel), List.mem_of_getElem? (i := 576) (by decide +kernel), List.mem_of_getElem? (i := 577) (by decide +kernel)⟩
theorem lw_p25 : lw_okq (⟨"BuyAsAsked$Asks", "worthOfOpen", "(LBuyAsAsked$Sets;I)I"⟩, 2) := ⟨⟨by decide +kernel, by decide +kernel⟩, List.mem_of_getElem? (i := 178) (by decide +kernel), List.mem_of_getElem? (i := 580) (by decide +kernel), List.mem_of_getElem? (i := 581) (by decide +kernel)⟩
theorem lw_p26 : lw_okq (⟨"BuyAsAsked$Asks", "markOfNear", "(LBuyAsAsked$Sets;I)I"⟩, 2) := ⟨⟨by decide +kernel, by decide +kernel⟩, List.mem_of_getElem? (i := 178) (by decide +kernel), List.mem_of_getElem? (i := 585) (by decide +kernel), List.mem_of_getElem? (i := 586) (by decide +kernel)⟩
theorem lw_p27 : lw_okq (⟨"BuyAsAsked$Asks", "markOfAny", "(LBuyAsAsked$Sets;I)I"⟩, 2) := ⟨⟨by decide +kernel, by decide +kernel⟩, List.mem_of_getElem? (i := 178) (by decide +kernel), List.mem_of_getElem? (i := 589) (by decide +kernel), List.mem_of_getElem? (i := 590) (by decide +kernel)⟩
theorem lw_p28 : lw_okq (⟨"BuyAsAsked$Asks", "markOfOwn", "(LBuyAsAsked$Sets;I)I"⟩, 2) := ⟨⟨by decide +kernel, by decide +kernel⟩, List.mem_of_getElem? (i := 178) (by decide +kernel), List.mem_of_getElem? (i := 598) (by decide +kernel), List.mem_of_getElem? (i := 599) (by decide +kernel)⟩
theorem lw_p29 : lw_okq (⟨"BuyAsAskedModel", "found", "(I)I"⟩, 32) := ⟨⟨by decide +kernel, by decide +kernel⟩, List.mem_of_getElem? (i := 624) (by decide +kernel), List.mem_of_getElem? (i := 740) (by decide +kernel), List.mem_of_getElem? (i := 741) (by decide +kernel)⟩
theorem lw_p30 : lw_okq (⟨"BuyAsAskedModel", "demanding", "(I)I"⟩, 32) := ⟨⟨by decide +kernel, by decide +kernel⟩, List.mem_of_getElem? (i := 624) (by decide +kernel), List.mem_of_getElem? (i := 769) (by decide +kernel), List.mem_of_getElem? (i := 770) (by decide +kernel)⟩
theorem lw_p31 : lw_okq (⟨"BuyAsAskedModel", "has", "(II)Z"⟩, 32) := ⟨⟨by decide +kernel, by decide +kernel⟩, List.mem_of_getElem? (i := 624) (by decide +kernel), List.mem_of_getElem? (i := 775) (by decide +kernel), List.mem_of_getElem? (i := 776) (by decide +kernel)⟩
def lw_privs_2 : List (MethodName × Nat) := [(⟨"BuyAsAsked$Sites", "buyWay", "(II)V"⟩, 12), (⟨"BuyAsAsked$Sites", "findNearest", "()V"⟩, 12), (⟨"BuyAsAsked$Sites", "shorten", "([III)V"⟩, 12), (⟨"BuyAsAsked$Sites", "treeOf", "(I)I"⟩, 12), (⟨"BuyAsAsked$Sites", "nearestOf", "(I)I"⟩, 12), (⟨"BuyAsAsked$Asks", "worthOfOwn", "(LBuyAsAsked$Sets;I)I"⟩, 2), (⟨"BuyAsAsked$Asks", "begin", "(I)V"⟩, 2), (⟨"BuyAsAsked$Asks", "worthOfAny", "(LBuyAsAsked$Sets;I)I"⟩, 2), (⟨"BuyAsAsked$Asks", "worthOfNear", "(LBuyAsAsked$Sets;I)I"⟩, 2), (⟨"BuyAsAsked$Asks", "worthOfOpen", "(LBuyAsAsked$Sets;I)I"⟩, 2), (⟨"BuyAsAsked$Asks", "markOfNear", "(LBuyAsAsked$Sets;I)I"⟩, 2), (⟨"BuyAsAsked$Asks", "markOfAny", "(LBuyAsAsked$Sets;I)I"⟩, 2), (⟨"BuyAsAsked$Asks", "markOfOwn", "(LBuyAsAsked$Sets;I)I"⟩, 2), (⟨"BuyAsAskedModel", "found", "(I)I"⟩, 32), (⟨"BuyAsAskedModel", "demanding", "(I)I"⟩, 32), (⟨"BuyAsAskedModel", "has", "(II)Z"⟩, 32)]
theorem lw_r2 : ∀ q ∈ lw_privs_2, lw_okq q := List.forall_mem_cons.mpr ⟨lw_p16, List.forall_mem_cons.mpr ⟨lw_p17, List.forall_mem_cons.mpr ⟨lw_p18, List.forall_mem_cons.mpr ⟨lw_p19, List.forall_mem_cons.mpr ⟨lw_p20, List.forall_mem_cons.mpr ⟨lw_p21, List.forall_mem_cons.mpr ⟨lw_p22, List.forall_mem_cons.mpr ⟨lw_p23, List.forall_mem_cons.mpr ⟨lw_p24, List.forall_mem_cons.mpr ⟨lw_p25, List.forall_mem_cons.mpr ⟨lw_p26, List.forall_mem_cons.mpr ⟨lw_p27, List.forall_mem_cons.mpr ⟨lw_p28, List.forall_mem_cons.mpr ⟨lw_p29, List.forall_mem_cons.mpr ⟨lw_p30, List.forall_mem_cons.mpr ⟨lw_p31, fun _ h => absurd h List.not_mem_nil⟩⟩⟩⟩⟩⟩⟩⟩⟩⟩⟩⟩⟩⟩⟩⟩
theorem lw_p32 : lw_okq (⟨"BuyAsAskedModel", "isOwn", "(I)Z"⟩, 32) := ⟨⟨by decide +kernel, by decide +kernel⟩, List.mem_of_getElem? (i := 624) (by decide +kernel), List.mem_of_getElem? (i := 779) (by decide +kernel), List.mem_of_getElem? (i := 780) (by decide +kernel)⟩
theorem lw_p33 : lw_okq (⟨"BuyAsAskedModel", "filled", "(I)I"⟩, 32) := ⟨⟨by decide +kernel, by decide +kernel⟩, List.mem_of_getElem? (i := 624) (by decide +kernel), List.mem_of_getElem? (i := 783) (by decide +kernel), List.mem_of_getElem? (i := 784) (by decide +kernel)⟩
theorem lw_p34 : lw_okq (⟨"BuyAsAskedModel", "bestOfSets", "()I"⟩, 32) := ⟨⟨by decide +kernel, by decide +kernel⟩, List.mem_of_getElem? (i := 624) (by decide +kernel), List.mem_of_getElem? (i := 797) (by decide +kernel), List.mem_of_getElem? (i := 798) (by decide +kernel)⟩
theorem lw_p35 : lw_okq (⟨"BuyAsAskedModel", "isSet", "(I)Z"⟩, 32) := ⟨⟨by decide +kernel, by decide +kernel⟩, List.mem_of_getElem? (i := 624) (by decide +kernel), List.mem_of_getElem? (i := 806) (by decide +kernel), List.mem_of_getElem? (i := 807) (by decide +kernel)⟩
theorem lw_p36 : lw_okq (⟨"BuyAsAskedModel", "isCovered", "(I)Z"⟩, 32) := ⟨⟨by decide +kernel, by decide +kernel⟩, List.mem_of_getElem? (i := 624) (by decide +kernel), List.mem_of_getElem? (i := 828) (by decide +kernel), List.mem_of_getElem? (i := 829) (by decide +kernel)⟩
theorem lw_p37 : lw_okq (⟨"BuyAsAskedModel", "firstOf", "(II)I"⟩, 32) := ⟨⟨by decide +kernel, by decide +kernel⟩, List.mem_of_getElem? (i := 624) (by decide +kernel), List.mem_of_getElem? (i := 832) (by decide +kernel), List.mem_of_getElem? (i := 833) (by decide +kernel)⟩
theorem lw_p38 : lw_okq (⟨"BuyAsAskedModel", "tollOf", "(II)I"⟩, 32) := ⟨⟨by decide +kernel, by decide +kernel⟩, List.mem_of_getElem? (i := 624) (by decide +kernel), List.mem_of_getElem? (i := 836) (by decide +kernel), List.mem_of_getElem? (i := 837) (by decide +kernel)⟩
theorem lw_p39 : lw_okq (⟨"BuyAsAskedModel", "bestOfLeases", "()I"⟩, 32) := ⟨⟨by decide +kernel, by decide +kernel⟩, List.mem_of_getElem? (i := 624) (by decide +kernel), List.mem_of_getElem? (i := 845) (by decide +kernel), List.mem_of_getElem? (i := 846) (by decide +kernel)⟩
theorem lw_p40 : lw_okq (⟨"BuyAsAskedModel", "isSite", "(I)Z"⟩, 32) := ⟨⟨by decide +kernel, by decide +kernel⟩, List.mem_of_getElem? (i := 624) (by decide +kernel), List.mem_of_getElem? (i := 861) (by decide +kernel), List.mem_of_getElem? (i := 862) (by decide +kernel)⟩
theorem lw_p41 : lw_okq (⟨"BuyAsAskedModel", "bestOfSites", "()I"⟩, 32) := ⟨⟨by decide +kernel, by decide +kernel⟩, List.mem_of_getElem? (i := 624) (by decide +kernel), List.mem_of_getElem? (i := 873) (by decide +kernel), List.mem_of_getElem? (i := 874) (by decide +kernel)⟩
theorem lw_p42 : lw_okq (⟨"BuyAsAskedModel", "treeOf", "(I)I"⟩, 32) := ⟨⟨by decide +kernel, by decide +kernel⟩, List.mem_of_getElem? (i := 624) (by decide +kernel), List.mem_of_getElem? (i := 877) (by decide +kernel), List.mem_of_getElem? (i := 878) (by decide +kernel)⟩
theorem lw_p43 : lw_okq (⟨"BuyAsAskedModel", "kindOf", "(I)I"⟩, 32) := ⟨⟨by decide +kernel, by decide +kernel⟩, List.mem_of_getElem? (i := 624) (by decide +kernel), List.mem_of_getElem? (i := 885) (by decide +kernel), List.mem_of_getElem? (i := 886) (by decide +kernel)⟩
theorem lw_p44 : lw_okq (⟨"BuyAsAskedModel", "worth", "(I)I"⟩, 32) := ⟨⟨by decide +kernel, by decide +kernel⟩, List.mem_of_getElem? (i := 624) (by decide +kernel), List.mem_of_getElem? (i := 897) (by decide +kernel), List.mem_of_getElem? (i := 898) (by decide +kernel)⟩
theorem lw_p45 : lw_okq (⟨"BuyAsAskedModel", "ownWorth", "(I)I"⟩, 32) := ⟨⟨by decide +kernel, by decide +kernel⟩, List.mem_of_getElem? (i := 624) (by decide +kernel), List.mem_of_getElem? (i := 901) (by decide +kernel), List.mem_of_getElem? (i := 902) (by decide +kernel)⟩
theorem lw_p46 : lw_okq (⟨"BuyAsAskedModel", "began", "(I)V"⟩, 32) := ⟨⟨by decide +kernel, by decide +kernel⟩, List.mem_of_getElem? (i := 624) (by decide +kernel), List.mem_of_getElem? (i := 905) (by decide +kernel), List.mem_of_getElem? (i := 906) (by decide +kernel)⟩
theorem lw_p47 : lw_okq (⟨"BuyAsAskedModel", "marked", "(I)I"⟩, 32) := ⟨⟨by decide +kernel, by decide +kernel⟩, List.mem_of_getElem? (i := 624) (by decide +kernel), List.mem_of_getElem? (i := 909) (by decide +kernel), List.mem_of_getElem? (i := 910) (by decide +kernel)⟩
def lw_privs_3 : List (MethodName × Nat) := [(⟨"BuyAsAskedModel", "isOwn", "(I)Z"⟩, 32), (⟨"BuyAsAskedModel", "filled", "(I)I"⟩, 32), (⟨"BuyAsAskedModel", "bestOfSets", "()I"⟩, 32), (⟨"BuyAsAskedModel", "isSet", "(I)Z"⟩, 32), (⟨"BuyAsAskedModel", "isCovered", "(I)Z"⟩, 32), (⟨"BuyAsAskedModel", "firstOf", "(II)I"⟩, 32), (⟨"BuyAsAskedModel", "tollOf", "(II)I"⟩, 32), (⟨"BuyAsAskedModel", "bestOfLeases", "()I"⟩, 32), (⟨"BuyAsAskedModel", "isSite", "(I)Z"⟩, 32), (⟨"BuyAsAskedModel", "bestOfSites", "()I"⟩, 32), (⟨"BuyAsAskedModel", "treeOf", "(I)I"⟩, 32), (⟨"BuyAsAskedModel", "kindOf", "(I)I"⟩, 32), (⟨"BuyAsAskedModel", "worth", "(I)I"⟩, 32), (⟨"BuyAsAskedModel", "ownWorth", "(I)I"⟩, 32), (⟨"BuyAsAskedModel", "began", "(I)V"⟩, 32), (⟨"BuyAsAskedModel", "marked", "(I)I"⟩, 32)]
theorem lw_r3 : ∀ q ∈ lw_privs_3, lw_okq q := List.forall_mem_cons.mpr ⟨lw_p32, List.forall_mem_cons.mpr ⟨lw_p33, List.forall_mem_cons.mpr ⟨lw_p34, List.forall_mem_cons.mpr ⟨lw_p35, List.forall_mem_cons.mpr ⟨lw_p36, List.forall_mem_cons.mpr ⟨lw_p37, List.forall_mem_cons.mpr ⟨lw_p38, List.forall_mem_cons.mpr ⟨lw_p39, List.forall_mem_cons.mpr ⟨lw_p40, List.forall_mem_cons.mpr ⟨lw_p41, List.forall_mem_cons.mpr ⟨lw_p42, List.forall_mem_cons.mpr ⟨lw_p43, List.forall_mem_cons.mpr ⟨lw_p44, List.forall_mem_cons.mpr ⟨lw_p45, List.forall_mem_cons.mpr ⟨lw_p46, List.forall_mem_cons.mpr ⟨lw_p47, fun _ h => absurd h List.not_mem_nil⟩⟩⟩⟩⟩⟩⟩⟩⟩⟩⟩⟩⟩⟩⟩⟩
def lw_privs : List (MethodName × Nat) := lw_privs_1 ++ (lw_privs_2 ++ (lw_privs_3))
def lw_tbl : List Cond := k2_sels lw_privs ++ tables_1
theorem lw_privs_ok : ∀ q ∈ lw_privs, lw_okq q := by
  show ∀ q ∈ lw_privs_1 ++ (lw_privs_2 ++ (lw_privs_3)), lw_okq q
  exact List.forall_mem_append.mpr ⟨lw_r1, List.forall_mem_append.mpr ⟨lw_r2, lw_r3⟩⟩

/-! ===== BEGIN words of one list among another's, by their places ===== -/
theorem goodIn_r {big : List Cond} (ws : List Cond) (ps : List Nat) (hp : ws = ps.filterMap (fun i => big[i]?)) (h : ws.all goodWord = true) : GoodIn big ws := by
  intro w hw
  have h1 := List.all_eq_true.mp h w hw
  rw [hp] at hw
  obtain ⟨i, -, hi⟩ := List.mem_filterMap.mp hw
  have hm : w ∈ big := by first | exact List.mem_of_getElem? hi | exact List.getElem?_mem hi
  exact ⟨hm, good_of_word h1⟩
theorem goodIn_app {big a b : List Cond} (ha : GoodIn big a) (hb : GoodIn big b) : GoodIn big (a ++ b) := fun w h => (List.mem_append.mp h).elim (ha w) (hb w)
theorem goodIn_ca {big a b : List Cond} {c : Cond} (ha : GoodIn big (c :: a)) (hb : GoodIn big b) : GoodIn big (c :: (a ++ b)) := fun w h => (List.mem_cons.mp h).elim (fun e => ha w (List.mem_cons.mpr (Or.inl e))) (fun h => (List.mem_append.mp h).elim (fun h => ha w (List.mem_cons.mpr (Or.inr h))) (hb w))
theorem goodIn_sub {big ws : List Cond} (hm : ∀ w ∈ ws, w ∈ big) (h : ws.all goodWord = true) : GoodIn big ws := fun w hw => ⟨hm w hw, good_of_word (List.all_eq_true.mp h w hw)⟩
/-! ===== END ===== -/

/-! ===== BEGIN new T[n][m]: the outer array a place, the inner ones among the pooled ===== -/
/-- f, but v at every address of l -/
def vr_up {α : Type} (f : Nat → α) (l : List Nat) (v : α) : Nat → α := fun a => if a ∈ l then v else f a
theorem vr_up_in {α : Type} {f : Nat → α} {l : List Nat} {v : α} {a : Nat} (h : a ∈ l) : vr_up f l v a = v := if_pos h
theorem vr_up_ne {α : Type} {f : Nat → α} {l : List Nat} {v : α} {a : Nat} (h : a ∉ l) : vr_up f l v a = f a := if_neg h
theorem vr_rows {L l : List Nat} {f : Nat → va_E} {e : va_E} (h : ∀ a, a ∈ l → a ∉ L) : va_pl L f ++ l.map (fun a => (a, e)) = va_pl (L ++ l) (vr_up f l e) := by
  unfold va_pl
  rw [List.map_append]
  congr 1
  · apply List.map_congr_left
    intro a ha
    rw [vr_up_ne (fun q => h a q ha)]
  · apply List.map_congr_left
    intro a ha
    rw [vr_up_in ha]
theorem vr_lay {X rows : va_W} {x : Nat × va_E} {pl : va_W} {D : va_G} {cl : List vw_C} {H : Heap} (hP : va_P D cl (((X ++ pl) ++ [x]) ++ rows) H) : va_P D cl ((X ++ [x]) ++ (pl ++ rows)) H := by
  rw [List.append_assoc (X ++ pl)] at hP
  have h := va_P.swap hP
  rw [← List.append_assoc X] at h
  have h2 := va_P.swap h
  rw [List.append_assoc (X ++ [x])] at h2
  exact h2
theorem vr_layD {X rows : va_W} {x : Nat × va_E} {pl : va_W} {A : Nat → Prop} (hD : va_D A (((X ++ pl) ++ [x]) ++ rows)) : va_D A ((X ++ [x]) ++ (pl ++ rows)) := by
  rw [List.append_assoc (X ++ pl)] at hD
  have h := va_D.swap hD
  rw [← List.append_assoc X] at h
  have h2 := va_D.swap h
  rw [List.append_assoc (X ++ [x])] at h2
  exact h2
theorem vr_outer (c : ClassId) (N h0 : Nat) : ∀ i : Nat, Jvm.Free.Multi.outerC c N h0 i = arrV c N (fun j => va_rf (if j < i then some (h0 + 1 + j) else none))
  | 0 => by
    show ({ cls := c, slots := Array.replicate N .null, vm := .none } : Cell) = _
    rw [arrV_new]
    refine congrArg (arrV c N) (funext fun j => ?_)
    simp [va_rf]
  | i + 1 => by
    show (Jvm.Free.Multi.outerC c N h0 i).setSlot i (.ref (h0 + 1 + i)) = _
    rw [vr_outer c N h0 i, arrV_store]
    refine congrArg (arrV c N) (funext fun j => ?_)
    by_cases e : j = i
    · subst e
      simp [updV, va_rf]
    · by_cases h : j < i
      · simp [updV, e, h, Nat.lt_succ_of_lt h]
      · simp [updV, e, h, show ¬ j < i + 1 by omega]
section VGM
variable {p : Program} {l : Launch} {e : Env} {R : Room} {s : State} {m : MethodId} {args : Array Value} {below : List Frame} {meth : Method} {c : Code} {H : Heap} {locs : List Loc} {cells slots : Nat} {Q : State → Prop}
variable {cc : ByteArray} {pc : Nat} {ls : Array Slot} {rest : List Value} {D : va_G} {cl : List vw_C} {A : Nat → Prop} {a : Nat} {tys : List (ClassId × FieldType)} {ws : va_W} {H0 : Heap}
theorem va_mna {X : va_W} {L : List Nat} {f : Nat → va_E} {cc : ByteArray} (hexec : p.tables.exec = Jvm.exec) (hb : c.code = cc) {own : String} {index : Nat} {ty : FieldType} {cy : ClassId} (hown : s.vm.findClass own = some m.cls) (hclink : (Cond.classLink own index ("[" ++ (FieldType.array ty).toString)).before args s = true) (hover : (Cond.arrayOver (.array ty)).before args s = true) (harr : (Cond.arrayClass ty).before args s = true) (hcy : s.vm.findClass (FieldType.array ty).toString = some cy)
    (hK : va_K D cl tys s) (hP : va_P D cl (X ++ va_pl L f) H) (hD : va_D A (X ++ va_pl L f)) (hS : va_S A H0 H locs) (hA : ∀ q, H0.size ≤ q → A q) {n k : Int32} {N' K' : Nat} {z : vp_A} (hn : ¬ n < 0) (hk : ¬ k < 0) (hN : n.toNatClampNeg = N') (hM : k.toNatClampNeg = K')
    (hb1 : N' * 4 ≤ 536870912) (hb2 : K' * componentBytes ty ≤ 536870912) (hb3 : K' ≤ 536870912) (hdf : fits ty (defaultValue ty) = true) (hdd : (defaultValue ty).isDefault = true) (hcells : cells + (1 + N') ≤ R.cells) (hslots : slots + (N' + N' * K') ≤ R.slots) (hz : ∀ c : ClassId, Jvm.Free.Multi.innerC c K' (defaultValue ty) = vp_cell c z) (hdg : decode cc pc = .ok (.multianewarray index 2, 4))
    (kk : ∀ (q : Nat) (r : Nat → Nat) (cA : ClassId) (H1 : Heap), (∀ i j : Nat, i < N' → j < N' → r i = r j → i = j) → (∀ i : Nat, i < N' → r i ∉ L) → va_K D cl (tys ++ [(cA, .array ty)]) s →
      va_P D cl ((X ++ [(q, .inl (cA, N', .inr (.inr (.inr (.inr (fun i => if i < N' then some (r i) else none))))))]) ++ va_pl (L ++ (List.range N').map r) (vr_up f ((List.range N').map r) (.inl (cy, z)))) H1 → va_D A ((X ++ [(q, .inl (cA, N', .inr (.inr (.inr (.inr (fun i => if i < N' then some (r i) else none))))))]) ++ va_pl (L ++ (List.range N').map r) (vr_up f ((List.range N').map r) (.inl (cy, z)))) → va_S A H0 H1 locs →
      W p l e R s m args below meth c H1 locs (cells + 1 + N') (slots + N' + N' * K') Q (F0 m (pc + 4) ls (.ref q :: rest))) : W p l e R s m args below meth c H locs cells slots Q (F0 m pc ls (.int k :: .int n :: rest)) := by
  subst hN
  subst hM
  intro T hT Xs
  obtain ⟨vm₁, cA, comp, -, fA, fC, hO, -, X', step⟩ := Xs.multianewarray2F hexec hown hclink hover harr (g := F0 m pc ls (.int k :: .int n :: rest)) rfl (by rw [hb]; exact hdg) rfl hn hk hb1 hb2 hb3 hdf hdd hcells hslots
  have ec : some cy = some comp := hcy.symm.trans fC
  cases ec
  generalize hF : Jvm.Free.Multi.fill (T.setVm vm₁) cA cy n.toNatClampNeg k.toNatClampNeg (defaultValue ty) n.toNatClampNeg = F at X' step
  have hTh : (T.setVm vm₁).heap = H := hT
  obtain ⟨f1, f2, -, -⟩ := Jvm.Free.Multi.fill_facts (T.setVm vm₁) cA cy n.toNatClampNeg k.toNatClampNeg (defaultValue ty) n.toNatClampNeg
  rw [hF, hTh] at f1 f2
  have hold : ∀ x : Nat, x < H.size → F.heap[x]? = H[x]? := fun x hx => by
    have := Jvm.Free.Multi.fill_old (T.setVm vm₁) cA cy n.toNatClampNeg k.toNatClampNeg (defaultValue ty) (a := x) (by rw [hTh]; exact hx) n.toNatClampNeg
    rw [hF, hTh] at this
    exact this
  have hrow : ∀ j : Nat, j < n.toNatClampNeg → F.heap[H.size + 1 + j]? = some (vp_cell cy z) := fun j hj => by
    have := Jvm.Free.Multi.fill_inner (T.setVm vm₁) cA cy n.toNatClampNeg k.toNatClampNeg (defaultValue ty) n.toNatClampNeg j hj
    rw [hF, hTh, hz] at this
    exact this
  have hout : Jvm.Free.Multi.outerC cA n.toNatClampNeg H.size n.toNatClampNeg = vp_cell cA (n.toNatClampNeg, .inr (.inr (.inr (.inr (fun i => if i < n.toNatClampNeg then some (H.size + 1 + i) else none))))) := by
    rw [vp_cell_q]
    exact vr_outer cA n.toNatClampNeg H.size n.toNatClampNeg
  rw [hout] at f2
  have hlt : ∀ a, a ∈ L → a < H.size := fun a ha => by
    obtain ⟨k9, hk9⟩ := va_pl_get (X := X) (f := f) ha
    exact (hP k9 _ hk9).lt
  have hnl : ∀ i : Nat, i < n.toNatClampNeg → H.size + 1 + i ∉ L := fun i _ h => by
    have := hlt _ h
    omega
  have hnm : ∀ a, a ∈ (List.range n.toNatClampNeg).map (fun i => H.size + 1 + i) → a ∉ L := fun a ha h => by
    obtain ⟨i, -, rfl⟩ := List.mem_map.mp ha
    have := hlt _ h
    omega
  have hP0 : va_P D cl (X ++ va_pl L f) F.heap := hP.kept (fun k9 x hx => hold x.1 ((hP k9 x hx).lt))
  have hP1 : va_P D cl ((X ++ va_pl L f) ++ [(H.size, .inl (cA, n.toNatClampNeg, .inr (.inr (.inr (.inr (fun i => if i < n.toNatClampNeg then some (H.size + 1 + i) else none))))))]) F.heap := hP0.app (fun k9 x hx => by
    have h0 : k9 < 1 := (List.getElem?_eq_some_iff.mp hx).1
    rw [show k9 = 0 by omega] at hx
    cases hx
    exact f2)
  have hP2 : va_P D cl (((X ++ va_pl L f) ++ [(H.size, .inl (cA, n.toNatClampNeg, .inr (.inr (.inr (.inr (fun i => if i < n.toNatClampNeg then some (H.size + 1 + i) else none))))))]) ++ ((List.range n.toNatClampNeg).map (fun i => H.size + 1 + i)).map (fun a => (a, .inl (cy, z)))) F.heap := hP1.app (fun k9 x hx => by
    obtain ⟨a, ha, rfl⟩ := List.mem_map.mp (List.mem_of_getElem? hx)
    obtain ⟨i, hi, rfl⟩ := List.mem_map.mp ha
    exact hrow i (List.mem_range.mp hi))
  have hD2 : va_D A (((X ++ va_pl L f) ++ [(H.size, .inl (cA, n.toNatClampNeg, .inr (.inr (.inr (.inr (fun i => if i < n.toNatClampNeg then some (H.size + 1 + i) else none))))))]) ++ ((List.range n.toNatClampNeg).map (fun i => H.size + 1 + i)).map (fun a => (a, .inl (cy, z)))) := by
    have hD1 := hD.push (e := .inl (cA, n.toNatClampNeg, .inr (.inr (.inr (.inr (fun i => if i < n.toNatClampNeg then some (H.size + 1 + i) else none)))))) hP rfl (hA _ hS.1)
    generalize hW1 : (X ++ va_pl L f) ++ [(H.size, .inl (cA, n.toNatClampNeg, .inr (.inr (.inr (.inr (fun i => if i < n.toNatClampNeg then some (H.size + 1 + i) else none))))))] = W1 at hD1 hP1 ⊢
    have hle : ∀ (k9 : Nat) (x : Nat × va_E), W1[k9]? = some x → x.1 ≤ H.size := fun k9 x hx => by
      rw [← hW1] at hx
      by_cases hl : k9 < (X ++ va_pl L f).length
      · rw [List.getElem?_append_left hl] at hx
        exact Nat.le_of_lt ((hP k9 x hx).lt)
      · rw [List.getElem?_append_right (by omega)] at hx
        have h0 : k9 - (X ++ va_pl L f).length < 1 := (List.getElem?_eq_some_iff.mp hx).1
        rw [show k9 - (X ++ va_pl L f).length = 0 by omega] at hx
        cases hx
        exact Nat.le_refl _
    have hr : ∀ (k9 : Nat) (x : Nat × va_E), (((List.range n.toNatClampNeg).map (fun i => H.size + 1 + i)).map (fun a => ((a, .inl (cy, z)) : Nat × va_E)))[k9]? = some x → x.1 = H.size + 1 + k9 := fun k9 x hx => by
      rw [List.getElem?_map, List.getElem?_map] at hx
      by_cases h9 : k9 < n.toNatClampNeg
      · rw [List.getElem?_range h9] at hx
        cases hx
        rfl
      · have hn0 : (List.range n.toNatClampNeg)[k9]? = none := List.getElem?_eq_none (by rw [List.length_range]; omega)
        rw [hn0] at hx
        cases hx
    refine ⟨fun i j x y hi hj hxy => ?_, fun k9 x hx => ?_⟩
    · by_cases h1 : i < W1.length <;> by_cases h2 : j < W1.length
      · rw [List.getElem?_append_left h1] at hi
        rw [List.getElem?_append_left h2] at hj
        exact hD1.1 i j x y hi hj hxy
      · rw [List.getElem?_append_left h1] at hi
        rw [List.getElem?_append_right (by omega)] at hj
        have := hle _ _ hi
        have := hr _ _ hj
        omega
      · rw [List.getElem?_append_right (by omega)] at hi
        rw [List.getElem?_append_left h2] at hj
        have := hle _ _ hj
        have := hr _ _ hi
        omega
      · rw [List.getElem?_append_right (by omega)] at hi hj
        have := hr _ _ hi
        have := hr _ _ hj
        omega
    · by_cases h1 : k9 < W1.length
      · rw [List.getElem?_append_left h1] at hx
        exact hD1.2 k9 x hx
      · rw [List.getElem?_append_right (by omega)] at hx
        have := hr _ _ hx
        exact hA _ (by have := hS.1; omega)
  have hAr : ArrOfT s cA (.array ty) := fun N9 z9 => by
    obtain ⟨-, k9, hk9, cm9, hkk9⟩ := (hO 0 0 0).1
    exact ⟨(fun q hq => by cases hq), k9, hk9, cm9, hkk9⟩
  have hK2 : va_K D cl (tys ++ [(cA, .array ty)]) s := ⟨hK.1, fun k9 x hx => by
    by_cases hl : k9 < tys.length
    · rw [List.getElem?_append_left hl] at hx
      exact hK.2 k9 x hx
    · rw [List.getElem?_append_right (by omega)] at hx
      have h0 : k9 - tys.length < 1 := (List.getElem?_eq_some_iff.mp hx).1
      rw [show k9 - tys.length = 0 by omega] at hx
      cases hx
      exact ⟨hAr, fA⟩⟩
  obtain ⟨t, a1, b1⟩ := kk H.size (fun i => H.size + 1 + i) cA F.heap (fun i j _ _ h => by have h9 : H.size + 1 + i = H.size + 1 + j := h; omega) hnl hK2 (by rw [← vr_rows hnm]; exact vr_lay hP2) (by rw [← vr_rows hnm]; exact vr_layD hD2) ⟨by rw [f1]; have := hS.1; omega, fun x h1 h2 => (hold x (Nat.lt_of_lt_of_le h1 hS.1)).trans (hS.2.1 x h1 h2), hS.2.2⟩ F rfl X'
  refine ⟨t, step t ?_, b1⟩
  have e : T.heap.size = H.size := by rw [hT]
  rw [e]
  exact a1
end VGM
/-! ===== END ===== -/


def RX0 : String := "BuyAsAsked$Asks"
def TX0 : u_T := fun k => match k with
  | 0 => ("BuyAsAsked$Asks", "bodies", "[I", true)
  | _ => ("BuyAsAsked$Asks", "begun", "I", false)
def tyX0 : Nat → FieldType := fun k => match k with
  | 0 => .array .int
  | _ => .int
theorem nmX0 : ∀ a, a < 2 → ∀ b, b < 2 → a ≠ b → (TX0 a).2.1 ≠ (TX0 b).2.1 := by decide +kernel
theorem tyX0_ok : ∀ k, k < 2 → parseFieldDescriptor (TX0 k).2.2.1 = some (tyX0 k) := by decide +kernel
abbrev cX0_init : ByteArray := prog_2_method_1_code
def yX0_init : MethodName := ⟨RX0, "<init>", "()V"⟩
abbrev cX0_askWorth : ByteArray := prog_2_method_2_code
def yX0_askWorth : MethodName := ⟨RX0, "askWorth", "(LBuyAsAsked$Sets;I)I"⟩
abbrev cX0_askMark : ByteArray := prog_2_method_3_code
def yX0_askMark : MethodName := ⟨RX0, "askMark", "(LBuyAsAsked$Sets;I)I"⟩
abbrev cX0_begin : ByteArray := prog_2_method_4_code
def yX0_begin : MethodName := ⟨RX0, "begin", "(I)V"⟩
abbrev cX0_worthOfAny : ByteArray := prog_2_method_5_code
def yX0_worthOfAny : MethodName := ⟨RX0, "worthOfAny", "(LBuyAsAsked$Sets;I)I"⟩
abbrev cX0_worthOfOpen : ByteArray := prog_2_method_6_code
def yX0_worthOfOpen : MethodName := ⟨RX0, "worthOfOpen", "(LBuyAsAsked$Sets;I)I"⟩
abbrev cX0_worthOfNear : ByteArray := prog_2_method_7_code
def yX0_worthOfNear : MethodName := ⟨RX0, "worthOfNear", "(LBuyAsAsked$Sets;I)I"⟩
abbrev cX0_worthOfOwn : ByteArray := prog_2_method_8_code
def yX0_worthOfOwn : MethodName := ⟨RX0, "worthOfOwn", "(LBuyAsAsked$Sets;I)I"⟩
abbrev cX0_markOfAny : ByteArray := prog_2_method_9_code
def yX0_markOfAny : MethodName := ⟨RX0, "markOfAny", "(LBuyAsAsked$Sets;I)I"⟩
abbrev cX0_markOfNear : ByteArray := prog_2_method_10_code
def yX0_markOfNear : MethodName := ⟨RX0, "markOfNear", "(LBuyAsAsked$Sets;I)I"⟩
abbrev cX0_markOfOwn : ByteArray := prog_2_method_11_code
def yX0_markOfOwn : MethodName := ⟨RX0, "markOfOwn", "(LBuyAsAsked$Sets;I)I"⟩
def RX1 : String := "BuyAsAsked$Leases"
def TX1 : u_T := fun k => match k with
  | 0 => ("BuyAsAsked$Leases", "lengths", "[I", true)
  | 1 => ("BuyAsAsked$Leases", "costs", "[I", true)
  | 2 => ("BuyAsAsked$Leases", "prices", "[I", true)
  | 3 => ("BuyAsAsked$Leases", "asked", "[Z", true)
  | 4 => ("BuyAsAsked$Leases", "boughtFrom", "[I", true)
  | 5 => ("BuyAsAsked$Leases", "open", "[I", true)
  | 6 => ("BuyAsAsked$Leases", "count", "I", false)
  | 7 => ("BuyAsAsked$Leases", "lastDay", "I", false)
  | 8 => ("BuyAsAsked$Leases", "daysAsked", "I", false)
  | 9 => ("BuyAsAsked$Leases", "spansBought", "I", false)
  | _ => ("BuyAsAsked$Leases", "paid", "I", false)
def tyX1 : Nat → FieldType := fun k => match k with
  | 0 => .array .int
  | 1 => .array .int
  | 2 => .array .int
  | 3 => .array .boolean
  | 4 => .array .int
  | 5 => .array .int
  | 6 => .int
  | 7 => .int
  | 8 => .int
  | 9 => .int
  | _ => .int
theorem nmX1 : ∀ a, a < 11 → ∀ b, b < 11 → a ≠ b → (TX1 a).2.1 ≠ (TX1 b).2.1 := by decide +kernel
theorem tyX1_ok : ∀ k, k < 11 → parseFieldDescriptor (TX1 k).2.2.1 = some (tyX1 k) := by decide +kernel
abbrev cX1_init : ByteArray := prog_3_method_1_code
def yX1_init : MethodName := ⟨RX1, "<init>", "()V"⟩
abbrev cX1_isNextLength : ByteArray := prog_3_method_2_code
def yX1_isNextLength : MethodName := ⟨RX1, "isNextLength", "(I)Z"⟩
abbrev cX1_isMultiple : ByteArray := prog_3_method_3_code
def yX1_isMultiple : MethodName := ⟨RX1, "isMultiple", "(II)Z"⟩
abbrev cX1_add : ByteArray := prog_3_method_4_code
def yX1_add : MethodName := ⟨RX1, "add", "(II)I"⟩
abbrev cX1_meet : ByteArray := prog_3_method_5_code
def yX1_meet : MethodName := ⟨RX1, "meet", "(I)I"⟩
abbrev cX1_isMet : ByteArray := prog_3_method_6_code
def yX1_isMet : MethodName := ⟨RX1, "isMet", "(I)Z"⟩
abbrev cX1_leastGap : ByteArray := prog_3_method_7_code
def yX1_leastGap : MethodName := ⟨RX1, "leastGap", "(I)I"⟩
abbrev cX1_buyTight : ByteArray := prog_3_method_8_code
def yX1_buyTight : MethodName := ⟨RX1, "buyTight", "(I)I"⟩
abbrev cX1_start : ByteArray := prog_3_method_9_code
def yX1_start : MethodName := ⟨RX1, "start", "(II)I"⟩
abbrev cX1_filled : ByteArray := prog_3_method_10_code
def yX1_filled : MethodName := ⟨RX1, "filled", "(II)I"⟩
abbrev cX1_pricesOf : ByteArray := prog_3_method_11_code
def yX1_pricesOf : MethodName := ⟨RX1, "pricesOf", "(II)I"⟩
abbrev cX1_least : ByteArray := prog_3_method_12_code
def yX1_least : MethodName := ⟨RX1, "least", "()I"⟩
abbrev cX1_closeSpans : ByteArray := prog_3_method_13_code
def yX1_closeSpans : MethodName := ⟨RX1, "closeSpans", "(I)V"⟩
def RX2 : String := "BuyAsAsked$Sets"
def TX2 : u_T := fun k => match k with
  | 0 => ("BuyAsAsked$Sets", "costs", "[I", true)
  | 1 => ("BuyAsAsked$Sets", "things", "[I", true)
  | 2 => ("BuyAsAsked$Sets", "prices", "[I", true)
  | 3 => ("BuyAsAsked$Sets", "count", "I", false)
  | 4 => ("BuyAsAsked$Sets", "offered", "I", false)
  | 5 => ("BuyAsAsked$Sets", "demanded", "I", false)
  | 6 => ("BuyAsAsked$Sets", "bought", "I", false)
  | 7 => ("BuyAsAsked$Sets", "met", "I", false)
  | _ => ("BuyAsAsked$Sets", "paid", "I", false)
def tyX2 : Nat → FieldType := fun k => match k with
  | 0 => .array .int
  | 1 => .array .int
  | 2 => .array .int
  | 3 => .int
  | 4 => .int
  | 5 => .int
  | 6 => .int
  | 7 => .int
  | _ => .int
theorem nmX2 : ∀ a, a < 9 → ∀ b, b < 9 → a ≠ b → (TX2 a).2.1 ≠ (TX2 b).2.1 := by decide +kernel
theorem tyX2_ok : ∀ k, k < 9 → parseFieldDescriptor (TX2 k).2.2.1 = some (tyX2 k) := by decide +kernel
abbrev cX2_init : ByteArray := prog_4_method_1_code
def yX2_init : MethodName := ⟨RX2, "<init>", "()V"⟩
abbrev cX2_isSet : ByteArray := prog_4_method_2_code
def yX2_isSet : MethodName := ⟨RX2, "isSet", "(I)Z"⟩
abbrev cX2_isOffered : ByteArray := prog_4_method_3_code
def yX2_isOffered : MethodName := ⟨RX2, "isOffered", "(I)Z"⟩
abbrev cX2_isBought : ByteArray := prog_4_method_4_code
def yX2_isBought : MethodName := ⟨RX2, "isBought", "(I)Z"⟩
abbrev cX2_add : ByteArray := prog_4_method_5_code
def yX2_add : MethodName := ⟨RX2, "add", "(II)I"⟩
abbrev cX2_meet : ByteArray := prog_4_method_6_code
def yX2_meet : MethodName := ⟨RX2, "meet", "(I)I"⟩
abbrev cX2_leastGap : ByteArray := prog_4_method_7_code
def yX2_leastGap : MethodName := ⟨RX2, "leastGap", "(I)I"⟩
abbrev cX2_buyTight : ByteArray := prog_4_method_8_code
def yX2_buyTight : MethodName := ⟨RX2, "buyTight", "(I)I"⟩
abbrev cX2_filled : ByteArray := prog_4_method_9_code
def yX2_filled : MethodName := ⟨RX2, "filled", "(I)I"⟩
abbrev cX2_pricesAdded : ByteArray := prog_4_method_10_code
def yX2_pricesAdded : MethodName := ⟨RX2, "pricesAdded", "()I"⟩
abbrev cX2_pricesOf : ByteArray := prog_4_method_11_code
def yX2_pricesOf : MethodName := ⟨RX2, "pricesOf", "(I)I"⟩
abbrev cX2_least : ByteArray := prog_4_method_12_code
def yX2_least : MethodName := ⟨RX2, "least", "()I"⟩
abbrev cX2_leastFrom : ByteArray := prog_4_method_13_code
def yX2_leastFrom : MethodName := ⟨RX2, "leastFrom", "(LBuyAsAsked$Sets;II)I"⟩
abbrev cX2_share : ByteArray := prog_4_method_14_code
def yX2_share : MethodName := ⟨RX2, "share", "()I"⟩
abbrev cX2_havers : ByteArray := prog_4_method_15_code
def yX2_havers : MethodName := ⟨RX2, "havers", "(I)I"⟩
abbrev cX2_kindOf : ByteArray := prog_4_method_16_code
def yX2_kindOf : MethodName := ⟨RX2, "kindOf", "(I)I"⟩
abbrev cX2_isOfKind : ByteArray := prog_4_method_17_code
def yX2_isOfKind : MethodName := ⟨RX2, "isOfKind", "(II)Z"⟩
abbrev cX2_nears : ByteArray := prog_4_method_18_code
def yX2_nears : MethodName := ⟨RX2, "nears", "()I"⟩
def RX3 : String := "BuyAsAsked$Sheets"
def TX3 : u_T := fun k => match k with
  | 0 => ("BuyAsAsked$Sheets", "items", "[[I", true)
  | 1 => ("BuyAsAsked$Sheets", "lanes", "[I", true)
  | _ => ("BuyAsAsked$Sheets", "sizes", "[I", true)
def tyX3 : Nat → FieldType := fun k => match k with
  | 0 => .array (.array .int)
  | 1 => .array .int
  | _ => .array .int
theorem nmX3 : ∀ a, a < 3 → ∀ b, b < 3 → a ≠ b → (TX3 a).2.1 ≠ (TX3 b).2.1 := by decide +kernel
theorem tyX3_ok : ∀ k, k < 3 → parseFieldDescriptor (TX3 k).2.2.1 = some (tyX3 k) := by decide +kernel
abbrev cX3_init : ByteArray := prog_5_method_1_code
def yX3_init : MethodName := ⟨RX3, "<init>", "()V"⟩
abbrev cX3_isMissing : ByteArray := prog_5_method_2_code
def yX3_isMissing : MethodName := ⟨RX3, "isMissing", "(I)Z"⟩
abbrev cX3_findItems : ByteArray := prog_5_method_3_code
def yX3_findItems : MethodName := ⟨RX3, "findItems", "(III)I"⟩
abbrev cX3_findPair : ByteArray := prog_5_method_4_code
def yX3_findPair : MethodName := ⟨RX3, "findPair", "(IIIII)I"⟩
abbrev cX3_isRow : ByteArray := prog_5_method_5_code
def yX3_isRow : MethodName := ⟨RX3, "isRow", "(III)Z"⟩
abbrev cX3_lay : ByteArray := prog_5_method_6_code
def yX3_lay : MethodName := ⟨RX3, "lay", "(III)I"⟩
abbrev cX3_put : ByteArray := prog_5_method_7_code
def yX3_put : MethodName := ⟨RX3, "put", "(III)I"⟩
abbrev cX3_fit : ByteArray := prog_5_method_8_code
def yX3_fit : MethodName := ⟨RX3, "fit", "(II)I"⟩
abbrev cX3_item : ByteArray := prog_5_method_9_code
def yX3_item : MethodName := ⟨RX3, "item", "(II)I"⟩
abbrev cX3_move : ByteArray := prog_5_method_10_code
def yX3_move : MethodName := ⟨RX3, "move", "(IIIII)I"⟩
abbrev cX3_remove : ByteArray := prog_5_method_11_code
def yX3_remove : MethodName := ⟨RX3, "remove", "(I)I"⟩
abbrev cX3_present : ByteArray := prog_5_method_12_code
def yX3_present : MethodName := ⟨RX3, "present", "()I"⟩
def RX4 : String := "BuyAsAsked$Sites"
def TX4 : u_T := fun k => match k with
  | 0 => ("BuyAsAsked$Sites", "lengths", "[[I", true)
  | 1 => ("BuyAsAsked$Sites", "boughtFrom", "[I", true)
  | 2 => ("BuyAsAsked$Sites", "weights", "[I", true)
  | 3 => ("BuyAsAsked$Sites", "nearest", "[[I", true)
  | 4 => ("BuyAsAsked$Sites", "gaps", "[I", true)
  | 5 => ("BuyAsAsked$Sites", "count", "I", false)
  | 6 => ("BuyAsAsked$Sites", "ways", "I", false)
  | 7 => ("BuyAsAsked$Sites", "first", "I", false)
  | 8 => ("BuyAsAsked$Sites", "joined", "I", false)
  | 9 => ("BuyAsAsked$Sites", "reached", "I", false)
  | 10 => ("BuyAsAsked$Sites", "waysBought", "I", false)
  | _ => ("BuyAsAsked$Sites", "paid", "I", false)
def tyX4 : Nat → FieldType := fun k => match k with
  | 0 => .array (.array .int)
  | 1 => .array .int
  | 2 => .array .int
  | 3 => .array (.array .int)
  | 4 => .array .int
  | 5 => .int
  | 6 => .int
  | 7 => .int
  | 8 => .int
  | 9 => .int
  | 10 => .int
  | _ => .int
theorem nmX4 : ∀ a, a < 12 → ∀ b, b < 12 → a ≠ b → (TX4 a).2.1 ≠ (TX4 b).2.1 := by decide +kernel
theorem tyX4_ok : ∀ k, k < 12 → parseFieldDescriptor (TX4 k).2.2.1 = some (tyX4 k) := by decide +kernel
abbrev cX4_init : ByteArray := prog_6_method_1_code
def yX4_init : MethodName := ⟨RX4, "<init>", "()V"⟩
abbrev cX4_isSite : ByteArray := prog_6_method_2_code
def yX4_isSite : MethodName := ⟨RX4, "isSite", "(I)Z"⟩
abbrev cX4_isWayBought : ByteArray := prog_6_method_3_code
def yX4_isWayBought : MethodName := ⟨RX4, "isWayBought", "(II)Z"⟩
abbrev cX4_add : ByteArray := prog_6_method_4_code
def yX4_add : MethodName := ⟨RX4, "add", "()I"⟩
abbrev cX4_lay : ByteArray := prog_6_method_5_code
def yX4_lay : MethodName := ⟨RX4, "lay", "(III)I"⟩
abbrev cX4_join : ByteArray := prog_6_method_6_code
def yX4_join : MethodName := ⟨RX4, "join", "(I)I"⟩
abbrev cX4_weighRows : ByteArray := prog_6_method_7_code
def yX4_weighRows : MethodName := ⟨RX4, "weighRows", "()V"⟩
abbrev cX4_leastWeight : ByteArray := prog_6_method_8_code
def yX4_leastWeight : MethodName := ⟨RX4, "leastWeight", "(I)I"⟩
abbrev cX4_weightOf : ByteArray := prog_6_method_9_code
def yX4_weightOf : MethodName := ⟨RX4, "weightOf", "(II)I"⟩
abbrev cX4_buyRow : ByteArray := prog_6_method_10_code
def yX4_buyRow : MethodName := ⟨RX4, "buyRow", "(I)I"⟩
abbrev cX4_nextOnRow : ByteArray := prog_6_method_11_code
def yX4_nextOnRow : MethodName := ⟨RX4, "nextOnRow", "(I)I"⟩
abbrev cX4_buyWay : ByteArray := prog_6_method_12_code
def yX4_buyWay : MethodName := ⟨RX4, "buyWay", "(II)V"⟩
abbrev cX4_least : ByteArray := prog_6_method_13_code
def yX4_least : MethodName := ⟨RX4, "least", "()I"⟩
abbrev cX4_findNearest : ByteArray := prog_6_method_14_code
def yX4_findNearest : MethodName := ⟨RX4, "findNearest", "()V"⟩
abbrev cX4_shorten : ByteArray := prog_6_method_15_code
def yX4_shorten : MethodName := ⟨RX4, "shorten", "([III)V"⟩
abbrev cX4_treeOf : ByteArray := prog_6_method_16_code
def yX4_treeOf : MethodName := ⟨RX4, "treeOf", "(I)I"⟩
abbrev cX4_nearestOf : ByteArray := prog_6_method_17_code
def yX4_nearestOf : MethodName := ⟨RX4, "nearestOf", "(I)I"⟩
def RX5 : String := "BuyAsAsked"
def TX5 : u_T := fun k => match k with
  | 0 => ("BuyAsAsked", "sheets", "LBuyAsAsked$Sheets;", true)
  | 1 => ("BuyAsAsked", "sets", "LBuyAsAsked$Sets;", true)
  | 2 => ("BuyAsAsked", "leases", "LBuyAsAsked$Leases;", true)
  | 3 => ("BuyAsAsked", "sites", "LBuyAsAsked$Sites;", true)
  | 4 => ("BuyAsAsked", "asks", "LBuyAsAsked$Asks;", true)
  | _ => ("BuyAsAsked", "latest", "I", false)
def tyX5 : Nat → FieldType := fun k => match k with
  | 0 => .object "BuyAsAsked$Sheets"
  | 1 => .object "BuyAsAsked$Sets"
  | 2 => .object "BuyAsAsked$Leases"
  | 3 => .object "BuyAsAsked$Sites"
  | 4 => .object "BuyAsAsked$Asks"
  | _ => .int
theorem nmX5 : ∀ a, a < 6 → ∀ b, b < 6 → a ≠ b → (TX5 a).2.1 ≠ (TX5 b).2.1 := by decide +kernel
theorem tyX5_ok : ∀ k, k < 6 → parseFieldDescriptor (TX5 k).2.2.1 = some (tyX5 k) := by decide +kernel
abbrev cX5_init : ByteArray := prog_1_method_1_code
def yX5_init : MethodName := ⟨RX5, "<init>", "()V"⟩
abbrev cX5_sheet : ByteArray := prog_1_method_2_code
def yX5_sheet : MethodName := ⟨RX5, "sheet", "(III)I"⟩
abbrev cX5_set : ByteArray := prog_1_method_3_code
def yX5_set : MethodName := ⟨RX5, "set", "(III)I"⟩
abbrev cX5_copy : ByteArray := prog_1_method_4_code
def yX5_copy : MethodName := ⟨RX5, "copy", "(IIIII)I"⟩
abbrev cX5_drop : ByteArray := prog_1_method_5_code
def yX5_drop : MethodName := ⟨RX5, "drop", "(I)I"⟩
abbrev cX5_offer : ByteArray := prog_1_method_6_code
def yX5_offer : MethodName := ⟨RX5, "offer", "(II)I"⟩
abbrev cX5_demand : ByteArray := prog_1_method_7_code
def yX5_demand : MethodName := ⟨RX5, "demand", "(I)I"⟩
abbrev cX5_demands : ByteArray := prog_1_method_8_code
def yX5_demands : MethodName := ⟨RX5, "demands", "(III)I"⟩
abbrev cX5_meetItems : ByteArray := prog_1_method_9_code
def yX5_meetItems : MethodName := ⟨RX5, "meetItems", "(III)I"⟩
abbrev cX5_covers : ByteArray := prog_1_method_10_code
def yX5_covers : MethodName := ⟨RX5, "covers", "(I)I"⟩
abbrev cX5_told : ByteArray := prog_1_method_11_code
def yX5_told : MethodName := ⟨RX5, "told", "(II)I"⟩
abbrev cX5_price : ByteArray := prog_1_method_12_code
def yX5_price : MethodName := ⟨RX5, "price", "(I)I"⟩
abbrev cX5_lease : ByteArray := prog_1_method_13_code
def yX5_lease : MethodName := ⟨RX5, "lease", "(II)I"⟩
abbrev cX5_day : ByteArray := prog_1_method_14_code
def yX5_day : MethodName := ⟨RX5, "day", "(I)I"⟩
abbrev cX5_leases : ByteArray := prog_1_method_15_code
def yX5_leases : MethodName := ⟨RX5, "leases", "(I)I"⟩
abbrev cX5_covered : ByteArray := prog_1_method_16_code
def yX5_covered : MethodName := ⟨RX5, "covered", "(I)I"⟩
abbrev cX5_site : ByteArray := prog_1_method_17_code
def yX5_site : MethodName := ⟨RX5, "site", "()I"⟩
abbrev cX5_way : ByteArray := prog_1_method_18_code
def yX5_way : MethodName := ⟨RX5, "way", "(III)I"⟩
abbrev cX5_call : ByteArray := prog_1_method_19_code
def yX5_call : MethodName := ⟨RX5, "call", "(I)I"⟩
abbrev cX5_joins : ByteArray := prog_1_method_20_code
def yX5_joins : MethodName := ⟨RX5, "joins", "(I)I"⟩
abbrev cX5_kind : ByteArray := prog_1_method_21_code
def yX5_kind : MethodName := ⟨RX5, "kind", "(I)I"⟩
abbrev cX5_as : ByteArray := prog_1_method_22_code
def yX5_as : MethodName := ⟨RX5, "as", "(II)I"⟩
abbrev cX5_ask : ByteArray := prog_1_method_23_code
def yX5_ask : MethodName := ⟨RX5, "ask", "(II)I"⟩
abbrev cX5_trace : ByteArray := prog_1_method_24_code
def yX5_trace : MethodName := ⟨RX5, "trace", "(I)I"⟩
abbrev cX5_count : ByteArray := prog_1_method_25_code
def yX5_count : MethodName := ⟨RX5, "count", "(I)I"⟩
abbrev cX5_status : ByteArray := prog_1_method_26_code
def yX5_status : MethodName := ⟨RX5, "status", "()I"⟩
abbrev cX5_isUnder : ByteArray := prog_1_method_27_code
def yX5_isUnder : MethodName := ⟨RX5, "isUnder", "(II)Z"⟩
abbrev cX5_isWithin : ByteArray := prog_1_method_28_code
def yX5_isWithin : MethodName := ⟨RX5, "isWithin", "(III)Z"⟩
abbrev cX5_holds : ByteArray := prog_1_method_29_code
def yX5_holds : MethodName := ⟨RX5, "holds", "(II)Z"⟩
def RX6 : String := "BuyAsAskedModel"
def TX6 : u_T := fun k => match k with
  | 0 => ("BuyAsAskedModel", "thrown", "I", false)
  | 1 => ("BuyAsAskedModel", "status", "I", false)
  | 2 => ("BuyAsAskedModel", "lane", "[I", true)
  | 3 => ("BuyAsAskedModel", "many", "[I", true)
  | 4 => ("BuyAsAskedModel", "item", "[I", true)
  | 5 => ("BuyAsAskedModel", "sets", "I", false)
  | 6 => ("BuyAsAskedModel", "cost", "[I", true)
  | 7 => ("BuyAsAskedModel", "things", "[I", true)
  | 8 => ("BuyAsAskedModel", "bought", "I", false)
  | 9 => ("BuyAsAskedModel", "demanded", "I", false)
  | 10 => ("BuyAsAskedModel", "price", "[I", true)
  | 11 => ("BuyAsAskedModel", "paid", "I", false)
  | 12 => ("BuyAsAskedModel", "leases", "I", false)
  | 13 => ("BuyAsAskedModel", "length", "[I", true)
  | 14 => ("BuyAsAskedModel", "rate", "[I", true)
  | 15 => ("BuyAsAskedModel", "isAsked", "[Z", true)
  | 16 => ("BuyAsAskedModel", "toll", "[I", true)
  | 17 => ("BuyAsAskedModel", "isBought", "[Z", true)
  | 18 => ("BuyAsAskedModel", "last", "I", false)
  | 19 => ("BuyAsAskedModel", "leased", "I", false)
  | 20 => ("BuyAsAskedModel", "least", "[I", true)
  | 21 => ("BuyAsAskedModel", "sites", "I", false)
  | 22 => ("BuyAsAskedModel", "way", "[I", true)
  | 23 => ("BuyAsAskedModel", "isPaid", "[Z", true)
  | 24 => ("BuyAsAskedModel", "joined", "I", false)
  | 25 => ("BuyAsAskedModel", "on", "I", false)
  | 26 => ("BuyAsAskedModel", "built", "I", false)
  | 27 => ("BuyAsAskedModel", "far", "[I", true)
  | 28 => ("BuyAsAskedModel", "steps", "[I", true)
  | 29 => ("BuyAsAskedModel", "reached", "I", false)
  | 30 => ("BuyAsAskedModel", "trace", "[I", true)
  | _ => ("BuyAsAskedModel", "traced", "I", false)
def tyX6 : Nat → FieldType := fun k => match k with
  | 0 => .int
  | 1 => .int
  | 2 => .array .int
  | 3 => .array .int
  | 4 => .array .int
  | 5 => .int
  | 6 => .array .int
  | 7 => .array .int
  | 8 => .int
  | 9 => .int
  | 10 => .array .int
  | 11 => .int
  | 12 => .int
  | 13 => .array .int
  | 14 => .array .int
  | 15 => .array .boolean
  | 16 => .array .int
  | 17 => .array .boolean
  | 18 => .int
  | 19 => .int
  | 20 => .array .int
  | 21 => .int
  | 22 => .array .int
  | 23 => .array .boolean
  | 24 => .int
  | 25 => .int
  | 26 => .int
  | 27 => .array .int
  | 28 => .array .int
  | 29 => .int
  | 30 => .array .int
  | _ => .int
theorem nmX6 : ∀ a, a < 32 → ∀ b, b < 32 → a ≠ b → (TX6 a).2.1 ≠ (TX6 b).2.1 := by decide +kernel
theorem tyX6_ok : ∀ k, k < 32 → parseFieldDescriptor (TX6 k).2.2.1 = some (tyX6 k) := by decide +kernel
abbrev cX6_init : ByteArray := prog_8_method_1_code
def yX6_init : MethodName := ⟨RX6, "<init>", "()V"⟩
abbrev cX6_in : ByteArray := prog_8_method_3_code
def yX6_in : MethodName := ⟨RX6, "in", "(JJJ)Z"⟩
abbrev cX6_found : ByteArray := prog_8_method_4_code
def yX6_found : MethodName := ⟨RX6, "found", "(I)I"⟩
abbrev cX6_isSheet : ByteArray := prog_8_method_5_code
def yX6_isSheet : MethodName := ⟨RX6, "isSheet", "(I)Z"⟩
abbrev cX6_sheet : ByteArray := prog_8_method_6_code
def yX6_sheet : MethodName := ⟨RX6, "sheet", "(III)I"⟩
abbrev cX6_set : ByteArray := prog_8_method_7_code
def yX6_set : MethodName := ⟨RX6, "set", "(III)I"⟩
abbrev cX6_copy : ByteArray := prog_8_method_8_code
def yX6_copy : MethodName := ⟨RX6, "copy", "(IIIII)I"⟩
abbrev cX6_drop : ByteArray := prog_8_method_9_code
def yX6_drop : MethodName := ⟨RX6, "drop", "(I)I"⟩
abbrev cX6_isSet : ByteArray := prog_8_method_10_code
def yX6_isSet : MethodName := ⟨RX6, "isSet", "(I)Z"⟩
abbrev cX6_isOwn : ByteArray := prog_8_method_11_code
def yX6_isOwn : MethodName := ⟨RX6, "isOwn", "(I)Z"⟩
abbrev cX6_filled : ByteArray := prog_8_method_12_code
def yX6_filled : MethodName := ⟨RX6, "filled", "(I)I"⟩
abbrev cX6_offer : ByteArray := prog_8_method_13_code
def yX6_offer : MethodName := ⟨RX6, "offer", "(II)I"⟩
abbrev cX6_has : ByteArray := prog_8_method_14_code
def yX6_has : MethodName := ⟨RX6, "has", "(II)Z"⟩
abbrev cX6_demanding : ByteArray := prog_8_method_15_code
def yX6_demanding : MethodName := ⟨RX6, "demanding", "(I)I"⟩
abbrev cX6_demand : ByteArray := prog_8_method_16_code
def yX6_demand : MethodName := ⟨RX6, "demand", "(I)I"⟩
abbrev cX6_demands : ByteArray := prog_8_method_17_code
def yX6_demands : MethodName := ⟨RX6, "demands", "(III)I"⟩
abbrev cX6_bestOfSets : ByteArray := prog_8_method_18_code
def yX6_bestOfSets : MethodName := ⟨RX6, "bestOfSets", "()I"⟩
abbrev cX6_covers : ByteArray := prog_8_method_19_code
def yX6_covers : MethodName := ⟨RX6, "covers", "(I)I"⟩
abbrev cX6_size : ByteArray := prog_8_method_20_code
def yX6_size : MethodName := ⟨RX6, "size", "(I)I"⟩
abbrev cX6_told : ByteArray := prog_8_method_21_code
def yX6_told : MethodName := ⟨RX6, "told", "(II)I"⟩
abbrev cX6_price : ByteArray := prog_8_method_22_code
def yX6_price : MethodName := ⟨RX6, "price", "(I)I"⟩
abbrev cX6_lease : ByteArray := prog_8_method_23_code
def yX6_lease : MethodName := ⟨RX6, "lease", "(II)I"⟩
abbrev cX6_isDay : ByteArray := prog_8_method_24_code
def yX6_isDay : MethodName := ⟨RX6, "isDay", "(I)Z"⟩
abbrev cX6_firstOf : ByteArray := prog_8_method_25_code
def yX6_firstOf : MethodName := ⟨RX6, "firstOf", "(II)I"⟩
abbrev cX6_isCovered : ByteArray := prog_8_method_26_code
def yX6_isCovered : MethodName := ⟨RX6, "isCovered", "(I)Z"⟩
abbrev cX6_tollOf : ByteArray := prog_8_method_27_code
def yX6_tollOf : MethodName := ⟨RX6, "tollOf", "(II)I"⟩
abbrev cX6_day : ByteArray := prog_8_method_28_code
def yX6_day : MethodName := ⟨RX6, "day", "(I)I"⟩
abbrev cX6_bestOfLeases : ByteArray := prog_8_method_29_code
def yX6_bestOfLeases : MethodName := ⟨RX6, "bestOfLeases", "()I"⟩
abbrev cX6_leases : ByteArray := prog_8_method_30_code
def yX6_leases : MethodName := ⟨RX6, "leases", "(I)I"⟩
abbrev cX6_covered : ByteArray := prog_8_method_31_code
def yX6_covered : MethodName := ⟨RX6, "covered", "(I)I"⟩
abbrev cX6_isSite : ByteArray := prog_8_method_32_code
def yX6_isSite : MethodName := ⟨RX6, "isSite", "(I)Z"⟩
abbrev cX6_site : ByteArray := prog_8_method_33_code
def yX6_site : MethodName := ⟨RX6, "site", "()I"⟩
abbrev cX6_way : ByteArray := prog_8_method_34_code
def yX6_way : MethodName := ⟨RX6, "way", "(III)I"⟩
abbrev cX6_call : ByteArray := prog_8_method_35_code
def yX6_call : MethodName := ⟨RX6, "call", "(I)I"⟩
abbrev cX6_treeOf : ByteArray := prog_8_method_36_code
def yX6_treeOf : MethodName := ⟨RX6, "treeOf", "(I)I"⟩
abbrev cX6_bestOfSites : ByteArray := prog_8_method_37_code
def yX6_bestOfSites : MethodName := ⟨RX6, "bestOfSites", "()I"⟩
abbrev cX6_joins : ByteArray := prog_8_method_38_code
def yX6_joins : MethodName := ⟨RX6, "joins", "(I)I"⟩
abbrev cX6_kindOf : ByteArray := prog_8_method_39_code
def yX6_kindOf : MethodName := ⟨RX6, "kindOf", "(I)I"⟩
abbrev cX6_kind : ByteArray := prog_8_method_40_code
def yX6_kind : MethodName := ⟨RX6, "kind", "(I)I"⟩
abbrev cX6_as : ByteArray := prog_8_method_41_code
def yX6_as : MethodName := ⟨RX6, "as", "(II)I"⟩
abbrev cX6_began : ByteArray := prog_8_method_42_code
def yX6_began : MethodName := ⟨RX6, "began", "(I)V"⟩
abbrev cX6_ownWorth : ByteArray := prog_8_method_43_code
def yX6_ownWorth : MethodName := ⟨RX6, "ownWorth", "(I)I"⟩
abbrev cX6_marked : ByteArray := prog_8_method_44_code
def yX6_marked : MethodName := ⟨RX6, "marked", "(I)I"⟩
abbrev cX6_worth : ByteArray := prog_8_method_45_code
def yX6_worth : MethodName := ⟨RX6, "worth", "(I)I"⟩
abbrev cX6_ask : ByteArray := prog_8_method_46_code
def yX6_ask : MethodName := ⟨RX6, "ask", "(II)I"⟩
abbrev cX6_trace : ByteArray := prog_8_method_47_code
def yX6_trace : MethodName := ⟨RX6, "trace", "(I)I"⟩
abbrev cX6_count : ByteArray := prog_8_method_48_code
def yX6_count : MethodName := ⟨RX6, "count", "(I)I"⟩
abbrev cX6_status : ByteArray := prog_8_method_49_code
def yX6_status : MethodName := ⟨RX6, "status", "()I"⟩
def RJ6 : String := "java/lang/Integer"
def TJ6 : u_T := fun k => match k with
  | _ => ("", "", "", false)
def tyJ6 : Nat → FieldType := fun k => match k with
  | _ => .int
abbrev cJ6_bitCount_0f7a4 : ByteArray := prog_9_method_49_code
def yJ6_bitCount_0f7a4 : MethodName := ⟨RJ6, "bitCount", "(I)I"⟩
def RJ9 : String := "java/lang/Math"
def TJ9 : u_T := fun k => match k with
  | _ => ("", "", "", false)
def tyJ9 : Nat → FieldType := fun k => match k with
  | _ => .int
abbrev cJ9_max_7cf53 : ByteArray := prog_10_method_65_code
def yJ9_max_7cf53 : MethodName := ⟨RJ9, "max", "(II)I"⟩
abbrev cJ9_min_7cf53 : ByteArray := prog_10_method_69_code
def yJ9_min_7cf53 : MethodName := ⟨RJ9, "min", "(II)I"⟩
def RJ10 : String := "java/lang/System"
def TJ10 : u_T := fun k => match k with
  | _ => ("", "", "", false)
def tyJ10 : Nat → FieldType := fun k => match k with
  | _ => .int
def RL : String := "BuyAsAskedLaw"
abbrev cL_law : ByteArray := code
def yL_law : MethodName := ⟨RL, "law", "([I)Z"⟩
abbrev vwCl : List vw_C := [(RX0, TX0, 2), (RX1, TX1, 11), (RX2, TX2, 9), (RX3, TX3, 3), (RX4, TX4, 12), (RX5, TX5, 6), (RX6, TX6, 32)]
